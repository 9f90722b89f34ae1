def sd_pc (n : Nat) : Nat := (if n.testBit 0 then 1 else 0) + (if n.testBit 1 then 1 else 0) + (if n.testBit 2 then 1 else 0) + (if n.testBit 3 then 1 else 0) + (if n.testBit 4 then 1 else 0)
def sd_fillrow (σ : sv_S) (g i : Nat) (x : Int32) : sv_S := (fun g' i' j' => if g' = g ∧ i' = i ∧ j' < sv_ln g then x else σ.1 g' i' j', σ.2)
def sp_J9_max_7cf53 : sv_P := fun av σ K => match av with
  | [.inl a, .inl b] => K (some (.inl (if a < b then b else a))) σ
  | _ => False
theorem kw_J9_max_7cf53 : Cond.static Lib.Math.max.name ∈ sv_tb ∧ Cond.initialized "java/lang/Math" ∈ sv_tb ∧ Cond.code Lib.Math.max.name Lib.Math.max.code 2 (some .int) ∈ sv_tb := ⟨sv_mem 307 (by decide +kernel) rfl, sv_mem 57 (by decide +kernel) rfl, sv_mem 308 (by decide +kernel) rfl⟩
theorem sv_COs_max {l : Launch} {own : String} {gs : List Nat} {fr lo idx : Nat} (h1 : Cond.methodLink own idx Lib.Math.max.name ∈ sv_tb) (hfr : 1 ≤ fr) (hlo : 21 ≤ lo) : sv_COs l own gs fr lo idx 2 sp_J9_max_7cf53 := by
  intro p e s m args below meth c cc ret G Kr cs sl hC pc L as rest σ K' hdec hna hcs hsp kk
  obtain ⟨hx, hb, hr, hlocks, hown, hts, hKK, hD, hst, hnw, hXG⟩ := hC
  unfold sp_J9_max_7cf53 at hsp
  split at hsp
  · rename_i a b
    intro H locs ls hP hS hL hO hlen
    refine va_mmax (R := { frames := fr, cells := cs, slots := sl, locals := lo }) (cells := cs) (slots := sl) (rest := rest.map (sv_val (sv_ad G))) hx hb (by rw [← hlen]; exact hL.1.1.symm) hown (hts _ h1) (hts _ kw_J9_max_7cf53.1) (hts _ kw_J9_max_7cf53.2.1) (hts _ kw_J9_max_7cf53.2.2) hfr (by have := sv_cs_sum (sv_ad G) rest; show _ ≤ lo; omega) (Nat.le_refl _) (Nat.le_refl _) hdec ?_
    exact kk _ _ hsp H locs ls hP hS hL (sv_okc trivial (sv_okt (sv_okt hO))) hlen
  · exact hsp.elim
def sp_J9_min_7cf53 : sv_P := fun av σ K => match av with
  | [.inl a, .inl b] => K (some (.inl (if b < a then b else a))) σ
  | _ => False
theorem kw_J9_min_7cf53 : Cond.static Lib.Math.min.name ∈ sv_tb ∧ Cond.initialized "java/lang/Math" ∈ sv_tb ∧ Cond.code Lib.Math.min.name Lib.Math.min.code 2 (some .int) ∈ sv_tb := ⟨sv_mem 396 (by decide +kernel) rfl, sv_mem 57 (by decide +kernel) rfl, sv_mem 397 (by decide +kernel) rfl⟩
theorem sv_COs_min {l : Launch} {own : String} {gs : List Nat} {fr lo idx : Nat} (h1 : Cond.methodLink own idx Lib.Math.min.name ∈ sv_tb) (hfr : 1 ≤ fr) (hlo : 21 ≤ lo) : sv_COs l own gs fr lo idx 2 sp_J9_min_7cf53 := by
  intro p e s m args below meth c cc ret G Kr cs sl hC pc L as rest σ K' hdec hna hcs hsp kk
  obtain ⟨hx, hb, hr, hlocks, hown, hts, hKK, hD, hst, hnw, hXG⟩ := hC
  unfold sp_J9_min_7cf53 at hsp
  split at hsp
  · rename_i a b
    intro H locs ls hP hS hL hO hlen
    refine va_mmin (R := { frames := fr, cells := cs, slots := sl, locals := lo }) (cells := cs) (slots := sl) (rest := rest.map (sv_val (sv_ad G))) hx hb (by rw [← hlen]; exact hL.1.1.symm) hown (hts _ h1) (hts _ kw_J9_min_7cf53.1) (hts _ kw_J9_min_7cf53.2.1) (hts _ kw_J9_min_7cf53.2.2) hfr (by have := sv_cs_sum (sv_ad G) rest; show _ ≤ lo; omega) (Nat.le_refl _) (Nat.le_refl _) hdec ?_
    exact kk _ _ hsp H locs ls hP hS hL (sv_okc trivial (sv_okt (sv_okt hO))) hlen
  · exact hsp.elim
-- ==== X4_within
def sp_X4_within : sv_P := fun av σ K => match av with
  | [.inl v, .inl least, .inl most] => ((least ≤ v ∧ v ≤ most → K (some (.inl (1 : Int32))) σ) ∧ (¬ (least ≤ v ∧ v ≤ most) → K (some (.inl (0 : Int32))) σ))
  | _ => False
def tb_X4_within : List (Nat × (Instr × Nat)) := [(0, (.iload_n 0, 1)), (1, (.iload_n 1, 1)), (2, (.if_icmp .lt 12, 3)), (5, (.iload_n 0, 1)), (6, (.iload_n 2, 1)), (7, (.if_icmp .gt 7, 3)), (10, (.iconst 1, 1)), (11, (.goto 4, 3)), (14, (.iconst 0, 1)), (15, (.ireturn, 1))]
set_option maxRecDepth 100000 in
theorem tbk_X4_within : sv_tbok cX4_within tb_X4_within = true := by decide +kernel
def cal_X4_within : List (Nat × (Nat × Nat × sv_P)) := []
def T_X4_within : sv_T := (flX4, sfX4, kcX4, klX4, cal_X4_within)
set_option maxRecDepth 100000 in
theorem Tok_X4_within (l : Launch) : sv_Tok l RX4 [] 0 0 T_X4_within := ⟨flokX4, sfokX4, kcokX4, klokX4, fun _ h => absurd h List.not_mem_nil⟩
theorem kw_X4_within : Cond.static yX4_within ∈ sv_tb ∧ Cond.initialized yX4_within.cls ∈ sv_tb ∧ Cond.code yX4_within cX4_within 3 (some .boolean) ∈ sv_tb := ⟨sv_mem 236 (by decide +kernel) rfl, sv_mem 51 (by decide +kernel) rfl, sv_mem 237 (by decide +kernel) rfl⟩
theorem kd_X4_within : yX4_within.cls ≠ "java/lang/invoke/MethodHandle" ∧ yX4_within.cls ≠ "java/lang/invoke/VarHandle" ∧ (parseMethodDescriptor yX4_within.desc).map (fun d => d.parameters.length) = some 3 := by decide +kernel
def F_X4_within_0 (Wk : sv_K) (Kr : Option sv_AV → sv_S → Prop) (v : Int32) (least : Int32) (most : Int32) (σ : sv_S) : Prop := ((v < least → Kr (some (.inl (0 : Int32))) σ) ∧ (¬ v < least → ((most < v → Kr (some (.inl (0 : Int32))) σ) ∧ (¬ most < v → Kr (some (.inl (1 : Int32))) σ))))
set_option maxRecDepth 100000 in
theorem bk_X4_within_0 (Wk : sv_K) (Kr : Option sv_AV → sv_S → Prop) (v : Int32) (least : Int32) (most : Int32) (σ : sv_S) (h : F_X4_within_0 Wk Kr v least most σ) : sv_vc tb_X4_within T_X4_within [] (some .boolean) Kr [] Wk 500 0 [some (.inl v), some (.inl least), some (.inl most)] [] σ := ⟨fun z2 => ⟨rfl, ((h).1 z2)⟩, fun z2 => ⟨fun z1 => ⟨rfl, ((((h).2 z2)).1 z1)⟩, fun z1 => ⟨rfl, ((((h).2 z2)).2 z1)⟩⟩⟩
set_option maxRecDepth 100000 in
theorem m_X4_within (l : Launch) (hb : ∀ (Wk : sv_K) (Kr : Option sv_AV → sv_S → Prop), (∀ (v : Int32) (least : Int32) (most : Int32) (σ : sv_S), F_X4_within_0 Wk Kr v least most σ → Wk 0 [some (.inl v), some (.inl least), some (.inl most)] [] σ) → (∀ (v : Int32) (least : Int32) (most : Int32) (σ : sv_S), (((least ≤ v ∧ v ≤ most → Kr (some (.inl (1 : Int32))) σ) ∧ (¬ (least ≤ v ∧ v ≤ most) → Kr (some (.inl (0 : Int32))) σ))) → Wk 0 [some (.inl v), some (.inl least), some (.inl most)] [] σ)) : sv_C l yX4_within cX4_within 3 (some .boolean) [] 0 0 sp_X4_within := by
  refine sv_meth sv_clok_all tb_X4_within T_X4_within (by decide) tbk_X4_within (Tok_X4_within l) ?_
  intro Wk Kr hc av σ hsp
  have hB := hb Wk Kr (fun v least most σ h => hc [] 500 0 _ _ _ (bk_X4_within_0 Wk Kr v least most σ h))
  unfold sp_X4_within at hsp
  split at hsp
  · exact ⟨⟨by simp, by simp [sv_cat]⟩, hB _ _ _ _ hsp⟩
  · exact hsp.elim
set_option maxHeartbeats 4000000 in
set_option maxRecDepth 100000 in
theorem c_X4_within (l : Launch) : sv_C l yX4_within cX4_within 3 (some .boolean) [] 0 0 sp_X4_within := by
  refine m_X4_within l ?_
  intro Wk Kr e0 v least most σ ⟨h1, h0⟩
  apply e0
  exact ⟨fun z => h0 (fun q => absurd q.1 (Int32.not_le.mpr z)), fun z => ⟨fun y => h0 (fun q => absurd q.2 (Int32.not_le.mpr y)), fun y => h1 ⟨Int32.not_lt.mp z, Int32.not_lt.mp y⟩⟩⟩
-- ==== X4_holds
def sp_X4_holds : sv_P := fun av σ K => match av with
  | [.inl set, .inl t] => (((set >>> (t &&& 31)) &&& 1 = 1 → K (some (.inl (1 : Int32))) σ) ∧ (¬ (set >>> (t &&& 31)) &&& 1 = 1 → K (some (.inl (0 : Int32))) σ))
  | _ => False
def tb_X4_holds : List (Nat × (Instr × Nat)) := [(0, (.iload_n 0, 1)), (1, (.iload_n 1, 1)), (2, (.ishr, 1)), (3, (.iconst 1, 1)), (4, (.iand, 1)), (5, (.iconst 1, 1)), (6, (.if_icmp .ne 7, 3)), (9, (.iconst 1, 1)), (10, (.goto 4, 3)), (13, (.iconst 0, 1)), (14, (.ireturn, 1))]
set_option maxRecDepth 100000 in
theorem tbk_X4_holds : sv_tbok cX4_holds tb_X4_holds = true := by decide +kernel
def cal_X4_holds : List (Nat × (Nat × Nat × sv_P)) := []
def T_X4_holds : sv_T := (flX4, sfX4, kcX4, klX4, cal_X4_holds)
set_option maxRecDepth 100000 in
theorem Tok_X4_holds (l : Launch) : sv_Tok l RX4 [] 0 0 T_X4_holds := ⟨flokX4, sfokX4, kcokX4, klokX4, fun _ h => absurd h List.not_mem_nil⟩
theorem kw_X4_holds : Cond.static yX4_holds ∈ sv_tb ∧ Cond.initialized yX4_holds.cls ∈ sv_tb ∧ Cond.code yX4_holds cX4_holds 2 (some .boolean) ∈ sv_tb := ⟨sv_mem 158 (by decide +kernel) rfl, sv_mem 51 (by decide +kernel) rfl, sv_mem 159 (by decide +kernel) rfl⟩
theorem kd_X4_holds : yX4_holds.cls ≠ "java/lang/invoke/MethodHandle" ∧ yX4_holds.cls ≠ "java/lang/invoke/VarHandle" ∧ (parseMethodDescriptor yX4_holds.desc).map (fun d => d.parameters.length) = some 2 := by decide +kernel
def F_X4_holds_0 (Wk : sv_K) (Kr : Option sv_AV → sv_S → Prop) (set : Int32) (t : Int32) (σ : sv_S) : Prop := ((¬ ((set >>> (t &&& 31)) &&& (1 : Int32)) = (1 : Int32) → Kr (some (.inl (0 : Int32))) σ) ∧ (((set >>> (t &&& 31)) &&& (1 : Int32)) = (1 : Int32) → Kr (some (.inl (1 : Int32))) σ))
set_option maxRecDepth 100000 in
theorem bk_X4_holds_0 (Wk : sv_K) (Kr : Option sv_AV → sv_S → Prop) (set : Int32) (t : Int32) (σ : sv_S) (h : F_X4_holds_0 Wk Kr set t σ) : sv_vc tb_X4_holds T_X4_holds [] (some .boolean) Kr [] Wk 500 0 [some (.inl set), some (.inl t)] [] σ := ⟨fun z1 => ⟨rfl, ((h).1 z1)⟩, fun z1 => ⟨rfl, ((h).2 z1)⟩⟩
set_option maxRecDepth 100000 in
theorem m_X4_holds (l : Launch) (hb : ∀ (Wk : sv_K) (Kr : Option sv_AV → sv_S → Prop), (∀ (set : Int32) (t : Int32) (σ : sv_S), F_X4_holds_0 Wk Kr set t σ → Wk 0 [some (.inl set), some (.inl t)] [] σ) → (∀ (set : Int32) (t : Int32) (σ : sv_S), ((((set >>> (t &&& 31)) &&& 1 = 1 → Kr (some (.inl (1 : Int32))) σ) ∧ (¬ (set >>> (t &&& 31)) &&& 1 = 1 → Kr (some (.inl (0 : Int32))) σ))) → Wk 0 [some (.inl set), some (.inl t)] [] σ)) : sv_C l yX4_holds cX4_holds 2 (some .boolean) [] 0 0 sp_X4_holds := by
  refine sv_meth sv_clok_all tb_X4_holds T_X4_holds (by decide) tbk_X4_holds (Tok_X4_holds l) ?_
  intro Wk Kr hc av σ hsp
  have hB := hb Wk Kr (fun set t σ h => hc [] 500 0 _ _ _ (bk_X4_holds_0 Wk Kr set t σ h))
  unfold sp_X4_holds at hsp
  split at hsp
  · exact ⟨⟨by simp, by simp [sv_cat]⟩, hB _ _ _ hsp⟩
  · exact hsp.elim
set_option maxHeartbeats 4000000 in
set_option maxRecDepth 100000 in
theorem c_X4_holds (l : Launch) : sv_C l yX4_holds cX4_holds 2 (some .boolean) [] 0 0 sp_X4_holds := by
  refine m_X4_holds l ?_
  intro Wk Kr e0 set t σ ⟨h1, h0⟩
  apply e0
  exact ⟨fun z => h0 z, fun z => h1 z⟩
-- ==== X4_areRuns
def sp_X4_areRuns : sv_P := fun av σ K => match av with
  | [.inl runs, .inl worst] => ((((1 : Int32) ≤ runs ∧ runs ≤ 99) ∧ (runs ≤ worst ∧ worst ≤ 99) → K (some (.inl (1 : Int32))) σ) ∧ (¬ (((1 : Int32) ≤ runs ∧ runs ≤ 99) ∧ (runs ≤ worst ∧ worst ≤ 99)) → K (some (.inl (0 : Int32))) σ))
  | _ => False
def tb_X4_areRuns : List (Nat × (Instr × Nat)) := [(0, (.iload_n 0, 1)), (1, (.iconst 1, 1)), (2, (.bipush 99, 2)), (4, (.invokestatic 68, 3)), (7, (.ifCond .eq 17, 3)), (10, (.iload_n 1, 1)), (11, (.iload_n 0, 1)), (12, (.bipush 99, 2)), (14, (.invokestatic 68, 3)), (17, (.ifCond .eq 7, 3)), (20, (.iconst 1, 1)), (21, (.goto 4, 3)), (24, (.iconst 0, 1)), (25, (.ireturn, 1))]
set_option maxRecDepth 100000 in
theorem tbk_X4_areRuns : sv_tbok cX4_areRuns tb_X4_areRuns = true := by decide +kernel
def cal_X4_areRuns : List (Nat × (Nat × Nat × sv_P)) := [(68, (3, 90, sp_X4_within))]
def T_X4_areRuns : sv_T := (flX4, sfX4, kcX4, klX4, cal_X4_areRuns)
set_option maxRecDepth 100000 in
theorem Tok_X4_areRuns (l : Launch) : sv_Tok l RX4 [] 1 22 T_X4_areRuns := ⟨flokX4, sfokX4, kcokX4, klokX4, List.forall_mem_cons.mpr ⟨⟨fun h => absurd h (by decide), fun _ => sv_COs_gen (c_X4_within l) (Or.inl (sv_mem 235 (by decide +kernel) rfl)) kw_X4_within.1 kw_X4_within.2.1 kw_X4_within.2.2 kd_X4_within rfl (by decide) (by decide +kernel)⟩, fun _ h => absurd h List.not_mem_nil⟩⟩
theorem kw_X4_areRuns : Cond.static yX4_areRuns ∈ sv_tb ∧ Cond.initialized yX4_areRuns.cls ∈ sv_tb ∧ Cond.code yX4_areRuns cX4_areRuns 2 (some .boolean) ∈ sv_tb := ⟨sv_mem 233 (by decide +kernel) rfl, sv_mem 51 (by decide +kernel) rfl, sv_mem 234 (by decide +kernel) rfl⟩
theorem kd_X4_areRuns : yX4_areRuns.cls ≠ "java/lang/invoke/MethodHandle" ∧ yX4_areRuns.cls ≠ "java/lang/invoke/VarHandle" ∧ (parseMethodDescriptor yX4_areRuns.desc).map (fun d => d.parameters.length) = some 2 := by decide +kernel
def F_X4_areRuns_0 (Wk : sv_K) (Kr : Option sv_AV → sv_S → Prop) (runs : Int32) (worst : Int32) (σ : sv_S) : Prop := ((((1 : Int32) ≤ runs ∧ runs ≤ (99 : Int32) → (((runs ≤ worst ∧ worst ≤ (99 : Int32) → Kr (some (.inl (1 : Int32))) σ) ∧ (¬ (runs ≤ worst ∧ worst ≤ (99 : Int32)) → Kr (some (.inl (0 : Int32))) σ)))) ∧ (¬ ((1 : Int32) ≤ runs ∧ runs ≤ (99 : Int32)) → Kr (some (.inl (0 : Int32))) σ)))
set_option maxRecDepth 100000 in
theorem bk_X4_areRuns_0 (Wk : sv_K) (Kr : Option sv_AV → sv_S → Prop) (runs : Int32) (worst : Int32) (σ : sv_S) (h : F_X4_areRuns_0 Wk Kr runs worst σ) : sv_vc tb_X4_areRuns T_X4_areRuns [] (some .boolean) Kr [] Wk 500 0 [some (.inl runs), some (.inl worst)] [] σ := (match h with | ⟨z2a, z2b⟩ => ⟨fun z2y => br_f (by decide) ((match (z2a z2y) with | ⟨z1a, z1b⟩ => ⟨fun z1y => br_f (by decide) (⟨rfl, (z1a z1y)⟩), fun z1y => br_t (by decide) (⟨rfl, (z1b z1y)⟩)⟩)), fun z2y => br_t (by decide) (⟨rfl, (z2b z2y)⟩)⟩)
set_option maxRecDepth 100000 in
theorem m_X4_areRuns (l : Launch) (hb : ∀ (Wk : sv_K) (Kr : Option sv_AV → sv_S → Prop), (∀ (runs : Int32) (worst : Int32) (σ : sv_S), F_X4_areRuns_0 Wk Kr runs worst σ → Wk 0 [some (.inl runs), some (.inl worst)] [] σ) → (∀ (runs : Int32) (worst : Int32) (σ : sv_S), (((((1 : Int32) ≤ runs ∧ runs ≤ 99) ∧ (runs ≤ worst ∧ worst ≤ 99) → Kr (some (.inl (1 : Int32))) σ) ∧ (¬ (((1 : Int32) ≤ runs ∧ runs ≤ 99) ∧ (runs ≤ worst ∧ worst ≤ 99)) → Kr (some (.inl (0 : Int32))) σ))) → Wk 0 [some (.inl runs), some (.inl worst)] [] σ)) : sv_C l yX4_areRuns cX4_areRuns 2 (some .boolean) [] 1 22 sp_X4_areRuns := by
  refine sv_meth sv_clok_all tb_X4_areRuns T_X4_areRuns (by decide) tbk_X4_areRuns (Tok_X4_areRuns l) ?_
  intro Wk Kr hc av σ hsp
  have hB := hb Wk Kr (fun runs worst σ h => hc [] 500 0 _ _ _ (bk_X4_areRuns_0 Wk Kr runs worst σ h))
  unfold sp_X4_areRuns at hsp
  split at hsp
  · exact ⟨⟨by simp, by simp [sv_cat]⟩, hB _ _ _ hsp⟩
  · exact hsp.elim
set_option maxHeartbeats 4000000 in
set_option maxRecDepth 100000 in
theorem c_X4_areRuns (l : Launch) : sv_C l yX4_areRuns cX4_areRuns 2 (some .boolean) [] 1 22 sp_X4_areRuns := by
  refine m_X4_areRuns l ?_
  intro Wk Kr e0 runs worst σ ⟨h1, h0⟩
  apply e0
  exact ⟨fun a => ⟨fun b => h1 ⟨a, b⟩, fun b => h0 (fun q => b q.2)⟩, fun a => h0 (fun q => a q.1)⟩
-- ==== X4_isKind
def sp_X4_isKind : sv_P := fun av σ K => match av with
  | [.inl kind] => ((kind = 0 ∨ kind = 1 → K (some (.inl (1 : Int32))) σ) ∧ (¬ (kind = 0 ∨ kind = 1) → K (some (.inl (0 : Int32))) σ))
  | _ => False
def tb_X4_isKind : List (Nat × (Instr × Nat)) := [(0, (.iload_n 0, 1)), (1, (.ifCond .eq 8, 3)), (4, (.iload_n 0, 1)), (5, (.iconst 1, 1)), (6, (.if_icmp .ne 7, 3)), (9, (.iconst 1, 1)), (10, (.goto 4, 3)), (13, (.iconst 0, 1)), (14, (.ireturn, 1))]
set_option maxRecDepth 100000 in
theorem tbk_X4_isKind : sv_tbok cX4_isKind tb_X4_isKind = true := by decide +kernel
def cal_X4_isKind : List (Nat × (Nat × Nat × sv_P)) := []
def T_X4_isKind : sv_T := (flX4, sfX4, kcX4, klX4, cal_X4_isKind)
set_option maxRecDepth 100000 in
theorem Tok_X4_isKind (l : Launch) : sv_Tok l RX4 [] 0 0 T_X4_isKind := ⟨flokX4, sfokX4, kcokX4, klokX4, fun _ h => absurd h List.not_mem_nil⟩
theorem kw_X4_isKind : Cond.static yX4_isKind ∈ sv_tb ∧ Cond.initialized yX4_isKind.cls ∈ sv_tb ∧ Cond.code yX4_isKind cX4_isKind 1 (some .boolean) ∈ sv_tb := ⟨sv_mem 337 (by decide +kernel) rfl, sv_mem 51 (by decide +kernel) rfl, sv_mem 338 (by decide +kernel) rfl⟩
theorem kd_X4_isKind : yX4_isKind.cls ≠ "java/lang/invoke/MethodHandle" ∧ yX4_isKind.cls ≠ "java/lang/invoke/VarHandle" ∧ (parseMethodDescriptor yX4_isKind.desc).map (fun d => d.parameters.length) = some 1 := by decide +kernel
def F_X4_isKind_0 (Wk : sv_K) (Kr : Option sv_AV → sv_S → Prop) (kind : Int32) (σ : sv_S) : Prop := ((kind = (0 : Int32) → Kr (some (.inl (1 : Int32))) σ) ∧ (¬ kind = (0 : Int32) → ((¬ kind = (1 : Int32) → Kr (some (.inl (0 : Int32))) σ) ∧ (kind = (1 : Int32) → Kr (some (.inl (1 : Int32))) σ))))
set_option maxRecDepth 100000 in
theorem bk_X4_isKind_0 (Wk : sv_K) (Kr : Option sv_AV → sv_S → Prop) (kind : Int32) (σ : sv_S) (h : F_X4_isKind_0 Wk Kr kind σ) : sv_vc tb_X4_isKind T_X4_isKind [] (some .boolean) Kr [] Wk 500 0 [some (.inl kind)] [] σ := ⟨fun z2 => ⟨rfl, ((h).1 z2)⟩, fun z2 => ⟨fun z1 => ⟨rfl, ((((h).2 z2)).1 z1)⟩, fun z1 => ⟨rfl, ((((h).2 z2)).2 z1)⟩⟩⟩
set_option maxRecDepth 100000 in
theorem m_X4_isKind (l : Launch) (hb : ∀ (Wk : sv_K) (Kr : Option sv_AV → sv_S → Prop), (∀ (kind : Int32) (σ : sv_S), F_X4_isKind_0 Wk Kr kind σ → Wk 0 [some (.inl kind)] [] σ) → (∀ (kind : Int32) (σ : sv_S), (((kind = 0 ∨ kind = 1 → Kr (some (.inl (1 : Int32))) σ) ∧ (¬ (kind = 0 ∨ kind = 1) → Kr (some (.inl (0 : Int32))) σ))) → Wk 0 [some (.inl kind)] [] σ)) : sv_C l yX4_isKind cX4_isKind 1 (some .boolean) [] 0 0 sp_X4_isKind := by
  refine sv_meth sv_clok_all tb_X4_isKind T_X4_isKind (by decide) tbk_X4_isKind (Tok_X4_isKind l) ?_
  intro Wk Kr hc av σ hsp
  have hB := hb Wk Kr (fun kind σ h => hc [] 500 0 _ _ _ (bk_X4_isKind_0 Wk Kr kind σ h))
  unfold sp_X4_isKind at hsp
  split at hsp
  · exact ⟨⟨by simp, by simp [sv_cat]⟩, hB _ _ hsp⟩
  · exact hsp.elim
set_option maxHeartbeats 4000000 in
set_option maxRecDepth 100000 in
theorem c_X4_isKind (l : Launch) : sv_C l yX4_isKind cX4_isKind 1 (some .boolean) [] 0 0 sp_X4_isKind := by
  refine m_X4_isKind l ?_
  intro Wk Kr e0 kind σ ⟨h1, h0⟩
  apply e0
  exact ⟨fun z => h1 (Or.inl z), fun z => ⟨fun y => h0 (fun q => q.elim z y), fun y => h1 (Or.inr y)⟩⟩
-- ==== X4_isHow
def sp_X4_isHow : sv_P := fun av σ K => match av with
  | [.inl how] => ((how = 0 ∨ how = 1 → K (some (.inl (1 : Int32))) σ) ∧ (¬ (how = 0 ∨ how = 1) → K (some (.inl (0 : Int32))) σ))
  | _ => False
def tb_X4_isHow : List (Nat × (Instr × Nat)) := [(0, (.iload_n 0, 1)), (1, (.ifCond .eq 8, 3)), (4, (.iload_n 0, 1)), (5, (.iconst 1, 1)), (6, (.if_icmp .ne 7, 3)), (9, (.iconst 1, 1)), (10, (.goto 4, 3)), (13, (.iconst 0, 1)), (14, (.ireturn, 1))]
set_option maxRecDepth 100000 in
theorem tbk_X4_isHow : sv_tbok cX4_isHow tb_X4_isHow = true := by decide +kernel
def cal_X4_isHow : List (Nat × (Nat × Nat × sv_P)) := []
def T_X4_isHow : sv_T := (flX4, sfX4, kcX4, klX4, cal_X4_isHow)
set_option maxRecDepth 100000 in
theorem Tok_X4_isHow (l : Launch) : sv_Tok l RX4 [] 0 0 T_X4_isHow := ⟨flokX4, sfokX4, kcokX4, klokX4, fun _ h => absurd h List.not_mem_nil⟩
theorem kw_X4_isHow : Cond.static yX4_isHow ∈ sv_tb ∧ Cond.initialized yX4_isHow.cls ∈ sv_tb ∧ Cond.code yX4_isHow cX4_isHow 1 (some .boolean) ∈ sv_tb := ⟨sv_mem 334 (by decide +kernel) rfl, sv_mem 51 (by decide +kernel) rfl, sv_mem 335 (by decide +kernel) rfl⟩
theorem kd_X4_isHow : yX4_isHow.cls ≠ "java/lang/invoke/MethodHandle" ∧ yX4_isHow.cls ≠ "java/lang/invoke/VarHandle" ∧ (parseMethodDescriptor yX4_isHow.desc).map (fun d => d.parameters.length) = some 1 := by decide +kernel
def F_X4_isHow_0 (Wk : sv_K) (Kr : Option sv_AV → sv_S → Prop) (how : Int32) (σ : sv_S) : Prop := ((how = (0 : Int32) → Kr (some (.inl (1 : Int32))) σ) ∧ (¬ how = (0 : Int32) → ((¬ how = (1 : Int32) → Kr (some (.inl (0 : Int32))) σ) ∧ (how = (1 : Int32) → Kr (some (.inl (1 : Int32))) σ))))
set_option maxRecDepth 100000 in
theorem bk_X4_isHow_0 (Wk : sv_K) (Kr : Option sv_AV → sv_S → Prop) (how : Int32) (σ : sv_S) (h : F_X4_isHow_0 Wk Kr how σ) : sv_vc tb_X4_isHow T_X4_isHow [] (some .boolean) Kr [] Wk 500 0 [some (.inl how)] [] σ := ⟨fun z2 => ⟨rfl, ((h).1 z2)⟩, fun z2 => ⟨fun z1 => ⟨rfl, ((((h).2 z2)).1 z1)⟩, fun z1 => ⟨rfl, ((((h).2 z2)).2 z1)⟩⟩⟩
set_option maxRecDepth 100000 in
theorem m_X4_isHow (l : Launch) (hb : ∀ (Wk : sv_K) (Kr : Option sv_AV → sv_S → Prop), (∀ (how : Int32) (σ : sv_S), F_X4_isHow_0 Wk Kr how σ → Wk 0 [some (.inl how)] [] σ) → (∀ (how : Int32) (σ : sv_S), (((how = 0 ∨ how = 1 → Kr (some (.inl (1 : Int32))) σ) ∧ (¬ (how = 0 ∨ how = 1) → Kr (some (.inl (0 : Int32))) σ))) → Wk 0 [some (.inl how)] [] σ)) : sv_C l yX4_isHow cX4_isHow 1 (some .boolean) [] 0 0 sp_X4_isHow := by
  refine sv_meth sv_clok_all tb_X4_isHow T_X4_isHow (by decide) tbk_X4_isHow (Tok_X4_isHow l) ?_
  intro Wk Kr hc av σ hsp
  have hB := hb Wk Kr (fun how σ h => hc [] 500 0 _ _ _ (bk_X4_isHow_0 Wk Kr how σ h))
  unfold sp_X4_isHow at hsp
  split at hsp
  · exact ⟨⟨by simp, by simp [sv_cat]⟩, hB _ _ hsp⟩
  · exact hsp.elim
set_option maxHeartbeats 4000000 in
set_option maxRecDepth 100000 in
theorem c_X4_isHow (l : Launch) : sv_C l yX4_isHow cX4_isHow 1 (some .boolean) [] 0 0 sp_X4_isHow := by
  refine m_X4_isHow l ?_
  intro Wk Kr e0 how σ ⟨h1, h0⟩
  apply e0
  exact ⟨fun z => h1 (Or.inl z), fun z => ⟨fun y => h0 (fun q => q.elim z y), fun y => h1 (Or.inr y)⟩⟩
-- ==== J6_bitCount_0f7a4
def sp_J6_bitCount_0f7a4 : sv_P := fun av σ K => match av with
  | [.inl i] => ∃ n : Nat, (n < 32 ∧ i = nI n) ∧ (∀ v : Int32, v = nI (sd_pc n) → K (some (.inl v)) σ)
  | _ => False
def tb_J6_bitCount_0f7a4 : List (Nat × (Instr × Nat)) := [(0, (.iload_n 0, 1)), (1, (.iload_n 0, 1)), (2, (.iconst 1, 1)), (3, (.iushr, 1)), (4, (.ldc_w 265, 3)), (7, (.iand, 1)), (8, (.isub, 1)), (9, (.istore_n 0, 1)), (10, (.iload_n 0, 1)), (11, (.ldc_w 266, 3)), (14, (.iand, 1)), (15, (.iload_n 0, 1)), (16, (.iconst 2, 1)), (17, (.iushr, 1)), (18, (.ldc_w 266, 3)), (21, (.iand, 1)), (22, (.iadd, 1)), (23, (.istore_n 0, 1)), (24, (.iload_n 0, 1)), (25, (.iload_n 0, 1)), (26, (.iconst 4, 1)), (27, (.iushr, 1)), (28, (.iadd, 1)), (29, (.ldc_w 267, 3)), (32, (.iand, 1)), (33, (.istore_n 0, 1)), (34, (.iload_n 0, 1)), (35, (.iload_n 0, 1)), (36, (.bipush 8, 2)), (38, (.iushr, 1)), (39, (.iadd, 1)), (40, (.istore_n 0, 1)), (41, (.iload_n 0, 1)), (42, (.iload_n 0, 1)), (43, (.bipush 16, 2)), (45, (.iushr, 1)), (46, (.iadd, 1)), (47, (.istore_n 0, 1)), (48, (.iload_n 0, 1)), (49, (.bipush 63, 2)), (51, (.iand, 1)), (52, (.ireturn, 1))]
set_option maxRecDepth 100000 in
theorem tbk_J6_bitCount_0f7a4 : sv_tbok cJ6_bitCount_0f7a4 tb_J6_bitCount_0f7a4 = true := by decide +kernel
def cal_J6_bitCount_0f7a4 : List (Nat × (Nat × Nat × sv_P)) := []
def T_J6_bitCount_0f7a4 : sv_T := (flJ6, sfJ6, kcJ6, klJ6, cal_J6_bitCount_0f7a4)
set_option maxRecDepth 100000 in
theorem Tok_J6_bitCount_0f7a4 (l : Launch) : sv_Tok l RJ6 [] 0 0 T_J6_bitCount_0f7a4 := ⟨flokJ6, sfokJ6, kcokJ6, klokJ6, fun _ h => absurd h List.not_mem_nil⟩
theorem kw_J6_bitCount_0f7a4 : Cond.static yJ6_bitCount_0f7a4 ∈ sv_tb ∧ Cond.initialized yJ6_bitCount_0f7a4.cls ∈ sv_tb ∧ Cond.code yJ6_bitCount_0f7a4 cJ6_bitCount_0f7a4 1 (some .int) ∈ sv_tb := ⟨sv_mem 442 (by decide +kernel) rfl, sv_mem 59 (by decide +kernel) rfl, sv_mem 443 (by decide +kernel) rfl⟩
theorem kd_J6_bitCount_0f7a4 : yJ6_bitCount_0f7a4.cls ≠ "java/lang/invoke/MethodHandle" ∧ yJ6_bitCount_0f7a4.cls ≠ "java/lang/invoke/VarHandle" ∧ (parseMethodDescriptor yJ6_bitCount_0f7a4.desc).map (fun d => d.parameters.length) = some 1 := by decide +kernel
def F_J6_bitCount_0f7a4_0 (Wk : sv_K) (Kr : Option sv_AV → sv_S → Prop) (i : Int32) (σ : sv_S) : Prop := Kr (some (.inl ((((((((i - ((i.toUInt32 >>> ((1 : Int32).toUInt32 &&& Int32.toUInt32 31)).toInt32 &&& (1431655765 : Int32))) &&& (858993459 : Int32)) + (((i - ((i.toUInt32 >>> ((1 : Int32).toUInt32 &&& Int32.toUInt32 31)).toInt32 &&& (1431655765 : Int32))).toUInt32 >>> ((2 : Int32).toUInt32 &&& Int32.toUInt32 31)).toInt32 &&& (858993459 : Int32))) + ((((i - ((i.toUInt32 >>> ((1 : Int32).toUInt32 &&& Int32.toUInt32 31)).toInt32 &&& (1431655765 : Int32))) &&& (858993459 : Int32)) + (((i - ((i.toUInt32 >>> ((1 : Int32).toUInt32 &&& Int32.toUInt32 31)).toInt32 &&& (1431655765 : Int32))).toUInt32 >>> ((2 : Int32).toUInt32 &&& Int32.toUInt32 31)).toInt32 &&& (858993459 : Int32))).toUInt32 >>> ((4 : Int32).toUInt32 &&& Int32.toUInt32 31)).toInt32) &&& (252645135 : Int32)) + ((((((i - ((i.toUInt32 >>> ((1 : Int32).toUInt32 &&& Int32.toUInt32 31)).toInt32 &&& (1431655765 : Int32))) &&& (858993459 : Int32)) + (((i - ((i.toUInt32 >>> ((1 : Int32).toUInt32 &&& Int32.toUInt32 31)).toInt32 &&& (1431655765 : Int32))).toUInt32 >>> ((2 : Int32).toUInt32 &&& Int32.toUInt32 31)).toInt32 &&& (858993459 : Int32))) + ((((i - ((i.toUInt32 >>> ((1 : Int32).toUInt32 &&& Int32.toUInt32 31)).toInt32 &&& (1431655765 : Int32))) &&& (858993459 : Int32)) + (((i - ((i.toUInt32 >>> ((1 : Int32).toUInt32 &&& Int32.toUInt32 31)).toInt32 &&& (1431655765 : Int32))).toUInt32 >>> ((2 : Int32).toUInt32 &&& Int32.toUInt32 31)).toInt32 &&& (858993459 : Int32))).toUInt32 >>> ((4 : Int32).toUInt32 &&& Int32.toUInt32 31)).toInt32) &&& (252645135 : Int32)).toUInt32 >>> ((8 : Int32).toUInt32 &&& Int32.toUInt32 31)).toInt32) + (((((((i - ((i.toUInt32 >>> ((1 : Int32).toUInt32 &&& Int32.toUInt32 31)).toInt32 &&& (1431655765 : Int32))) &&& (858993459 : Int32)) + (((i - ((i.toUInt32 >>> ((1 : Int32).toUInt32 &&& Int32.toUInt32 31)).toInt32 &&& (1431655765 : Int32))).toUInt32 >>> ((2 : Int32).toUInt32 &&& Int32.toUInt32 31)).toInt32 &&& (858993459 : Int32))) + ((((i - ((i.toUInt32 >>> ((1 : Int32).toUInt32 &&& Int32.toUInt32 31)).toInt32 &&& (1431655765 : Int32))) &&& (858993459 : Int32)) + (((i - ((i.toUInt32 >>> ((1 : Int32).toUInt32 &&& Int32.toUInt32 31)).toInt32 &&& (1431655765 : Int32))).toUInt32 >>> ((2 : Int32).toUInt32 &&& Int32.toUInt32 31)).toInt32 &&& (858993459 : Int32))).toUInt32 >>> ((4 : Int32).toUInt32 &&& Int32.toUInt32 31)).toInt32) &&& (252645135 : Int32)) + ((((((i - ((i.toUInt32 >>> ((1 : Int32).toUInt32 &&& Int32.toUInt32 31)).toInt32 &&& (1431655765 : Int32))) &&& (858993459 : Int32)) + (((i - ((i.toUInt32 >>> ((1 : Int32).toUInt32 &&& Int32.toUInt32 31)).toInt32 &&& (1431655765 : Int32))).toUInt32 >>> ((2 : Int32).toUInt32 &&& Int32.toUInt32 31)).toInt32 &&& (858993459 : Int32))) + ((((i - ((i.toUInt32 >>> ((1 : Int32).toUInt32 &&& Int32.toUInt32 31)).toInt32 &&& (1431655765 : Int32))) &&& (858993459 : Int32)) + (((i - ((i.toUInt32 >>> ((1 : Int32).toUInt32 &&& Int32.toUInt32 31)).toInt32 &&& (1431655765 : Int32))).toUInt32 >>> ((2 : Int32).toUInt32 &&& Int32.toUInt32 31)).toInt32 &&& (858993459 : Int32))).toUInt32 >>> ((4 : Int32).toUInt32 &&& Int32.toUInt32 31)).toInt32) &&& (252645135 : Int32)).toUInt32 >>> ((8 : Int32).toUInt32 &&& Int32.toUInt32 31)).toInt32).toUInt32 >>> ((16 : Int32).toUInt32 &&& Int32.toUInt32 31)).toInt32) &&& (63 : Int32)))) σ
set_option maxRecDepth 100000 in
theorem bk_J6_bitCount_0f7a4_0 (Wk : sv_K) (Kr : Option sv_AV → sv_S → Prop) (i : Int32) (σ : sv_S) (h : F_J6_bitCount_0f7a4_0 Wk Kr i σ) : sv_vc tb_J6_bitCount_0f7a4 T_J6_bitCount_0f7a4 [] (some .int) Kr [] Wk 500 0 [some (.inl i)] [] σ := h
set_option maxRecDepth 100000 in
theorem m_J6_bitCount_0f7a4 (l : Launch) (hb : ∀ (Wk : sv_K) (Kr : Option sv_AV → sv_S → Prop), (∀ (i : Int32) (σ : sv_S), F_J6_bitCount_0f7a4_0 Wk Kr i σ → Wk 0 [some (.inl i)] [] σ) → (∀ (i : Int32) (σ : sv_S), (∃ n : Nat, (n < 32 ∧ i = nI n) ∧ (∀ v : Int32, v = nI (sd_pc n) → Kr (some (.inl v)) σ)) → Wk 0 [some (.inl i)] [] σ)) : sv_C l yJ6_bitCount_0f7a4 cJ6_bitCount_0f7a4 1 (some .int) [] 0 0 sp_J6_bitCount_0f7a4 := by
  refine sv_meth sv_clok_all tb_J6_bitCount_0f7a4 T_J6_bitCount_0f7a4 (by decide) tbk_J6_bitCount_0f7a4 (Tok_J6_bitCount_0f7a4 l) ?_
  intro Wk Kr hc av σ hsp
  have hB := hb Wk Kr (fun i σ h => hc [] 500 0 _ _ _ (bk_J6_bitCount_0f7a4_0 Wk Kr i σ h))
  unfold sp_J6_bitCount_0f7a4 at hsp
  split at hsp
  · exact ⟨⟨by simp, by simp [sv_cat]⟩, hB _ _ hsp⟩
  · exact hsp.elim
set_option maxHeartbeats 4000000 in
set_option maxRecDepth 100000 in
theorem c_J6_bitCount_0f7a4 (l : Launch) : sv_C l yJ6_bitCount_0f7a4 cJ6_bitCount_0f7a4 1 (some .int) [] 0 0 sp_J6_bitCount_0f7a4 := by
  refine m_J6_bitCount_0f7a4 l ?_
  intro Wk Kr e0 i σ ⟨n, ⟨hn, hi⟩, h⟩
  subst hi
  apply e0
  refine h _ ?_
  clear h
  revert n
  decide +kernel
-- ==== J7_fill_53178
def sp_J7_fill_53178 : sv_P := fun av σ K => match av with
  | [.inr (.inr (11, a)), .inl x] => (∀ σ2 : sv_S, σ2 = sd_fillrow σ 11 a x → K none σ2)
  | [.inr (.inr (13, a)), .inl x] => (∀ σ2 : sv_S, σ2 = sd_fillrow σ 13 a x → K none σ2)
  | _ => False
def tb_J7_fill_53178 : List (Nat × (Instr × Nat)) := [(0, (.iconst 0, 1)), (1, (.istore_n 2, 1)), (2, (.aload_n 0, 1)), (3, (.arraylength, 1)), (4, (.istore_n 3, 1)), (5, (.iload_n 2, 1)), (6, (.iload_n 3, 1)), (7, (.if_icmp .ge 13, 3)), (10, (.aload_n 0, 1)), (11, (.iload_n 2, 1)), (12, (.iload_n 1, 1)), (13, (.iastore, 1)), (14, (.iinc 2 1, 3)), (17, (.goto (-12), 3)), (20, (.return_, 1))]
set_option maxRecDepth 100000 in
theorem tbk_J7_fill_53178 : sv_tbok cJ7_fill_53178 tb_J7_fill_53178 = true := by decide +kernel
def cal_J7_fill_53178 : List (Nat × (Nat × Nat × sv_P)) := []
def T_J7_fill_53178 : sv_T := (flJ7, sfJ7, kcJ7, klJ7, cal_J7_fill_53178)
set_option maxRecDepth 100000 in
theorem Tok_J7_fill_53178 (l : Launch) : sv_Tok l RJ7 sv_all 0 0 T_J7_fill_53178 := ⟨flokJ7, sfokJ7, kcokJ7, klokJ7, fun _ h => absurd h List.not_mem_nil⟩
theorem kw_J7_fill_53178 : Cond.static yJ7_fill_53178 ∈ sv_tb ∧ Cond.initialized yJ7_fill_53178.cls ∈ sv_tb ∧ Cond.code yJ7_fill_53178 cJ7_fill_53178 4 none ∈ sv_tb := ⟨sv_mem 372 (by decide +kernel) rfl, sv_mem 58 (by decide +kernel) rfl, sv_mem 373 (by decide +kernel) rfl⟩
theorem kd_J7_fill_53178 : yJ7_fill_53178.cls ≠ "java/lang/invoke/MethodHandle" ∧ yJ7_fill_53178.cls ≠ "java/lang/invoke/VarHandle" ∧ (parseMethodDescriptor yJ7_fill_53178.desc).map (fun d => d.parameters.length) = some 2 := by decide +kernel
def F_J7_fill_53178_0 (Wk : sv_K) (Kr : Option sv_AV → sv_S → Prop) (a : Nat) (x : Int32) (σ : sv_S) : Prop := Wk 5 [some (.inr (.inr (11, a))), some (.inl x), some (.inl (0 : Int32)), some (.inl (243 : Int32))] [] σ
set_option maxRecDepth 100000 in
theorem bk_J7_fill_53178_0 (Wk : sv_K) (Kr : Option sv_AV → sv_S → Prop) (a : Nat) (x : Int32) (σ : sv_S) (h : F_J7_fill_53178_0 Wk Kr a x σ) : sv_vc tb_J7_fill_53178 T_J7_fill_53178 sv_all none Kr [(5, [true, true, true, true])] Wk 500 0 [some (.inr (.inr (11, a))), some (.inl x), none, none] [] σ := h
def F_J7_fill_53178_5 (Wk : sv_K) (Kr : Option sv_AV → sv_S → Prop) (r0 : Nat) (x1 : Int32) (x2 : Int32) (x3 : Int32) (σ : sv_S) : Prop := ((x3 ≤ x2 → Kr none σ) ∧ (¬ x3 ≤ x2 → (vp_in x2 243 ∧ Wk 5 [some (.inr (.inr (11, r0))), some (.inl x1), some (.inl (x2 + (1 : Int32))), some (.inl x3)] [] (sv_sA σ 11 r0 x2.toNatClampNeg x1))))
set_option maxRecDepth 100000 in
theorem bk_J7_fill_53178_5 (Wk : sv_K) (Kr : Option sv_AV → sv_S → Prop) (r0 : Nat) (x1 : Int32) (x2 : Int32) (x3 : Int32) (σ : sv_S) (h : F_J7_fill_53178_5 Wk Kr r0 x1 x2 x3 σ) : sv_vc tb_J7_fill_53178 T_J7_fill_53178 sv_all none Kr [(5, [true, true, true, true])] Wk 500 5 [some (.inr (.inr (11, r0))), some (.inl x1), some (.inl x2), some (.inl x3)] [] σ := ⟨fun z1 => ⟨rfl, ((h).1 z1)⟩, fun z1 => ((h).2 z1)⟩
def F_J7_fill_53178_0v1 (Wk : sv_K) (Kr : Option sv_AV → sv_S → Prop) (a : Nat) (x : Int32) (σ : sv_S) : Prop := Wk 5 [some (.inr (.inr (13, a))), some (.inl x), some (.inl (0 : Int32)), some (.inl (61 : Int32))] [] σ
set_option maxRecDepth 100000 in
theorem bk_J7_fill_53178_0v1 (Wk : sv_K) (Kr : Option sv_AV → sv_S → Prop) (a : Nat) (x : Int32) (σ : sv_S) (h : F_J7_fill_53178_0v1 Wk Kr a x σ) : sv_vc tb_J7_fill_53178 T_J7_fill_53178 sv_all none Kr [(5, [true, true, true, true])] Wk 500 0 [some (.inr (.inr (13, a))), some (.inl x), none, none] [] σ := h
def F_J7_fill_53178_5v1 (Wk : sv_K) (Kr : Option sv_AV → sv_S → Prop) (r0 : Nat) (x1 : Int32) (x2 : Int32) (x3 : Int32) (σ : sv_S) : Prop := ((x3 ≤ x2 → Kr none σ) ∧ (¬ x3 ≤ x2 → (vp_in x2 61 ∧ Wk 5 [some (.inr (.inr (13, r0))), some (.inl x1), some (.inl (x2 + (1 : Int32))), some (.inl x3)] [] (sv_sA σ 13 r0 x2.toNatClampNeg x1))))
set_option maxRecDepth 100000 in
theorem bk_J7_fill_53178_5v1 (Wk : sv_K) (Kr : Option sv_AV → sv_S → Prop) (r0 : Nat) (x1 : Int32) (x2 : Int32) (x3 : Int32) (σ : sv_S) (h : F_J7_fill_53178_5v1 Wk Kr r0 x1 x2 x3 σ) : sv_vc tb_J7_fill_53178 T_J7_fill_53178 sv_all none Kr [(5, [true, true, true, true])] Wk 500 5 [some (.inr (.inr (13, r0))), some (.inl x1), some (.inl x2), some (.inl x3)] [] σ := ⟨fun z1 => ⟨rfl, ((h).1 z1)⟩, fun z1 => ((h).2 z1)⟩
set_option maxRecDepth 100000 in
theorem m_J7_fill_53178 (l : Launch) (hb : ∀ (Wk : sv_K) (Kr : Option sv_AV → sv_S → Prop), (∀ (a : Nat) (x : Int32) (σ : sv_S), F_J7_fill_53178_0 Wk Kr a x σ → Wk 0 [some (.inr (.inr (11, a))), some (.inl x), none, none] [] σ) → (∀ (r0 : Nat) (x1 : Int32) (x2 : Int32) (x3 : Int32) (σ : sv_S), F_J7_fill_53178_5 Wk Kr r0 x1 x2 x3 σ → Wk 5 [some (.inr (.inr (11, r0))), some (.inl x1), some (.inl x2), some (.inl x3)] [] σ) → (∀ (a : Nat) (x : Int32) (σ : sv_S), F_J7_fill_53178_0v1 Wk Kr a x σ → Wk 0 [some (.inr (.inr (13, a))), some (.inl x), none, none] [] σ) → (∀ (r0 : Nat) (x1 : Int32) (x2 : Int32) (x3 : Int32) (σ : sv_S), F_J7_fill_53178_5v1 Wk Kr r0 x1 x2 x3 σ → Wk 5 [some (.inr (.inr (13, r0))), some (.inl x1), some (.inl x2), some (.inl x3)] [] σ) → (∀ (a : Nat) (x : Int32) (σ : sv_S), ((∀ σ2 : sv_S, σ2 = sd_fillrow σ 11 a x → Kr none σ2)) → Wk 0 [some (.inr (.inr (11, a))), some (.inl x), none, none] [] σ) ∧ (∀ (a : Nat) (x : Int32) (σ : sv_S), ((∀ σ2 : sv_S, σ2 = sd_fillrow σ 13 a x → Kr none σ2)) → Wk 0 [some (.inr (.inr (13, a))), some (.inl x), none, none] [] σ)) : sv_C l yJ7_fill_53178 cJ7_fill_53178 4 none sv_all 0 0 sp_J7_fill_53178 := by
  refine sv_meth sv_clok_all tb_J7_fill_53178 T_J7_fill_53178 (by decide) tbk_J7_fill_53178 (Tok_J7_fill_53178 l) ?_
  intro Wk Kr hc av σ hsp
  have hB := hb Wk Kr (fun a x σ h => hc [(5, [true, true, true, true])] 500 0 _ _ _ (bk_J7_fill_53178_0 Wk Kr a x σ h)) (fun r0 x1 x2 x3 σ h => hc [(5, [true, true, true, true])] 500 5 _ _ _ (bk_J7_fill_53178_5 Wk Kr r0 x1 x2 x3 σ h)) (fun a x σ h => hc [(5, [true, true, true, true])] 500 0 _ _ _ (bk_J7_fill_53178_0v1 Wk Kr a x σ h)) (fun r0 x1 x2 x3 σ h => hc [(5, [true, true, true, true])] 500 5 _ _ _ (bk_J7_fill_53178_5v1 Wk Kr r0 x1 x2 x3 σ h))
  unfold sp_J7_fill_53178 at hsp
  split at hsp
  · exact ⟨⟨by simp, by simp [sv_cat]⟩, hB.1 _ _ _ hsp⟩
  · exact ⟨⟨by simp, by simp [sv_cat]⟩, hB.2 _ _ _ hsp⟩
  · exact hsp.elim
def sd_fillk (σ : sv_S) (g i : Nat) (x : Int32) (k : Nat) : sv_S := (fun g' i' j' => if g' = g ∧ i' = i ∧ j' < k then x else σ.1 g' i' j', σ.2)
theorem sd_fillk_succ (σ : sv_S) (g i : Nat) (x : Int32) (k : Nat) : sv_sA (sd_fillk σ g i x k) g i k x = sd_fillk σ g i x (k + 1) := by
  refine Prod.ext ?_ rfl
  funext g' i' j'
  show (if g' = g ∧ i' = i ∧ j' = k then x else if g' = g ∧ i' = i ∧ j' < k then x else σ.1 g' i' j') = if g' = g ∧ i' = i ∧ j' < k + 1 then x else σ.1 g' i' j'
  by_cases h : g' = g ∧ i' = i
  · by_cases h2 : j' = k
    · rw [if_pos ⟨h.1, h.2, h2⟩, if_pos ⟨h.1, h.2, by omega⟩]
    · rw [if_neg (fun z => h2 z.2.2)]
      by_cases h3 : j' < k
      · rw [if_pos ⟨h.1, h.2, h3⟩, if_pos ⟨h.1, h.2, by omega⟩]
      · rw [if_neg (fun z => h3 z.2.2), if_neg (fun z => by have := z.2.2; omega)]
  · rw [if_neg (fun z => h ⟨z.1, z.2.1⟩), if_neg (fun z => h ⟨z.1, z.2.1⟩), if_neg (fun z => h ⟨z.1, z.2.1⟩)]
theorem sd_fillk_0 (σ : sv_S) (g i : Nat) (x : Int32) : sd_fillk σ g i x 0 = σ := by
  refine Prod.ext ?_ rfl
  funext g' i' j'
  exact if_neg (fun z => Nat.not_lt_zero _ z.2.2)
set_option maxHeartbeats 4000000 in
set_option maxRecDepth 100000 in
theorem c_J7_fill_53178 (l : Launch) : sv_C l yJ7_fill_53178 cJ7_fill_53178 4 none sv_all 0 0 sp_J7_fill_53178 := by
  refine m_J7_fill_53178 l ?_
  intro Wk Kr e0 e5 f0 f5
  refine ⟨?_, ?_⟩
  · intro a x σ h
    have key : ∀ m k, k + m = 243 → Wk 5 [some (.inr (.inr (11, a))), some (.inl x), some (.inl (nI k)), some (.inl (243 : Int32))] [] (sd_fillk σ 11 a x k) := by
      intro m
      induction m with
      | zero =>
        intro k hk
        apply e5
        exact pk_le 243 k (fun z => h _ (by rw [show k = 243 by omega]; rfl)) (fun z => by omega)
      | succ m ih =>
        intro k hk
        apply e5
        exact pk_le 243 k (fun z => by omega) (fun z => ⟨pk_in k 243 z, by rw [nI_1, nI_clamp (by omega), sd_fillk_succ]; exact ih (k + 1) (by omega)⟩)
    apply e0
    have h0 := key 243 0 rfl
    rw [sd_fillk_0] at h0
    exact h0
  · intro a x σ h
    have key : ∀ m k, k + m = 61 → Wk 5 [some (.inr (.inr (13, a))), some (.inl x), some (.inl (nI k)), some (.inl (61 : Int32))] [] (sd_fillk σ 13 a x k) := by
      intro m
      induction m with
      | zero =>
        intro k hk
        apply f5
        exact pk_le 61 k (fun z => h _ (by rw [show k = 61 by omega]; rfl)) (fun z => by omega)
      | succ m ih =>
        intro k hk
        apply f5
        exact pk_le 61 k (fun z => by omega) (fun z => ⟨pk_in k 61 z, by rw [nI_1, nI_clamp (by omega), sd_fillk_succ]; exact ih (k + 1) (by omega)⟩)
    apply f0
    have h0 := key 61 0 rfl
    rw [sd_fillk_0] at h0
    exact h0
