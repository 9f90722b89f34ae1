def fgl : List Nat := [0, 9, 11, 13, 15, 16]
def CV (d : dD) (σ : sv_S) : Prop := CLS d σ ∧ (∀ k r, k < 2 → r ≤ 60 → sv_gA σ 13 k r = -1 ∨ sv_gA σ 13 k r = nI (bst d k r)) ∧ (∀ k, k < 2 → sv_gA σ 16 0 k = -1 ∨ ∃ r, r ≤ 60 ∧ sv_gA σ 16 0 k = nI r ∧ ∀ p, p < dP d → sv_gA σ 15 k p = nI (bsp d k r p))
def FI (c : Nat) (d : dD) (σ : sv_S) : Prop := FT σ ∧ ∃ ch, ch ≤ c ∧ sv_gA σ 2 0 2 = nI ch ∧ (sv_gA σ 0 0 1 = -1 ∨ ∃ s, s ≤ ch ∧ sv_gA σ 0 0 1 = nI s ∧ (s = ch → CV d σ))
def FK (c : Nat) (d : dD) (σ : sv_S) : Prop := FT σ ∧ CV d σ ∧ ∃ ch, ch ≤ c ∧ sv_gA σ 2 0 2 = nI ch ∧ sv_gA σ 0 0 1 = nI ch
theorem FK_FI {c : Nat} {d : dD} {σ : sv_S} (h : FK c d σ) : FI c d σ := by
  obtain ⟨h1, h2, ch, h3, h4, h5⟩ := h
  exact ⟨h1, ch, h3, h4, Or.inr ⟨ch, Nat.le_refl _, h5, fun _ => h2⟩⟩
def frs (p : Nat → Bool) : Nat → Nat
  | 0 => 0
  | n + 1 => if frs p n < n then frs p n else if p n = true then n else n + 1
theorem frs_le (p : Nat → Bool) : ∀ n, frs p n ≤ n
  | 0 => Nat.le_refl _
  | n + 1 => by
    have := frs_le p n
    unfold frs
    repeat' split
    all_goals omega
theorem frs_no (p : Nat → Bool) : ∀ n j, j < frs p n → p j = false
  | 0, j, h => absurd h (Nat.not_lt_zero _)
  | n + 1, j, h => by
    have hl := frs_le p n
    unfold frs at h
    by_cases h1 : frs p n < n
    · rw [if_pos h1] at h
      exact frs_no p n j h
    · rw [if_neg h1] at h
      by_cases h2 : p n = true
      · rw [if_pos h2] at h
        exact frs_no p n j (by omega)
      · rw [if_neg h2] at h
        by_cases h3 : j = n
        · subst h3
          cases hp : p j with
          | false => rfl
          | true => exact absurd hp h2
        · exact frs_no p n j (by omega)
theorem frs_yes (p : Nat → Bool) : ∀ n, frs p n < n → p (frs p n) = true
  | 0, h => absurd h (Nat.not_lt_zero _)
  | n + 1, h => by
    have hl := frs_le p n
    unfold frs at h ⊢
    by_cases h1 : frs p n < n
    · rw [if_pos h1]
      exact frs_yes p n h1
    · rw [if_neg h1] at h ⊢
      by_cases h2 : p n = true
      · rw [if_pos h2]
        exact h2
      · rw [if_neg h2] at h
        omega
theorem frs_eq {p : Nat → Bool} {n i : Nat} (hi : i < n) (hp : p i = true) (hn : ∀ j, j < i → p j = false) : frs p n = i := by
  have h1 : frs p n ≤ i := by
    rcases Nat.lt_or_ge i (frs p n) with h | h
    · have := frs_no p n i h
      rw [hp] at this
      cases this
    · exact h
  have h2 := frs_yes p n (by omega)
  rcases Nat.lt_or_ge (frs p n) i with h | h
  · have := hn _ h
    rw [h2] at this
    cases this
  · omega
/-- the least room with which the best costs no more than w -/
def lrp (d : dD) (k : Nat) (w : Int) (r : Nat) : Bool := decide ((bst d k r : Int) ≤ w)
def lroom (d : dD) (k : Nat) (w : Int) : Int32 := if frs (lrp d k w) 61 < 61 then nI (frs (lrp d k w) 61) else -9
def wall (d : dD) : Nat → Nat
  | 0 => 0
  | n + 1 => wall d n ||| wset d n
def stlC (d : dD) (k s : Nat) : Nat := if dP d = 0 then 0 else carry d s + sm (fun p => work d p k s) (dP d) + carry d (s &&& wall d (dP d))
def stlS (d : dD) (k r : Nat) : Nat := besti (stlC d k) (okr d r) (2 ^ dT d)
theorem wall_lt (d : dD) : ∀ n, wall d n < 32
  | 0 => (by decide : (0 : Nat) < 32)
  | n + 1 => or_lt (wall_lt d n) (wset_lt d n)
theorem Vm_cong {d : dD} {r r' : Nat} (h : ∀ s, s < 2 ^ dT d → okr d r s = okr d r' s) (k : Nat) : ∀ (n a b : Nat), Vm d k r n a b = Vm d k r' n a b
  | 0, a, b => rfl
  | n + 1, a, b => by
    rw [Vm_succ, Vm_succ]
    refine bestv_cong (fun s _ => ?_) h
    unfold Fm
    rw [Vm_cong h k n]
theorem Sm_cong {d : dD} {r r' : Nat} (h : ∀ s, s < 2 ^ dT d → okr d r s = okr d r' s) (k n a b : Nat) : Sm d k r n a b = Sm d k r' n a b := by
  unfold Sm
  refine besti_cong (fun s _ => ?_) h
  unfold Fm
  rw [Vm_cong h k n]
theorem pth_cong {d : dD} {r r' : Nat} (h : ∀ s, s < 2 ^ dT d → okr d r s = okr d r' s) (k : Nat) : ∀ p, pth d k r p = pth d k r' p
  | 0 => rfl
  | p + 1 => by
    unfold pth
    rw [pth_cong h k p, Sm_cong h]
theorem bst_cong {d : dD} {r r' : Nat} (h : ∀ s, s < 2 ^ dT d → okr d r s = okr d r' s) (k : Nat) : bst d k r = bst d k r' := Vm_cong h k _ _ _
theorem bsp_cong {d : dD} {r r' : Nat} (h : ∀ s, s < 2 ^ dT d → okr d r s = okr d r' s) (k p : Nat) : bsp d k r p = bsp d k r' p := by
  unfold bsp
  rw [pth_cong h]
theorem fullest_le (d : dD) (r : Nat) : ∀ n, fullest d r n ≤ r
  | 0 => Nat.zero_le _
  | n + 1 => by
    have := fullest_le d r n
    unfold fullest
    split
    · omega
    · exact this
theorem fullest_ge (d : dD) (r : Nat) : ∀ n s, s < n → cells d s ≤ r → cells d s ≤ fullest d r n
  | 0, s, h, _ => absurd h (Nat.not_lt_zero _)
  | n + 1, s, h, hc => by
    unfold fullest
    by_cases hs : s = n
    · subst hs
      rw [if_pos hc]
      omega
    · have := fullest_ge d r n s (by omega) hc
      split <;> omega
theorem fullest_ok (d : dD) (r : Nat) : ∀ s, s < 2 ^ dT d → okr d r s = okr d (fullest d r (2 ^ dT d)) s := by
  intro s hs
  unfold okr
  have h1 := fullest_le d r (2 ^ dT d)
  have h2 := fullest_ge d r (2 ^ dT d) s hs
  by_cases h : cells d s ≤ r
  · rw [decide_eq_true h, decide_eq_true (h2 h)]
  · rw [decide_eq_false h, decide_eq_false (by omega)]
theorem bestv_mono {f g : Nat → Nat} {ok ok' : Nat → Bool} : ∀ {n : Nat}, (∀ i, i < n → g i ≤ f i) → (∀ i, i < n → ok i = true → ok' i = true) → bestv g ok' n ≤ bestv f ok n
  | 0, _, _ => Nat.le_refl _
  | n + 1, h, h2 => by
    have ih := bestv_mono (f := f) (g := g) (ok := ok) (ok' := ok') (n := n) (fun i hi => h i (by omega)) (fun i hi => h2 i (by omega))
    have h1 := h n (by omega)
    have h3 := h2 n (by omega)
    unfold bestv
    by_cases c : ok n = true ∧ f n < bestv f ok n
    · rw [if_pos c]
      by_cases c' : ok' n = true ∧ g n < bestv g ok' n
      · rw [if_pos c']; exact h1
      · rw [if_neg c']
        have : ¬ g n < bestv g ok' n := fun z => c' ⟨h3 c.1, z⟩
        omega
    · rw [if_neg c]
      by_cases c' : ok' n = true ∧ g n < bestv g ok' n
      · rw [if_pos c']; omega
      · rw [if_neg c']; exact ih
theorem Vm_mono {d : dD} {r r' : Nat} (h : r ≤ r') (k : Nat) : ∀ (n a b : Nat), Vm d k r' n a b ≤ Vm d k r n a b
  | 0, a, b => Nat.le_refl _
  | n + 1, a, b => by
    rw [Vm_succ, Vm_succ]
    refine bestv_mono (fun s _ => ?_) (fun s _ ho => ?_)
    · have := Vm_mono (d := d) h k n s (dnx d (dP d - (n + 1)) b s)
      unfold Fm
      omega
    · unfold okr at ho ⊢
      have := of_decide_eq_true ho
      exact decide_eq_true (by omega)
theorem bst_mono {d : dD} {r r' : Nat} (h : r ≤ r') (k : Nat) : bst d k r' ≤ bst d k r := Vm_mono h k _ _ _
theorem bst_lt {d : dD} (h : wfP d) {k r : Nat} (hk : k < 2) : bst d k r < 2000000 := Vm_lt h hk (Nat.le_refl _) _ _
-- ==== X0_forgetIfChanged
def sp_X0_forgetIfChanged : sv_P := fun av σ K => match av with
  | [.inr (.inr (0, 0))] => ∃ d : dD, ∃ c : Nat, (RP d σ ∧ FI c d σ ∧ c < 1000000) ∧ (∀ σ2 : sv_S, sq fgl σ σ2 ∧ FK c d σ2 → K none σ2)
  | _ => False
def tb_X0_forgetIfChanged : List (Nat × (Instr × Nat)) := [(0, (.aload_n 0, 1)), (1, (.getfield 11, 3)), (4, (.aload_n 0, 1)), (5, (.getfield 39, 3)), (8, (.getfield 93, 3)), (11, (.if_icmp .ne 4, 3)), (14, (.return_, 1)), (15, (.aload_n 0, 1)), (16, (.aload_n 0, 1)), (17, (.getfield 39, 3)), (20, (.getfield 93, 3)), (23, (.putfield 11, 3)), (26, (.iconst 0, 1)), (27, (.istore_n 1, 1)), (28, (.iload_n 1, 1)), (29, (.iconst 1, 1)), (30, (.if_icmp .gt 26, 3)), (33, (.aload_n 0, 1)), (34, (.getfield 30, 3)), (37, (.iload_n 1, 1)), (38, (.aaload, 1)), (39, (.iconst (-1), 1)), (40, (.invokestatic 96, 3)), (43, (.aload_n 0, 1)), (44, (.getfield 36, 3)), (47, (.iload_n 1, 1)), (48, (.iconst (-1), 1)), (49, (.iastore, 1)), (50, (.iinc 1 1, 3)), (53, (.goto (-25), 3)), (56, (.iconst 0, 1)), (57, (.istore_n 1, 1)), (58, (.iload_n 1, 1)), (59, (.aload_n 0, 1)), (60, (.getfield 39, 3)), (63, (.invokevirtual 72, 3)), (66, (.if_icmp .ge 23, 3)), (69, (.aload_n 0, 1)), (70, (.getfield 24, 3)), (73, (.iload_n 1, 1)), (74, (.aload_n 0, 1)), (75, (.getfield 39, 3)), (78, (.iload_n 1, 1)), (79, (.invokevirtual 78, 3)), (82, (.iastore, 1)), (83, (.iinc 1 1, 3)), (86, (.goto (-28), 3)), (89, (.return_, 1))]
set_option maxRecDepth 100000 in
theorem tbk_X0_forgetIfChanged : sv_tbok cX0_forgetIfChanged tb_X0_forgetIfChanged = true := by decide +kernel
def cal_X0_forgetIfChanged : List (Nat × (Nat × Nat × sv_P)) := [(96, (2, 90, sp_J7_fill_53178)), (72, (1, 2, sp_X2_countSets)), (78, (2, 2, sp_X2_cellsOf))]
def T_X0_forgetIfChanged : sv_T := (flX0, sfX0, kcX0, klX0, cal_X0_forgetIfChanged)
set_option maxRecDepth 100000 in
theorem Tok_X0_forgetIfChanged (l : Launch) : sv_Tok l RX0 sv_all 2 44 T_X0_forgetIfChanged := ⟨flokX0, sfokX0, kcokX0, klokX0, List.forall_mem_cons.mpr ⟨⟨fun h => absurd h (by decide), fun _ => sv_COs_gen (c_J7_fill_53178 l) (Or.inl (sv_mem 371 (by decide +kernel) rfl)) kw_J7_fill_53178.1 kw_J7_fill_53178.2.1 kw_J7_fill_53178.2.2 kd_J7_fill_53178 rfl (by decide) (by decide +kernel)⟩, List.forall_mem_cons.mpr ⟨⟨fun _ => sv_COv_of (c_X2_countSets l) sv_clok_all (sv_mem 361 (by decide +kernel) rfl) kw_X2_countSets.1 kw_X2_countSets.2.1 kw_X2_countSets.2.2.1 kw_X2_countSets.2.2.2 kd_X2_countSets rfl (by decide) (by decide +kernel) rfl (by decide), fun h => absurd h (by decide)⟩, List.forall_mem_cons.mpr ⟨⟨fun _ => sv_COv_of (c_X2_cellsOf l) sv_clok_all (sv_mem 362 (by decide +kernel) rfl) kw_X2_cellsOf.1 kw_X2_cellsOf.2.1 kw_X2_cellsOf.2.2.1 kw_X2_cellsOf.2.2.2 kd_X2_cellsOf rfl (by decide) (by decide +kernel) rfl (by decide), fun h => absurd h (by decide)⟩, fun _ h => absurd h List.not_mem_nil⟩⟩⟩⟩
theorem kw_X0_forgetIfChanged : Cond.instanceMethod yX0_forgetIfChanged ∈ sv_tb ∧ Cond.selects yX0_forgetIfChanged.cls yX0_forgetIfChanged yX0_forgetIfChanged ∈ sv_tb ∧ Cond.initialized yX0_forgetIfChanged.cls ∈ sv_tb ∧ Cond.code yX0_forgetIfChanged cX0_forgetIfChanged 2 none ∈ sv_tb := ⟨sv_mem 369 (by decide +kernel) rfl, sv_mem 3 (by decide +kernel) rfl, sv_mem 54 (by decide +kernel) rfl, sv_mem 370 (by decide +kernel) rfl⟩
theorem kd_X0_forgetIfChanged : yX0_forgetIfChanged.cls ≠ "java/lang/invoke/MethodHandle" ∧ yX0_forgetIfChanged.cls ≠ "java/lang/invoke/VarHandle" ∧ (parseMethodDescriptor yX0_forgetIfChanged.desc).map (fun d => d.parameters.length) = some 0 := by decide +kernel
def F_X0_forgetIfChanged_0 (Wk : sv_K) (Kr : Option sv_AV → sv_S → Prop)  (σ : sv_S) : Prop := ((¬ (sv_gA σ 0 0 1) = (sv_gA σ 2 0 2) → Wk 28 [some (.inr (.inr (0, 0))), some (.inl (0 : Int32))] [] (sv_sA σ 0 0 1 (sv_gA σ 2 0 2))) ∧ ((sv_gA σ 0 0 1) = (sv_gA σ 2 0 2) → Kr none σ))
set_option maxRecDepth 100000 in
theorem bk_X0_forgetIfChanged_0 (Wk : sv_K) (Kr : Option sv_AV → sv_S → Prop)  (σ : sv_S) (h : F_X0_forgetIfChanged_0 Wk Kr  σ) : sv_vc tb_X0_forgetIfChanged T_X0_forgetIfChanged sv_all none Kr [(28, [true, true]), (58, [true, true])] Wk 500 0 [some (.inr (.inr (0, 0))), none] [] σ := ⟨fun z1 => ((h).1 z1), fun z1 => ⟨rfl, ((h).2 z1)⟩⟩
def F_X0_forgetIfChanged_28 (Wk : sv_K) (Kr : Option sv_AV → sv_S → Prop) (x1 : Int32) (σ : sv_S) : Prop := (((1 : Int32) < x1 → Wk 58 [some (.inr (.inr (0, 0))), some (.inl (0 : Int32))] [] σ) ∧ (¬ (1 : Int32) < x1 → (vp_in x1 2 ∧ ((∀ σ2 : sv_S, σ2 = sd_fillrow σ 13 (x1.toNatClampNeg) (-1 : Int32) → (vp_in x1 2 ∧ Wk 28 [some (.inr (.inr (0, 0))), some (.inl (x1 + (1 : Int32)))] [] (sv_sA σ2 16 0 x1.toNatClampNeg (-1 : Int32))))))))
set_option maxRecDepth 100000 in
theorem bk_X0_forgetIfChanged_28 (Wk : sv_K) (Kr : Option sv_AV → sv_S → Prop) (x1 : Int32) (σ : sv_S) (h : F_X0_forgetIfChanged_28 Wk Kr x1 σ) : sv_vc tb_X0_forgetIfChanged T_X0_forgetIfChanged sv_all none Kr [(28, [true, true]), (58, [true, true])] Wk 500 28 [some (.inr (.inr (0, 0))), some (.inl x1)] [] σ := h
def F_X0_forgetIfChanged_58 (Wk : sv_K) (Kr : Option sv_AV → sv_S → Prop) (x1 : Int32) (σ : sv_S) : Prop := (∃ d1 : dD, (RP d1 σ) ∧ (∀ v2 : Int32, v2 = nI (2 ^ dT d1) → ((v2 ≤ x1 → Kr none σ) ∧ (¬ v2 ≤ x1 → (∃ d3 : dD, ∃ c4 : Nat, (RP d3 σ ∧ (c4 < 32 ∧ x1 = nI c4)) ∧ (∀ v5 : Int32, v5 = nI (cells d3 c4) → (vp_in x1 32 ∧ Wk 58 [some (.inr (.inr (0, 0))), some (.inl (x1 + (1 : Int32)))] [] (sv_sA σ 9 0 x1.toNatClampNeg v5))))))))
set_option maxRecDepth 100000 in
theorem bk_X0_forgetIfChanged_58 (Wk : sv_K) (Kr : Option sv_AV → sv_S → Prop) (x1 : Int32) (σ : sv_S) (h : F_X0_forgetIfChanged_58 Wk Kr x1 σ) : sv_vc tb_X0_forgetIfChanged T_X0_forgetIfChanged sv_all none Kr [(28, [true, true]), (58, [true, true])] Wk 500 58 [some (.inr (.inr (0, 0))), some (.inl x1)] [] σ := (match h with | ⟨d1, z7p, z7k⟩ => ⟨d1, z7p, fun v2 z7y => ⟨fun z6 => ⟨rfl, (((z7k v2 z7y)).1 z6)⟩, fun z6 => (((z7k v2 z7y)).2 z6)⟩⟩)
set_option maxRecDepth 100000 in
theorem m_X0_forgetIfChanged (l : Launch) (hb : ∀ (Wk : sv_K) (Kr : Option sv_AV → sv_S → Prop), (∀  (σ : sv_S), F_X0_forgetIfChanged_0 Wk Kr  σ → Wk 0 [some (.inr (.inr (0, 0))), none] [] σ) → (∀ (x1 : Int32) (σ : sv_S), F_X0_forgetIfChanged_28 Wk Kr x1 σ → Wk 28 [some (.inr (.inr (0, 0))), some (.inl x1)] [] σ) → (∀ (x1 : Int32) (σ : sv_S), F_X0_forgetIfChanged_58 Wk Kr x1 σ → Wk 58 [some (.inr (.inr (0, 0))), some (.inl x1)] [] σ) → (∀  (σ : sv_S), (∃ d : dD, ∃ c : Nat, (RP d σ ∧ FI c d σ ∧ c < 1000000) ∧ (∀ σ2 : sv_S, sq fgl σ σ2 ∧ FK c d σ2 → Kr none σ2)) → Wk 0 [some (.inr (.inr (0, 0))), none] [] σ)) : sv_C l yX0_forgetIfChanged cX0_forgetIfChanged 2 none sv_all 2 44 sp_X0_forgetIfChanged := by
  refine sv_meth sv_clok_all tb_X0_forgetIfChanged T_X0_forgetIfChanged (by decide) tbk_X0_forgetIfChanged (Tok_X0_forgetIfChanged l) ?_
  intro Wk Kr hc av σ hsp
  have hB := hb Wk Kr (fun  σ h => hc [(28, [true, true]), (58, [true, true])] 500 0 _ _ _ (bk_X0_forgetIfChanged_0 Wk Kr  σ h)) (fun x1 σ h => hc [(28, [true, true]), (58, [true, true])] 500 28 _ _ _ (bk_X0_forgetIfChanged_28 Wk Kr x1 σ h)) (fun x1 σ h => hc [(28, [true, true]), (58, [true, true])] 500 58 _ _ _ (bk_X0_forgetIfChanged_58 Wk Kr x1 σ h))
  unfold sp_X0_forgetIfChanged at hsp
  split at hsp
  · exact ⟨⟨by simp, by simp [sv_cat]⟩, hB  _ hsp⟩
  · exact hsp.elim
theorem gA_fill (σ : sv_S) (g i : Nat) (x : Int32) (g' i' j' : Nat) : sv_gA (sd_fillrow σ g i x) g' i' j' = if g' = g ∧ i' = i ∧ j' < sv_ln g then x else sv_gA σ g' i' j' := rfl
theorem sq_fill {gl : List Nat} (σ : sv_S) {g : Nat} (i : Nat) (v : Int32) (h : g ∈ gl) : sq gl σ (sd_fillrow σ g i v) := ⟨fun g' hg i' j' => by rw [gA_fill, if_neg (fun z => hg (by rw [z.1]; exact h))], fun _ _ _ => rfl⟩
theorem FT_fr {σ σ' : sv_S} {gl : List Nat} (h : FT σ) (e : sq gl σ σ') (hg : (6 ∉ gl ∧ 8 ∉ gl) := by decide) : FT σ' := ⟨fun s hs => by rw [e.1 _ hg.1]; exact h.1 s hs, fun t i ht hi => by rw [e.1 _ hg.2]; exact h.2 t i ht hi⟩
theorem nI_ne_m1 {n : Nat} (h : n < 2 ^ 31) : nI n ≠ -1 := fun z => by
  have h1 := nI_toInt h
  rw [z] at h1
  have h2 : (-1 : Int32).toInt = -1 := by decide
  omega
set_option maxHeartbeats 4000000 in
set_option maxRecDepth 100000 in
theorem c_X0_forgetIfChanged (l : Launch) : sv_C l yX0_forgetIfChanged cX0_forgetIfChanged 2 none sv_all 2 44 sp_X0_forgetIfChanged := by
  refine m_X0_forgetIfChanged l ?_
  intro Wk Kr e0 e28 e58 σ ⟨d, c, ⟨hR, ⟨hFT, ch, hch, hc1, hsee⟩, hc⟩, h⟩
  have h32 := two_pow_le hR.1
  apply e0
  refine ⟨fun hne => ?_, fun heq => ?_⟩
  · rw [hc1]
    have key : ∀ m n σ', n + m = 2 ^ dT d → sq fgl σ σ' → (∀ k r, k < 2 → r < 61 → sv_gA σ' 13 k r = -1) → (∀ k, k < 2 → sv_gA σ' 16 0 k = -1) → sv_gA σ' 0 0 1 = nI ch → (∀ s, s < n → sv_gA σ' 9 0 s = nI (cells d s)) → Wk 58 [some (.inr (.inr (0, 0))), some (.inl (nI n))] [] σ' := by
      intro m
      induction m with
      | zero =>
        intro n σ' hn hs h1 h2 h3 h4
        have hR' := RP_fr hR hs
        apply e58
        refine ⟨d, hR', fun v2 hv => ?_⟩
        subst hv
        refine pk_le (2 ^ dT d) n (fun z => h _ ⟨hs, FT_fr hFT hs, ⟨fun s hs3 => h4 s (by omega), fun k r hk hr => Or.inl (h1 k r hk (by omega)), fun k hk => Or.inl (h2 k hk)⟩, ch, hch, ?_, h3⟩) (fun z => by omega)
        rw [hs.1 _ (by decide)]
        exact hc1
      | succ m ih =>
        intro n σ' hn hs h1 h2 h3 h4
        have hR' := RP_fr hR hs
        apply e58
        refine ⟨d, hR', fun v2 hv => ?_⟩
        subst hv
        refine pk_le (2 ^ dT d) n (fun z => by omega) (fun z => ⟨d, n, ⟨hR', by omega, rfl⟩, fun v5 h5 => ⟨pk_in n 32 (by omega), ?_⟩⟩)
        rw [nI_1, nI_clamp (by omega)]
        refine ih (n + 1) _ (by omega) (sq_tr hs (sq_sA _ _ _ _ (by decide))) (fun k r hk hr => by rw [gA_ng _ (by decide)]; exact h1 k r hk hr) (fun k hk => by rw [gA_ng _ (by decide)]; exact h2 k hk) (by rw [gA_ng _ (by decide)]; exact h3) (fun s hs3 => ?_)
        by_cases hsn : s = n
        · subst hsn
          rw [gA_same, h5]
        · rw [gA_nj _ hsn]
          exact h4 s (by omega)
    refine e28 _ _ (pk_lt 1 0 (fun z => by omega) (fun z => ⟨pk_in 0 2 (by omega), fun σ2 e2 => ⟨pk_in 0 2 (by omega), ?_⟩⟩))
    refine e28 _ _ (pk_lt 1 1 (fun z => by omega) (fun z => ⟨pk_in 1 2 (by omega), fun σ4 e4 => ⟨pk_in 1 2 (by omega), ?_⟩⟩))
    refine e28 _ _ (pk_lt 1 2 (fun z => ?_) (fun z => by omega))
    have hs2 : sq fgl σ σ2 := by
      rw [e2]
      exact sq_tr (sq_sA _ _ _ _ (by decide)) (sq_fill _ _ _ (by decide))
    have hs4 : sq fgl σ σ4 := by
      rw [e4]
      exact sq_tr (sq_tr hs2 (sq_sA _ _ _ _ (by decide))) (sq_fill _ _ _ (by decide))
    refine key (2 ^ dT d) 0 _ (by omega) (sq_tr hs4 (sq_sA _ _ _ _ (by decide))) (fun k r hk hr => ?_) (fun k hk => ?_) ?_ (fun s hs3 => by omega)
    · rw [gA_ng _ (by decide), e4, gA_fill]
      rcases (show k = 0 ∨ k = 1 by omega) with rfl | rfl
      · rw [if_neg (fun z => by have := z.2.1; revert this; decide), gA_ng _ (by decide), e2, gA_fill, if_pos ⟨rfl, by decide, hr⟩]
      · rw [if_pos ⟨rfl, by decide, hr⟩]
    · rcases (show k = 0 ∨ k = 1 by omega) with rfl | rfl
      · rw [gA_nj _ (by decide), e4, gA_fill, if_neg (fun z => by have := z.1; revert this; decide)]
        exact gA_same _ _ _ _ _
      · exact gA_same _ _ _ _ _
    · rw [gA_ng _ (by decide), e4, gA_fill, if_neg (fun z => by have := z.1; revert this; decide), gA_ng _ (by decide), e2, gA_fill, if_neg (fun z => by have := z.1; revert this; decide), gA_same]
  · rw [hc1] at heq
    rcases hsee with h1 | ⟨s, hs, h1, h2⟩
    · exact absurd (heq.symm.trans h1) (nI_ne_m1 (by omega))
    · have hsc : s = ch := (nI_eq (by omega) (by omega)).mp (h1.symm.trans heq)
      exact h _ ⟨sq_rf _ _, hFT, h2 hsc, ch, hch, hc1, heq⟩
-- ==== X0_bestCost
def sp_X0_bestCost : sv_P := fun av σ K => match av with
  | [.inr (.inr (0, 0)), .inl kind, .inl room] => ∃ d : dD, ∃ c : Nat, ∃ k : Nat, ∃ r : Nat, ((RP d σ ∧ FI c d σ ∧ c < 1000000) ∧ (k < 2 ∧ kind = nI k) ∧ (r ≤ 60 ∧ room = nI r)) ∧ (∀ v : Int32, ∀ σ2 : sv_S, v = nI (bst d k r) ∧ sq fgl σ σ2 ∧ FK c d σ2 → K (some (.inl v)) σ2)
  | _ => False
def tb_X0_bestCost : List (Nat × (Instr × Nat)) := [(0, (.aload_n 0, 1)), (1, (.invokevirtual 51, 3)), (4, (.aload_n 0, 1)), (5, (.iload_n 2, 1)), (6, (.invokevirtual 54, 3)), (9, (.istore_n 3, 1)), (10, (.aload_n 0, 1)), (11, (.getfield 30, 3)), (14, (.iload_n 1, 1)), (15, (.aaload, 1)), (16, (.iload_n 3, 1)), (17, (.iaload, 1)), (18, (.iconst (-1), 1)), (19, (.if_icmp .ne 9, 3)), (22, (.aload_n 0, 1)), (23, (.iload_n 1, 1)), (24, (.iload_n 3, 1)), (25, (.invokevirtual 58, 3)), (28, (.aload_n 0, 1)), (29, (.getfield 30, 3)), (32, (.iload_n 1, 1)), (33, (.aaload, 1)), (34, (.iload_n 3, 1)), (35, (.iaload, 1)), (36, (.ireturn, 1))]
set_option maxRecDepth 100000 in
theorem tbk_X0_bestCost : sv_tbok cX0_bestCost tb_X0_bestCost = true := by decide +kernel
def cal_X0_bestCost : List (Nat × (Nat × Nat × sv_P)) := [(51, (1, 0, sp_X0_forgetIfChanged)), (54, (2, 0, sp_X0_fullestIn)), (58, (3, 0, sp_X0_fillToGo))]
def T_X0_bestCost : sv_T := (flX0, sfX0, kcX0, klX0, cal_X0_bestCost)
set_option maxRecDepth 100000 in
theorem Tok_X0_bestCost (l : Launch) : sv_Tok l RX0 sv_all 5 128 T_X0_bestCost := ⟨flokX0, sfokX0, kcokX0, klokX0, List.forall_mem_cons.mpr ⟨⟨fun _ => sv_COv_of (c_X0_forgetIfChanged l) sv_clok_all (sv_mem 367 (by decide +kernel) rfl) kw_X0_forgetIfChanged.1 kw_X0_forgetIfChanged.2.1 kw_X0_forgetIfChanged.2.2.1 kw_X0_forgetIfChanged.2.2.2 kd_X0_forgetIfChanged rfl (by decide) (by decide +kernel) rfl (by decide), fun h => absurd h (by decide)⟩, List.forall_mem_cons.mpr ⟨⟨fun _ => sv_COv_of (c_X0_fullestIn l) sv_clok_all (sv_mem 374 (by decide +kernel) rfl) kw_X0_fullestIn.1 kw_X0_fullestIn.2.1 kw_X0_fullestIn.2.2.1 kw_X0_fullestIn.2.2.2 kd_X0_fullestIn rfl (by decide) (by decide +kernel) rfl (by decide), fun h => absurd h (by decide)⟩, List.forall_mem_cons.mpr ⟨⟨fun _ => sv_COv_of (c_X0_fillToGo l) sv_clok_all (sv_mem 379 (by decide +kernel) rfl) kw_X0_fillToGo.1 kw_X0_fillToGo.2.1 kw_X0_fillToGo.2.2.1 kw_X0_fillToGo.2.2.2 kd_X0_fillToGo rfl (by decide) (by decide +kernel) rfl (by decide), fun h => absurd h (by decide)⟩, fun _ h => absurd h List.not_mem_nil⟩⟩⟩⟩
theorem kw_X0_bestCost : Cond.instanceMethod yX0_bestCost ∈ sv_tb ∧ Cond.selects yX0_bestCost.cls yX0_bestCost yX0_bestCost ∈ sv_tb ∧ Cond.initialized yX0_bestCost.cls ∈ sv_tb ∧ Cond.code yX0_bestCost cX0_bestCost 4 (some .int) ∈ sv_tb := ⟨sv_mem 453 (by decide +kernel) rfl, sv_mem 454 (by decide +kernel) rfl, sv_mem 54 (by decide +kernel) rfl, sv_mem 455 (by decide +kernel) rfl⟩
theorem kd_X0_bestCost : yX0_bestCost.cls ≠ "java/lang/invoke/MethodHandle" ∧ yX0_bestCost.cls ≠ "java/lang/invoke/VarHandle" ∧ (parseMethodDescriptor yX0_bestCost.desc).map (fun d => d.parameters.length) = some 2 := by decide +kernel
def F_X0_bestCost_0 (Wk : sv_K) (Kr : Option sv_AV → sv_S → Prop) (kind : Int32) (room : Int32) (σ : sv_S) : Prop := (∃ d1 : dD, ∃ c2 : Nat, (RP d1 σ ∧ FI c2 d1 σ ∧ c2 < 1000000) ∧ (∀ σ4 : sv_S, sq fgl σ σ4 ∧ FK c2 d1 σ4 → (∃ d5 : dD, ∃ r6 : Nat, (RP d5 σ4 ∧ CLS d5 σ4 ∧ (r6 ≤ 60 ∧ room = nI r6)) ∧ (∀ v7 : Int32, v7 = nI (fullest d5 r6 (2 ^ dT d5)) → (vp_in kind 2 ∧ (vp_in v7 61 ∧ ((¬ (sv_gA σ4 13 kind.toNatClampNeg v7.toNatClampNeg) = (-1 : Int32) → (vp_in kind 2 ∧ (vp_in v7 61 ∧ Kr (some (.inl (sv_gA σ4 13 kind.toNatClampNeg v7.toNatClampNeg))) σ4))) ∧ ((sv_gA σ4 13 kind.toNatClampNeg v7.toNatClampNeg) = (-1 : Int32) → (∃ d8 : dD, ∃ k9 : Nat, ∃ r10 : Nat, (RP d8 σ4 ∧ FT σ4 ∧ CLS d8 σ4 ∧ (k9 < 2 ∧ kind = nI k9) ∧ (r10 ≤ 60 ∧ v7 = nI r10)) ∧ (∀ σ12 : sv_S, sq [11, 13] σ4 σ12 ∧ TG d8 k9 r10 σ12 ∧ (∀ i j, ¬ (i = k9 ∧ j = r10) → sv_gA σ12 13 i j = sv_gA σ4 13 i j) ∧ sv_gA σ12 13 k9 r10 = nI (bst d8 k9 r10) → (vp_in kind 2 ∧ (vp_in v7 61 ∧ Kr (some (.inl (sv_gA σ12 13 kind.toNatClampNeg v7.toNatClampNeg))) σ12))))))))))))
set_option maxRecDepth 100000 in
theorem bk_X0_bestCost_0 (Wk : sv_K) (Kr : Option sv_AV → sv_S → Prop) (kind : Int32) (room : Int32) (σ : sv_S) (h : F_X0_bestCost_0 Wk Kr kind room σ) : sv_vc tb_X0_bestCost T_X0_bestCost sv_all (some .int) Kr [] Wk 500 0 [some (.inr (.inr (0, 0))), some (.inl kind), some (.inl room), none] [] σ := h
set_option maxRecDepth 100000 in
theorem m_X0_bestCost (l : Launch) (hb : ∀ (Wk : sv_K) (Kr : Option sv_AV → sv_S → Prop), (∀ (kind : Int32) (room : Int32) (σ : sv_S), F_X0_bestCost_0 Wk Kr kind room σ → Wk 0 [some (.inr (.inr (0, 0))), some (.inl kind), some (.inl room), none] [] σ) → (∀ (kind : Int32) (room : Int32) (σ : sv_S), (∃ d : dD, ∃ c : Nat, ∃ k : Nat, ∃ r : Nat, ((RP d σ ∧ FI c d σ ∧ c < 1000000) ∧ (k < 2 ∧ kind = nI k) ∧ (r ≤ 60 ∧ room = nI r)) ∧ (∀ v : Int32, ∀ σ2 : sv_S, v = nI (bst d k r) ∧ sq fgl σ σ2 ∧ FK c d σ2 → Kr (some (.inl v)) σ2)) → Wk 0 [some (.inr (.inr (0, 0))), some (.inl kind), some (.inl room), none] [] σ)) : sv_C l yX0_bestCost cX0_bestCost 4 (some .int) sv_all 5 128 sp_X0_bestCost := by
  refine sv_meth sv_clok_all tb_X0_bestCost T_X0_bestCost (by decide) tbk_X0_bestCost (Tok_X0_bestCost l) ?_
  intro Wk Kr hc av σ hsp
  have hB := hb Wk Kr (fun kind room σ h => hc [] 500 0 _ _ _ (bk_X0_bestCost_0 Wk Kr kind room σ h))
  unfold sp_X0_bestCost at hsp
  split at hsp
  · exact ⟨⟨by simp, by simp [sv_cat]⟩, hB _ _ _ hsp⟩
  · exact hsp.elim
set_option maxHeartbeats 4000000 in
set_option maxRecDepth 100000 in
theorem c_X0_bestCost (l : Launch) : sv_C l yX0_bestCost cX0_bestCost 4 (some .int) sv_all 5 128 sp_X0_bestCost := by
  refine m_X0_bestCost l ?_
  intro Wk Kr e0 kind room σ ⟨d, c, k, r, ⟨⟨hR, hFI, hc⟩, ⟨hk, hkd⟩, hr, hroom⟩, h⟩
  subst hkd
  subst hroom
  apply e0
  refine ⟨d, c, ⟨hR, hFI, hc⟩, fun σ4 ⟨hs4, hFK⟩ => ?_⟩
  have hR4 := RP_fr hR hs4
  obtain ⟨hFT4, hCV, ch, hch, hc1, hc2⟩ := hFK
  refine ⟨d, r, ⟨hR4, hCV.1, hr, rfl⟩, fun v7 h7 => ?_⟩
  subst h7
  have hfl := fullest_le d r (2 ^ dT d)
  have eb := bst_cong (fullest_ok d r) k
  rw [nI_clamp (by omega : k < 2 ^ 31), nI_clamp (by omega : fullest d r (2 ^ dT d) < 2 ^ 31)]
  refine ⟨pk_in k 2 hk, pk_in (fullest d r (2 ^ dT d)) 61 (by omega), fun z => ⟨pk_in k 2 hk, pk_in (fullest d r (2 ^ dT d)) 61 (by omega), ?_⟩, fun z => ⟨d, k, fullest d r (2 ^ dT d), ⟨hR4, hFT4, hCV.1, ⟨hk, rfl⟩, by omega, rfl⟩, fun σ12 ⟨hs12, hTG, ho, hv⟩ => ⟨pk_in k 2 hk, pk_in (fullest d r (2 ^ dT d)) 61 (by omega), ?_⟩⟩⟩
  · refine h _ _ ⟨?_, hs4, hFT4, hCV, ch, hch, hc1, hc2⟩
    rcases hCV.2.1 k (fullest d r (2 ^ dT d)) hk (by omega) with y | y
    · exact absurd y z
    · rw [y, eb]
  · refine h _ _ ⟨by rw [hv, eb], sq_tr hs4 (sq_mono hs12 (by decide)), FT_fr hFT4 hs12, ⟨fun s hs3 => ?_, fun k' r' hk' hr' => ?_, fun k' hk' => ?_⟩, ch, hch, ?_, ?_⟩
    · rw [hs12.1 _ (by decide)]
      exact hCV.1 s hs3
    · by_cases hx : k' = k ∧ r' = fullest d r (2 ^ dT d)
      · rw [hx.1, hx.2]
        exact Or.inr hv
      · rw [ho k' r' hx]
        exact hCV.2.1 k' r' hk' hr'
    · rw [hs12.1 _ (by decide)]
      rcases hCV.2.2 k' hk' with y | ⟨r', hr', y1, y2⟩
      · exact Or.inl y
      · exact Or.inr ⟨r', hr', y1, fun p hp => by rw [hs12.1 _ (by decide)]; exact y2 p hp⟩
    · rw [hs12.1 _ (by decide)]; exact hc1
    · rw [hs12.1 _ (by decide)]; exact hc2
-- ==== X0_bestSetOf
def sp_X0_bestSetOf : sv_P := fun av σ K => match av with
  | [.inr (.inr (0, 0)), .inl p, .inl kind, .inl room] => ∃ d : dD, ∃ c : Nat, ∃ q : Nat, ∃ k : Nat, ∃ r : Nat, ((RP d σ ∧ FI c d σ ∧ c < 1000000) ∧ (q < dP d ∧ p = nI q) ∧ (k < 2 ∧ kind = nI k) ∧ (r ≤ 60 ∧ room = nI r)) ∧ (∀ v : Int32, ∀ σ2 : sv_S, v = nI (bsp d k r q) ∧ sq fgl σ σ2 ∧ FK c d σ2 → K (some (.inl v)) σ2)
  | _ => False
def tb_X0_bestSetOf : List (Nat × (Instr × Nat)) := [(0, (.aload_n 0, 1)), (1, (.invokevirtual 51, 3)), (4, (.aload_n 0, 1)), (5, (.iload_n 3, 1)), (6, (.invokevirtual 54, 3)), (9, (.istore 4, 2)), (11, (.aload_n 0, 1)), (12, (.getfield 36, 3)), (15, (.iload_n 2, 1)), (16, (.iaload, 1)), (17, (.iload 4, 2)), (19, (.if_icmp .eq 17, 3)), (22, (.aload_n 0, 1)), (23, (.iload_n 2, 1)), (24, (.iload 4, 2)), (26, (.invokevirtual 58, 3)), (29, (.aload_n 0, 1)), (30, (.iload_n 2, 1)), (31, (.iload 4, 2)), (33, (.invokevirtual 62, 3)), (36, (.aload_n 0, 1)), (37, (.getfield 33, 3)), (40, (.iload_n 2, 1)), (41, (.aaload, 1)), (42, (.iload_n 1, 1)), (43, (.iaload, 1)), (44, (.ireturn, 1))]
set_option maxRecDepth 100000 in
theorem tbk_X0_bestSetOf : sv_tbok cX0_bestSetOf tb_X0_bestSetOf = true := by decide +kernel
def cal_X0_bestSetOf : List (Nat × (Nat × Nat × sv_P)) := [(51, (1, 0, sp_X0_forgetIfChanged)), (54, (2, 0, sp_X0_fullestIn)), (58, (3, 0, sp_X0_fillToGo)), (62, (3, 0, sp_X0_readRow))]
def T_X0_bestSetOf : sv_T := (flX0, sfX0, kcX0, klX0, cal_X0_bestSetOf)
set_option maxRecDepth 100000 in
theorem Tok_X0_bestSetOf (l : Launch) : sv_Tok l RX0 sv_all 5 128 T_X0_bestSetOf := ⟨flokX0, sfokX0, kcokX0, klokX0, List.forall_mem_cons.mpr ⟨⟨fun _ => sv_COv_of (c_X0_forgetIfChanged l) sv_clok_all (sv_mem 367 (by decide +kernel) rfl) kw_X0_forgetIfChanged.1 kw_X0_forgetIfChanged.2.1 kw_X0_forgetIfChanged.2.2.1 kw_X0_forgetIfChanged.2.2.2 kd_X0_forgetIfChanged rfl (by decide) (by decide +kernel) rfl (by decide), fun h => absurd h (by decide)⟩, List.forall_mem_cons.mpr ⟨⟨fun _ => sv_COv_of (c_X0_fullestIn l) sv_clok_all (sv_mem 374 (by decide +kernel) rfl) kw_X0_fullestIn.1 kw_X0_fullestIn.2.1 kw_X0_fullestIn.2.2.1 kw_X0_fullestIn.2.2.2 kd_X0_fullestIn rfl (by decide) (by decide +kernel) rfl (by decide), fun h => absurd h (by decide)⟩, List.forall_mem_cons.mpr ⟨⟨fun _ => sv_COv_of (c_X0_fillToGo l) sv_clok_all (sv_mem 379 (by decide +kernel) rfl) kw_X0_fillToGo.1 kw_X0_fillToGo.2.1 kw_X0_fillToGo.2.2.1 kw_X0_fillToGo.2.2.2 kd_X0_fillToGo rfl (by decide) (by decide +kernel) rfl (by decide), fun h => absurd h (by decide)⟩, List.forall_mem_cons.mpr ⟨⟨fun _ => sv_COv_of (c_X0_readRow l) sv_clok_all (sv_mem 398 (by decide +kernel) rfl) kw_X0_readRow.1 kw_X0_readRow.2.1 kw_X0_readRow.2.2.1 kw_X0_readRow.2.2.2 kd_X0_readRow rfl (by decide) (by decide +kernel) rfl (by decide), fun h => absurd h (by decide)⟩, fun _ h => absurd h List.not_mem_nil⟩⟩⟩⟩⟩
theorem kw_X0_bestSetOf : Cond.instanceMethod yX0_bestSetOf ∈ sv_tb ∧ Cond.selects yX0_bestSetOf.cls yX0_bestSetOf yX0_bestSetOf ∈ sv_tb ∧ Cond.initialized yX0_bestSetOf.cls ∈ sv_tb ∧ Cond.code yX0_bestSetOf cX0_bestSetOf 5 (some .int) ∈ sv_tb := ⟨sv_mem 364 (by decide +kernel) rfl, sv_mem 365 (by decide +kernel) rfl, sv_mem 54 (by decide +kernel) rfl, sv_mem 366 (by decide +kernel) rfl⟩
theorem kd_X0_bestSetOf : yX0_bestSetOf.cls ≠ "java/lang/invoke/MethodHandle" ∧ yX0_bestSetOf.cls ≠ "java/lang/invoke/VarHandle" ∧ (parseMethodDescriptor yX0_bestSetOf.desc).map (fun d => d.parameters.length) = some 3 := by decide +kernel
def F_X0_bestSetOf_0 (Wk : sv_K) (Kr : Option sv_AV → sv_S → Prop) (p : Int32) (kind : Int32) (room : Int32) (σ : sv_S) : Prop := (∃ d1 : dD, ∃ c2 : Nat, (RP d1 σ ∧ FI c2 d1 σ ∧ c2 < 1000000) ∧ (∀ σ4 : sv_S, sq fgl σ σ4 ∧ FK c2 d1 σ4 → (∃ d5 : dD, ∃ r6 : Nat, (RP d5 σ4 ∧ CLS d5 σ4 ∧ (r6 ≤ 60 ∧ room = nI r6)) ∧ (∀ v7 : Int32, v7 = nI (fullest d5 r6 (2 ^ dT d5)) → (vp_in kind 2 ∧ (((sv_gA σ4 16 0 kind.toNatClampNeg) = v7 → (vp_in kind 2 ∧ (vp_in p 10 ∧ Kr (some (.inl (sv_gA σ4 15 kind.toNatClampNeg p.toNatClampNeg))) σ4))) ∧ (¬ (sv_gA σ4 16 0 kind.toNatClampNeg) = v7 → (∃ d8 : dD, ∃ k9 : Nat, ∃ r10 : Nat, (RP d8 σ4 ∧ FT σ4 ∧ CLS d8 σ4 ∧ (k9 < 2 ∧ kind = nI k9) ∧ (r10 ≤ 60 ∧ v7 = nI r10)) ∧ (∀ σ12 : sv_S, sq [11, 13] σ4 σ12 ∧ TG d8 k9 r10 σ12 ∧ (∀ i j, ¬ (i = k9 ∧ j = r10) → sv_gA σ12 13 i j = sv_gA σ4 13 i j) ∧ sv_gA σ12 13 k9 r10 = nI (bst d8 k9 r10) → (∃ d13 : dD, ∃ k14 : Nat, ∃ r15 : Nat, (RP d13 σ12 ∧ CLS d13 σ12 ∧ TG d13 k14 r15 σ12 ∧ (k14 < 2 ∧ kind = nI k14) ∧ (r15 ≤ 60 ∧ v7 = nI r15)) ∧ (∀ σ17 : sv_S, sq [15, 16] σ12 σ17 ∧ (∀ i j, i ≠ k14 → sv_gA σ17 15 i j = sv_gA σ12 15 i j) ∧ (∀ j, j ≠ k14 → sv_gA σ17 16 0 j = sv_gA σ12 16 0 j) ∧ sv_gA σ17 16 0 k14 = nI r15 ∧ (∀ p, p < dP d13 → sv_gA σ17 15 k14 p = nI (bsp d13 k14 r15 p)) → (vp_in kind 2 ∧ (vp_in p 10 ∧ Kr (some (.inl (sv_gA σ17 15 kind.toNatClampNeg p.toNatClampNeg))) σ17)))))))))))))
set_option maxRecDepth 100000 in
theorem bk_X0_bestSetOf_0 (Wk : sv_K) (Kr : Option sv_AV → sv_S → Prop) (p : Int32) (kind : Int32) (room : Int32) (σ : sv_S) (h : F_X0_bestSetOf_0 Wk Kr p kind room σ) : sv_vc tb_X0_bestSetOf T_X0_bestSetOf sv_all (some .int) Kr [] Wk 500 0 [some (.inr (.inr (0, 0))), some (.inl p), some (.inl kind), some (.inl room), none] [] σ := h
set_option maxRecDepth 100000 in
theorem m_X0_bestSetOf (l : Launch) (hb : ∀ (Wk : sv_K) (Kr : Option sv_AV → sv_S → Prop), (∀ (p : Int32) (kind : Int32) (room : Int32) (σ : sv_S), F_X0_bestSetOf_0 Wk Kr p kind room σ → Wk 0 [some (.inr (.inr (0, 0))), some (.inl p), some (.inl kind), some (.inl room), none] [] σ) → (∀ (p : Int32) (kind : Int32) (room : Int32) (σ : sv_S), (∃ d : dD, ∃ c : Nat, ∃ q : Nat, ∃ k : Nat, ∃ r : Nat, ((RP d σ ∧ FI c d σ ∧ c < 1000000) ∧ (q < dP d ∧ p = nI q) ∧ (k < 2 ∧ kind = nI k) ∧ (r ≤ 60 ∧ room = nI r)) ∧ (∀ v : Int32, ∀ σ2 : sv_S, v = nI (bsp d k r q) ∧ sq fgl σ σ2 ∧ FK c d σ2 → Kr (some (.inl v)) σ2)) → Wk 0 [some (.inr (.inr (0, 0))), some (.inl p), some (.inl kind), some (.inl room), none] [] σ)) : sv_C l yX0_bestSetOf cX0_bestSetOf 5 (some .int) sv_all 5 128 sp_X0_bestSetOf := by
  refine sv_meth sv_clok_all tb_X0_bestSetOf T_X0_bestSetOf (by decide) tbk_X0_bestSetOf (Tok_X0_bestSetOf l) ?_
  intro Wk Kr hc av σ hsp
  have hB := hb Wk Kr (fun p kind room σ h => hc [] 500 0 _ _ _ (bk_X0_bestSetOf_0 Wk Kr p kind room σ h))
  unfold sp_X0_bestSetOf at hsp
  split at hsp
  · exact ⟨⟨by simp, by simp [sv_cat]⟩, hB _ _ _ _ hsp⟩
  · exact hsp.elim
set_option maxHeartbeats 4000000 in
set_option maxRecDepth 100000 in
theorem c_X0_bestSetOf (l : Launch) : sv_C l yX0_bestSetOf cX0_bestSetOf 5 (some .int) sv_all 5 128 sp_X0_bestSetOf := by
  refine m_X0_bestSetOf l ?_
  intro Wk Kr e0 p kind room σ ⟨d, c, q, k, r, ⟨⟨hR, hFI, hc⟩, ⟨hq, hp⟩, ⟨hk, hkd⟩, hr, hroom⟩, h⟩
  subst hkd
  subst hroom
  subst hp
  have hP := hR.1.1
  apply e0
  refine ⟨d, c, ⟨hR, hFI, hc⟩, fun σ4 ⟨hs4, hFK⟩ => ?_⟩
  have hR4 := RP_fr hR hs4
  obtain ⟨hFT4, hCV, ch, hch, hc1, hc2⟩ := hFK
  refine ⟨d, r, ⟨hR4, hCV.1, hr, rfl⟩, fun v7 h7 => ?_⟩
  subst h7
  have hfl := fullest_le d r (2 ^ dT d)
  have eb := bsp_cong (fullest_ok d r) k q
  rw [nI_clamp (by omega : k < 2 ^ 31), nI_clamp (by omega : q < 2 ^ 31)]
  refine ⟨pk_in k 2 hk, fun z => ⟨pk_in k 2 hk, pk_in q 10 (by omega), ?_⟩, fun z => ⟨d, k, fullest d r (2 ^ dT d), ⟨hR4, hFT4, hCV.1, ⟨hk, rfl⟩, by omega, rfl⟩, fun σ12 ⟨hs12, hTG, ho, hv⟩ => ?_⟩⟩
  · refine h _ _ ⟨?_, hs4, hFT4, hCV, ch, hch, hc1, hc2⟩
    rcases hCV.2.2 k hk with y | ⟨r', hr', y1, y2⟩
    · exact absurd (z.symm.trans y) (nI_ne_m1 (by omega))
    · have : r' = fullest d r (2 ^ dT d) := (nI_eq (by omega) (by omega)).mp (y1.symm.trans z)
      subst this
      rw [y2 q hq, eb]
  · have hR12 := RP_fr hR4 hs12
    have hC12 : CLS d σ12 := fun s hs3 => by rw [hs12.1 _ (by decide)]; exact hCV.1 s hs3
    refine ⟨d, k, fullest d r (2 ^ dT d), ⟨hR12, hC12, hTG, ⟨hk, rfl⟩, by omega, rfl⟩, fun σ17 ⟨hs17, hk17, hr17, hrr, hrow⟩ => ⟨pk_in k 2 hk, pk_in q 10 (by omega), ?_⟩⟩
    refine h _ _ ⟨by rw [hrow q hq, eb], sq_tr (sq_tr hs4 (sq_mono hs12 (by decide))) (sq_mono hs17 (by decide)), FT_fr (FT_fr hFT4 hs12) hs17, ⟨fun s hs3 => ?_, fun k' r' hk' hr' => ?_, fun k' hk' => ?_⟩, ch, hch, ?_, ?_⟩
    · rw [hs17.1 _ (by decide)]
      exact hC12 s hs3
    · rw [hs17.1 _ (by decide)]
      by_cases hx : k' = k ∧ r' = fullest d r (2 ^ dT d)
      · rw [hx.1, hx.2]
        exact Or.inr hv
      · rw [ho k' r' hx]
        exact hCV.2.1 k' r' hk' hr'
    · by_cases hx : k' = k
      · subst hx
        exact Or.inr ⟨fullest d r (2 ^ dT d), by omega, hrr, hrow⟩
      · rw [hr17 k' hx, hs12.1 _ (by decide)]
        rcases hCV.2.2 k' hk' with y | ⟨r', hr', y1, y2⟩
        · exact Or.inl y
        · exact Or.inr ⟨r', hr', y1, fun p hp => by rw [hk17 k' p hx, hs12.1 _ (by decide)]; exact y2 p hp⟩
    · rw [hs17.1 _ (by decide), hs12.1 _ (by decide)]; exact hc1
    · rw [hs17.1 _ (by decide), hs12.1 _ (by decide)]; exact hc2
-- ==== X0_leastRoom
def sp_X0_leastRoom : sv_P := fun av σ K => match av with
  | [.inr (.inr (0, 0)), .inl kind, .inl w] => ∃ d : dD, ∃ c : Nat, ∃ k : Nat, ((RP d σ ∧ FI c d σ ∧ c < 1000000) ∧ (k < 2 ∧ kind = nI k)) ∧ (∀ v : Int32, ∀ σ2 : sv_S, v = lroom d k (w).toInt ∧ sq fgl σ σ2 ∧ FK c d σ2 → K (some (.inl v)) σ2)
  | _ => False
def tb_X0_leastRoom : List (Nat × (Instr × Nat)) := [(0, (.aload_n 0, 1)), (1, (.iload_n 1, 1)), (2, (.bipush 60, 2)), (4, (.invokevirtual 65, 3)), (7, (.iload_n 2, 1)), (8, (.if_icmp .le 6, 3)), (11, (.bipush (-9), 2)), (13, (.ireturn, 1)), (14, (.iconst 0, 1)), (15, (.istore_n 3, 1)), (16, (.bipush 60, 2)), (18, (.istore 4, 2)), (20, (.iconst 0, 1)), (21, (.istore 5, 2)), (23, (.iload 5, 2)), (25, (.bipush 60, 2)), (27, (.if_icmp .ge 46, 3)), (30, (.iload_n 3, 1)), (31, (.iload 4, 2)), (33, (.if_icmp .ge 40, 3)), (36, (.iload_n 3, 1)), (37, (.iload 4, 2)), (39, (.iadd, 1)), (40, (.iconst 2, 1)), (41, (.idiv, 1)), (42, (.istore 6, 2)), (44, (.aload_n 0, 1)), (45, (.iload_n 1, 1)), (46, (.iload 6, 2)), (48, (.invokevirtual 65, 3)), (51, (.iload_n 2, 1)), (52, (.if_icmp .gt 10, 3)), (55, (.iload 6, 2)), (57, (.istore 4, 2)), (59, (.goto 8, 3)), (62, (.iload 6, 2)), (64, (.iconst 1, 1)), (65, (.iadd, 1)), (66, (.istore_n 3, 1)), (67, (.iinc 5 1, 3)), (70, (.goto (-47), 3)), (73, (.iload_n 3, 1)), (74, (.ireturn, 1))]
set_option maxRecDepth 100000 in
theorem tbk_X0_leastRoom : sv_tbok cX0_leastRoom tb_X0_leastRoom = true := by decide +kernel
def cal_X0_leastRoom : List (Nat × (Nat × Nat × sv_P)) := [(65, (3, 0, sp_X0_bestCost))]
def T_X0_leastRoom : sv_T := (flX0, sfX0, kcX0, klX0, cal_X0_leastRoom)
set_option maxRecDepth 100000 in
theorem Tok_X0_leastRoom (l : Launch) : sv_Tok l RX0 sv_all 6 151 T_X0_leastRoom := ⟨flokX0, sfokX0, kcokX0, klokX0, List.forall_mem_cons.mpr ⟨⟨fun _ => sv_COv_of (c_X0_bestCost l) sv_clok_all (sv_mem 469 (by decide +kernel) rfl) kw_X0_bestCost.1 kw_X0_bestCost.2.1 kw_X0_bestCost.2.2.1 kw_X0_bestCost.2.2.2 kd_X0_bestCost rfl (by decide) (by decide +kernel) rfl (by decide), fun h => absurd h (by decide)⟩, fun _ h => absurd h List.not_mem_nil⟩⟩
theorem kw_X0_leastRoom : Cond.instanceMethod yX0_leastRoom ∈ sv_tb ∧ Cond.selects yX0_leastRoom.cls yX0_leastRoom yX0_leastRoom ∈ sv_tb ∧ Cond.initialized yX0_leastRoom.cls ∈ sv_tb ∧ Cond.code yX0_leastRoom cX0_leastRoom 7 (some .int) ∈ sv_tb := ⟨sv_mem 466 (by decide +kernel) rfl, sv_mem 467 (by decide +kernel) rfl, sv_mem 54 (by decide +kernel) rfl, sv_mem 468 (by decide +kernel) rfl⟩
theorem kd_X0_leastRoom : yX0_leastRoom.cls ≠ "java/lang/invoke/MethodHandle" ∧ yX0_leastRoom.cls ≠ "java/lang/invoke/VarHandle" ∧ (parseMethodDescriptor yX0_leastRoom.desc).map (fun d => d.parameters.length) = some 2 := by decide +kernel
def F_X0_leastRoom_0 (Wk : sv_K) (Kr : Option sv_AV → sv_S → Prop) (kind : Int32) (w : Int32) (σ : sv_S) : Prop := (∃ d1 : dD, ∃ c2 : Nat, ∃ k3 : Nat, ∃ r4 : Nat, ((RP d1 σ ∧ FI c2 d1 σ ∧ c2 < 1000000) ∧ (k3 < 2 ∧ kind = nI k3) ∧ (r4 ≤ 60 ∧ (60 : Int32) = nI r4)) ∧ (∀ v5 : Int32, ∀ σ6 : sv_S, v5 = nI (bst d1 k3 r4) ∧ sq fgl σ σ6 ∧ FK c2 d1 σ6 → ((v5 ≤ w → Wk 23 [some (.inr (.inr (0, 0))), some (.inl kind), some (.inl w), some (.inl (0 : Int32)), some (.inl (60 : Int32)), some (.inl (0 : Int32)), none] [] σ6) ∧ (¬ v5 ≤ w → Kr (some (.inl (-9 : Int32))) σ6))))
set_option maxRecDepth 100000 in
theorem bk_X0_leastRoom_0 (Wk : sv_K) (Kr : Option sv_AV → sv_S → Prop) (kind : Int32) (w : Int32) (σ : sv_S) (h : F_X0_leastRoom_0 Wk Kr kind w σ) : sv_vc tb_X0_leastRoom T_X0_leastRoom sv_all (some .int) Kr [(23, [true, true, true, true, true, true, false])] Wk 500 0 [some (.inr (.inr (0, 0))), some (.inl kind), some (.inl w), none, none, none, none] [] σ := h
def F_X0_leastRoom_23 (Wk : sv_K) (Kr : Option sv_AV → sv_S → Prop) (x1 : Int32) (x2 : Int32) (x3 : Int32) (x4 : Int32) (x5 : Int32) (σ : sv_S) : Prop := (((60 : Int32) ≤ x5 → Kr (some (.inl x3)) σ) ∧ (¬ (60 : Int32) ≤ x5 → ((x4 ≤ x3 → Kr (some (.inl x3)) σ) ∧ (¬ x4 ≤ x3 → (∃ d1 : dD, ∃ c2 : Nat, ∃ k3 : Nat, ∃ r4 : Nat, ((RP d1 σ ∧ FI c2 d1 σ ∧ c2 < 1000000) ∧ (k3 < 2 ∧ x1 = nI k3) ∧ (r4 ≤ 60 ∧ ((x3 + x4) / (2 : Int32)) = nI r4)) ∧ (∀ v5 : Int32, ∀ σ6 : sv_S, v5 = nI (bst d1 k3 r4) ∧ sq fgl σ σ6 ∧ FK c2 d1 σ6 → ((x2 < v5 → Wk 23 [some (.inr (.inr (0, 0))), some (.inl x1), some (.inl x2), some (.inl (((x3 + x4) / (2 : Int32)) + (1 : Int32))), some (.inl x4), some (.inl (x5 + (1 : Int32))), none] [] σ6) ∧ (¬ x2 < v5 → Wk 23 [some (.inr (.inr (0, 0))), some (.inl x1), some (.inl x2), some (.inl x3), some (.inl ((x3 + x4) / (2 : Int32))), some (.inl (x5 + (1 : Int32))), none] [] σ6))))))))
set_option maxRecDepth 100000 in
theorem bk_X0_leastRoom_23 (Wk : sv_K) (Kr : Option sv_AV → sv_S → Prop) (x1 : Int32) (x2 : Int32) (x3 : Int32) (x4 : Int32) (x5 : Int32) (σ : sv_S) (h : F_X0_leastRoom_23 Wk Kr x1 x2 x3 x4 x5 σ) : sv_vc tb_X0_leastRoom T_X0_leastRoom sv_all (some .int) Kr [(23, [true, true, true, true, true, true, false])] Wk 500 23 [some (.inr (.inr (0, 0))), some (.inl x1), some (.inl x2), some (.inl x3), some (.inl x4), some (.inl x5), none] [] σ := ⟨fun z8 => ((h).1 z8), fun z8 => ⟨fun z7 => ((((h).2 z8)).1 z7), fun z7 => ⟨by decide, ((((h).2 z8)).2 z7)⟩⟩⟩
set_option maxRecDepth 100000 in
theorem m_X0_leastRoom (l : Launch) (hb : ∀ (Wk : sv_K) (Kr : Option sv_AV → sv_S → Prop), (∀ (kind : Int32) (w : Int32) (σ : sv_S), F_X0_leastRoom_0 Wk Kr kind w σ → Wk 0 [some (.inr (.inr (0, 0))), some (.inl kind), some (.inl w), none, none, none, none] [] σ) → (∀ (x1 : Int32) (x2 : Int32) (x3 : Int32) (x4 : Int32) (x5 : Int32) (σ : sv_S), F_X0_leastRoom_23 Wk Kr x1 x2 x3 x4 x5 σ → Wk 23 [some (.inr (.inr (0, 0))), some (.inl x1), some (.inl x2), some (.inl x3), some (.inl x4), some (.inl x5), none] [] σ) → (∀ (kind : Int32) (w : Int32) (σ : sv_S), (∃ d : dD, ∃ c : Nat, ∃ k : Nat, ((RP d σ ∧ FI c d σ ∧ c < 1000000) ∧ (k < 2 ∧ kind = nI k)) ∧ (∀ v : Int32, ∀ σ2 : sv_S, v = lroom d k (w).toInt ∧ sq fgl σ σ2 ∧ FK c d σ2 → Kr (some (.inl v)) σ2)) → Wk 0 [some (.inr (.inr (0, 0))), some (.inl kind), some (.inl w), none, none, none, none] [] σ)) : sv_C l yX0_leastRoom cX0_leastRoom 7 (some .int) sv_all 6 151 sp_X0_leastRoom := by
  refine sv_meth sv_clok_all tb_X0_leastRoom T_X0_leastRoom (by decide) tbk_X0_leastRoom (Tok_X0_leastRoom l) ?_
  intro Wk Kr hc av σ hsp
  have hB := hb Wk Kr (fun kind w σ h => hc [(23, [true, true, true, true, true, true, false])] 500 0 _ _ _ (bk_X0_leastRoom_0 Wk Kr kind w σ h)) (fun x1 x2 x3 x4 x5 σ h => hc [(23, [true, true, true, true, true, true, false])] 500 23 _ _ _ (bk_X0_leastRoom_23 Wk Kr x1 x2 x3 x4 x5 σ h))
  unfold sp_X0_leastRoom at hsp
  split at hsp
  · exact ⟨⟨by simp, by simp [sv_cat]⟩, hB _ _ _ hsp⟩
  · exact hsp.elim
theorem le_w {b : Nat} (hb : b < 2 ^ 31) (w : Int32) : nI b ≤ w ↔ (b : Int) ≤ w.toInt := by rw [Int32.le_iff_toInt_le, nI_toInt hb]
set_option maxHeartbeats 4000000 in
set_option maxRecDepth 100000 in
theorem c_X0_leastRoom (l : Launch) : sv_C l yX0_leastRoom cX0_leastRoom 7 (some .int) sv_all 6 151 sp_X0_leastRoom := by
  refine m_X0_leastRoom l ?_
  intro Wk Kr e0 e23 kind w σ ⟨d, c, k, ⟨⟨hR, hFI, hc⟩, hk, hkd⟩, h⟩
  subst hkd
  apply e0
  refine ⟨d, c, k, 60, ⟨⟨hR, hFI, hc⟩, ⟨hk, rfl⟩, Nat.le_refl _, rfl⟩, fun v5 σ6 ⟨h5, hs6, hFK⟩ => ?_⟩
  have hbl := fun r => bst_lt hR.1 (r := r) hk
  subst h5
  refine ⟨fun z => ?_, fun z => ?_⟩
  · rw [le_w (by have := hbl 60; omega)] at z
    have key : ∀ m n lo hi σ', n + m = 60 → lo ≤ hi → hi ≤ 60 → hi - lo ≤ m → ((bst d k hi : Int) ≤ w.toInt) → (∀ r, r < lo → ¬ (bst d k r : Int) ≤ w.toInt) → sq fgl σ σ' → FK c d σ' → Wk 23 [some (.inr (.inr (0, 0))), some (.inl (nI k)), some (.inl w), some (.inl (nI lo)), some (.inl (nI hi)), some (.inl (nI n)), none] [] σ' := by
      intro m
      induction m with
      | zero =>
        intro n lo hi σ' hn hlh hh hm hb hl hs hF
        apply e23
        have fin : Kr (some (.inl (nI lo))) σ' := by
          refine h _ _ ⟨?_, hs, hF⟩
          have e : frs (lrp d k w.toInt) 61 = lo := frs_eq (by omega) (by unfold lrp; exact decide_eq_true (by rw [show lo = hi by omega]; exact hb)) (fun j hj => by unfold lrp; exact decide_eq_false (hl j hj))
          unfold lroom
          rw [e, if_pos (by omega)]
        exact pk_le 60 n (fun z => fin) (fun z => by omega)
      | succ m ih =>
        intro n lo hi σ' hn hlh hh hm hb hl hs hF
        apply e23
        have fin : lo = hi → Kr (some (.inl (nI lo))) σ' := by
          intro hq
          refine h _ _ ⟨?_, hs, hF⟩
          have e : frs (lrp d k w.toInt) 61 = lo := frs_eq (by omega) (by unfold lrp; exact decide_eq_true (by rw [hq]; exact hb)) (fun j hj => by unfold lrp; exact decide_eq_false (hl j hj))
          unfold lroom
          rw [e, if_pos (by omega)]
        unfold F_X0_leastRoom_23
        rw [nI_add, show (2 : Int32) = nI 2 from rfl, pk_div (by omega) (by omega) (by omega), nI_1, nI_1]
        refine pk_le 60 n (fun z => by omega) (fun z => pk_le hi lo (fun y => fin (by omega)) (fun y => ⟨d, c, k, (lo + hi) / 2, ⟨⟨RP_fr hR hs, FK_FI hF, hc⟩, ⟨hk, rfl⟩, by omega, rfl⟩, fun v5 σ6 ⟨h5, hs6, hFK⟩ => ?_⟩))
        subst h5
        refine ⟨fun y2 => ?_, fun y2 => ?_⟩
        · have y3 : ¬ nI (bst d k ((lo + hi) / 2)) ≤ w := Int32.not_le.mpr y2
          rw [le_w (by have := hbl ((lo + hi) / 2); omega)] at y3
          refine ih (n + 1) ((lo + hi) / 2 + 1) hi σ6 (by omega) (by omega) hh (by omega) hb (fun r hr => ?_) (sq_tr hs hs6) hFK
          have := bst_mono (d := d) (show r ≤ (lo + hi) / 2 by omega) k
          omega
        · have y3 : nI (bst d k ((lo + hi) / 2)) ≤ w := Int32.not_lt.mp y2
          rw [le_w (by have := hbl ((lo + hi) / 2); omega)] at y3
          exact ih (n + 1) lo ((lo + hi) / 2) σ6 (by omega) (by omega) (by omega) (by omega) y3 hl (sq_tr hs hs6) hFK
    exact key 60 0 0 60 σ6 (by omega) (by omega) (by omega) (by omega) z (fun r hr => by omega) hs6 hFK
  · rw [le_w (by have := hbl 60; omega)] at z
    refine h _ _ ⟨?_, hs6, hFK⟩
    unfold lroom
    rw [if_neg]
    intro hlt
    have h1 := frs_yes _ _ hlt
    unfold lrp at h1
    have h2 := of_decide_eq_true h1
    have := bst_mono (d := d) (show frs (lrp d k w.toInt) 61 ≤ 60 by omega) k
    exact z (by unfold lrp at this; omega)
-- ==== X0_stillCost
def sp_X0_stillCost : sv_P := fun av σ K => match av with
  | [.inr (.inr (0, 0)), .inl kind, .inl set] => ∃ d : dD, ∃ k : Nat, ∃ z : Nat, (RP d σ ∧ (k < 2 ∧ kind = nI k) ∧ (z < 32 ∧ set = nI z)) ∧ (∀ v : Int32, v = nI (stlC d k z) → K (some (.inl v)) σ)
  | _ => False
def tb_X0_stillCost : List (Nat × (Instr × Nat)) := [(0, (.aload_n 0, 1)), (1, (.getfield 39, 3)), (4, (.getfield 80, 3)), (7, (.ifCond .ne 5, 3)), (10, (.iconst 0, 1)), (11, (.ireturn, 1)), (12, (.aload_n 0, 1)), (13, (.getfield 39, 3)), (16, (.iload_n 2, 1)), (17, (.invokevirtual 83, 3)), (20, (.istore_n 3, 1)), (21, (.iconst 0, 1)), (22, (.istore 4, 2)), (24, (.iconst 0, 1)), (25, (.istore 5, 2)), (27, (.iload 5, 2)), (29, (.aload_n 0, 1)), (30, (.getfield 39, 3)), (33, (.getfield 80, 3)), (36, (.if_icmp .ge 38, 3)), (39, (.iload_n 3, 1)), (40, (.aload_n 0, 1)), (41, (.getfield 39, 3)), (44, (.iload 5, 2)), (46, (.iload_n 1, 1)), (47, (.iload_n 2, 1)), (48, (.invokevirtual 86, 3)), (51, (.iadd, 1)), (52, (.istore_n 3, 1)), (53, (.iload 4, 2)), (55, (.aload_n 0, 1)), (56, (.getfield 39, 3)), (59, (.getfield 90, 3)), (62, (.iload 5, 2)), (64, (.iaload, 1)), (65, (.ior, 1)), (66, (.istore 4, 2)), (68, (.iinc 5 1, 3)), (71, (.goto (-44), 3)), (74, (.iload_n 3, 1)), (75, (.aload_n 0, 1)), (76, (.getfield 39, 3)), (79, (.iload_n 2, 1)), (80, (.iload 4, 2)), (82, (.iand, 1)), (83, (.invokevirtual 83, 3)), (86, (.iadd, 1)), (87, (.ireturn, 1))]
set_option maxRecDepth 100000 in
theorem tbk_X0_stillCost : sv_tbok cX0_stillCost tb_X0_stillCost = true := by decide +kernel
def cal_X0_stillCost : List (Nat × (Nat × Nat × sv_P)) := [(83, (2, 2, sp_X2_carryOf)), (86, (4, 2, sp_X2_workOf))]
def T_X0_stillCost : sv_T := (flX0, sfX0, kcX0, klX0, cal_X0_stillCost)
set_option maxRecDepth 100000 in
theorem Tok_X0_stillCost (l : Launch) : sv_Tok l RX0 sv_all 3 65 T_X0_stillCost := ⟨flokX0, sfokX0, kcokX0, klokX0, List.forall_mem_cons.mpr ⟨⟨fun _ => sv_COv_of (c_X2_carryOf l) sv_clok_all (sv_mem 347 (by decide +kernel) rfl) kw_X2_carryOf.1 kw_X2_carryOf.2.1 kw_X2_carryOf.2.2.1 kw_X2_carryOf.2.2.2 kd_X2_carryOf rfl (by decide) (by decide +kernel) rfl (by decide), fun h => absurd h (by decide)⟩, List.forall_mem_cons.mpr ⟨⟨fun _ => sv_COv_of (c_X2_workOf l) sv_clok_all (sv_mem 356 (by decide +kernel) rfl) kw_X2_workOf.1 kw_X2_workOf.2.1 kw_X2_workOf.2.2.1 kw_X2_workOf.2.2.2 kd_X2_workOf rfl (by decide) (by decide +kernel) rfl (by decide), fun h => absurd h (by decide)⟩, fun _ h => absurd h List.not_mem_nil⟩⟩⟩
theorem kw_X0_stillCost : Cond.instanceMethod yX0_stillCost ∈ sv_tb ∧ Cond.selects yX0_stillCost.cls yX0_stillCost yX0_stillCost ∈ sv_tb ∧ Cond.initialized yX0_stillCost.cls ∈ sv_tb ∧ Cond.code yX0_stillCost cX0_stillCost 6 (some .int) ∈ sv_tb := ⟨sv_mem 344 (by decide +kernel) rfl, sv_mem 345 (by decide +kernel) rfl, sv_mem 54 (by decide +kernel) rfl, sv_mem 346 (by decide +kernel) rfl⟩
theorem kd_X0_stillCost : yX0_stillCost.cls ≠ "java/lang/invoke/MethodHandle" ∧ yX0_stillCost.cls ≠ "java/lang/invoke/VarHandle" ∧ (parseMethodDescriptor yX0_stillCost.desc).map (fun d => d.parameters.length) = some 2 := by decide +kernel
def F_X0_stillCost_0 (Wk : sv_K) (Kr : Option sv_AV → sv_S → Prop) (kind : Int32) (set : Int32) (σ : sv_S) : Prop := ((¬ (sv_gA σ 2 0 0) = (0 : Int32) → (∃ d1 : dD, ∃ c2 : Nat, (RP d1 σ ∧ (c2 < 32 ∧ set = nI c2)) ∧ (∀ v3 : Int32, v3 = nI (carry d1 c2) → Wk 27 [some (.inr (.inr (0, 0))), some (.inl kind), some (.inl set), some (.inl v3), some (.inl (0 : Int32)), some (.inl (0 : Int32))] [] σ))) ∧ ((sv_gA σ 2 0 0) = (0 : Int32) → Kr (some (.inl (0 : Int32))) σ))
set_option maxRecDepth 100000 in
theorem bk_X0_stillCost_0 (Wk : sv_K) (Kr : Option sv_AV → sv_S → Prop) (kind : Int32) (set : Int32) (σ : sv_S) (h : F_X0_stillCost_0 Wk Kr kind set σ) : sv_vc tb_X0_stillCost T_X0_stillCost sv_all (some .int) Kr [(27, [true, true, true, true, true, true])] Wk 500 0 [some (.inr (.inr (0, 0))), some (.inl kind), some (.inl set), none, none, none] [] σ := h
def F_X0_stillCost_27 (Wk : sv_K) (Kr : Option sv_AV → sv_S → Prop) (x1 : Int32) (x2 : Int32) (x3 : Int32) (x4 : Int32) (x5 : Int32) (σ : sv_S) : Prop := (((sv_gA σ 2 0 0) ≤ x5 → (∃ d1 : dD, ∃ c2 : Nat, (RP d1 σ ∧ (c2 < 32 ∧ (x2 &&& x4) = nI c2)) ∧ (∀ v3 : Int32, v3 = nI (carry d1 c2) → Kr (some (.inl (x3 + v3))) σ))) ∧ (¬ (sv_gA σ 2 0 0) ≤ x5 → (∃ d4 : dD, ∃ q5 : Nat, ∃ k6 : Nat, ∃ c7 : Nat, (RP d4 σ ∧ (q5 < dP d4 ∧ x5 = nI q5) ∧ (k6 < 2 ∧ x1 = nI k6) ∧ (c7 < 32 ∧ x2 = nI c7)) ∧ (∀ v8 : Int32, v8 = nI (work d4 q5 k6 c7) → (vp_in x5 10 ∧ Wk 27 [some (.inr (.inr (0, 0))), some (.inl x1), some (.inl x2), some (.inl (x3 + v8)), some (.inl (x4 ||| (sv_gA σ 28 0 x5.toNatClampNeg))), some (.inl (x5 + (1 : Int32)))] [] σ)))))
set_option maxRecDepth 100000 in
theorem bk_X0_stillCost_27 (Wk : sv_K) (Kr : Option sv_AV → sv_S → Prop) (x1 : Int32) (x2 : Int32) (x3 : Int32) (x4 : Int32) (x5 : Int32) (σ : sv_S) (h : F_X0_stillCost_27 Wk Kr x1 x2 x3 x4 x5 σ) : sv_vc tb_X0_stillCost T_X0_stillCost sv_all (some .int) Kr [(27, [true, true, true, true, true, true])] Wk 500 27 [some (.inr (.inr (0, 0))), some (.inl x1), some (.inl x2), some (.inl x3), some (.inl x4), some (.inl x5)] [] σ := h
set_option maxRecDepth 100000 in
theorem m_X0_stillCost (l : Launch) (hb : ∀ (Wk : sv_K) (Kr : Option sv_AV → sv_S → Prop), (∀ (kind : Int32) (set : Int32) (σ : sv_S), F_X0_stillCost_0 Wk Kr kind set σ → Wk 0 [some (.inr (.inr (0, 0))), some (.inl kind), some (.inl set), none, none, none] [] σ) → (∀ (x1 : Int32) (x2 : Int32) (x3 : Int32) (x4 : Int32) (x5 : Int32) (σ : sv_S), F_X0_stillCost_27 Wk Kr x1 x2 x3 x4 x5 σ → Wk 27 [some (.inr (.inr (0, 0))), some (.inl x1), some (.inl x2), some (.inl x3), some (.inl x4), some (.inl x5)] [] σ) → (∀ (kind : Int32) (set : Int32) (σ : sv_S), (∃ d : dD, ∃ k : Nat, ∃ z : Nat, (RP d σ ∧ (k < 2 ∧ kind = nI k) ∧ (z < 32 ∧ set = nI z)) ∧ (∀ v : Int32, v = nI (stlC d k z) → Kr (some (.inl v)) σ)) → Wk 0 [some (.inr (.inr (0, 0))), some (.inl kind), some (.inl set), none, none, none] [] σ)) : sv_C l yX0_stillCost cX0_stillCost 6 (some .int) sv_all 3 65 sp_X0_stillCost := by
  refine sv_meth sv_clok_all tb_X0_stillCost T_X0_stillCost (by decide) tbk_X0_stillCost (Tok_X0_stillCost l) ?_
  intro Wk Kr hc av σ hsp
  have hB := hb Wk Kr (fun kind set σ h => hc [(27, [true, true, true, true, true, true])] 500 0 _ _ _ (bk_X0_stillCost_0 Wk Kr kind set σ h)) (fun x1 x2 x3 x4 x5 σ h => hc [(27, [true, true, true, true, true, true])] 500 27 _ _ _ (bk_X0_stillCost_27 Wk Kr x1 x2 x3 x4 x5 σ h))
  unfold sp_X0_stillCost at hsp
  split at hsp
  · exact ⟨⟨by simp, by simp [sv_cat]⟩, hB _ _ _ hsp⟩
  · exact hsp.elim
set_option maxHeartbeats 4000000 in
set_option maxRecDepth 100000 in
theorem c_X0_stillCost (l : Launch) : sv_C l yX0_stillCost cX0_stillCost 6 (some .int) sv_all 3 65 sp_X0_stillCost := by
  refine m_X0_stillCost l ?_
  intro Wk Kr e0 e27 kind set σ ⟨d, k, z, ⟨hR, ⟨hk, hkd⟩, hz, hset⟩, h⟩
  subst hkd
  subst hset
  have hP := hR.1.1
  apply e0
  unfold F_X0_stillCost_0
  rw [hR.2.1]
  refine ⟨fun y => ?_, fun y => ?_⟩
  · have hp0 : dP d ≠ 0 := fun x => y (by rw [x]; rfl)
    refine ⟨d, z, ⟨hR, hz, rfl⟩, fun v3 h3 => ?_⟩
    subst h3
    have key : ∀ m n, n + m = dP d → Wk 27 [some (.inr (.inr (0, 0))), some (.inl (nI k)), some (.inl (nI z)), some (.inl (nI (carry d z + sm (fun p => work d p k z) n))), some (.inl (nI (wall d n))), some (.inl (nI n))] [] σ := by
      intro m
      induction m with
      | zero =>
        intro n hn
        apply e27
        unfold F_X0_stillCost_27
        rw [hR.2.1, and_nI _ hz _ (wall_lt d n)]
        refine pk_le (dP d) n (fun _ => ⟨d, z &&& wall d n, ⟨hR, and_lt hz, rfl⟩, fun v3 h3 => h _ ?_⟩) (fun z => by omega)
        rw [h3, nI_add, show n = dP d by omega]
        unfold stlC
        rw [if_neg hp0]
      | succ m ih =>
        intro n hn
        apply e27
        unfold F_X0_stillCost_27
        rw [hR.2.1, nI_clamp (by omega), hR.2.2.2.2.2.2.2.2 n (by omega), or_nI _ (wall_lt d n) _ (wset_lt d n), nI_1]
        refine pk_le (dP d) n (fun z => by omega) (fun _ => ⟨d, n, k, z, ⟨hR, ⟨by omega, rfl⟩, ⟨hk, rfl⟩, hz, rfl⟩, fun v8 h8 => ⟨pk_in n 10 (by omega), ?_⟩⟩)
        rw [h8, nI_add, Nat.add_assoc]
        exact ih (n + 1) (by omega)
    exact key (dP d) 0 (by omega)
  · have hp0 : dP d = 0 := (nI_eq (by omega) (by omega)).mp (show nI (dP d) = nI 0 from y)
    refine h _ ?_
    unfold stlC
    rw [if_pos hp0]
    rfl
-- ==== X0_stillSet
def sp_X0_stillSet : sv_P := fun av σ K => match av with
  | [.inr (.inr (0, 0)), .inl kind, .inl room] => ∃ d : dD, ∃ k : Nat, ∃ r : Nat, (RP d σ ∧ (k < 2 ∧ kind = nI k) ∧ (r ≤ 60 ∧ room = nI r)) ∧ (∀ v : Int32, v = nI (stlS d k r) → K (some (.inl v)) σ)
  | _ => False
def tb_X0_stillSet : List (Nat × (Instr × Nat)) := [(0, (.iconst 0, 1)), (1, (.istore_n 3, 1)), (2, (.aload_n 0, 1)), (3, (.iload_n 1, 1)), (4, (.iconst 0, 1)), (5, (.invokevirtual 69, 3)), (8, (.istore 4, 2)), (10, (.iconst 1, 1)), (11, (.istore 5, 2)), (13, (.iload 5, 2)), (15, (.aload_n 0, 1)), (16, (.getfield 39, 3)), (19, (.invokevirtual 72, 3)), (22, (.if_icmp .ge 48, 3)), (25, (.aload_n 0, 1)), (26, (.getfield 39, 3)), (29, (.iload 5, 2)), (31, (.invokevirtual 78, 3)), (34, (.iload_n 2, 1)), (35, (.if_icmp .le 6, 3)), (38, (.goto 26, 3)), (41, (.aload_n 0, 1)), (42, (.iload_n 1, 1)), (43, (.iload 5, 2)), (45, (.invokevirtual 69, 3)), (48, (.istore 6, 2)), (50, (.iload 6, 2)), (52, (.iload 4, 2)), (54, (.if_icmp .ge 10, 3)), (57, (.iload 6, 2)), (59, (.istore 4, 2)), (61, (.iload 5, 2)), (63, (.istore_n 3, 1)), (64, (.iinc 5 1, 3)), (67, (.goto (-54), 3)), (70, (.iload_n 3, 1)), (71, (.ireturn, 1))]
set_option maxRecDepth 100000 in
theorem tbk_X0_stillSet : sv_tbok cX0_stillSet tb_X0_stillSet = true := by decide +kernel
def cal_X0_stillSet : List (Nat × (Nat × Nat × sv_P)) := [(69, (3, 0, sp_X0_stillCost)), (72, (1, 2, sp_X2_countSets)), (78, (2, 2, sp_X2_cellsOf))]
def T_X0_stillSet : sv_T := (flX0, sfX0, kcX0, klX0, cal_X0_stillSet)
set_option maxRecDepth 100000 in
theorem Tok_X0_stillSet (l : Launch) : sv_Tok l RX0 sv_all 4 90 T_X0_stillSet := ⟨flokX0, sfokX0, kcokX0, klokX0, List.forall_mem_cons.mpr ⟨⟨fun _ => sv_COv_of (c_X0_stillCost l) sv_clok_all (sv_mem 343 (by decide +kernel) rfl) kw_X0_stillCost.1 kw_X0_stillCost.2.1 kw_X0_stillCost.2.2.1 kw_X0_stillCost.2.2.2 kd_X0_stillCost rfl (by decide) (by decide +kernel) rfl (by decide), fun h => absurd h (by decide)⟩, List.forall_mem_cons.mpr ⟨⟨fun _ => sv_COv_of (c_X2_countSets l) sv_clok_all (sv_mem 361 (by decide +kernel) rfl) kw_X2_countSets.1 kw_X2_countSets.2.1 kw_X2_countSets.2.2.1 kw_X2_countSets.2.2.2 kd_X2_countSets rfl (by decide) (by decide +kernel) rfl (by decide), fun h => absurd h (by decide)⟩, List.forall_mem_cons.mpr ⟨⟨fun _ => sv_COv_of (c_X2_cellsOf l) sv_clok_all (sv_mem 362 (by decide +kernel) rfl) kw_X2_cellsOf.1 kw_X2_cellsOf.2.1 kw_X2_cellsOf.2.2.1 kw_X2_cellsOf.2.2.2 kd_X2_cellsOf rfl (by decide) (by decide +kernel) rfl (by decide), fun h => absurd h (by decide)⟩, fun _ h => absurd h List.not_mem_nil⟩⟩⟩⟩
theorem kw_X0_stillSet : Cond.instanceMethod yX0_stillSet ∈ sv_tb ∧ Cond.selects yX0_stillSet.cls yX0_stillSet yX0_stillSet ∈ sv_tb ∧ Cond.initialized yX0_stillSet.cls ∈ sv_tb ∧ Cond.code yX0_stillSet cX0_stillSet 7 (some .int) ∈ sv_tb := ⟨sv_mem 340 (by decide +kernel) rfl, sv_mem 341 (by decide +kernel) rfl, sv_mem 54 (by decide +kernel) rfl, sv_mem 342 (by decide +kernel) rfl⟩
theorem kd_X0_stillSet : yX0_stillSet.cls ≠ "java/lang/invoke/MethodHandle" ∧ yX0_stillSet.cls ≠ "java/lang/invoke/VarHandle" ∧ (parseMethodDescriptor yX0_stillSet.desc).map (fun d => d.parameters.length) = some 2 := by decide +kernel
def F_X0_stillSet_0 (Wk : sv_K) (Kr : Option sv_AV → sv_S → Prop) (kind : Int32) (room : Int32) (σ : sv_S) : Prop := (∃ d1 : dD, ∃ k2 : Nat, ∃ z3 : Nat, (RP d1 σ ∧ (k2 < 2 ∧ kind = nI k2) ∧ (z3 < 32 ∧ (0 : Int32) = nI z3)) ∧ (∀ v4 : Int32, v4 = nI (stlC d1 k2 z3) → Wk 13 [some (.inr (.inr (0, 0))), some (.inl kind), some (.inl room), some (.inl (0 : Int32)), some (.inl v4), some (.inl (1 : Int32)), none] [] σ))
set_option maxRecDepth 100000 in
theorem bk_X0_stillSet_0 (Wk : sv_K) (Kr : Option sv_AV → sv_S → Prop) (kind : Int32) (room : Int32) (σ : sv_S) (h : F_X0_stillSet_0 Wk Kr kind room σ) : sv_vc tb_X0_stillSet T_X0_stillSet sv_all (some .int) Kr [(13, [true, true, true, true, true, true, false])] Wk 500 0 [some (.inr (.inr (0, 0))), some (.inl kind), some (.inl room), none, none, none, none] [] σ := h
def F_X0_stillSet_13 (Wk : sv_K) (Kr : Option sv_AV → sv_S → Prop) (x1 : Int32) (x2 : Int32) (x3 : Int32) (x4 : Int32) (x5 : Int32) (σ : sv_S) : Prop := (∃ d1 : dD, (RP d1 σ) ∧ (∀ v2 : Int32, v2 = nI (2 ^ dT d1) → ((v2 ≤ x5 → Kr (some (.inl x3)) σ) ∧ (¬ v2 ≤ x5 → (∃ d3 : dD, ∃ c4 : Nat, (RP d3 σ ∧ (c4 < 32 ∧ x5 = nI c4)) ∧ (∀ v5 : Int32, v5 = nI (cells d3 c4) → ((v5 ≤ x2 → (∃ d6 : dD, ∃ k7 : Nat, ∃ z8 : Nat, (RP d6 σ ∧ (k7 < 2 ∧ x1 = nI k7) ∧ (z8 < 32 ∧ x5 = nI z8)) ∧ (∀ v9 : Int32, v9 = nI (stlC d6 k7 z8) → ((x4 ≤ v9 → Wk 13 [some (.inr (.inr (0, 0))), some (.inl x1), some (.inl x2), some (.inl x3), some (.inl x4), some (.inl (x5 + (1 : Int32))), none] [] σ) ∧ (¬ x4 ≤ v9 → Wk 13 [some (.inr (.inr (0, 0))), some (.inl x1), some (.inl x2), some (.inl x5), some (.inl v9), some (.inl (x5 + (1 : Int32))), none] [] σ))))) ∧ (¬ v5 ≤ x2 → Wk 13 [some (.inr (.inr (0, 0))), some (.inl x1), some (.inl x2), some (.inl x3), some (.inl x4), some (.inl (x5 + (1 : Int32))), none] [] σ))))))))
set_option maxRecDepth 100000 in
theorem bk_X0_stillSet_13 (Wk : sv_K) (Kr : Option sv_AV → sv_S → Prop) (x1 : Int32) (x2 : Int32) (x3 : Int32) (x4 : Int32) (x5 : Int32) (σ : sv_S) (h : F_X0_stillSet_13 Wk Kr x1 x2 x3 x4 x5 σ) : sv_vc tb_X0_stillSet T_X0_stillSet sv_all (some .int) Kr [(13, [true, true, true, true, true, true, false])] Wk 500 13 [some (.inr (.inr (0, 0))), some (.inl x1), some (.inl x2), some (.inl x3), some (.inl x4), some (.inl x5), none] [] σ := h
set_option maxRecDepth 100000 in
theorem m_X0_stillSet (l : Launch) (hb : ∀ (Wk : sv_K) (Kr : Option sv_AV → sv_S → Prop), (∀ (kind : Int32) (room : Int32) (σ : sv_S), F_X0_stillSet_0 Wk Kr kind room σ → Wk 0 [some (.inr (.inr (0, 0))), some (.inl kind), some (.inl room), none, none, none, none] [] σ) → (∀ (x1 : Int32) (x2 : Int32) (x3 : Int32) (x4 : Int32) (x5 : Int32) (σ : sv_S), F_X0_stillSet_13 Wk Kr x1 x2 x3 x4 x5 σ → Wk 13 [some (.inr (.inr (0, 0))), some (.inl x1), some (.inl x2), some (.inl x3), some (.inl x4), some (.inl x5), none] [] σ) → (∀ (kind : Int32) (room : Int32) (σ : sv_S), (∃ d : dD, ∃ k : Nat, ∃ r : Nat, (RP d σ ∧ (k < 2 ∧ kind = nI k) ∧ (r ≤ 60 ∧ room = nI r)) ∧ (∀ v : Int32, v = nI (stlS d k r) → Kr (some (.inl v)) σ)) → Wk 0 [some (.inr (.inr (0, 0))), some (.inl kind), some (.inl room), none, none, none, none] [] σ)) : sv_C l yX0_stillSet cX0_stillSet 7 (some .int) sv_all 4 90 sp_X0_stillSet := by
  refine sv_meth sv_clok_all tb_X0_stillSet T_X0_stillSet (by decide) tbk_X0_stillSet (Tok_X0_stillSet l) ?_
  intro Wk Kr hc av σ hsp
  have hB := hb Wk Kr (fun kind room σ h => hc [(13, [true, true, true, true, true, true, false])] 500 0 _ _ _ (bk_X0_stillSet_0 Wk Kr kind room σ h)) (fun x1 x2 x3 x4 x5 σ h => hc [(13, [true, true, true, true, true, true, false])] 500 13 _ _ _ (bk_X0_stillSet_13 Wk Kr x1 x2 x3 x4 x5 σ h))
  unfold sp_X0_stillSet at hsp
  split at hsp
  · exact ⟨⟨by simp, by simp [sv_cat]⟩, hB _ _ _ hsp⟩
  · exact hsp.elim
theorem bestv_succ (f : Nat → Nat) (ok : Nat → Bool) (n : Nat) : bestv f ok (n + 1) = if ok n = true ∧ f n < bestv f ok n then f n else bestv f ok n := rfl
theorem besti_succ (f : Nat → Nat) (ok : Nat → Bool) (n : Nat) : besti f ok (n + 1) = if ok n = true ∧ f n < bestv f ok n then n else besti f ok n := rfl
theorem stlC_lt {d : dD} (h : wfP d) {k : Nat} (hk : k < 2) (s : Nat) : stlC d k s < 2000000 := by
  unfold stlC
  split
  · omega
  · have h1 := carry_le h s
    have h2 := carry_le h (s &&& wall d (dP d))
    have h3 : sm (fun p => work d p k s) (dP d) ≤ dP d * 178200 := sm_le _ (fun p hp => work_le h hp hk s)
    have h4 := h.1
    omega
set_option maxHeartbeats 4000000 in
set_option maxRecDepth 100000 in
theorem c_X0_stillSet (l : Launch) : sv_C l yX0_stillSet cX0_stillSet 7 (some .int) sv_all 4 90 sp_X0_stillSet := by
  refine m_X0_stillSet l ?_
  intro Wk Kr e0 e13 kind room σ ⟨d, k, r, ⟨hR, ⟨hk, hkd⟩, hr, hroom⟩, h⟩
  subst hkd
  subst hroom
  have h32 := two_pow_le hR.1
  have hpos : 0 < 2 ^ dT d := Nat.two_pow_pos _
  have hb := fun s => stlC_lt hR.1 hk s
  have hbv : ∀ n, 0 < n → bestv (stlC d k) (okr d r) n < 2000000 := fun n hn => Nat.lt_of_le_of_lt (bestv_le (f := stlC d k) hn (okr_0 d r)) (hb 0)
  have key : ∀ m n, 0 < n → n + m = 2 ^ dT d → Wk 13 [some (.inr (.inr (0, 0))), some (.inl (nI k)), some (.inl (nI r)), some (.inl (nI (besti (stlC d k) (okr d r) n))), some (.inl (nI (bestv (stlC d k) (okr d r) n))), some (.inl (nI n)), none] [] σ := by
    intro m
    induction m with
    | zero =>
      intro n h0 hn
      apply e13
      refine ⟨d, hR, fun v2 hv => ?_⟩
      subst hv
      exact pk_le (2 ^ dT d) n (fun _ => h _ (by rw [show n = 2 ^ dT d by omega]; rfl)) (fun z => by omega)
    | succ m ih =>
      intro n h0 hn
      have ihn := ih (n + 1) (by omega) (by omega)
      rw [besti_succ, bestv_succ] at ihn
      have hc := cells_le hR.1 n
      have hbn := hbv n h0
      have hsn := hb n
      apply e13
      refine ⟨d, hR, fun v2 hv => ?_⟩
      subst hv
      rw [nI_1]
      refine pk_le (2 ^ dT d) n (fun z => by omega) (fun _ => ⟨d, n, ⟨hR, by omega, rfl⟩, fun v5 h5 => ?_⟩)
      subst h5
      refine pk_le (cells d n) r (fun y => ⟨d, k, n, ⟨hR, ⟨hk, rfl⟩, by omega, rfl⟩, fun v9 h9 => ?_⟩) (fun y => ?_)
      · subst h9
        have ho : okr d r n = true := by unfold okr; exact decide_eq_true y
        refine pk_le (bestv (stlC d k) (okr d r) n) (stlC d k n) (fun x => ?_) (fun x => ?_)
        · rw [if_neg (fun q => by omega), if_neg (fun q => by omega)] at ihn
          exact ihn
        · rw [if_pos ⟨ho, x⟩, if_pos ⟨ho, x⟩] at ihn
          exact ihn
      · have ho : ¬ okr d r n = true := fun q => by unfold okr at q; have := of_decide_eq_true q; omega
        rw [if_neg (fun q => ho q.1), if_neg (fun q => ho q.1)] at ihn
        exact ihn
  apply e0
  refine ⟨d, k, 0, ⟨hR, ⟨hk, rfl⟩, by omega, rfl⟩, fun v4 h4 => ?_⟩
  subst h4
  have k1 := key (2 ^ dT d - 1) 1 (by omega) (by omega)
  have ho := okr_0 d r
  have hs0 := hb 0
  have e1 : besti (stlC d k) (okr d r) 1 = 0 := by
    unfold besti
    split
    · rfl
    · rfl
  have e2 : bestv (stlC d k) (okr d r) 1 = stlC d k 0 := by
    unfold bestv
    rw [if_pos ⟨ho, by show stlC d k 0 < 1000000000; omega⟩]
  rw [e1, e2] at k1
  exact k1
