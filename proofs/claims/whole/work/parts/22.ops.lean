/-! the operations: what each answers, and the data behind it -/
def xg : List Nat := [0, 1, 2, 3, 4, 6, 7, 8, 9, 10, 11, 12, 13, 14, 15, 16, 17, 18, 19, 20, 21, 22, 23, 24, 25, 26, 27, 28, 29, 30]
def xn (x : Int32) : Nat := x.toNatClampNeg
def d_part (d : dD) (r w : Nat) : dD := ((dP d + 1, dT d), fun k p => if p = dP d then (if k = 0 then r else w) else dR d k p, dZ d, fun t p => if p = dP d then 0 else dr d t p, fun t p => if p = dP d then 0 else dw d t p, dS d, fun p => if p = dP d then 0 else dL d p)
def d_runs (d : dD) (q r w : Nat) : dD := ((dP d, dT d), fun k p => if p = q then (if k = 0 then r else w) else dR d k p, dZ d, dr d, dw d, dS d, dL d)
def d_cut (d : dD) : dD := ((dP d - 1, dT d), dR d, dZ d, dr d, dw d, dS d, dL d)
def d_thing (d : dD) (z : Nat) : dD := ((dP d, dT d + 1), dR d, fun t => if t = dT d then z else dZ d t, dr d, dw d, dS d, dL d)
def d_uses (d : dD) (k q r w : Nat) : dD := ((dP d, dT d), dR d, dZ d, fun t p => if t = k ∧ p = q then r else dr d t p, fun t p => if t = k ∧ p = q then w else dw d t p, dS d, dL d)
def d_size (d : dD) (k z : Nat) : dD := ((dP d, dT d), dR d, fun t => if t = k then z else dZ d t, dr d, dw d, dS d, dL d)
def d_set (d : dD) (k v : Nat) : dD := ((dP d, dT d), dR d, dZ d, dr d, dw d, fun j => if j = k then v else dS d j, dL d)
def d_plan (d : dD) (q s : Nat) : dD := ((dP d, dT d), dR d, dZ d, dr d, dw d, dS d, fun p => if p = q then s else dL d p)
def d_take (d : dD) (L : Nat → Nat) : dD := ((dP d, dT d), dR d, dZ d, dr d, dw d, dS d, L)
def okR (r w : Int32) : Prop := ((1 : Int32) ≤ r ∧ r ≤ 99) ∧ (r ≤ w ∧ w ≤ 99)
def okS (d : dD) (k v : Int32) : Prop := (k = 0 ∧ (0 : Int32) ≤ v ∧ v ≤ 60) ∨ (k = 1 ∧ ((1 : Int32) ≤ v ∧ nI (dS d 2) ≤ v) ∧ v ≤ 20) ∨ (k = 2 ∧ (0 : Int32) ≤ v ∧ v ≤ nI (dS d 1)) ∨ (k = 3 ∧ (0 : Int32) ≤ v ∧ v ≤ 20)
def okU (r w : Int32) : Prop := ((0 : Int32) ≤ r ∧ r ≤ 9) ∧ ((0 : Int32) ≤ w ∧ w ≤ 9)
def ok2 (x : Int32) : Prop := x = 0 ∨ x = 1
/-- a choice by a proposition -/
noncomputable def ch {α : Type} (c : Prop) (a b : α) : α := @ite α c (Classical.propDecidable c) a b
theorem ch_t {α : Type} {c : Prop} (h : c) (a b : α) : ch c a b = a := @if_pos c (Classical.propDecidable c) h α a b
theorem ch_f {α : Type} {c : Prop} (h : ¬ c) (a b : α) : ch c a b = b := @if_neg c (Classical.propDecidable c) h α a b
noncomputable def A_part (d : dD) (r w : Int32) : Int32 := ch (okR r w) (ch (dP d = 10) (-4) (nI (dP d))) (-2)
noncomputable def U_part (d : dD) (r w : Int32) : dD := ch (okR r w ∧ dP d < 10) (d_part d (xn r) (xn w)) d
noncomputable def A_runs (d : dD) (p r w : Int32) : Int32 := ch (isN (dP d) p) (ch (okR r w) 1 (-2)) (-1)
noncomputable def U_runs (d : dD) (p r w : Int32) : dD := ch (isN (dP d) p ∧ okR r w) (d_runs d (xn p) (xn r) (xn w)) d
noncomputable def A_cut (d : dD) : Int32 := ch (dP d = 0) (-3) (nI (dP d - 1))
noncomputable def U_cut (d : dD) : dD := ch (dP d = 0) d (d_cut d)
noncomputable def A_thing (d : dD) (z : Int32) : Int32 := ch ((1 : Int32) ≤ z ∧ z ≤ 20) (ch (dT d = 5) (-4) (nI (dT d))) (-2)
noncomputable def U_thing (d : dD) (z : Int32) : dD := ch (((1 : Int32) ≤ z ∧ z ≤ 20) ∧ dT d < 5) (d_thing d (xn z)) d
noncomputable def A_uses (d : dD) (t p r w : Int32) : Int32 := ch (isN (dT d) t ∧ isN (dP d) p) (ch (okU r w) (nI (dr d (xn t) (xn p) + dw d (xn t) (xn p))) (-2)) (-1)
noncomputable def U_uses (d : dD) (t p r w : Int32) : dD := ch ((isN (dT d) t ∧ isN (dP d) p) ∧ okU r w) (d_uses d (xn t) (xn p) (xn r) (xn w)) d
noncomputable def A_size (d : dD) (t z : Int32) : Int32 := ch (isN (dT d) t) (ch ((1 : Int32) ≤ z ∧ z ≤ 20) (nI (dZ d (xn t))) (-2)) (-1)
noncomputable def U_size (d : dD) (t z : Int32) : dD := ch (isN (dT d) t ∧ ((1 : Int32) ≤ z ∧ z ≤ 20)) (d_size d (xn t) (xn z)) d
noncomputable def A_setting (d : dD) (k v : Int32) : Int32 := ch (okS d k v) (nI (dS d (xn k))) (-2)
noncomputable def U_setting (d : dD) (k v : Int32) : dD := ch (okS d k v) (d_set d (xn k) (xn v)) d
def inT (d : dD) (f : Nat) (x : Int32) : Prop := ∃ t, t < dT d ∧ x = nI (f + t)
noncomputable def A_ofPart (d : dD) (p x : Int32) : Int32 := ch (isN (dP d) p) (ch (x = 0) (nI (dR d 0 (xn p))) (ch (x = 1) (nI (dR d 1 (xn p))) (ch (inT d 10 x) (nI (dr d (xn x - 10) (xn p))) (ch (inT d 20 x) (nI (dw d (xn x - 20) (xn p))) (-2))))) (-1)
noncomputable def A_plan (d : dD) (p s : Int32) : Int32 := ch (isN (dP d) p) (ch (isN (2 ^ dT d) s) (nI (dL d (xn p))) (-2)) (-1)
noncomputable def U_plan (d : dD) (p s : Int32) : dD := ch (isN (dP d) p ∧ isN (2 ^ dT d) s) (d_plan d (xn p) (xn s)) d
/-- the plan that take lays -/
noncomputable def tkL (d : dD) (h k : Int32) : Nat → Nat := ch (h = 0) (bsp d (xn k) (dS d 0)) (fun _ => stlS d (xn k) (dS d 0))
noncomputable def A_take (d : dD) (h k : Int32) : Int32 := ch (ok2 h ∧ ok2 k) (ch (dP d = 0) (-3) (nI (costL d (tkL d h k) (xn k)))) (-2)
noncomputable def U_take (d : dD) (h k : Int32) : dD := ch ((ok2 h ∧ ok2 k) ∧ dP d ≠ 0) (d_take d (tkL d h k)) d
noncomputable def A_planned (d : dD) (p : Int32) : Int32 := ch (isN (dP d) p) (nI (dL d (xn p))) (-1)
def msf (d : dD) (p : Nat) : Bool := decide (dS d 0 < cells d (dL d p))
def A_misfit (d : dD) : Int32 := if frs (msf d) (dP d) < dP d then nI (frs (msf d) (dP d)) else -9
noncomputable def A_cost (d : dD) (k : Int32) : Int32 := ch (ok2 k) (nI (costL d (dL d) (xn k))) (-2)
def cntF (d : dD) (a : Nat) : Nat := sm (fun p => sd_pc (fetL (dL d) p &&& a)) (dP d)
def cntR (d : dD) (a : Nat) : Nat := sm (fun p => sd_pc (rtnL d (dL d) p &&& a)) (dP d)
noncomputable def A_carried (d : dD) (x : Int32) : Int32 := ch (x = 0) (nI (cntF d (2 ^ dT d - 1))) (ch (x = 1) (nI (cntR d (2 ^ dT d - 1))) (ch (inT d 10 x) (nI (cntF d (2 ^ (xn x - 10)))) (ch (inT d 20 x) (nI (cntR d (2 ^ (xn x - 20)))) (-2))))
noncomputable def A_best (d : dD) (h k r : Int32) : Int32 := ch ((ok2 h ∧ ok2 k) ∧ ((0 : Int32) ≤ r ∧ r ≤ 60)) (ch (h = 0) (nI (bst d (xn k) (xn r))) (nI (stlC d (xn k) (stlS d (xn k) (xn r))))) (-2)
noncomputable def A_bestSet (d : dD) (p h k : Int32) : Int32 := ch (isN (dP d) p) (ch (ok2 h ∧ ok2 k) (ch (h = 0) (nI (bsp d (xn k) (dS d 0) (xn p))) (nI (stlS d (xn k) (dS d 0)))) (-2)) (-1)
noncomputable def A_room (d : dD) (k v : Int32) : Int32 := ch (ok2 k ∧ ((0 : Int32) ≤ v ∧ v ≤ 9999999)) (lroom d (xn k) v.toInt) (-2)
/-- the drops, one by one: the least room that beats the cost before -/
def frsO (p : Nat → Bool) (n : Nat) : Option Nat := if frs p n < n then some (frs p n) else none
theorem frsO_lt {p : Nat → Bool} {n a : Nat} (h : frsO p n = some a) : a < n := by
  unfold frsO at h
  by_cases c : frs p n < n
  · rw [if_pos c] at h
    have := Option.some.inj h
    omega
  · rw [if_neg c] at h
    cases h
theorem fpI_frsO (p : Nat → Bool) (n : Nat) : (if frs p n < n then nI (frs p n) else -9) = fpI (frsO p n) := by
  unfold frsO
  by_cases c : frs p n < n
  · rw [if_pos c, if_pos c]
    rfl
  · rw [if_neg c, if_neg c]
    rfl
def lr1 (d : dD) (k : Nat) (w : Int) : Option Nat := frsO (lrp d k w) 61
theorem lroom_lr1 (d : dD) (k : Nat) (w : Int) : lroom d k w = fpI (lr1 d k w) := fpI_frsO _ _
theorem lr1_le {d : dD} {k : Nat} {w : Int} {a : Nat} (h : lr1 d k w = some a) : a ≤ 60 := Nat.le_of_lt_succ (frsO_lt h)
def drp (d : dD) (k : Nat) : Nat → Option Nat
  | 0 => some 0
  | n + 1 => (drp d k n).bind (fun r => lr1 d k ((bst d k r : Int) - 1))
noncomputable def A_drop (d : dD) (k j : Int32) : Int32 := ch (ok2 k ∧ ((0 : Int32) ≤ j ∧ j ≤ 59)) (fpI (drp d (xn k) (xn j + 1))) (-2)
noncomputable def shp (d : dD) (o n t : Nat) : Int32 := match shl d (dL d) (ordX (dT d) o) n with
  | some q => fpI (q.1 t)
  | none => -9
noncomputable def A_place (d : dD) (t p o : Int32) : Int32 := ch (isN (dT d) t ∧ isN (dP d) p) (ch (isN (fct (dT d)) o) (ch ((dL d (xn p)).testBit (xn t) = true) (shp d (xn o) (xn p + 1) (xn t)) (-9)) (-2)) (-1)
noncomputable def A_stuck (d : dD) (o : Int32) : Int32 := ch (isN (fct (dT d)) o) (stkN d (xn o) (dP d)) (-2)
noncomputable def stkB (d : dD) (o : Nat) : Bool := (shl d (dL d) (ordX (dT d) o) (dP d)).isSome
noncomputable def A_order (d : dD) : Int32 := ch (frs (stkB d) (fct (dT d)) < fct (dT d)) (nI (frs (stkB d) (fct (dT d)))) (-9)
noncomputable def rch (d : dD) (o : Nat) : Int32 := match shl d (dL d) (ordX (dT d) o) (dP d) with
  | some q => nI q.2
  | none => -9
noncomputable def A_reach (d : dD) (o : Int32) : Int32 := ch (isN (fct (dT d)) o) (rch d (xn o)) (-2)
noncomputable def A_ofTime (d : dD) (p k x : Int32) : Int32 := ch (isN (dP d) p) (ch (ok2 k ∧ ((0 : Int32) ≤ x ∧ x ≤ 2)) (ch (x = 0) (nI (work d (xn p) (xn k) (dL d (xn p)))) (ch (x = 1) (nI (loadL d (dL d) (xn p))) (nI (stallL d (dL d) (xn k) (xn p))))) (-2)) (-1)
noncomputable def A_time (d : dD) (k : Int32) : Int32 := ch (ok2 k) (nI (timeL d (dL d) (xn k))) (-2)
noncomputable def A_many (d : dD) (x : Int32) : Int32 := ch (x = 0) (nI (dP d)) (ch (x = 1) (nI (dT d)) (ch (x = 2) (nI (cntF d (2 ^ dT d - 1))) (ch (x = 3) (nI (fct (dT d))) (-2))))
/-- the class's object holds the data -/
def WI (σ : sv_S) : Prop := ∀ p, p < 10 → ∃ n, n < 32 ∧ sv_gA σ 28 0 p = nI n
def CI (c : Nat) (d : dD) (σ : sv_S) : Prop := RP d σ ∧ RQ d σ ∧ FI c d σ ∧ WI σ
theorem xn_nI {n : Nat} (h : n < 2 ^ 31) : xn (nI n) = n := nI_clamp h
/-- a number between two literals -/
theorem lit_in {v : Int32} {a b : Nat} (hb : b < 2 ^ 31) (h : nI a ≤ v ∧ v ≤ nI b) (ha : a ≤ b) : ∃ n, a ≤ n ∧ n ≤ b ∧ v = nI n := by
  have h1 := h.1
  have h2 := h.2
  rw [Int32.le_iff_toInt_le, nI_toInt (by omega)] at h1
  rw [Int32.le_iff_toInt_le, nI_toInt hb] at h2
  obtain ⟨n, hn, rfl⟩ := nI_of (x := v) (by rw [Int32.lt_iff_toInt_lt]; show ¬ _ < (0 : Int); omega)
  rw [nI_toInt hn] at h1 h2
  exact ⟨n, by omega, by omega, rfl⟩
theorem okR_of {r w : Int32} (h : okR r w) : ∃ a b, (1 ≤ a ∧ a ≤ b ∧ b ≤ 99) ∧ r = nI a ∧ w = nI b := by
  obtain ⟨h1, h2⟩ := h
  obtain ⟨a, ha1, ha2, rfl⟩ := lit_in (a := 1) (b := 99) (by omega) h1 (by omega)
  obtain ⟨b, hb1, hb2, rfl⟩ := lit_in (a := a) (b := 99) (by omega) h2 (by omega)
  exact ⟨a, b, by omega, rfl, rfl⟩
/-- the finder's memory behind a change -/
theorem FI_chg {c k : Nat} {d d' : dD} {σ σ' : sv_S} (h : FI c d σ) (hk : 1 ≤ k) (hk2 : k ≤ 6) (hT : FT σ') (h1 : sv_gA σ' 2 0 2 = sv_gA σ 2 0 2 + nI k) (h2 : sv_gA σ' 0 0 1 = sv_gA σ 0 0 1) : FI (c + 6) d' σ' := by
  obtain ⟨-, ch, hch, hc1, hs⟩ := h
  refine ⟨hT, ch + k, by omega, by rw [h1, hc1, nI_add], ?_⟩
  rw [h2]
  rcases hs with hs | ⟨s, hs1, hs2, -⟩
  · exact Or.inl hs
  · exact Or.inr ⟨s, by omega, hs2, fun e => by omega⟩
theorem CV_of {d d' : dD} {σ σ' : sv_S} (h : CV d σ) (e : ∀ g, g = 9 ∨ g = 13 ∨ g = 15 ∨ g = 16 → ∀ i j, sv_gA σ' g i j = sv_gA σ g i j) (hT : dT d' = dT d) (hP : dP d' = dP d) (hc : ∀ s, cells d' s = cells d s) (hb : ∀ k r, bst d' k r = bst d k r) (hs : ∀ k r p, bsp d' k r p = bsp d k r p) : CV d' σ' := by
  refine ⟨fun s hs2 => ?_, fun k r hk hr => ?_, fun k hk => ?_⟩
  · rw [hT] at hs2
    rw [e _ (Or.inl rfl), hc]
    exact h.1 s hs2
  · rw [e _ (Or.inr (Or.inl rfl)), hb]
    exact h.2.1 k r hk hr
  · rw [e _ (Or.inr (Or.inr (Or.inr rfl)))]
    rcases h.2.2 k hk with y | ⟨r, hr, y1, y2⟩
    · exact Or.inl y
    · exact Or.inr ⟨r, hr, y1, fun p hp => by rw [e _ (Or.inr (Or.inr (Or.inl rfl))), hs]; exact y2 p (by rw [← hP]; exact hp)⟩
/-- the same data but for the plan and the room -/
theorem FI_same {c : Nat} {d d' : dD} {σ σ' : sv_S} (h : FI c d σ) (e : ∀ g, g = 9 ∨ g = 13 ∨ g = 15 ∨ g = 16 → ∀ i j, sv_gA σ' g i j = sv_gA σ g i j) (hT : FT σ') (h1 : sv_gA σ' 2 0 2 = sv_gA σ 2 0 2) (h2 : sv_gA σ' 0 0 1 = sv_gA σ 0 0 1)
    (eT : dT d' = dT d) (eP : dP d' = dP d) (hc : ∀ s, cells d' s = cells d s) (hb : ∀ k r, bst d' k r = bst d k r) (hs : ∀ k r p, bsp d' k r p = bsp d k r p) : FI (c + 6) d' σ' := by
  obtain ⟨-, ch, hch, hc1, hse⟩ := h
  refine ⟨hT, ch, by omega, by rw [h1, hc1], ?_⟩
  rw [h2]
  rcases hse with hs3 | ⟨s, hs1, hs2, hs3⟩
  · exact Or.inl hs3
  · exact Or.inr ⟨s, hs1, hs2, fun z => CV_of (hs3 z) e eT eP hc hb hs⟩
theorem FI_fr {c : Nat} {d : dD} {σ σ' : sv_S} {gl : List Nat} (h : FI c d σ) (e : sq gl σ σ') (hg : (∀ g ∈ ([2, 0, 6, 8, 9, 13, 15, 16] : List Nat), g ∉ gl) := by decide) : FI (c + 6) d σ' :=
  FI_same h (fun g hq i j => e.1 g (hg g (by rcases hq with rfl | rfl | rfl | rfl <;> decide)) i j) ⟨fun s hs => by rw [e.1 _ (hg _ (by decide))]; exact h.1.1 s hs, fun t i ht hi => by rw [e.1 _ (hg _ (by decide))]; exact h.1.2 t i ht hi⟩ (e.1 _ (hg _ (by decide)) _ _) (e.1 _ (hg _ (by decide)) _ _) rfl rfl (fun _ => rfl) (fun _ _ => rfl) (fun _ _ _ => rfl)
theorem WI_fr {σ σ' : sv_S} {gl : List Nat} (h : WI σ) (e : sq gl σ σ') (hg : 28 ∉ gl := by decide) : WI σ' := fun p hp => by rw [e.1 _ hg]; exact h p hp
theorem FI_mono {c : Nat} {d : dD} {σ : sv_S} (h : FI c d σ) : FI (c + 6) d σ := FI_fr h (sq_rf [] σ)
theorem CI_mono {c : Nat} {d : dD} {σ : sv_S} (h : CI c d σ) : CI (c + 6) d σ := ⟨h.1, h.2.1, FI_mono h.2.2.1, h.2.2.2⟩
theorem CI_fr {c : Nat} {d : dD} {σ σ' : sv_S} {gl : List Nat} (h : CI c d σ) (e : sq gl σ σ') (hg : (∀ g ∈ ([2, 20, 22, 23, 25, 27, 28, 17, 0, 6, 8, 9, 13, 15, 16] : List Nat), g ∉ gl) := by decide) : CI (c + 6) d σ' :=
  ⟨RP_fr h.1 e (fun g hm => hg g ((by decide : ∀ g ∈ ([2, 20, 22, 23, 25, 27, 28] : List Nat), g ∈ ([2, 20, 22, 23, 25, 27, 28, 17, 0, 6, 8, 9, 13, 15, 16] : List Nat)) g hm)), RQ_fr h.2.1 e (hg _ (by decide)), FI_fr h.2.2.1 e (fun g hm => hg g ((by decide : ∀ g ∈ ([2, 0, 6, 8, 9, 13, 15, 16] : List Nat), g ∈ ([2, 20, 22, 23, 25, 27, 28, 17, 0, 6, 8, 9, 13, 15, 16] : List Nat)) g hm)), WI_fr h.2.2.2 e (hg _ (by decide))⟩
/-! the data's changes, in the class -/
theorem wr_clr : ∀ n, n < 32 → sd_wr (sd_wr (sd_wr (sd_wr (sd_wr (nI n) 0 0) 1 0) 2 0) 3 0) 4 0 = nI 0 := by decide +kernel
theorem wr_pos : ∀ x, x < 32 → ∀ k, k < 5 → ∀ w, w < 10 → sd_wr (nI x) k (nI w) = nI (if 0 < w then nd x (2 ^ k) ||| 2 ^ k else nd x (2 ^ k)) := by decide +kernel
theorem two_lt : ∀ e, e < 5 → 2 ^ e < 32 := by decide +kernel
theorem FT_sA {σ : sv_S} (h : FT σ) {g i j : Nat} {v : Int32} (hg : g ≠ 6 ∧ g ≠ 8) : FT (sv_sA σ g i j v) := ⟨fun s hs => by rw [gA_ng _ (fun z => hg.1 z.symm)]; exact h.1 s hs, fun t i ht hi => by rw [gA_ng _ (fun z => hg.2 z.symm)]; exact h.2 t i ht hi⟩
theorem wset_cong {d d' : dD} {p p' : Nat} (h : ∀ t, t < 5 → dw d t p = dw d' t p') : wset d p = wset d' p' := by
  unfold wset
  rw [h 0 (by omega), h 1 (by omega), h 2 (by omega), h 3 (by omega), h 4 (by omega)]
def sd_part (σ : sv_S) (q r w : Nat) : sv_S := sv_sA (sd_addPart σ q (nI r) (nI w)) 17 0 q 0
theorem sq_sU {gl : List Nat} (σ : sv_S) (k q : Nat) (r w : Int32) (h : 25 ∈ gl ∧ 27 ∈ gl ∧ 28 ∈ gl ∧ 2 ∈ gl) : sq gl σ (sd_setUses σ k q r w) := sq_tr (sq_tr (sq_tr (sq_sA _ _ _ _ h.1) (sq_sA _ _ _ _ h.2.1)) (sq_sA _ _ _ _ h.2.2.1)) (sq_sA _ _ _ _ h.2.2.2)
theorem sq_part (σ : sv_S) (q r w : Nat) : sq [2, 22, 25, 27, 28, 17] σ (sd_part σ q r w) := by
  unfold sd_part sd_addPart sd_setRuns
  exact sq_tr (sq_tr (sq_tr (sq_tr (sq_tr (sq_tr (sq_tr (sq_sA _ _ _ _ (by decide)) (sq_tr (sq_tr (sq_sA _ _ _ _ (by decide)) (sq_sA _ _ _ _ (by decide))) (sq_sA _ _ _ _ (by decide)))) (sq_sU _ _ _ _ _ (by decide))) (sq_sU _ _ _ _ _ (by decide))) (sq_sU _ _ _ _ _ (by decide))) (sq_sU _ _ _ _ _ (by decide))) (sq_sU _ _ _ _ _ (by decide))) (sq_sA _ _ _ _ (by decide))
theorem CI_part {c : Nat} {d : dD} {σ : sv_S} (h : CI c d σ) {r w : Nat} (hr : 1 ≤ r ∧ r ≤ w ∧ w ≤ 99) (hP : dP d < 10) : CI (c + 6) (d_part d r w) (sd_part σ (dP d) r w) := by
  obtain ⟨⟨h0, h1, h2, h3, h4, h5, h6, h7, h8⟩, hQ, hF, hW⟩ := h
  obtain ⟨w0, w1, w2, w3, w4, w5, w6⟩ := h0
  have hsq := sq_part σ (dP d) r w
  have hw0 : ∀ p, p < dP d → wset (d_part d r w) p = wset d p := fun p hp => wset_cong (fun t _ => if_neg (by omega))
  have hw1 : wset (d_part d r w) (dP d) = 0 := by
    unfold wset d_part dw
    dsimp only
    simp
  refine ⟨⟨⟨?_, w1, ?_, w3, ?_, ?_, w6⟩, ?_, ?_, ?_, ?_, ?_, ?_, ?_, ?_⟩, ⟨?_, ?_⟩, ?_, ?_⟩
  · show dP d + 1 ≤ 10
    omega
  · intro k p hk hp
    have hp : p < dP d + 1 := hp
    show 1 ≤ (if p = dP d then (if k = 0 then r else w) else dR d k p) ∧ (if p = dP d then (if k = 0 then r else w) else dR d k p) ≤ 99
    by_cases e : p = dP d
    · rw [if_pos e]
      split <;> omega
    · rw [if_neg e]
      exact w2 k p hk (by omega)
  · intro t p ht hp
    have hp : p < dP d + 1 := hp
    show (if p = dP d then 0 else dr d t p) ≤ 9 ∧ (if p = dP d then 0 else dw d t p) ≤ 9
    by_cases e : p = dP d
    · rw [if_pos e, if_pos e]; omega
    · rw [if_neg e, if_neg e]
      exact w4 t p ht (by omega)
  · intro t p ht1 ht hp
    have hp : p < dP d + 1 := hp
    show (if p = dP d then 0 else dr d t p) = 0 ∧ (if p = dP d then 0 else dw d t p) = 0
    by_cases e : p = dP d
    · rw [if_pos e, if_pos e]; omega
    · rw [if_neg e, if_neg e]
      exact w5 t p ht1 ht (by omega)
  · show sv_gA (sd_part σ (dP d) r w) 2 0 0 = nI (dP d + 1)
    simp [sd_part, sd_addPart, sd_setUses, sd_setRuns, sv_gA_s]
  · show sv_gA (sd_part σ (dP d) r w) 2 0 1 = nI (dT d)
    simp [sd_part, sd_addPart, sd_setUses, sd_setRuns, sv_gA_s]
    exact h2
  · intro k hk
    rw [hsq.1 _ (by decide)]
    exact h3 k hk
  · intro k p hk hp
    have hp : p < dP d + 1 := hp
    show _ = nI (if p = dP d then (if k = 0 then r else w) else dR d k p)
    by_cases e : p = dP d
    · rw [if_pos e]
      rcases (show k = 0 ∨ k = 1 by omega) with rfl | rfl <;> simp [sd_part, sd_addPart, sd_setUses, sd_setRuns, sv_gA_s, e]
    · rw [if_neg e, ← h4 k p hk (by omega)]
      rcases (show k = 0 ∨ k = 1 by omega) with rfl | rfl <;> simp [sd_part, sd_addPart, sd_setUses, sd_setRuns, sv_gA_s, e]
  · intro t ht
    rw [hsq.1 _ (by decide)]
    exact h5 t ht
  · intro t p ht hp
    have hp : p < dP d + 1 := hp
    show _ = nI (if p = dP d then 0 else dr d t p)
    by_cases e : p = dP d
    · rw [if_pos e]
      rcases (show t = 0 ∨ t = 1 ∨ t = 2 ∨ t = 3 ∨ t = 4 by omega) with rfl | rfl | rfl | rfl | rfl <;> simp [sd_part, sd_addPart, sd_setUses, sd_setRuns, sv_gA_s, e] <;> rfl
    · rw [if_neg e, ← h6 t p ht (by omega)]
      simp [sd_part, sd_addPart, sd_setUses, sd_setRuns, sv_gA_s, e]
  · intro t p ht hp
    have hp : p < dP d + 1 := hp
    show _ = nI (if p = dP d then 0 else dw d t p)
    by_cases e : p = dP d
    · rw [if_pos e]
      rcases (show t = 0 ∨ t = 1 ∨ t = 2 ∨ t = 3 ∨ t = 4 by omega) with rfl | rfl | rfl | rfl | rfl <;> simp [sd_part, sd_addPart, sd_setUses, sd_setRuns, sv_gA_s, e] <;> rfl
    · rw [if_neg e, ← h7 t p ht (by omega)]
      simp [sd_part, sd_addPart, sd_setUses, sd_setRuns, sv_gA_s, e]
  · intro p hp
    have hp : p < dP d + 1 := hp
    by_cases e : p = dP d
    · rw [e, hw1]
      obtain ⟨n, hn, en⟩ := hW (dP d) hP
      rw [← wr_clr n hn, ← en]
      simp [sd_part, sd_addPart, sd_setUses, sd_setRuns, sv_gA_s]
    · rw [hw0 p (by omega), ← h8 p (by omega)]
      simp [sd_part, sd_addPart, sd_setUses, sd_setRuns, sv_gA_s, e]
  · intro p hp
    have hp : p < dP d + 1 := hp
    show (if p = dP d then 0 else dL d p) < 2 ^ dT d
    by_cases e : p = dP d
    · rw [if_pos e]
      exact Nat.two_pow_pos _
    · rw [if_neg e]
      exact hQ.1 p (by omega)
  · intro p hp
    have hp : p < dP d + 1 := hp
    show _ = nI (if p = dP d then 0 else dL d p)
    by_cases e : p = dP d
    · rw [if_pos e, e]
      exact gA_same _ _ _ _ _
    · rw [if_neg e, ← hQ.2 p (by omega)]
      simp [sd_part, sd_addPart, sd_setUses, sd_setRuns, sv_gA_s, e]
  · refine FI_chg hF (k := 6) (by omega) (by omega) (FT_fr hF.1 hsq) ?_ (hsq.1 _ (by decide) _ _)
    simp [sd_part, sd_addPart, sd_setUses, sd_setRuns, sv_gA_s]
    rw [show nI 6 = 1 + 1 + 1 + 1 + 1 + 1 by decide]
    simp only [Int32.add_assoc]
  · intro p hp
    by_cases e : p = dP d
    · obtain ⟨n, hn, en⟩ := hW (dP d) hP
      refine ⟨0, by omega, ?_⟩
      rw [e, ← wr_clr n hn, ← en]
      simp [sd_part, sd_addPart, sd_setUses, sd_setRuns, sv_gA_s]
    · obtain ⟨n, hn, en⟩ := hW p hp
      refine ⟨n, hn, ?_⟩
      rw [← en]
      simp [sd_part, sd_addPart, sd_setUses, sd_setRuns, sv_gA_s, e]
