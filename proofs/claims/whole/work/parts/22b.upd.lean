/-- data alike in all that the best plan goes by -/
def alk (d' d : dD) : Prop := dP d' = dP d ∧ dT d' = dT d ∧ (∀ k p a b s, stc d' k p a b s = stc d k p a b s) ∧ (∀ r s, okr d' r s = okr d r s) ∧ (∀ p b s, dnx d' p b s = dnx d p b s) ∧ (∀ b, carry d' b = carry d b)
theorem Vm_eq {d d' : dD} (h : alk d' d) (k r : Nat) : ∀ n a b, Vm d' k r n a b = Vm d k r n a b
  | 0, a, b => h.2.2.2.2.2 b
  | n + 1, a, b => by
    rw [Vm_succ, Vm_succ, h.2.1]
    refine bestv_cong (fun s _ => ?_) (fun s _ => h.2.2.2.1 r s)
    unfold Fm
    rw [h.1, h.2.2.1, h.2.2.2.2.1, Vm_eq h k r n]
theorem Sm_eq {d d' : dD} (h : alk d' d) (k r n a b : Nat) : Sm d' k r n a b = Sm d k r n a b := by
  unfold Sm
  rw [h.2.1]
  refine besti_cong (fun s _ => ?_) (fun s _ => h.2.2.2.1 r s)
  unfold Fm
  rw [h.1, h.2.2.1, h.2.2.2.2.1, Vm_eq h k r n]
theorem bsp_eq {d d' : dD} (h : alk d' d) (k r p : Nat) : bsp d' k r p = bsp d k r p := by
  have key : ∀ p, pth d' k r p = pth d k r p := by
    intro p
    induction p with
    | zero => rfl
    | succ p ih =>
      unfold pth
      rw [ih, h.1, Sm_eq h, h.2.2.2.2.1]
  unfold bsp
  rw [key]
theorem bst_eq {d d' : dD} (h : alk d' d) (k r : Nat) : bst d' k r = bst d k r := by
  unfold bst
  rw [h.1, Vm_eq h]
theorem alk_room (d : dD) (v : Nat) : alk (d_set d 0 v) d := ⟨rfl, rfl, fun _ _ _ _ _ => rfl, fun _ _ => rfl, fun _ _ _ => rfl, fun _ => rfl⟩
theorem alk_plan (d : dD) (q s : Nat) : alk (d_plan d q s) d := ⟨rfl, rfl, fun _ _ _ _ _ => rfl, fun _ _ => rfl, fun _ _ _ => rfl, fun _ => rfl⟩
theorem alk_take (d : dD) (L : Nat → Nat) : alk (d_take d L) d := ⟨rfl, rfl, fun _ _ _ _ _ => rfl, fun _ _ => rfl, fun _ _ _ => rfl, fun _ => rfl⟩
theorem CI_runs {c : Nat} {d : dD} {σ : sv_S} (h : CI c d σ) {q r w : Nat} (hq : q < dP d) (hr : 1 ≤ r ∧ r ≤ w ∧ w ≤ 99) : CI (c + 6) (d_runs d q r w) (sd_setRuns σ q (nI r) (nI w)) := by
  obtain ⟨⟨h0, h1, h2, h3, h4, h5, h6, h7, h8⟩, hQ, hF, hW⟩ := h
  obtain ⟨w0, w1, w2, w3, w4, w5, w6⟩ := h0
  have hsq : sq [2, 22] σ (sd_setRuns σ q (nI r) (nI w)) := sq_tr (sq_tr (sq_sA _ _ _ _ (by decide)) (sq_sA _ _ _ _ (by decide))) (sq_sA _ _ _ _ (by decide))
  refine ⟨⟨⟨w0, w1, fun k p hk hp => ?_, w3, w4, w5, w6⟩, ?_, ?_, fun k hk => ?_, fun k p hk hp => ?_, fun t ht => ?_, fun t p ht hp => ?_, fun t p ht hp => ?_, fun p hp => ?_⟩, RQ_fr (d := d) hQ hsq, ?_, WI_fr hW hsq⟩
  · show 1 ≤ (if p = q then (if k = 0 then r else w) else dR d k p) ∧ (if p = q then (if k = 0 then r else w) else dR d k p) ≤ 99
    by_cases e : p = q
    · rw [if_pos e]
      split <;> omega
    · rw [if_neg e]
      exact w2 k p hk hp
  · simp [sd_setRuns, sv_gA_s]
    exact h1
  · simp [sd_setRuns, sv_gA_s]
    exact h2
  · rw [hsq.1 _ (by decide)]; exact h3 k hk
  · show _ = nI (if p = q then (if k = 0 then r else w) else dR d k p)
    by_cases e : p = q
    · rw [if_pos e]
      rcases (show k = 0 ∨ k = 1 by omega) with rfl | rfl <;> simp [sd_setRuns, sv_gA_s, e]
    · rw [if_neg e, ← h4 k p hk hp]
      rcases (show k = 0 ∨ k = 1 by omega) with rfl | rfl <;> simp [sd_setRuns, sv_gA_s, e]
  · rw [hsq.1 _ (by decide)]; exact h5 t ht
  · rw [hsq.1 _ (by decide)]; exact h6 t p ht hp
  · rw [hsq.1 _ (by decide)]; exact h7 t p ht hp
  · rw [hsq.1 _ (by decide)]; exact h8 p hp
  · exact FI_chg hF (k := 1) (by omega) (by omega) (FT_fr hF.1 hsq) (by simp [sd_setRuns, sv_gA_s]; rfl) (hsq.1 _ (by decide) _ _)
theorem CI_cut {c : Nat} {d : dD} {σ : sv_S} (h : CI c d σ) (hP : dP d ≠ 0) : CI (c + 6) (d_cut d) (sv_sA (sv_sA σ 2 0 0 (nI (dP d - 1))) 2 0 2 (sv_gA σ 2 0 2 + 1)) := by
  obtain ⟨⟨h0, h1, h2, h3, h4, h5, h6, h7, h8⟩, hQ, hF, hW⟩ := h
  obtain ⟨w0, w1, w2, w3, w4, w5, w6⟩ := h0
  have hsq : sq [2] σ (sv_sA (sv_sA σ 2 0 0 (nI (dP d - 1))) 2 0 2 (sv_gA σ 2 0 2 + 1)) := sq_tr (sq_sA _ _ _ _ (by decide)) (sq_sA _ _ _ _ (by decide))
  have hlt : ∀ p, p < dP (d_cut d) → p < dP d := fun p hp => by
    have hp : p < dP d - 1 := hp
    omega
  refine ⟨⟨⟨by show dP d - 1 ≤ 10; omega, w1, fun k p hk hp => w2 k p hk (hlt p hp), w3, fun t p ht hp => w4 t p ht (hlt p hp), fun t p h1 h2 hp => w5 t p h1 h2 (hlt p hp), w6⟩, ?_, ?_, fun k hk => ?_, fun k p hk hp => ?_, fun t ht => ?_, fun t p ht hp => ?_, fun t p ht hp => ?_, fun p hp => ?_⟩, ⟨fun p hp => hQ.1 p (hlt p hp), fun p hp => ?_⟩, ?_, WI_fr hW hsq⟩
  · rw [gA_nj _ (by decide), gA_same]
    rfl
  · rw [gA_nj _ (by decide), gA_nj _ (by decide)]
    exact h2
  · rw [hsq.1 _ (by decide)]; exact h3 k hk
  · rw [hsq.1 _ (by decide)]; exact h4 k p hk (hlt p hp)
  · rw [hsq.1 _ (by decide)]; exact h5 t ht
  · rw [hsq.1 _ (by decide)]; exact h6 t p ht (hlt p hp)
  · rw [hsq.1 _ (by decide)]; exact h7 t p ht (hlt p hp)
  · rw [hsq.1 _ (by decide)]; exact h8 p (hlt p hp)
  · rw [hsq.1 _ (by decide)]; exact hQ.2 p (hlt p hp)
  · exact FI_chg hF (k := 1) (by omega) (by omega) (FT_fr hF.1 hsq) (gA_same _ _ _ _ _) (hsq.1 _ (by decide) _ _)
theorem CI_thing {c : Nat} {d : dD} {σ : sv_S} (h : CI c d σ) (hT : dT d < 5) {z : Nat} (hz : 1 ≤ z ∧ z ≤ 20) : CI (c + 6) (d_thing d z) (sv_sA (sv_sA (sv_sA σ 2 0 1 (nI (dT d + 1))) 23 0 (dT d) (nI z)) 2 0 2 (sv_gA σ 2 0 2 + 1)) := by
  obtain ⟨⟨h0, h1, h2, h3, h4, h5, h6, h7, h8⟩, hQ, hF, hW⟩ := h
  obtain ⟨w0, w1, w2, w3, w4, w5, w6⟩ := h0
  have hsq : sq [2, 23] σ (sv_sA (sv_sA (sv_sA σ 2 0 1 (nI (dT d + 1))) 23 0 (dT d) (nI z)) 2 0 2 (sv_gA σ 2 0 2 + 1)) := sq_tr (sq_tr (sq_sA _ _ _ _ (by decide)) (sq_sA _ _ _ _ (by decide))) (sq_sA _ _ _ _ (by decide))
  refine ⟨⟨⟨w0, by show dT d + 1 ≤ 5; omega, w2, fun t ht => ?_, w4, fun t p h1 h2 hp => w5 t p (by have h1 : dT d + 1 ≤ t := h1; omega) h2 hp, w6⟩, ?_, ?_, fun k hk => ?_, fun k p hk hp => ?_, fun t ht => ?_, fun t p ht hp => ?_, fun t p ht hp => ?_, fun p hp => ?_⟩, ⟨fun p hp => ?_, fun p hp => ?_⟩, ?_, WI_fr hW hsq⟩
  · have ht : t < dT d + 1 := ht
    show 1 ≤ (if t = dT d then z else dZ d t) ∧ (if t = dT d then z else dZ d t) ≤ 20
    by_cases e : t = dT d
    · rw [if_pos e]; exact hz
    · rw [if_neg e]; exact w3 t (by omega)
  · rw [gA_nj _ (by decide), gA_ng _ (by decide), gA_nj _ (by decide)]
    exact h1
  · rw [gA_nj _ (by decide), gA_ng _ (by decide), gA_same]
    rfl
  · rw [hsq.1 _ (by decide)]; exact h3 k hk
  · rw [hsq.1 _ (by decide)]; exact h4 k p hk hp
  · have ht : t < dT d + 1 := ht
    show _ = nI (if t = dT d then z else dZ d t)
    rw [gA_ng _ (by decide)]
    by_cases e : t = dT d
    · rw [if_pos e, e, gA_same]
    · rw [if_neg e, gA_nj _ e, gA_ng _ (by decide)]
      exact h5 t (by omega)
  · rw [hsq.1 _ (by decide)]; exact h6 t p ht hp
  · rw [hsq.1 _ (by decide)]; exact h7 t p ht hp
  · rw [hsq.1 _ (by decide)]; exact h8 p hp
  · have := hQ.1 p hp
    show dL d p < 2 ^ (dT d + 1)
    rw [Nat.pow_succ]
    omega
  · rw [hsq.1 _ (by decide)]; exact hQ.2 p hp
  · exact FI_chg hF (k := 1) (by omega) (by omega) (FT_fr hF.1 hsq) (gA_same _ _ _ _ _) (hsq.1 _ (by decide) _ _)
theorem wset_uses (d : dD) {k q r w : Nat} (hk : k < 5) : wset (d_uses d k q r w) q = if 0 < w then nd (wset d q) (2 ^ k) ||| 2 ^ k else nd (wset d q) (2 ^ k) := by
  have h2 := two_lt k hk
  have hw := wset_lt d q
  refine ext5 (wset_lt _ _) (by split; exact or_lt (nd_lt hw) h2; exact nd_lt hw) (fun t ht => ?_)
  rw [wset_bit _ _ ht]
  have e : dw (d_uses d k q r w) t q = if t = k then w else dw d t q := by
    show (if t = k ∧ q = q then w else dw d t q) = _
    by_cases e : t = k
    · rw [if_pos ⟨e, rfl⟩, if_pos e]
    · rw [if_neg (fun z => e z.1), if_neg e]
  rw [e]
  have b1 := nd_bit _ hw _ h2 t ht
  have b2 : (2 ^ k).testBit t = true ↔ t = k := by
    rw [Nat.testBit_two_pow]
    simp
    exact ⟨fun z => z.symm, fun z => z.symm⟩
  have b3 := wset_bit d q ht
  by_cases c1 : 0 < w
  · rw [if_pos c1, or_bit, b1, b2, b3]
    by_cases c2 : t = k
    · simp [c2, c1]
    · simp [c2]
  · rw [if_neg c1, b1, b2, b3]
    by_cases c2 : t = k
    · simp [c2]; omega
    · simp [c2]
theorem CI_uses {c : Nat} {d : dD} {σ : sv_S} (h : CI c d σ) {k q r w : Nat} (hk : k < dT d) (hq : q < dP d) (hr : r ≤ 9 ∧ w ≤ 9) : CI (c + 6) (d_uses d k q r w) (sd_setUses σ k q (nI r) (nI w)) := by
  obtain ⟨⟨h0, h1, h2, h3, h4, h5, h6, h7, h8⟩, hQ, hF, hW⟩ := h
  obtain ⟨w0, w1, w2, w3, w4, w5, w6⟩ := h0
  have hsq : sq [2, 25, 27, 28] σ (sd_setUses σ k q (nI r) (nI w)) := sq_sU _ _ _ _ _ (by decide)
  refine ⟨⟨⟨w0, w1, w2, w3, fun t p ht hp => ?_, fun t p ht1 ht hp => ?_, w6⟩, ?_, ?_, fun k hk => ?_, fun k p hk hp => ?_, fun t ht => ?_, fun t p ht hp => ?_, fun t p ht hp => ?_, fun p hp => ?_⟩, RQ_fr (d := d) hQ hsq, ?_, fun p hp => ?_⟩
  · show (if t = k ∧ p = q then r else dr d t p) ≤ 9 ∧ (if t = k ∧ p = q then w else dw d t p) ≤ 9
    by_cases e : t = k ∧ p = q
    · rw [if_pos e, if_pos e]; exact hr
    · rw [if_neg e, if_neg e]; exact w4 t p ht hp
  · have ht1 : dT d ≤ t := ht1
    show (if t = k ∧ p = q then r else dr d t p) = 0 ∧ (if t = k ∧ p = q then w else dw d t p) = 0
    rw [if_neg (fun z => by omega), if_neg (fun z => by omega)]
    exact w5 t p ht1 ht hp
  · simp [sd_setUses, sv_gA_s]
    exact h1
  · simp [sd_setUses, sv_gA_s]
    exact h2
  · rw [hsq.1 _ (by decide)]; exact h3 k hk
  · rw [hsq.1 _ (by decide)]; exact h4 k p hk hp
  · rw [hsq.1 _ (by decide)]; exact h5 t ht
  · show _ = nI (if t = k ∧ p = q then r else dr d t p)
    by_cases e : t = k ∧ p = q
    · rw [if_pos e]
      simp [sd_setUses, sv_gA_s, e]
    · rw [if_neg e, ← h6 t p ht hp]
      simp [sd_setUses, sv_gA_s, e]
  · show _ = nI (if t = k ∧ p = q then w else dw d t p)
    by_cases e : t = k ∧ p = q
    · rw [if_pos e]
      simp [sd_setUses, sv_gA_s, e]
    · rw [if_neg e, ← h7 t p ht hp]
      simp [sd_setUses, sv_gA_s, e]
  · by_cases e : p = q
    · rw [e, wset_uses d (by omega), ← wr_pos _ (wset_lt d q) k (by omega) w (by omega), ← h8 q hq]
      simp [sd_setUses, sv_gA_s]
    · rw [show wset (d_uses d k q r w) p = wset d p from wset_cong (fun t _ => if_neg (fun z => e z.2)), ← h8 p hp]
      simp [sd_setUses, sv_gA_s, e]
  · exact FI_chg hF (k := 1) (by omega) (by omega) (FT_fr hF.1 hsq) (by simp [sd_setUses, sv_gA_s]; rfl) (hsq.1 _ (by decide) _ _)
  · by_cases e : p = q
    · refine ⟨wset (d_uses d k q r w) q, wset_lt _ _, ?_⟩
      rw [e, wset_uses d (by omega), ← wr_pos _ (wset_lt d q) k (by omega) w (by omega), ← h8 q hq]
      simp [sd_setUses, sv_gA_s]
    · obtain ⟨n, hn, en⟩ := hW p hp
      refine ⟨n, hn, ?_⟩
      rw [← en]
      simp [sd_setUses, sv_gA_s, e]
theorem CI_size {c : Nat} {d : dD} {σ : sv_S} (h : CI c d σ) {k z : Nat} (hk : k < dT d) (hz : 1 ≤ z ∧ z ≤ 20) : CI (c + 6) (d_size d k z) (sv_sA (sv_sA σ 23 0 k (nI z)) 2 0 2 (sv_gA σ 2 0 2 + 1)) := by
  obtain ⟨⟨h0, h1, h2, h3, h4, h5, h6, h7, h8⟩, hQ, hF, hW⟩ := h
  obtain ⟨w0, w1, w2, w3, w4, w5, w6⟩ := h0
  have hsq : sq [2, 23] σ (sv_sA (sv_sA σ 23 0 k (nI z)) 2 0 2 (sv_gA σ 2 0 2 + 1)) := sq_tr (sq_sA _ _ _ _ (by decide)) (sq_sA _ _ _ _ (by decide))
  refine ⟨⟨⟨w0, w1, w2, fun t ht => ?_, w4, w5, w6⟩, ?_, ?_, fun k hk => ?_, fun k p hk hp => ?_, fun t ht => ?_, fun t p ht hp => ?_, fun t p ht hp => ?_, fun p hp => ?_⟩, RQ_fr (d := d) hQ hsq, ?_, WI_fr hW hsq⟩
  · show 1 ≤ (if t = k then z else dZ d t) ∧ (if t = k then z else dZ d t) ≤ 20
    by_cases e : t = k
    · rw [if_pos e]; exact hz
    · rw [if_neg e]; exact w3 t ht
  · rw [gA_nj _ (by decide), gA_ng _ (by decide)]; exact h1
  · rw [gA_nj _ (by decide), gA_ng _ (by decide)]; exact h2
  · rw [hsq.1 _ (by decide)]; exact h3 k hk
  · rw [hsq.1 _ (by decide)]; exact h4 k p hk hp
  · show _ = nI (if t = k then z else dZ d t)
    rw [gA_ng _ (by decide)]
    by_cases e : t = k
    · rw [if_pos e, e, gA_same]
    · rw [if_neg e, gA_nj _ e]
      exact h5 t ht
  · rw [hsq.1 _ (by decide)]; exact h6 t p ht hp
  · rw [hsq.1 _ (by decide)]; exact h7 t p ht hp
  · rw [hsq.1 _ (by decide)]; exact h8 p hp
  · exact FI_chg hF (k := 1) (by omega) (by omega) (FT_fr hF.1 hsq) (gA_same _ _ _ _ _) (hsq.1 _ (by decide) _ _)
def okN (d : dD) (k v : Nat) : Prop := (k = 0 ∧ v ≤ 60) ∨ (k = 1 ∧ 1 ≤ v ∧ dS d 2 ≤ v ∧ v ≤ 20) ∨ (k = 2 ∧ v ≤ dS d 1) ∨ (k = 3 ∧ v ≤ 20)
theorem okS_of {d : dD} (h : wfP d) {k v : Int32} (ho : okS d k v) : ∃ a b, okN d a b ∧ k = nI a ∧ v = nI b := by
  have h6 := h.2.2.2.2.2.2
  rcases ho with ⟨rfl, hv⟩ | ⟨rfl, hv1, hv2⟩ | ⟨rfl, hv⟩ | ⟨rfl, hv⟩
  · obtain ⟨n, -, hn, rfl⟩ := lit_in (a := 0) (b := 60) (by omega) hv (by omega)
    exact ⟨0, n, Or.inl ⟨rfl, hn⟩, rfl, rfl⟩
  · obtain ⟨n, hn1, hn, rfl⟩ := lit_in (a := 1) (b := 20) (by omega) ⟨hv1.1, hv2⟩ (by omega)
    have := (nI_leI (by omega) (by omega)).mp hv1.2
    exact ⟨1, n, Or.inr (Or.inl ⟨rfl, hn1, this, hn⟩), rfl, rfl⟩
  · obtain ⟨n, -, hn, rfl⟩ := lit_in (a := 0) (b := dS d 1) (by omega) hv (by omega)
    exact ⟨2, n, Or.inr (Or.inr (Or.inl ⟨rfl, hn⟩)), rfl, rfl⟩
  · obtain ⟨n, -, hn, rfl⟩ := lit_in (a := 0) (b := 20) (by omega) hv (by omega)
    exact ⟨3, n, Or.inr (Or.inr (Or.inr ⟨rfl, hn⟩)), rfl, rfl⟩
theorem CI_set {c : Nat} {d : dD} {σ : sv_S} (h : CI c d σ) {k v : Nat} (ho : okN d k v) : CI (c + 6) (d_set d k v) (sd_setSetting σ k (nI v)) := by
  obtain ⟨⟨h0, h1, h2, h3, h4, h5, h6, h7, h8⟩, hQ, hF, hW⟩ := h
  obtain ⟨w0, w1, w2, w3, w4, w5, w6⟩ := h0
  have hsq : sq [2, 20] σ (sd_setSetting σ k (nI v)) := by
    unfold sd_setSetting
    split
    · exact sq_sA _ _ _ _ (by decide)
    · exact sq_tr (sq_sA _ _ _ _ (by decide)) (sq_sA _ _ _ _ (by decide))
  have hset : ∀ j, sv_gA (sd_setSetting σ k (nI v)) 20 0 j = if j = k then nI v else sv_gA σ 20 0 j := by
    intro j
    unfold sd_setSetting
    split <;> simp [sv_gA_s]
  have hpr : ∀ j, j < 2 → sv_gA (sd_setSetting σ k (nI v)) 2 0 j = sv_gA σ 2 0 j := by
    intro j hj
    unfold sd_setSetting
    split
    · simp [sv_gA_s]
    · simp [sv_gA_s, show j ≠ 2 by omega]
  refine ⟨⟨⟨w0, w1, w2, w3, w4, w5, ?_⟩, ?_, ?_, fun j hj => ?_, fun k p hk hp => ?_, fun t ht => ?_, fun t p ht hp => ?_, fun t p ht hp => ?_, fun p hp => ?_⟩, RQ_fr (d := d) hQ hsq, ?_, WI_fr hW hsq⟩
  · show (if 0 = k then v else dS d 0) ≤ 60 ∧ 1 ≤ (if 1 = k then v else dS d 1) ∧ (if 1 = k then v else dS d 1) ≤ 20 ∧ (if 2 = k then v else dS d 2) ≤ (if 1 = k then v else dS d 1) ∧ (if 3 = k then v else dS d 3) ≤ 20
    rcases ho with ⟨rfl, hv⟩ | ⟨rfl, hv1, hv2, hv3⟩ | ⟨rfl, hv⟩ | ⟨rfl, hv⟩ <;> simp <;> omega
  · rw [hpr 0 (by omega)]; exact h1
  · rw [hpr 1 (by omega)]; exact h2
  · rw [hset]
    show _ = nI (if j = k then v else dS d j)
    split
    · rfl
    · exact h3 j hj
  · rw [hsq.1 _ (by decide)]; exact h4 k p hk hp
  · rw [hsq.1 _ (by decide)]; exact h5 t ht
  · rw [hsq.1 _ (by decide)]; exact h6 t p ht hp
  · rw [hsq.1 _ (by decide)]; exact h7 t p ht hp
  · rw [hsq.1 _ (by decide)]; exact h8 p hp
  · by_cases e : k = 0
    · subst e
      refine FI_same hF (fun g hq i j => hsq.1 g (by rcases hq with rfl | rfl | rfl | rfl <;> decide) i j) (FT_fr hF.1 hsq) ?_ (hsq.1 _ (by decide) _ _) rfl rfl (fun _ => rfl) (bst_eq (alk_room d v)) (bsp_eq (alk_room d v))
      unfold sd_setSetting
      rw [if_pos rfl, gA_ng _ (by decide)]
    · refine FI_chg hF (k := 1) (by omega) (by omega) (FT_fr hF.1 hsq) ?_ (hsq.1 _ (by decide) _ _)
      unfold sd_setSetting
      rw [if_neg e, gA_same]
      rfl
theorem CI_plan {c : Nat} {d : dD} {σ : sv_S} (h : CI c d σ) {q s : Nat} (hs : s < 2 ^ dT d) : CI (c + 6) (d_plan d q s) (sv_sA σ 17 0 q (nI s)) := by
  obtain ⟨hR, hQ, hF, hW⟩ := h
  have hsq : sq [17] σ (sv_sA σ 17 0 q (nI s)) := sq_sA _ _ _ _ (by decide)
  refine ⟨RP_fr (d := d) hR hsq, ⟨fun p hp => ?_, fun p hp => ?_⟩, FI_same hF (fun g hq i j => hsq.1 g (by rcases hq with rfl | rfl | rfl | rfl <;> decide) i j) (FT_fr hF.1 hsq) (hsq.1 _ (by decide) _ _) (hsq.1 _ (by decide) _ _) rfl rfl (fun _ => rfl) (bst_eq (alk_plan d q s)) (bsp_eq (alk_plan d q s)), WI_fr hW hsq⟩
  · show (if p = q then s else dL d p) < 2 ^ dT d
    split
    · exact hs
    · exact hQ.1 p hp
  · show _ = nI (if p = q then s else dL d p)
    by_cases e : p = q
    · rw [if_pos e, e, gA_same]
    · rw [if_neg e, gA_nj _ e]
      exact hQ.2 p hp
theorem CI_take {c : Nat} {d : dD} {σ σ' : sv_S} (h : CI c d σ) {L : Nat → Nat} (hL : ∀ p, p < dP d → L p < 2 ^ dT d) (e : sq [17] σ σ') (hs : ∀ p, p < dP d → sv_gA σ' 17 0 p = nI (L p)) : CI (c + 6) (d_take d L) σ' := by
  obtain ⟨hR, hQ, hF, hW⟩ := h
  exact ⟨RP_fr (d := d) hR e, ⟨hL, hs⟩, FI_same hF (fun g hq i j => e.1 g (by rcases hq with rfl | rfl | rfl | rfl <;> decide) i j) (FT_fr hF.1 e) (e.1 _ (by decide) _ _) (e.1 _ (by decide) _ _) rfl rfl (fun _ => rfl) (bst_eq (alk_take d L)) (bsp_eq (alk_take d L)), WI_fr hW e⟩
theorem FI_fr0 {c : Nat} {d : dD} {σ σ' : sv_S} {gl : List Nat} (h : FI c d σ) (e : sq gl σ σ') (hg : (∀ g ∈ ([2, 0, 6, 8, 9, 13, 15, 16] : List Nat), g ∉ gl) := by decide) : FI c d σ' := by
  obtain ⟨hT, ch, hch, hc1, hs⟩ := h
  refine ⟨⟨fun s hs => by rw [e.1 _ (hg _ (by decide))]; exact hT.1 s hs, fun t i ht hi => by rw [e.1 _ (hg _ (by decide))]; exact hT.2 t i ht hi⟩, ch, hch, by rw [e.1 _ (hg _ (by decide))]; exact hc1, ?_⟩
  rw [e.1 _ (hg _ (by decide))]
  rcases hs with hs | ⟨s, h1, h2, h3⟩
  · exact Or.inl hs
  · exact Or.inr ⟨s, h1, h2, fun z => CV_of (h3 z) (fun g hq i j => e.1 g (hg g (by rcases hq with rfl | rfl | rfl | rfl <;> decide)) i j) rfl rfl (fun _ => rfl) (fun _ _ => rfl) (fun _ _ _ => rfl)⟩
/-- the class behind the finder -/
theorem CI_find {c : Nat} {d : dD} {σ σ' : sv_S} (h : CI c d σ) (e : sq fgl σ σ') (hF : FK c d σ') : CI (c + 6) d σ' := ⟨RP_fr h.1 e, RQ_fr h.2.1 e, FI_mono (FK_FI hF), WI_fr h.2.2.2 e⟩
theorem ok2_of {x : Int32} (h : ok2 x) : ∃ k, k < 2 ∧ x = nI k ∧ (k = 0 ↔ x = 0) := by
  rcases h with rfl | rfl
  · exact ⟨0, by omega, rfl, ⟨fun _ => rfl, fun _ => rfl⟩⟩
  · exact ⟨1, by omega, rfl, ⟨fun z => by omega, fun z => absurd z (by decide)⟩⟩
theorem sh1 {t : Nat} (h : t < 5) : (1 : Int32) <<< (nI t &&& 31) = nI (2 ^ t) := (by decide +kernel : ∀ e, e < 5 → (1 : Int32) <<< (nI e &&& 31) = nI (2 ^ e)) t h
theorem pw_pred (n : Nat) : nI (2 ^ n) - 1 = nI (2 ^ n - 1) := by
  have h : 0 < 2 ^ n := Nat.two_pow_pos _
  have := nI_pred (2 ^ n - 1)
  rwa [show 2 ^ n - 1 + 1 = 2 ^ n by omega] at this
theorem bsp_lt {d : dD} (h : wfP d) {k r p : Nat} (hk : k < 2) (hp : p < dP d) : bsp d k r p < 2 ^ dT d := (pth_lt h hk (r := r) (p := p + 1) (by omega)).1
theorem stlS_lt {d : dD} (h : wfP d) {k r : Nat} (hk : k < 2) : stlS d k r < 2 ^ dT d := (besti_at (by
  have h1 := bestv_le (f := stlC d k) (n := 2 ^ dT d) (i := 0) (Nat.two_pow_pos _) (okr_0 d r)
  have h2 := stlC_lt h hk 0
  omega)).1
theorem m9_ne {n : Nat} (h : n < 2 ^ 31) : nI n ≠ -9 := fun z => by
  have h1 := nI_toInt h
  rw [z] at h1
  have h2 : (-9 : Int32).toInt = -9 := by decide
  omega
