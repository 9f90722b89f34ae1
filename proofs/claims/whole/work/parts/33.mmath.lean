/-! states of the reference, and its sums -/
theorem pk_m1' (n : Nat) : nI n + (-1 : Int32) = nI n - 1 := by
  rw [Int32.sub_eq_add_neg]
def snx (d : dD) (q z c : Nat) : Nat := so c + so (dnx d q (sDi z) c)
theorem so_sm : ∀ T, T < 6 → ∀ c, c < 2 ^ T → so c = sm (fun t => if c.testBit t then 3 ^ t else 0) T := by decide +kernel
theorem three_le {d : dD} (h : wfP d) : 3 ^ dT d ≤ 243 := Nat.pow_le_pow_right (by omega) h.2.1
theorem dnx_lt {d : dD} {q b c n : Nat} (hc : c < 2 ^ n) : dnx d q b c < 2 ^ n := Nat.lt_of_le_of_lt Nat.and_le_right hc
theorem and_and_self (x c : Nat) : (x &&& c) &&& c = x &&& c := by rw [Nat.and_assoc, Nat.and_self]
theorem snx_at {d : dD} (h : wfP d) (q : Nat) {z c : Nat} (hc : c < 2 ^ dT d) : snx d q z c < 3 ^ dT d ∧ sIn (snx d q z c) = c ∧ sDi (snx d q z c) = dnx d q (sDi z) c := by
  have hT := h.2.1
  have h32 := two_pow_le h
  have hd := dnx_lt (d := d) (q := q) (b := sDi z) hc
  have e : dnx d q (sDi z) c &&& c = dnx d q (sDi z) c := and_and_self _ _
  have h1 := st_lt (dT d) (by omega) c hc
  have h2 := so_mono c (by omega) _ (Nat.lt_of_lt_of_le hd h32) e
  have h3 := st_in c (by omega) _ (Nat.lt_of_lt_of_le hd h32) e
  exact ⟨by unfold snx; omega, h3⟩
/-- the digit of a thing behind a part -/
def dgB (d : dD) (q z c t : Nat) : Nat := if c.testBit t = true then (if dg t z = 2 ∨ 0 < dw d t q then 2 else 1) else 0
theorem snx_sm {d : dD} (h : wfP d) (q : Nat) {z c : Nat} (hz : z < 3 ^ dT d) (hc : c < 2 ^ dT d) : sm (fun t => dgB d q z c t * 3 ^ t) (dT d) = snx d q z c := by
  have hT := h.2.1
  have h243 := three_le h
  unfold snx
  rw [so_sm (dT d) (by omega) c hc, so_sm (dT d) (by omega) _ (dnx_lt hc), ← sm_add]
  refine sm_cong _ (fun t ht => ?_)
  have b : (dnx d q (sDi z) c).testBit t = true ↔ (dg t z = 2 ∨ 0 < dw d t q) ∧ c.testBit t = true := by
    unfold dnx
    rw [and_bit, or_bit, sDi_bit z (by omega) t (by omega), wset_bit d q (by omega)]
  unfold dgB
  by_cases c1 : c.testBit t = true
  · by_cases c2 : dg t z = 2 ∨ 0 < dw d t q
    · rw [if_pos c1, if_pos c2, if_pos c1, if_pos (b.mpr ⟨c2, c1⟩)]
      omega
    · rw [if_pos c1, if_neg c2, if_pos c1, if_neg (fun y => c2 (b.mp y).1)]
      omega
  · rw [if_neg c1, if_neg c1, if_neg (fun y => c1 (b.mp y).2)]
    omega
theorem sm_sh (g : Nat → Nat) : ∀ n, sm g n + g n = g 0 + sm (fun p => g (p + 1)) n
  | 0 => by
    show 0 + g 0 = g 0 + 0
    omega
  | n + 1 => by
    have := sm_sh g n
    show sm g n + g n + g (n + 1) = g 0 + (sm (fun p => g (p + 1)) n + g (n + 1))
    omega
theorem nd_00 : ∀ a, a < 32 → nd 0 a = 0 := by decide +kernel
theorem carry_0 (d : dD) : carry d 0 = 0 := by unfold carry; rw [cells_0]; rfl
/-- a plan's cost, part by part, by what is in and written ahead of it -/
theorem costL_stc {d : dD} {L : Nat → Nat} (k : Nat) (hL : ∀ p, p < dP d → L p < 32) : costL d L k = sm (fun p => stc d k p (prv L p) (dtyL d L p) (L p)) (dP d) + carry d (nd (dtyL d L (dP d)) 0) := by
  have h := sm_sh (fun p => carry d (nd (dtyL d L p) (if p < dP d then L p else 0))) (dP d)
  have e0 : carry d (nd (dtyL d L 0) (if 0 < dP d then L 0 else 0)) = 0 := by
    show carry d (nd 0 _) = 0
    have : (if 0 < dP d then L 0 else 0) < 32 := by
      split
      · exact hL 0 (by assumption)
      · omega
    rw [nd_00 _ this, carry_0]
  have h2 : sm (fun p => carry d (nd (dtyL d L p) (if p < dP d then L p else 0))) (dP d) + carry d (nd (dtyL d L (dP d)) (if dP d < dP d then L (dP d) else 0)) = carry d (nd (dtyL d L 0) (if 0 < dP d then L 0 else 0)) + sm (fun p => carry d (rtnL d L p)) (dP d) := h
  rw [e0, Nat.zero_add, if_neg (Nat.lt_irrefl _)] at h2
  have e1 : sm (fun p => carry d (nd (dtyL d L p) (if p < dP d then L p else 0))) (dP d) = sm (fun p => carry d (nd (dtyL d L p) (L p))) (dP d) := sm_cong _ (fun p hp => by rw [if_pos hp])
  have e2 : costL d L k = sm (fun p => work d p k (L p) + carry d (fetL L p)) (dP d) + sm (fun p => carry d (rtnL d L p)) (dP d) := sm_add _ _ _
  have e3 : sm (fun p => stc d k p (prv L p) (dtyL d L p) (L p)) (dP d) = sm (fun p => work d p k (L p) + carry d (fetL L p)) (dP d) + sm (fun p => carry d (nd (dtyL d L p) (L p))) (dP d) := sm_add _ _ _
  rw [e2, e3, ← h2, e1]
  omega
/-- the reference's states along a plan -/
def stL (d : dD) (L : Nat → Nat) : Nat → Nat
  | 0 => 0
  | p + 1 => snx d p (stL d L p) (L p)
theorem stL_at {d : dD} (h : wfP d) {L : Nat → Nat} (hL : ∀ p, p < dP d → L p < 2 ^ dT d) : ∀ {p : Nat}, p ≤ dP d → stL d L p < 3 ^ dT d ∧ sIn (stL d L p) = prv L p ∧ sDi (stL d L p) = dtyL d L p
  | 0, _ => ⟨Nat.pow_pos (by omega), (by decide : sIn 0 = 0), (by decide : sDi 0 = 0)⟩
  | p + 1, hp => by
    have ih := stL_at h hL (p := p) (by omega)
    have := snx_at h p (z := stL d L p) (hL p (by omega))
    refine ⟨this.1, ?_, ?_⟩
    · show sIn (snx d p (stL d L p) (L p)) = _
      rw [this.2.1]
      unfold prv
      rw [if_neg (by omega), Nat.add_sub_cancel]
    · show sDi (snx d p (stL d L p) (L p)) = _
      rw [this.2.2, ih.2.2]
      rfl
theorem bsp_prv (d : dD) (k r : Nat) : ∀ p, prv (bsp d k r) p = (pth d k r p).1 ∧ dtyL d (bsp d k r) p = (pth d k r p).2
  | 0 => ⟨rfl, rfl⟩
  | p + 1 => by
    have ih := bsp_prv d k r p
    refine ⟨?_, ?_⟩
    · unfold prv
      rw [if_neg (by omega), Nat.add_sub_cancel]
      rfl
    · show (dtyL d (bsp d k r) p ||| wset d p) &&& bsp d k r p = _
      rw [ih.2]
      rfl
theorem bst_sum {d : dD} (h : wfP d) {k r : Nat} (hk : k < 2) : ∀ {n : Nat}, n ≤ dP d → bst d k r = sm (fun p => stc d k p (pth d k r p).1 (pth d k r p).2 (bsp d k r p)) n + Vm d k r (dP d - n) (pth d k r n).1 (pth d k r n).2
  | 0, _ => by
    show _ = 0 + _
    rw [Nat.zero_add]
    rfl
  | n + 1, hn => by
    have ih := bst_sum h (r := r) hk (n := n) (by omega)
    have h1 := (Sm_at h hk (r := r) (n := dP d - (n + 1)) (by omega) (pth d k r n).1 (pth d k r n).2).2.2.1
    rw [show dP d - (n + 1) + 1 = dP d - n by omega] at h1
    rw [ih, ← h1]
    have e : Fm d k r (dP d - (n + 1)) (pth d k r n).1 (pth d k r n).2 (bsp d k r n) = stc d k n (pth d k r n).1 (pth d k r n).2 (bsp d k r n) + Vm d k r (dP d - (n + 1)) (pth d k r (n + 1)).1 (pth d k r (n + 1)).2 := by
      unfold Fm
      rw [show dP d - (dP d - (n + 1) + 1) = n by omega]
      rfl
    show sm _ n + Fm d k r (dP d - (n + 1)) (pth d k r n).1 (pth d k r n).2 (bsp d k r n) = sm _ n + stc d k n _ _ _ + _
    rw [e]
    omega
theorem costL_bsp {d : dD} (h : wfP d) {k r : Nat} (hk : k < 2) : costL d (bsp d k r) k = bst d k r := by
  have h32 := two_pow_le h
  rw [costL_stc k (fun p hp => Nat.lt_of_lt_of_le (bsp_lt h hk hp) h32), bst_sum h hk (Nat.le_refl _), Nat.sub_self]
  have hp := (pth_lt h hk (r := r) (p := dP d) (Nat.le_refl _)).2
  rw [(bsp_prv d k r (dP d)).2, nd_0 _ (Nat.lt_of_lt_of_le hp h32)]
  have : sm (fun p => stc d k p (prv (bsp d k r) p) (dtyL d (bsp d k r) p) (bsp d k r p)) (dP d) = sm (fun p => stc d k p (pth d k r p).1 (pth d k r p).2 (bsp d k r p)) (dP d) := sm_cong _ (fun p _ => by rw [(bsp_prv d k r p).1, (bsp_prv d k r p).2])
  rw [this]
  rfl
theorem dty_still (d : dD) (s : Nat) : ∀ n, dtyL d (fun _ => s) n = wall d n &&& s
  | 0 => by
    show 0 = 0 &&& s
    rw [Nat.zero_and]
  | n + 1 => by
    show (dtyL d (fun _ => s) n ||| wset d n) &&& s = (wall d n ||| wset d n) &&& s
    rw [dty_still d s n]
    apply Nat.eq_of_testBit_eq
    intro i
    simp only [Nat.testBit_and, Nat.testBit_or]
    cases (wall d n).testBit i <;> cases (wset d n).testBit i <;> cases s.testBit i <;> rfl
theorem nd_self : ∀ a, a < 32 → nd a a = 0 := by decide +kernel
theorem nd_and : ∀ a, a < 32 → ∀ b, b < 32 → nd (a &&& b) b = 0 := by decide +kernel
theorem costL_still {d : dD} (h : wfP d) (k : Nat) {s : Nat} (hs : s < 32) : costL d (fun _ => s) k = stlC d k s := by
  rw [costL_stc k (fun _ _ => hs)]
  unfold stlC
  by_cases c : dP d = 0
  · rw [if_pos c, c]
    show 0 + carry d (nd 0 0) = 0
    rw [nd_00 0 (by omega), carry_0]
  · rw [if_neg c, dty_still, nd_0 _ (and_lt (wall_lt d _)), Nat.and_comm]
    obtain ⟨m, hm⟩ : ∃ m, dP d = m + 1 := ⟨dP d - 1, by omega⟩
    have e : ∀ n, sm (fun p => stc d k p (prv (fun _ => s) p) (dtyL d (fun _ => s) p) s) (n + 1) = carry d s + sm (fun p => work d p k s) (n + 1) := by
      intro n
      induction n with
      | zero =>
        show 0 + stc d k 0 0 0 s = carry d s + (0 + work d 0 k s)
        unfold stc
        rw [nd_0 s hs, nd_00 s hs, carry_0]
        omega
      | succ n ih =>
        show sm _ (n + 1) + stc d k (n + 1) (prv (fun _ => s) (n + 1)) (dtyL d (fun _ => s) (n + 1)) s = carry d s + (sm (fun p => work d p k s) (n + 1) + work d (n + 1) k s)
        rw [ih, dty_still]
        unfold stc prv
        rw [if_neg (by omega), nd_self s hs, nd_and _ (wall_lt d _) s hs, carry_0]
        omega
    rw [hm, e m]
def LF (d : dD) (k r p : Nat) (σ : sv_S) : Prop := ∀ z, z < 3 ^ dT d → sv_gA σ 38 0 (243 * p + z) = nI (Vm d k r (dP d - p) (sIn z) (sDi z))
def SF (d : dD) (k r p : Nat) (σ : sv_S) : Prop := ∀ z, z < 3 ^ dT d → sv_gA σ 39 0 (243 * p + z) = nI (Sm d k r (dP d - (p + 1)) (sIn z) (sDi z))
theorem ix243 (q z : Nat) : (243 : Int32) * nI q + nI z = nI (243 * q + z) := by rw [show (243 : Int32) = nI 243 from rfl, pk_mul, nI_add]
theorem Fm_at (d : dD) (k r q a b c : Nat) (hq : q < dP d) : Fm d k r (dP d - (q + 1)) a b c = work d q k c + carry d (nd c a) + carry d (nd b c) + Vm d k r (dP d - (q + 1)) c (dnx d q b c) := by
  unfold Fm stc
  rw [show dP d - (dP d - (q + 1) + 1) = q by omega]
