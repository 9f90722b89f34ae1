/-! places, by first fit -/
theorem lN_and (a b : Nat) : lN a &&& lN b = lN (a &&& b) := by
  apply Int64.toBitVec_inj.1
  show BitVec.ofNat 64 a &&& BitVec.ofNat 64 b = BitVec.ofNat 64 (a &&& b)
  apply BitVec.eq_of_getLsbD_eq
  intro i hi
  simp [hi]
theorem lN_or (a b : Nat) : lN a ||| lN b = lN (a ||| b) := by
  apply Int64.toBitVec_inj.1
  show BitVec.ofNat 64 a ||| BitVec.ofNat 64 b = BitVec.ofNat 64 (a ||| b)
  apply BitVec.eq_of_getLsbD_eq
  intro i hi
  simp [hi]
theorem lN_xor (a b : Nat) : lN a ^^^ lN b = lN (a ^^^ b) := by
  apply Int64.toBitVec_inj.1
  show BitVec.ofNat 64 a ^^^ BitVec.ofNat 64 b = BitVec.ofNat 64 (a ^^^ b)
  apply BitVec.eq_of_getLsbD_eq
  intro i hi
  simp [hi]
theorem lN_inj {a b : Nat} (ha : a < 2 ^ 63) (hb : b < 2 ^ 63) : lN a = lN b ↔ a = b := by
  constructor
  · intro h
    have h1 : (BitVec.ofNat 64 a).toNat = (BitVec.ofNat 64 b).toNat := congrArg (fun x : Int64 => x.toBitVec.toNat) h
    rw [BitVec.toNat_ofNat, BitVec.toNat_ofNat, Nat.mod_eq_of_lt (by omega), Nat.mod_eq_of_lt (by omega)] at h1
    exact h1
  · rintro rfl; rfl
def msk (a z : Nat) : Nat := (2 ^ z - 1) <<< a
theorem msk_bit (a z c : Nat) : (msk a z).testBit c = true ↔ a ≤ c ∧ c < a + z := by
  unfold msk
  rw [Nat.testBit_shiftLeft, Nat.testBit_two_pow_sub_one]
  simp
  omega
theorem msk_lt {a z : Nat} (h : a + z ≤ 80) : msk a z < 2 ^ 80 := by
  unfold msk
  rw [Nat.shiftLeft_eq]
  have h1 : 2 ^ z - 1 < 2 ^ z := Nat.sub_lt (Nat.two_pow_pos _) (by omega)
  calc (2 ^ z - 1) * 2 ^ a < 2 ^ z * 2 ^ a := Nat.mul_lt_mul_of_pos_right h1 (Nat.two_pow_pos _)
    _ = 2 ^ (z + a) := (Nat.pow_add 2 z a).symm
    _ ≤ 2 ^ 80 := Nat.pow_le_pow_right (by omega) (by omega)
theorem msk_java : ∀ z, z < 21 → ∀ a, a < 60 → (((1 : Int64) <<< ((nI z).toInt64 &&& 63)) - (1 : Int64)) <<< ((nI a).toInt64 &&& 63) = lN (msk a z) := by decide +kernel
def frP (d : dD) (pl : Nat → Option Nat) (t a : Nat) : Prop := a + dZ d t ≤ dS d 0 ∧ ∀ x, x < dT d → ∀ q, pl x = some q → q + dZ d x ≤ a ∨ a + dZ d t ≤ q
noncomputable def frB (d : dD) (pl : Nat → Option Nat) (t a : Nat) : Bool := @decide (frP d pl t a) (Classical.propDecidable _)
theorem frB_iff (d : dD) (pl : Nat → Option Nat) (t a : Nat) : frB d pl t a = true ↔ frP d pl t a := by
  unfold frB
  exact @decide_eq_true_iff _ (Classical.propDecidable _)
noncomputable def fplace (d : dD) (pl : Nat → Option Nat) (t : Nat) : Option Nat := if frs (frB d pl t) 60 < 60 then some (frs (frB d pl t) 60) else none
def fpI (o : Option Nat) : Int32 := match o with
  | some a => nI a
  | none => -9
def plgone (pl : Nat → Option Nat) (z : Nat) : Nat → Option Nat := fun t => if z.testBit t = true then none else pl t
def plset (pl : Nat → Option Nat) (t a : Nat) : Nat → Option Nat := fun x => if x = t then some a else pl x
noncomputable def plstep (d : dD) (z t : Nat) (q : (Nat → Option Nat) × Nat) : Option ((Nat → Option Nat) × Nat) := if z.testBit t = true then (fplace d q.1 t).map (fun a => (plset q.1 t a, max q.2 (a + dZ d t))) else some q
noncomputable def plAll (d : dD) (ord : Nat → Nat) (z : Nat) : Nat → (Nat → Option Nat) × Nat → Option ((Nat → Option Nat) × Nat)
  | 0, q => some q
  | n + 1, q => (plAll d ord z n q).bind (plstep d z (ord n))
def prv (L : Nat → Nat) (p : Nat) : Nat := if p = 0 then 0 else L (p - 1)
noncomputable def shl (d : dD) (L : Nat → Nat) (ord : Nat → Nat) : Nat → Option ((Nat → Option Nat) × Nat)
  | 0 => some (fun _ => none, 0)
  | p + 1 => (shl d L ord p).bind (fun q => plAll d ord (fetL L p) (dT d) (plgone q.1 (nd (prv L p) (L p)), q.2))
/-- orders -/
def scX (block rest : Nat) : Nat → Nat → Nat → Nat × Nat
  | 0, t, left => (t, left)
  | n + 1, t, left => if rest.testBit t = true then (if left < block then (t, left) else scX block rest n (t + 1) (left - block)) else scX block rest n (t + 1) left
def rdX (T o : Nat) : Nat → Nat × Nat
  | 0 => (o, 2 ^ T - 1)
  | i + 1 => ((scX (fct (T - 1 - i)) (rdX T o i).2 T 0 (rdX T o i).1).2, nd (rdX T o i).2 (2 ^ (scX (fct (T - 1 - i)) (rdX T o i).2 T 0 (rdX T o i).1).1))
def ordX (T o i : Nat) : Nat := (scX (fct (T - 1 - i)) (rdX T o i).2 T 0 (rdX T o i).1).1
theorem ord_lt : ∀ T, T < 6 → ∀ o, o < fct T → ∀ i, i < T → ordX T o i < T := by decide +kernel
theorem ord_inj : ∀ T, T < 6 → ∀ o, o < fct T → ∀ i, i < T → ∀ j, j < T → ordX T o i = ordX T o j → i = j := by decide +kernel
theorem ord_onto : ∀ T, T < 6 → ∀ o, o < fct T → ∀ t, t < T → ∃ i, i < T ∧ ordX T o i = t := by decide +kernel
theorem rd_lt : ∀ T, T < 6 → ∀ o, o < fct T → ∀ i, i < T → (rdX T o i).1 < 2 ^ 20 ∧ (rdX T o i).2 < 32 := by decide +kernel
noncomputable def stkP (d : dD) (L : Nat → Nat) (o p : Nat) : Bool := (shl d L (ordX (dT d) o) (p + 1)).isNone
noncomputable def stkN (d : dD) (o n : Nat) : Int32 := if frs (stkP d (dL d) o) n < n then nI (frs (stkP d (dL d) o) n) else -9
/-- the class's shelf holds these places -/
def UI (d : dD) (pl : Nat → Option Nat) (σ : sv_S) : Prop := ∃ u : Nat, sv_gJ σ 3 4 = lN u ∧ u < 2 ^ 60 ∧ (∀ c, u.testBit c = true ↔ ∃ t, t < dT d ∧ ∃ q, pl t = some q ∧ q ≤ c ∧ c < q + dZ d t) ∧ (∀ t, t < dT d → ∀ q, pl t = some q → sv_gA σ 30 0 t = nI q ∧ q + dZ d t ≤ dS d 0) ∧ (∀ t t' q q', t < dT d → t' < dT d → t ≠ t' → pl t = some q → pl t' = some q' → q + dZ d t ≤ q' ∨ q' + dZ d t' ≤ q)
def plPost (d : dD) (o : Option ((Nat → Option Nat) × Nat)) (v : Int32) (σ2 : sv_S) : Prop := match o with
  | some q => v = 1 ∧ UI d q.1 σ2 ∧ (sv_gA σ2 3 0 5 = nI q.2 ∧ q.2 ≤ 60)
  | none => v = 0
theorem UI_fr {d : dD} {pl : Nat → Option Nat} {σ σ' : sv_S} {gl : List Nat} (h : UI d pl σ) (e : sq gl σ σ') (hg : (3 ∉ gl ∧ 30 ∉ gl) := by decide) : UI d pl σ' := by
  obtain ⟨u, h1, h2, h3, h4, h5⟩ := h
  exact ⟨u, by rw [e.2 _ hg.1]; exact h1, h2, h3, fun t ht q hq => by rw [e.1 _ hg.2]; exact h4 t ht q hq, h5⟩
theorem fplace_some {d : dD} (h : wfP d) {pl : Nat → Option Nat} {t a : Nat} (ht : t < dT d) (ha : frP d pl t a) (hn : ∀ j, j < a → ¬ frP d pl t j) : fplace d pl t = some a := by
  have hz := (h.2.2.2.1 t ht).1
  have hr := h.2.2.2.2.2.2.1
  have h1 := ha.1
  have e : frs (frB d pl t) 60 = a := frs_eq (by omega) ((frB_iff d pl t a).mpr ha) (fun j hj => by
    cases hb : frB d pl t j with
    | false => rfl
    | true => exact absurd ((frB_iff d pl t j).mp hb) (hn j hj))
  unfold fplace
  rw [e, if_pos (by omega)]
theorem fplace_none {d : dD} {pl : Nat → Option Nat} {t : Nat} (hn : ∀ j, ¬ frP d pl t j) : fplace d pl t = none := by
  unfold fplace
  rw [if_neg]
  intro h
  exact hn _ ((frB_iff d pl t _).mp (frs_yes _ _ h))
theorem fplace_at {d : dD} {pl : Nat → Option Nat} {t a : Nat} (h : fplace d pl t = some a) : frP d pl t a ∧ a < 60 := by
  unfold fplace at h
  by_cases hc : frs (frB d pl t) 60 < 60
  · rw [if_pos hc] at h
    have e := Option.some.inj h
    rw [← e]
    exact ⟨(frB_iff d pl t _).mp (frs_yes _ _ hc), hc⟩
  · rw [if_neg hc] at h
    cases h
/-- the mask test is the places test -/
theorem msk_free {d : dD} (h : wfP d) {pl : Nat → Option Nat} {u t a : Nat} (ht : t < dT d) (hu : ∀ c, u.testBit c = true ↔ ∃ t, t < dT d ∧ ∃ q, pl t = some q ∧ q ≤ c ∧ c < q + dZ d t) : u &&& msk a (dZ d t) = 0 ↔ ∀ x, x < dT d → ∀ q, pl x = some q → q + dZ d x ≤ a ∨ a + dZ d t ≤ q := by
  have hz := (h.2.2.2.1 t ht).1
  constructor
  · intro h0 x hx q hq
    have hzx := (h.2.2.2.1 x hx).1
    apply Classical.byContradiction
    intro hc
    have hb : (u &&& msk a (dZ d t)).testBit (max q a) = true := by
      rw [and_bit, hu, msk_bit]
      exact ⟨⟨x, hx, q, hq, by omega, by omega⟩, by omega, by omega⟩
    rw [h0, Nat.zero_testBit] at hb
    cases hb
  · intro hf
    apply Nat.eq_of_testBit_eq
    intro c
    rw [Nat.zero_testBit]
    cases hb : (u &&& msk a (dZ d t)).testBit c with
    | false => rfl
    | true =>
      rw [and_bit, hu, msk_bit] at hb
      obtain ⟨⟨x, hx, q, hq, h1, h2⟩, h3, h4⟩ := hb
      rcases hf x hx q hq with y | y <;> omega
theorem plAll_none {d : dD} {ord : Nat → Nat} {z : Nat} {q : (Nat → Option Nat) × Nat} {n : Nat} (h : plAll d ord z n q = none) : ∀ m, n ≤ m → plAll d ord z m q = none := by
  intro m hm
  obtain ⟨k, rfl⟩ : ∃ k, m = n + k := ⟨m - n, by omega⟩
  clear hm
  induction k with
  | zero => exact h
  | succ k ih =>
    show (plAll d ord z (n + k) q).bind _ = none
    rw [ih]
    rfl
theorem shl_none {d : dD} {L ord : Nat → Nat} {n : Nat} (h : shl d L ord n = none) : ∀ m, n ≤ m → shl d L ord m = none := by
  intro m hm
  obtain ⟨k, rfl⟩ : ∃ k, m = n + k := ⟨m - n, by omega⟩
  clear hm
  induction k with
  | zero => exact h
  | succ k ih =>
    show (shl d L ord (n + k)).bind _ = none
    rw [ih]
    rfl
/-- which things have a place behind plAll -/
theorem plAll_in {d : dD} {ord : Nat → Nat} {z : Nat} {q : (Nat → Option Nat) × Nat} : ∀ {n : Nat} {q' : (Nat → Option Nat) × Nat}, plAll d ord z n q = some q' → ∀ t, (q'.1 t ≠ none ↔ q.1 t ≠ none ∨ (z.testBit t = true ∧ ∃ k, k < n ∧ ord k = t)) ∧ ((∀ k, k < n → ord k ≠ t) → q'.1 t = q.1 t)
  | 0, q', h, t => by
    cases h
    exact ⟨⟨fun y => Or.inl y, fun y => y.elim id (fun z => by obtain ⟨_, k, hk, _⟩ := z; omega)⟩, fun _ => rfl⟩
  | n + 1, q', h, t => by
    have h0 : (plAll d ord z n q).bind (plstep d z (ord n)) = some q' := h
    cases hq : plAll d ord z n q with
    | none => rw [hq] at h0; cases h0
    | some q1 =>
      rw [hq] at h0
      have h1 : plstep d z (ord n) q1 = some q' := h0
      have ih := plAll_in hq t
      unfold plstep at h1
      by_cases hz : z.testBit (ord n) = true
      · rw [if_pos hz] at h1
        cases hf : fplace d q1.1 (ord n) with
        | none => rw [hf] at h1; cases h1
        | some a =>
          rw [hf] at h1
          have e : q' = (plset q1.1 (ord n) a, max q1.2 (a + dZ d (ord n))) := (Option.some.inj h1).symm
          subst e
          refine ⟨?_, fun hno => ?_⟩
          · show plset q1.1 (ord n) a t ≠ none ↔ _
            unfold plset
            by_cases ht : t = ord n
            · rw [if_pos ht]
              exact ⟨fun _ => Or.inr ⟨by rw [ht]; exact hz, n, by omega, ht.symm⟩, fun _ y => by cases y⟩
            · rw [if_neg ht, ih.1]
              constructor
              · rintro (y | ⟨y, k, hk, e⟩)
                · exact Or.inl y
                · exact Or.inr ⟨y, k, by omega, e⟩
              · rintro (y | ⟨y, k, hk, e⟩)
                · exact Or.inl y
                · exact Or.inr ⟨y, k, by rcases Nat.lt_or_ge k n with g | g; exact g; exact absurd (by rw [← e, show k = n by omega]) ht, e⟩
          · show plset q1.1 (ord n) a t = _
            unfold plset
            rw [if_neg (fun y => hno n (by omega) y.symm)]
            exact ih.2 (fun k hk => hno k (by omega))
      · rw [if_neg hz] at h1
        cases h1
        refine ⟨?_, fun hno => ih.2 (fun k hk => hno k (by omega))⟩
        rw [ih.1]
        constructor
        · rintro (y | ⟨y, k, hk, e⟩)
          · exact Or.inl y
          · exact Or.inr ⟨y, k, by omega, e⟩
        · rintro (y | ⟨y, k, hk, e⟩)
          · exact Or.inl y
          · exact Or.inr ⟨y, k, by rcases Nat.lt_or_ge k n with g | g; exact g; exact absurd y (by rw [← e, show k = n by omega]; exact hz), e⟩
theorem prv_lt {L : Nat → Nat} {p P : Nat} (h : ∀ q, q < P → L q < 32) (hp : p ≤ P) : prv L p < 32 := by
  unfold prv
  split
  · omega
  · exact h _ (by omega)
theorem fet_prv (L : Nat → Nat) (p : Nat) : fetL L p = nd (L p) (prv L p) := rfl
/-- which things have a place ahead of a part -/
theorem shl_in {d : dD} (h : wfP d) {L : Nat → Nat} (hL : ∀ p, p < dP d → L p < 2 ^ dT d) {o : Nat} (ho : o < fct (dT d)) : ∀ {p : Nat} {q : (Nat → Option Nat) × Nat}, p ≤ dP d → shl d L (ordX (dT d) o) p = some q → ∀ t, q.1 t ≠ none ↔ (prv L p).testBit t = true
  | 0, q, hp, hs, t => by
    cases hs
    unfold prv
    rw [if_pos rfl, Nat.zero_testBit]
    simp
  | p + 1, q, hp, hs, t => by
    have hT := h.2.1
    have h32 := two_pow_le h
    have hL32 : ∀ p, p < dP d → L p < 32 := fun p hp => Nat.lt_of_lt_of_le (hL p hp) h32
    have h0 : (shl d L (ordX (dT d) o) p).bind (fun q => plAll d (ordX (dT d) o) (fetL L p) (dT d) (plgone q.1 (nd (prv L p) (L p)), q.2)) = some q := hs
    cases hq : shl d L (ordX (dT d) o) p with
    | none => rw [hq] at h0; cases h0
    | some q1 =>
      rw [hq] at h0
      have h1 : plAll d (ordX (dT d) o) (fetL L p) (dT d) (plgone q1.1 (nd (prv L p) (L p)), q1.2) = some q := h0
      have ih := shl_in h hL ho (by omega) hq t
      rw [(plAll_in h1 t).1]
      have e : prv L (p + 1) = L p := by
        unfold prv
        rw [if_neg (by omega), Nat.add_sub_cancel]
      rw [e]
      have hpv := prv_lt hL32 (show p ≤ dP d by omega)
      show plgone q1.1 (nd (prv L p) (L p)) t ≠ none ∨ _ ↔ _
      unfold plgone
      by_cases ht : t < 5
      · have b1 := nd_bit _ hpv _ (hL32 p (by omega)) t ht
        have b2 := nd_bit _ (hL32 p (by omega)) _ hpv t ht
        rw [fet_prv, b2]
        by_cases c1 : (L p).testBit t = true <;> by_cases c2 : (prv L p).testBit t = true
        · rw [if_neg (fun y => (b1.mp y).2 c1), ih]
          simp [c1, c2]
        · have htT : t < dT d := Classical.byContradiction fun y => by
            have := hi_bit (hL p (by omega)) (show dT d ≤ t by omega)
            rw [c1] at this
            cases this
          obtain ⟨k, hk, ek⟩ := ord_onto (dT d) (by omega) o ho t htT
          exact ⟨fun _ => c1, fun _ => Or.inr ⟨⟨c1, c2⟩, k, hk, ek⟩⟩
        · rw [if_pos (b1.mpr ⟨c2, c1⟩)]
          simp [c1]
        · rw [if_neg (fun y => c2 (b1.mp y).1), ih]
          simp [c1, c2]
      · have f1 : (L p).testBit t = false := hi_bit (n := 5) (hL32 p (by omega)) (by omega)
        have f2 : (prv L p).testBit t = false := hi_bit (n := 5) hpv (by omega)
        have f3 : (nd (prv L p) (L p)).testBit t = false := hi_bit (n := 5) (nd_lt hpv) (by omega)
        have f4 : (fetL L p).testBit t = false := hi_bit (n := 5) (fetL_lt (hL32 p (by omega))) (by omega)
        rw [f3, f4, f1, if_neg (by decide), ih, f2]
        simp
