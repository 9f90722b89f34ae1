/-! a grid of ints ('multianewarray' of two dimensions), from the model's own step: the state behind it in one piece, not row by row -/
section MG
variable {p : Program} {l : Launch} {e : Env} {R : Room} {s : State} {m : MethodId} {args : Array Value} {below : List Frame} {meth : Method} {c : Code} {S T : State} {locs : List Loc} {cells slots : Nat}
/-- the outer array, when i of its rows stand -/
def mg_o (cJ : ClassId) (N h i : Nat) : Cell := arrV cJ N (fun j => va_rf (if j < i then some (h + 1 + j) else none))
/-- a row of zeros -/
def mg_r (cI : ClassId) (K : Nat) : Cell := arrV cI K (fun _ => .int 0)
/-- the state, when i rows stand -/
def mg_S (S : State) (cJ cI : ClassId) (N K i : Nat) : State := { S with heap := S.heap.push (mg_o cJ N S.heap.size i) ++ Array.replicate i (mg_r cI K), slotsUsed := S.slotsUsed + N + i * K }
theorem mg_o_set (cJ : ClassId) (N h i : Nat) : (mg_o cJ N h i).setSlot i (.ref (h + 1 + i)) = mg_o cJ N h (i + 1) := by
  unfold mg_o
  rw [arrV_store]
  refine congrArg (arrV cJ N) (funext fun j => ?_)
  unfold updV
  rcases Nat.lt_trichotomy j i with hj | hj | hj
  · rw [if_neg (by omega), if_pos (show j < i + 1 by omega)]
    show va_rf (if j < i then _ else _) = _
    rw [if_pos hj]
  · subst hj
    rw [if_pos rfl, if_pos (by omega)]
    rfl
  · rw [if_neg (by omega), if_neg (show ¬ j < i + 1 by omega)]
    show va_rf (if j < i then _ else _) = _
    rw [if_neg (by omega)]
theorem mg_o_new (cJ : ClassId) (N h : Nat) : ({ cls := cJ, slots := Array.replicate N .null, vm := .none } : Cell) = mg_o cJ N h 0 := by
  rw [arrV_new]
  refine congrArg (arrV cJ N) (funext fun j => ?_)
  rw [if_neg (Nat.not_lt_zero j)]
  rfl
theorem mg_r_new (cI : ClassId) (K : Nat) : ({ cls := cI, slots := Array.replicate K (defaultValue .int), vm := .none } : Cell) = mg_r cI K := arrV_new ..
theorem mg_o_size (cJ : ClassId) (N h i : Nat) : (mg_o cJ N h i).slots.size = N := arrV_size ..
theorem mg_r_size (cI : ClassId) (K : Nat) : (mg_r cI K).slots.size = K := arrV_size ..
theorem mg_size (S : State) (cJ cI : ClassId) (N K i : Nat) : (mg_S S cJ cI N K i).heap.size = S.heap.size + 1 + i := by
  show (S.heap.push _ ++ Array.replicate i _).size = _
  rw [Array.size_append, Array.size_push, Array.size_replicate]
theorem mg_heap (A : Heap) (o r : Cell) (i x : Nat) : (A.push o ++ Array.replicate i r)[x]? = if x < A.size then A[x]? else if x = A.size then some o else if x < A.size + 1 + i then some r else none := by
  rw [Array.getElem?_append, Array.size_push, Array.getElem?_push, Array.getElem?_replicate]
  rcases Nat.lt_trichotomy x A.size with h | h | h
  · rw [if_pos (by omega), if_neg (by omega), if_pos h]
  · rw [if_pos (by omega), if_pos h, if_neg (by omega), if_pos h]
  · rw [if_neg (by omega), if_neg (by omega : ¬ x < A.size), if_neg (by omega : ¬ x = A.size)]
    by_cases h2 : x < A.size + 1 + i
    · rw [if_pos (by omega), if_pos h2]
    · rw [if_neg (by omega), if_neg h2]
theorem mg_get (S : State) (cJ cI : ClassId) (N K i x : Nat) : (mg_S S cJ cI N K i).heap[x]? = if x < S.heap.size then S.heap[x]? else if x = S.heap.size then some (mg_o cJ N S.heap.size i) else if x < S.heap.size + 1 + i then some (mg_r cI K) else none := mg_heap ..
theorem mg_old (S : State) (cJ cI : ClassId) (N K i : Nat) {x : Nat} (h : x < S.heap.size) : (mg_S S cJ cI N K i).heap[x]? = S.heap[x]? := by
  rw [mg_get, if_pos h]
theorem mg_outer (S : State) (cJ cI : ClassId) (N K i : Nat) : (mg_S S cJ cI N K i).heap[S.heap.size]? = some (mg_o cJ N S.heap.size i) := by
  rw [mg_get, if_neg (Nat.lt_irrefl _), if_pos rfl]
theorem mg_row (S : State) (cJ cI : ClassId) (N K i : Nat) {j : Nat} (h : j < i) : (mg_S S cJ cI N K i).heap[S.heap.size + 1 + j]? = some (mg_r cI K) := by
  rw [mg_get, if_neg (by omega), if_neg (by omega), if_pos (by omega)]
theorem mg_zero (S : State) (cJ cI : ClassId) (N K : Nat) : S.pushCell (mg_o cJ N S.heap.size 0) = mg_S S cJ cI N K 0 := by
  unfold State.pushCell mg_S
  rw [mg_o_size, Nat.zero_mul, Nat.add_zero, Array.replicate_zero, Array.append_empty]
theorem mg_grow (A : Heap) (o o' r : Cell) (i : Nat) : ((A.push o ++ Array.replicate i r).push r).setIfInBounds A.size o' = A.push o' ++ Array.replicate (i + 1) r := by
  refine Array.ext_getElem? (fun x => ?_)
  rw [mg_heap, Array.getElem?_setIfInBounds, Array.getElem?_push, mg_heap]
  simp only [Array.size_push, Array.size_append, Array.size_replicate]
  rcases Nat.lt_trichotomy x A.size with h | h | h
  · rw [if_neg (by omega), if_neg (by omega), if_pos h, if_pos h]
  · rw [if_pos h.symm, if_pos (by omega), if_neg (by omega), if_pos h]
  · rw [if_neg (by omega)]
    by_cases h2 : x = A.size + 1 + i
    · rw [if_pos h2, if_neg (by omega), if_neg (by omega), if_pos (by omega)]
    · rw [if_neg h2, if_neg (by omega), if_neg (by omega), if_neg (by omega : ¬ x < A.size), if_neg (by omega : ¬ x = A.size)]
      by_cases h3 : x < A.size + 1 + i
      · rw [if_pos h3, if_pos (by omega)]
      · rw [if_neg h3, if_neg (by omega)]
theorem mg_succ (S : State) (cJ cI : ClassId) (N K i : Nat) : ((mg_S S cJ cI N K i).pushCell (mg_r cI K)).setCell S.heap.size (mg_o cJ N S.heap.size (i + 1)) = mg_S S cJ cI N K (i + 1) := by
  have e2 : S.slotsUsed + N + i * K + (mg_r cI K).slots.size = S.slotsUsed + N + (i + 1) * K := by
    rw [mg_r_size, Nat.succ_mul]
    omega
  show ({ S with heap := ((S.heap.push (mg_o cJ N S.heap.size i) ++ Array.replicate i (mg_r cI K)).push (mg_r cI K)).setIfInBounds S.heap.size (mg_o cJ N S.heap.size (i + 1)), slotsUsed := S.slotsUsed + N + i * K + (mg_r cI K).slots.size } : State) = _
  rw [mg_grow, e2]
  rfl
theorem mg_top (S : State) (f : JFrame) (cJ cI : ClassId) (N K i : Nat) : mg_S (S.setTop f) cJ cI N K i = (mg_S S cJ cI N K i).setTop f := rfl
theorem mg_stand (X : Stand p l e R s m args below meth c S locs cells slots) (cJ cI : ClassId) (N K : Nat) : ∀ i : Nat, Stand p l e R s m args below meth c (mg_S S cJ cI N K i) locs (cells + 1 + i) (slots + N + i * K)
  | 0 => by
    have h := X.pushed (mg_o cJ N S.heap.size 0)
    rw [mg_zero S cJ cI N K, mg_o_size] at h
    rw [Nat.zero_mul]
    exact h
  | i + 1 => by
    have Xi := mg_stand X cJ cI N K i
    have h1 : ((mg_S S cJ cI N K i).pushCell (mg_r cI K)).heap[S.heap.size]? = some (mg_o cJ N S.heap.size i) := by
      show ((mg_S S cJ cI N K i).heap.push (mg_r cI K))[S.heap.size]? = _
      rw [Array.getElem?_push, if_neg (by rw [mg_size]; omega), mg_outer]
    have h2 := (Xi.pushed (mg_r cI K)).stored h1 i (.ref (S.heap.size + 1 + i))
    rw [mg_o_set, mg_succ, mg_r_size] at h2
    have h3 := h2.dropFresh (J := [⟨S.heap.size, i⟩]) (fun x hx => by rw [List.mem_singleton.mp hx]; exact X.heapGrown)
    rw [Nat.succ_mul, ← Nat.add_assoc (slots + N)]
    exact h3
/-- a counted loop of the model's -/
theorem mg_for {E : CtlPost} {e : Env} {Q : PUnit → Pre} (st : Nat → State) (N : Nat) (f : Nat → PUnit → Sem (ForInStep PUnit))
    (hf : ∀ i, i < N → ∀ (d : Bool) (acts : List Action) (Q' : ForInStep PUnit → Pre), (∀ (d' : Bool) (acts' : List Action), Q' (.yield PUnit.unit) d' acts' (st (i + 1))) → wp (f i PUnit.unit) Q' E e d acts (st i))
    (hq : ∀ (d : Bool) (acts : List Action), Q PUnit.unit d acts (st N)) : ∀ (r i : Nat) (d : Bool) (acts : List Action), i + r = N → wp (forIn (List.range' i r) PUnit.unit f) Q E e d acts (st i)
  | 0, i, d, acts, h => by
    have hi : i = N := h
    subst hi
    simp only [List.range'_zero, List.forIn_nil, wp_pure']
    exact hq d acts
  | r + 1, i, d, acts, h => by
    rw [List.range'_succ, List.forIn_cons, wp_bind']
    exact hf i (by omega) d acts _ (fun d' acts' => mg_for st N f hf hq r (i + 1) d' acts' (by omega))
theorem mg_over {args : Array Value} {s : State} (h : (Cond.arrayOver (.array .int)).before args s = true) :
    ∃ (cI cJ : ClassId) (kJ : Class), s.vm.findClass "[I" = some cI ∧ s.vm.findClass "[[I" = some cJ ∧ s.vm.classes[cJ]? = some kJ ∧ kJ.kind = .array cI (.array .int) := by
  simp only [Cond.before, Cond.holds, Cond.value, beq_iff_eq] at h
  obtain ⟨cI, h1, h2⟩ := Option.bind_eq_some_iff.mp h
  obtain ⟨cJ, h3, h4⟩ := Option.bind_eq_some_iff.mp h2
  obtain ⟨kJ, h5, h6⟩ := Option.map_eq_some_iff.mp h4
  have h7 := Array.of_findIdx?_eq_some h3
  rw [h5] at h7
  cases hk : kJ.kind with
  | array a t =>
    simp only [hk, Bool.and_eq_true, decide_eq_true_eq, beq_iff_eq] at h6 h7
    exact ⟨cI, cJ, kJ, h1, h6.2, h5, by rw [hk, h7, h6.1]⟩
  | _ => simp [hk] at h6
theorem mg_make {E : CtlPost} {e : Env} {d : Bool} {acts : List Action} {Q : Addr → Pre} {cJ cI cc : ClassId} {kJ kI : Class} (hkJ : S.vm.classes[cJ]? = some kJ) (hJ : kJ.kind = .array cI (.array .int)) (hkI : S.vm.classes[cI]? = some kI) (hI : kI.kind = .array cc .int)
    {n k : Int32} {N K : Nat} (hn : ¬ n < 0) (hk : ¬ k < 0) (hN : n.toNatClampNeg = N) (hK : k.toNatClampNeg = K) (l1 : ¬ N > e.platform.arrayLengthLimit) (l2 : ¬ N * 4 > e.platform.maxHeapBytes) (l3 : ¬ K > e.platform.arrayLengthLimit) (l4 : ¬ K * 4 > e.platform.maxHeapBytes)
    (r1 : S.heap.size + (1 + N) ≤ e.platform.maxCells) (r2 : S.slotsUsed + (N + N * K) ≤ e.platform.maxSlots) (hq : ∀ (d : Bool) (acts : List Action), Q S.heap.size d acts (mg_S S cJ cI N K N)) : wp (multianewarray.make cJ [n, k]) Q E e d acts S := by
  subst hN
  subst hK
  rw [multianewarray.make]
  simp only [wp_bind', Jvm.W.ite, hn, if_false, wp_pure', Jvm.W.theClass, hkJ, hJ, Option.some.injEq, exists_eq_left']
  refine Jvm.W.newArray_of hkJ hJ l1 l2 (by omega) (by omega) rfl (fun acts1 => ?_)
  have hfind : ([k].find? (· < 0)) = none := by simp [hk]
  rw [mg_o_new cJ _ S.heap.size, mg_zero S cJ cI _ k.toNatClampNeg]
  simp only [hfind, ite_self, wp_bind', wp_pure', Std.Legacy.Range.forIn_eq_forIn_range', Std.Legacy.Range.size]
  rw [show (n.toNatClampNeg - 0 + 1 - 1) / 1 = n.toNatClampNeg by omega]
  refine mg_for (mg_S S cJ cI n.toNatClampNeg k.toNatClampNeg) n.toNatClampNeg _ (fun i hi d2 acts2 Q' hQ' => ?_) (fun d2 acts2 => ?_) n.toNatClampNeg 0 d acts1 (by omega)
  · have hvI : (mg_S S cJ cI n.toNatClampNeg k.toNatClampNeg i).vm.classes[cI]? = some kI := hkI
    have hvJ : (mg_S S cJ cI n.toNatClampNeg k.toNatClampNeg i).vm.classes[cJ]? = some kJ := hkJ
    have hmul := Nat.mul_le_mul_right k.toNatClampNeg (show i + 1 ≤ n.toNatClampNeg from hi)
    rw [Nat.succ_mul] at hmul
    have hu : (mg_S S cJ cI n.toNatClampNeg k.toNatClampNeg i).slotsUsed + k.toNatClampNeg ≤ e.platform.maxSlots := by
      show S.slotsUsed + n.toNatClampNeg + i * k.toNatClampNeg + k.toNatClampNeg ≤ _
      omega
    rw [multianewarray.make]
    simp only [wp_bind', Jvm.W.ite, hk, if_false, wp_pure', Jvm.W.theClass, hvI, hI, Option.some.injEq, exists_eq_left']
    refine Jvm.W.newArray_of hvI hI l3 l4 (by rw [mg_size]; omega) hu rfl (fun acts3 => ?_)
    rw [mg_r_new, mg_size]
    simp only [wp_bind', Jvm.W.writeLoc, wp_pure']
    refine ⟨mg_o cJ n.toNatClampNeg S.heap.size i, ?_, (fun h => by cases h), by rw [mg_o_size]; exact hi, ?_, ?_⟩
    · show ((mg_S S cJ cI n.toNatClampNeg k.toNatClampNeg i).heap.push (mg_r cI k.toNatClampNeg))[S.heap.size]? = _
      rw [Array.getElem?_push, if_neg (by rw [mg_size]; omega), mg_outer]
    · show State.fitsSlot _ cJ .none i _ = true
      simp [State.fitsSlot, State.slotType?, hvJ, hJ, fits]
    · rw [mg_o_set, mg_succ]
      exact hQ' _ _
  · rw [wp_pure']
    exact hq _ _
/-- the step: the grid stands, its outer array in the heap's first free place, its rows behind it -/
theorem mg_step (X : Stand p l e R s m args below meth c T locs cells slots) (hexec : p.tables.exec = Jvm.exec) {own : String} {index : Nat} (hown : s.vm.findClass own = some m.cls) (hclink : (Cond.classLink own index "[[I").before args s = true)
    (hover : (Cond.arrayOver (.array .int)).before args s = true) (harr : (Cond.arrayClass .int).before args s = true) {cI cJ : ClassId} (fI : s.vm.findClass "[I" = some cI) (fJ : s.vm.findClass "[[I" = some cJ)
    {g : JFrame} (hg : g.method = m) (hdg : decode c.code g.pc = .ok (.multianewarray index 2, 4)) {n k : Int32} {rest : List Value} (hstack : g.stack = .int k :: .int n :: rest) {N K : Nat} (hn : ¬ n < 0) (hk : ¬ k < 0) (hN : n.toNatClampNeg = N) (hK : k.toNatClampNeg = K)
    (b1 : N * 4 ≤ 536870912) (b2 : K * 4 ≤ 536870912) (hcells : cells + (1 + N) ≤ R.cells) (hslots : slots + (N + N * K) ≤ R.slots) :
    ∃ U : State, U.heap = T.heap ∧ Stand p l e R s m args below meth c (mg_S U cJ cI N K N) locs (cells + 1 + N) (slots + N + N * K) ∧
      ∀ t, Steps p.tables e below ((mg_S U cJ cI N K N).setTop { g with pc := g.pc + 4, stack := .ref T.heap.size :: rest }) t → Steps p.tables e below (T.setTop g) t := by
  subst hg
  obtain ⟨cI', cJ', kJ, gI, gJ, hkJ, hJ⟩ := mg_over hover
  obtain ⟨cI'', kI, cc, gI', hkI, hI⟩ := Cond.arrayClass_spec harr
  cases Option.some.inj (gI.symm.trans fI)
  cases Option.some.inj (gJ.symm.trans fJ)
  cases Option.some.inj ((show s.vm.findClass "[I" = some cI'' from gI').symm.trans fI)
  obtain ⟨cL, fL, hL⟩ := Cond.classLink_spec hown hclink e.platform (by rw [X.admits.platform])
  cases Option.some.inj (fL.symm.trans fJ)
  obtain ⟨hgive, hwarm, -⟩ := State.classEntry (e := e) X.warmed hL
  generalize T.vm.noted g.method.cls index (.cls cJ) = vm1 at hgive hwarm
  obtain ⟨kJ1, hkJ1, eJ1⟩ := hwarm.alike.2.2 _ _ hkJ
  obtain ⟨kI1, hkI1, eI1⟩ := hwarm.alike.2.2 _ _ hkI
  have hJ1 : kJ1.kind = .array cI (.array .int) := by rw [eJ1]; exact hJ
  have hI1 : kI1.kind = .array cc .int := by rw [eI1]; exact hI
  obtain ⟨r1, r2⟩ := X.roomAbove hcells hslots
  have XF := mg_stand (X.noted hwarm) cJ cI N K N
  refine ⟨T.setVm vm1, rfl, XF, fun t ht => ?_⟩
  have q1 : ¬ N > e.platform.arrayLengthLimit := by rw [Launch.admits_arrayLengthLimit X.admits]; omega
  have q2 : ¬ N * 4 > e.platform.maxHeapBytes := by rw [Launch.admits_maxHeapBytes X.admits]; omega
  have q3 : ¬ K > e.platform.arrayLengthLimit := by rw [Launch.admits_arrayLengthLimit X.admits]; omega
  have q4 : ¬ K * 4 > e.platform.maxHeapBytes := by rw [Launch.admits_maxHeapBytes X.admits]; omega
  have htop : ((T.setTop g).setVm vm1).topJava? = some g := State.topJava?_setTop' (s := T.setVm vm1) g X.here.top
  have hst : ((T.setTop g).setVm vm1).setTop { g with stack := rest } = (T.setVm vm1).setTop { g with stack := rest } := State.setTop_setTop (s := T.setVm vm1) ..
  jvm_step X.here [hexec, hdg]
  simp only [multianewarray.sem, wp_bind', Jvm.W.resolveClassAt_links (State.method?_setTop g X.here.top) hgive]
  refine (Jvm.W.popN 2).mpr ?_
  rw [if_neg (by decide)]
  refine ⟨g, htop, [.int n, .int k], rest, rfl, hstack, ?_⟩
  rw [hst]
  simp only [List.mapM_cons, List.mapM_nil, wp_bind', wp_pure']
  refine mg_make (S := (T.setVm vm1).setTop { g with stack := rest }) hkJ1 hJ1 hkI1 hI1 hn hk hN hK q1 q2 q3 q4 r1 r2 (fun d2 acts2 => ?_)
  rw [mg_top]
  simp only [wp_bind', Jvm.W.mark, Jvm.W.pushRef, State.topJava?_setTop' _ XF.here.top, Option.some.injEq, exists_eq_left', State.setTop_setTop, State.heap_setTop]
  intro acts3
  simp [jvm, XF.here.top]
  exact ht
end MG
