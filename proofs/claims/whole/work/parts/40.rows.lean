/-! rows for what is made: new cells come at the front of the list -/
section CN
variable {p : Program} {l : Launch} {e : Env} {R : Room} {s : State} {m : MethodId} {args : Array Value} {below : List Frame} {meth : Method} {c : Code} {H : Heap} {locs : List Loc} {cells slots : Nat} {Q : State → Prop}
variable {cc : ByteArray} {pc : Nat} {ls : Array Slot} {rest : List Value} {D : va_G} {cl : List vw_C} {A : Nat → Prop} {ws : va_W} {H0 : Heap} {cI cJ : ClassId}
theorem cn_Pc {x : Nat × va_E} (h : va_P D cl (ws ++ [x]) H) : va_P D cl (x :: ws) H := by
  intro k q hk
  cases k with
  | zero => exact h ws.length q (by rw [List.getElem?_append_right (Nat.le_refl _), Nat.sub_self]; exact hk)
  | succ k =>
    rw [List.getElem?_cons_succ] at hk
    exact h k q (by rw [List.getElem?_append_left (List.getElem?_eq_some_iff.mp hk).1]; exact hk)
theorem cn_Dc {x : Nat × va_E} (h : va_D A (ws ++ [x])) : va_D A (x :: ws) := by
  refine h.by (fun k => if k = 0 then ws.length else k - 1) (fun k q hk => ?_) (fun i j hi hj hij => ?_)
  · cases k with
    | zero =>
      show (ws ++ [x])[ws.length]? = some q
      rw [List.getElem?_append_right (Nat.le_refl _), Nat.sub_self]
      exact hk
    | succ k =>
      rw [List.getElem?_cons_succ] at hk
      show (ws ++ [x])[k]? = some q
      rw [List.getElem?_append_left (List.getElem?_eq_some_iff.mp hk).1]
      exact hk
  · have hi : i < ws.length + 1 := hi
    have hj : j < ws.length + 1 := hj
    have hij : (if i = 0 then ws.length else i - 1) = (if j = 0 then ws.length else j - 1) := hij
    by_cases c1 : i = 0 <;> by_cases c2 : j = 0
    · omega
    · rw [if_pos c1, if_neg c2] at hij; omega
    · rw [if_neg c1, if_pos c2] at hij; omega
    · rw [if_neg c1, if_neg c2] at hij; omega
theorem cn_Dn {h : Nat} {nw : va_W} (h1 : ∀ (k : Nat) (x : Nat × va_E), nw[k]? = some x → x.1 = h + k) (h2 : ∀ (k : Nat) (x : Nat × va_E), ws[k]? = some x → x.1 < h) (hD : va_D A ws) (hA : ∀ q, h ≤ q → A q) : va_D A (nw ++ ws) := by
  refine ⟨fun i j x y hi hj hxy => ?_, fun k x hx => ?_⟩
  · by_cases c1 : i < nw.length <;> by_cases c2 : j < nw.length
    · rw [List.getElem?_append_left c1] at hi
      rw [List.getElem?_append_left c2] at hj
      have := h1 _ _ hi
      have := h1 _ _ hj
      omega
    · rw [List.getElem?_append_left c1] at hi
      rw [List.getElem?_append_right (by omega)] at hj
      have := h1 _ _ hi
      have := h2 _ _ hj
      omega
    · rw [List.getElem?_append_right (by omega)] at hi
      rw [List.getElem?_append_left c2] at hj
      have := h2 _ _ hi
      have := h1 _ _ hj
      omega
    · rw [List.getElem?_append_right (by omega)] at hi hj
      have := hD.1 _ _ _ _ hi hj hxy
      omega
  · by_cases c1 : k < nw.length
    · rw [List.getElem?_append_left c1] at hx
      have := h1 _ _ hx
      exact hA _ (by omega)
    · rw [List.getElem?_append_right (by omega)] at hx
      exact hD.2 _ _ hx
abbrev cn_ty (cI cJ : ClassId) : List (ClassId × FieldType) := [(cI, .int), (cJ, .array .int)]
theorem cn_newa (hexec : p.tables.exec = Jvm.exec) (hb : c.code = cc) (harr : (Cond.arrayClass .int).before args s = true) (hK : va_K D cl (cn_ty cI cJ) s) (hP : va_P D cl ws H) (hD : va_D A ws) (hS : va_S A H0 H locs) (hA : ∀ q, H0.size ≤ q → A q)
    {n : Int32} {N : Nat} (hn : ¬ n < 0) (hN : n.toNatClampNeg = N) (hbytes : N * 4 ≤ 536870912) (hcells : cells + 1 ≤ R.cells) (hslots : slots + N ≤ R.slots) (hdg : decode cc pc = .ok (.newarray .int, 2))
    (kk : ∀ (q : Nat) (H1 : Heap), va_P D cl ((q, .inl (cI, N, .inl (fun _ => 0))) :: ws) H1 → va_D A ((q, .inl (cI, N, .inl (fun _ => 0))) :: ws) → va_S A H0 H1 locs →
      W p l e R s m args below meth c H1 locs (cells + 1) (slots + N) Q (F0 m (pc + 2) ls (.ref q :: rest))) : W p l e R s m args below meth c H locs cells slots Q (F0 m pc ls (.int n :: rest)) := by
  refine va_newa (atype := .int) (ty := .int) (a0 := (N, .inl (fun _ => 0))) hexec hb harr rfl hK hP hD hS hA (fun cA => rfl) hn hN hbytes hcells hslots hdg (fun q cA H1 hK1 hP1 hD1 hS1 => ?_)
  have e1 : s.vm.findClass ("[" ++ FieldType.int.toString) = some cA := (hK1.2 2 (cA, .int) rfl).2
  have e2 : s.vm.findClass ("[" ++ FieldType.int.toString) = some cI := (hK.2 0 (cI, .int) rfl).2
  have e3 : cA = cI := Option.some.inj (e1.symm.trans e2)
  subst e3
  exact kk q H1 (cn_Pc hP1) (cn_Dc hD1) hS1
def cn_grid (cI cJ : ClassId) (q N K : Nat) : va_W := (q, .inl (cJ, N, .inr (.inr (.inr (.inr (fun i => if i < N then some (q + 1 + i) else none)))))) :: (List.range N).map (fun i => (q + 1 + i, .inl (cI, K, .inl (fun _ => 0))))
theorem cn_mna (hexec : p.tables.exec = Jvm.exec) (hb : c.code = cc) {own : String} {index : Nat} (hown : s.vm.findClass own = some m.cls) (hclink : (Cond.classLink own index "[[I").before args s = true) (hover : (Cond.arrayOver (.array .int)).before args s = true) (harr : (Cond.arrayClass .int).before args s = true) (hK : va_K D cl (cn_ty cI cJ) s) (hP : va_P D cl ws H) (hD : va_D A ws) (hS : va_S A H0 H locs) (hA : ∀ q, H0.size ≤ q → A q)
    {n k : Int32} {N K : Nat} (hn : ¬ n < 0) (hk : ¬ k < 0) (hN : n.toNatClampNeg = N) (hM : k.toNatClampNeg = K) (hb1 : N * 4 ≤ 536870912) (hb2 : K * 4 ≤ 536870912) (hb3 : K ≤ 536870912) (hcells : cells + (1 + N) ≤ R.cells) (hslots : slots + (N + N * K) ≤ R.slots) (hdg : decode cc pc = .ok (.multianewarray index 2, 4))
    (kk : ∀ (q : Nat) (H1 : Heap), va_P D cl (cn_grid cI cJ q N K ++ ws) H1 → va_D A (cn_grid cI cJ q N K ++ ws) → va_S A H0 H1 locs →
      W p l e R s m args below meth c H1 locs (cells + 1 + N) (slots + N + N * K) Q (F0 m (pc + 4) ls (.ref q :: rest))) : W p l e R s m args below meth c H locs cells slots Q (F0 m pc ls (.int k :: .int n :: rest)) := by
  subst hN
  subst hM
  intro T hT Xs
  obtain ⟨U, hU, X', step⟩ := mg_step Xs hexec hown hclink hover harr (hK.2 0 (cI, .int) rfl).2 (hK.2 1 (cJ, .array .int) rfl).2 (g := F0 m pc ls (.int k :: .int n :: rest)) rfl (by rw [hb]; exact hdg) rfl hn hk rfl rfl hb1 hb2 hcells hslots
  have hTh : U.heap = H := hU.trans hT
  have f1 := mg_size U cJ cI n.toNatClampNeg k.toNatClampNeg n.toNatClampNeg
  have f2 := mg_outer U cJ cI n.toNatClampNeg k.toNatClampNeg n.toNatClampNeg
  have hold : ∀ x : Nat, x < H.size → (mg_S U cJ cI n.toNatClampNeg k.toNatClampNeg n.toNatClampNeg).heap[x]? = H[x]? := fun x hx => by
    rw [mg_old _ _ _ _ _ _ (by rw [hTh]; exact hx), hTh]
  have hrow : ∀ j : Nat, j < n.toNatClampNeg → (mg_S U cJ cI n.toNatClampNeg k.toNatClampNeg n.toNatClampNeg).heap[H.size + 1 + j]? = some (vp_cell cI (k.toNatClampNeg, .inl (fun _ => 0))) := fun j hj => by
    have := mg_row U cJ cI n.toNatClampNeg k.toNatClampNeg n.toNatClampNeg hj
    rw [hTh] at this
    exact this
  generalize mg_S U cJ cI n.toNatClampNeg k.toNatClampNeg n.toNatClampNeg = F at X' step f1 f2 hold hrow
  rw [hTh] at f1 f2
  have f2 : F.heap[H.size]? = some (vp_cell cJ (n.toNatClampNeg, .inr (.inr (.inr (.inr (fun i => if i < n.toNatClampNeg then some (H.size + 1 + i) else none)))))) := by
    rw [vp_cell_q]
    exact f2
  have hg : va_P D cl (cn_grid cI cJ H.size n.toNatClampNeg k.toNatClampNeg) F.heap := by
    intro k9 x hx
    cases k9 with
    | zero =>
      cases hx
      exact f2
    | succ k9 =>
      have hx : ((List.range n.toNatClampNeg).map (fun i => ((H.size + 1 + i, .inl (cI, k.toNatClampNeg, .inl (fun _ => 0))) : Nat × va_E)))[k9]? = some x := hx
      rw [List.getElem?_map] at hx
      by_cases h9 : k9 < n.toNatClampNeg
      · rw [List.getElem?_range h9] at hx
        cases hx
        exact hrow k9 h9
      · rw [List.getElem?_eq_none (by rw [List.length_range]; omega)] at hx
        cases hx
  have hga : ∀ (k9 : Nat) (x : Nat × va_E), (cn_grid cI cJ H.size n.toNatClampNeg k.toNatClampNeg)[k9]? = some x → x.1 = H.size + k9 := by
    intro k9 x hx
    cases k9 with
    | zero =>
      cases hx
      rfl
    | succ k9 =>
      have hx : ((List.range n.toNatClampNeg).map (fun i => ((H.size + 1 + i, .inl (cI, k.toNatClampNeg, .inl (fun _ => 0))) : Nat × va_E)))[k9]? = some x := hx
      rw [List.getElem?_map] at hx
      by_cases h9 : k9 < n.toNatClampNeg
      · rw [List.getElem?_range h9] at hx
        cases hx
        show H.size + 1 + k9 = H.size + (k9 + 1)
        omega
      · rw [List.getElem?_eq_none (by rw [List.length_range]; omega)] at hx
        cases hx
  have hP0 : va_P D cl ws F.heap := hP.kept (fun k9 x hx => hold x.1 ((hP k9 x hx).lt))
  have hD2 : va_D A (cn_grid cI cJ H.size n.toNatClampNeg k.toNatClampNeg ++ ws) := cn_Dn hga (fun k9 x hx => (hP k9 x hx).lt) hD (fun q hq => hA q (Nat.le_trans hS.1 hq))
  have hS2 : va_S A H0 F.heap locs := ⟨Nat.le_trans hS.1 (by rw [f1]; omega), fun x h1 h2 => (hold x (Nat.lt_of_lt_of_le h1 hS.1)).trans (hS.2.1 x h1 h2), hS.2.2⟩
  obtain ⟨t, a1, b1⟩ := kk H.size F.heap (hg.app hP0) hD2 hS2 F rfl X'
  refine ⟨t, ?_, b1⟩
  refine step t ?_
  rw [hT]
  exact a1
/-! a constructor's contract -/
def cn_AO (U : State) : Prop := (Cond.arrayOver (.array .int)).before #[] U = true
theorem cn_ao_vm {a a' : Array Value} {U U' : State} (h : U.vm = U'.vm) : (Cond.arrayOver (.array .int)).before a U = (Cond.arrayOver (.array .int)).before a' U' := by
  simp only [Cond.before, Cond.holds, Cond.value]
  rw [h]
def cn_St (A : Nat → Prop) (adS : Nat → Nat → Nat) (U : State) (H : Heap) : Prop := sv_stt A adS U H ∧ sv_nw U ∧ cn_AO U
def cn_Pre (D : va_G) (A : Nat → Prop) (cI cJ : ClassId) (adS : Nat → Nat → Nat) (ws : va_W) (U : State) : Prop := va_P D vwCl ws U.heap ∧ va_K D vwCl (cn_ty cI cJ) U ∧ va_D A ws ∧ (∀ q, U.heap.size ≤ q → A q) ∧ cn_St A adS U U.heap
def cn_Q (A : Nat → Prop) (QQ : Heap → Prop) : Array Value → State → Outcome → State → Prop := fun _ st oc t => (oc = .returned none ∧ QQ t.heap) ∧ va_F A st t
theorem cn_over {s U : State} (hW : s.WarmedH U.vm) (h : cn_AO s) : cn_AO U := by
  have h1 : (Cond.arrayOver (.array .int)).before #[] (s.setVm U.vm) = true := by
    rw [Cond.arrayOver_setVmC hW.alike]
    exact h
  exact (cn_ao_vm (U := U) (U' := s.setVm U.vm) rfl).trans h1
theorem cn_St_at {A : Nat → Prop} {adS : Nat → Nat → Nat} {s t : State} {locs : List Loc} (h : cn_St A adS s s.heap) (hS : va_S A s.heap t.heap locs) (hW : s.WarmedH t.vm) : cn_St A adS t t.heap := by
  refine ⟨fun q hq => ?_, ⟨fun q hq => va_Nw.warmM hW (h.2.1.1 q hq), fun q hq => va_Nw.warmF hW (h.2.1.2 q hq)⟩, cn_over hW h.2.2⟩
  exact ⟨(va_Z.moved hW.alike (h.1 q hq).1).kept hS.2.1, (va_T.moved hW.alike (h.1 q hq).2).kept hS.2.1⟩
theorem cn_blind (av : List Value) (D : va_G) (A : Nat → Prop) (cI cJ : ClassId) (adS : Nat → Nat → Nat) (ws : va_W) : FrameBlind (va_Pc av (cn_Pre D A cI cJ adS ws)) := by
  intro a U g mk h
  obtain ⟨h0, hP, hK, hD, hA, hst, hnw, ho⟩ := h
  refine ⟨h0, hP, va_K.moved (u := U) (U := U.calling g mk a) (Vm.Alike.refl U.vm) hK, hD, hA, fun q hq => ?_, ⟨fun q hq => va_Nw.same rfl rfl (hnw.1 q hq), fun q hq => va_Nw.same rfl rfl (hnw.2 q hq)⟩, (cn_ao_vm (U := U.calling g mk a) (U' := U) rfl).trans ho⟩
  exact ⟨va_Z.moved (u := U) (U := U.calling g mk a) (Vm.Alike.refl U.vm) (hst q hq).1, va_T.moved (u := U) (U := U.calling g mk a) (Vm.Alike.refl U.vm) (hst q hq).2⟩
theorem cn_call {y : MethodName} {bytes : ByteArray} {maxL mc ms n idx b : Nat} {rm : Room} {As : List Value} {own : String} {adS : Nat → Nat → Nat} {QQ : Heap → Prop}
    (hexec : p.tables.exec = Jvm.exec) (hb : c.code = cc) (hown : s.vm.findClass own = some m.cls) (hts : ∀ w ∈ sv_tb, w.before args s = true) (hsz : ls.size = c.maxLocals)
    (hM : Met l y (sv_ws y bytes maxL none) rm (va_Pc (.ref b :: As) (cn_Pre D A cI cJ adS ws)) (cn_Q A QQ) mc ms A)
    (h1 : Cond.methodLink own idx y ∈ sv_tb ∨ ∃ h, (own, idx, y, h) ∈ sv_nM) (h2 : Cond.instanceMethod y ∈ sv_tb) (h4 : Cond.initialized y.cls ∈ sv_tb) (h5 : Cond.code y bytes maxL none ∈ sv_tb)
    (hd : y.cls ≠ "java/lang/invoke/MethodHandle" ∧ y.cls ≠ "java/lang/invoke/VarHandle" ∧ (parseMethodDescriptor y.desc).map (fun d => d.parameters.length) = some n) (hn : As.length = n) (hy : y.name = "<init>") (hrc : rm.cells = mc) (hrs : rm.slots = ms) (hR : rm.frames + 1 ≤ R.frames ∧ 8 + (maxL + 11) + rm.locals ≤ R.locals) (hcs : (rest.map fun v => v.category).sum ≤ 8) (hf : cells + mc ≤ R.cells ∧ slots + ms ≤ R.slots)
    (hK : va_K D vwCl (cn_ty cI cJ) s) (hP : va_P D vwCl ws H) (hD : va_D A ws) (hS : va_S A s.heap H locs) (hA : ∀ q, s.heap.size ≤ q → A q) (hst : cn_St A adS s s.heap) (hdec : decode cc pc = .ok (.invokespecial idx, 3))
    (kk : ∀ (H1 : Heap) (locs1 : List Loc), QQ H1 → va_S A s.heap H1 locs1 → W p l e R s m args below meth c H1 locs1 (cells + mc) (slots + ms) Q (F0 m (pc + 3) ls rest)) : W p l e R s m args below meth c H locs cells slots Q (F0 m pc ls (As.reverse ++ .ref b :: rest)) := by
  have hgood : GoodIn sv_tb (sv_ws y bytes maxL none) := by
    intro w hw
    have hm : w ∈ sv_tb := by
      rcases List.mem_cons.mp hw with rfl | hw
      · exact h5
      · exact hw
    exact ⟨hm, good_of_word (List.mem_filter.mp hm).2⟩
  have hpre : PreS s H (va_Pc (.ref b :: As) (cn_Pre D A cI cJ adS ws)) (.ref b :: As) := ⟨cn_blind _ D A cI cJ adS ws, fun U hU hW => ⟨rfl, by rw [hU]; exact hP, va_K.moved hW.alike hK, hD, fun q hq => hA q (Nat.le_trans hS.1 (by rw [hU] at hq; exact hq)), cn_St_at hst (by rw [hU]; exact hS) hW⟩⟩
  have hrun : va_Run p l e R s m args below meth c H locs cells slots mc ms (F0 m pc ls (As.reverse ++ .ref b :: rest)) rest (cn_Q A QQ (Value.ref b :: As).toArray) A := by
    rcases h1 with h1 | ⟨hh, h1⟩
    · exact va_runI (As := As) (n := n) (cc := cc) (nL := c.maxLocals) (Ts := sv_tb) (own := own) ⟨hexec, hb, rfl, hown, hts⟩ hM ⟨callB_of n hts hgood rfl hrc hrs (hts _ h4) (hts _ h1) hd hR, hy, hts _ h2⟩ hpre rfl hn hsz rfl (lv_room hcs) hdec hf
    · exact va_runIN (As := As) (n := n) (cc := cc) (nL := c.maxLocals) (Ts := sv_tb) (own := own) (host := hh) ⟨hexec, hb, rfl, hown, hts⟩ hM ⟨va_cnB n hts hgood rfl hrc hrs (hst.2.1.1 _ h1) (hts _ h4) hd hR, hy, hts _ h2⟩ hpre rfl hn hsz rfl (lv_room hcs) hdec hf
  intro T hT X
  obtain ⟨v, st₀, t, T', L', h0, X', hL', e1, e2, ⟨⟨hv, hq⟩, hz, hkp⟩, st⟩ := hrun T hT X
  have hv : v = none := by cases hv; rfl
  subst hv
  rw [h0] at hz hkp
  have hS' : va_S A s.heap T'.heap (locs ++ L') := ⟨Nat.le_trans hS.1 (by rw [e1]; exact hz), fun q h1 h2 => by rw [e1, hkp q (Nat.lt_of_lt_of_le h1 hS.1) h2]; exact hS.2.1 q h1 h2, fun q hq => by
      rcases List.mem_append.mp hq with h | h
      · exact hS.2.2 q h
      · exact hL' q h⟩
  obtain ⟨t2, a1, b1⟩ := kk T'.heap (locs ++ L') (by rw [e1]; exact hq) hS' T' rfl X'
  exact ⟨t2, st t2 a1, b1⟩
end CN
/-- the cells of a list of places, at bases -/
def cn_wl (D : va_G) (cI cJ : ClassId) (bs : Nat → Nat) (X : List (Nat × Nat)) (σ : sv_S) : va_W := sv_wl (D, (fun _ => True), fun g i => bs g + i, cI, cJ, X) σ
def cn_A (b sz : Nat) : Nat → Prop := fun q => q = b ∨ sz ≤ q
theorem cn_stt_mono {A A' : Nat → Prop} {adS : Nat → Nat → Nat} {U : State} {H : Heap} (h : ∀ q, A' q → A q) (hs : sv_stt A adS U H) : sv_stt A' adS U H := fun q hq => by
  obtain ⟨⟨cf, kf, fi, f, a, cell, z1, z2, z3, z4, z5, z6, z7, z8⟩, cell', t1, t2, t3, t4, t5, t6, t7⟩ := hs q hq
  exact ⟨⟨cf, kf, fi, f, a, cell, z1, z2, z3, z4, z5, z6, z7, fun z => z8 (h _ z)⟩, cell', t1, t2, t3, t4, t5, t6, fun z => t7 (h _ z)⟩
section CN2
variable {p : Program} {l : Launch} {e : Env} {R : Room} {s : State} {m : MethodId} {args : Array Value} {below : List Frame} {meth : Method} {c : Code} {H : Heap} {locs : List Loc} {cells slots : Nat} {Q : State → Prop}
variable {cc : ByteArray} {pc : Nat} {ls : Array Slot} {rest : List Value} {D : va_G} {A : Nat → Prop} {ws : va_W} {cI cJ : ClassId}
/-- a call of a constructor: its own cell alone is given, what it makes comes to the front, the rest stays -/
theorem cn_make {y : MethodName} {bytes : ByteArray} {maxL mc ms n idx b : Nat} {rm : Room} {As : List Value} {own : String} {adS : Nat → Nat → Nat} {ev : va_E} {nw : (Nat → Nat) → sv_S → va_W} {ok : (Nat → Nat) → sv_S → Prop}
    (hexec : p.tables.exec = Jvm.exec) (hb : c.code = cc) (hown : s.vm.findClass own = some m.cls) (hts : ∀ w ∈ sv_tb, w.before args s = true) (hsz : ls.size = c.maxLocals)
    (hM : Met l y (sv_ws y bytes maxL none) rm (va_Pc (.ref b :: As) (cn_Pre D (cn_A b H.size) cI cJ adS [(b, ev)])) (cn_Q (cn_A b H.size) (fun H1 => ∃ bs σ, ok bs σ ∧ va_P D vwCl (nw bs σ) H1 ∧ va_D (cn_A b H.size) (nw bs σ))) mc ms (cn_A b H.size))
    (h1 : Cond.methodLink own idx y ∈ sv_tb ∨ ∃ h, (own, idx, y, h) ∈ sv_nM) (h2 : Cond.instanceMethod y ∈ sv_tb) (h4 : Cond.initialized y.cls ∈ sv_tb) (h5 : Cond.code y bytes maxL none ∈ sv_tb)
    (hd : y.cls ≠ "java/lang/invoke/MethodHandle" ∧ y.cls ≠ "java/lang/invoke/VarHandle" ∧ (parseMethodDescriptor y.desc).map (fun d => d.parameters.length) = some n) (hn : As.length = n) (hy : y.name = "<init>") (hrc : rm.cells = mc) (hrs : rm.slots = ms) (hR : rm.frames + 1 ≤ R.frames ∧ 8 + (maxL + 11) + rm.locals ≤ R.locals) (hcs : (rest.map fun v => v.category).sum ≤ 8) (hf : cells + mc ≤ R.cells ∧ slots + ms ≤ R.slots)
    (hK : va_K D vwCl (cn_ty cI cJ) s) (hP : va_P D vwCl ((b, ev) :: ws) H) (hD : va_D A ((b, ev) :: ws)) (hS : va_S A s.heap H locs) (hA : ∀ q, s.heap.size ≤ q → A q) (hst : cn_St A adS s s.heap) (hdec : decode cc pc = .ok (.invokespecial idx, 3))
    (kk : ∀ (bs : Nat → Nat) (σ : sv_S) (H : Heap) (locs : List Loc), ok bs σ → va_P D vwCl (nw bs σ ++ ws) H → va_D A (nw bs σ ++ ws) → va_S A s.heap H locs → W p l e R s m args below meth c H locs (cells + mc) (slots + ms) Q (F0 m (pc + 3) ls rest)) : W p l e R s m args below meth c H locs cells slots Q (F0 m pc ls (As.reverse ++ .ref b :: rest)) := by
  have hbA : A b := hD.2 0 (b, ev) rfl
  have hsub : ∀ q, cn_A b H.size q → A q := fun q hq => hq.elim (fun z => by rw [z]; exact hbA) (fun z => hA q (Nat.le_trans hS.1 z))
  have hgood : GoodIn sv_tb (sv_ws y bytes maxL none) := by
    intro w hw
    have hm : w ∈ sv_tb := by
      rcases List.mem_cons.mp hw with rfl | hw
      · exact h5
      · exact hw
    exact ⟨hm, good_of_word (List.mem_filter.mp hm).2⟩
  have hP1 : va_P D vwCl [(b, ev)] H := fun k x hx => by
    cases k with
    | zero => exact hP 0 x hx
    | succ k => cases hx
  have hD1 : va_D (cn_A b H.size) [(b, ev)] := by
    refine ⟨fun i j x y hi hj _ => ?_, fun k x hx => ?_⟩
    · have h1 : i < 1 := (List.getElem?_eq_some_iff.mp hi).1
      have h2 : j < 1 := (List.getElem?_eq_some_iff.mp hj).1
      omega
    · cases k with
      | zero => cases hx; exact Or.inl rfl
      | succ k => cases hx
  have hpre : PreS s H (va_Pc (.ref b :: As) (cn_Pre D (cn_A b H.size) cI cJ adS [(b, ev)])) (.ref b :: As) := ⟨cn_blind _ D _ cI cJ adS _, fun U hU hW => by
    have h9 := cn_St_at (t := U) hst (by rw [hU]; exact hS) hW
    exact ⟨rfl, by rw [hU]; exact hP1, va_K.moved hW.alike hK, hD1, fun q hq => Or.inr (by rw [hU] at hq; exact hq), cn_stt_mono hsub h9.1, h9.2⟩⟩
  have hrun : va_Run p l e R s m args below meth c H locs cells slots mc ms (F0 m pc ls (As.reverse ++ .ref b :: rest)) rest (cn_Q (cn_A b H.size) (fun H1 => ∃ bs σ, ok bs σ ∧ va_P D vwCl (nw bs σ) H1 ∧ va_D (cn_A b H.size) (nw bs σ)) (Value.ref b :: As).toArray) (cn_A b H.size) := by
    rcases h1 with h1 | ⟨hh, h1⟩
    · exact va_runI (As := As) (n := n) (cc := cc) (nL := c.maxLocals) (Ts := sv_tb) (own := own) ⟨hexec, hb, rfl, hown, hts⟩ hM ⟨callB_of n hts hgood rfl hrc hrs (hts _ h4) (hts _ h1) hd hR, hy, hts _ h2⟩ hpre rfl hn hsz rfl (lv_room hcs) hdec hf
    · exact va_runIN (As := As) (n := n) (cc := cc) (nL := c.maxLocals) (Ts := sv_tb) (own := own) (host := hh) ⟨hexec, hb, rfl, hown, hts⟩ hM ⟨va_cnB n hts hgood rfl hrc hrs (hst.2.1.1 _ h1) (hts _ h4) hd hR, hy, hts _ h2⟩ hpre rfl hn hsz rfl (lv_room hcs) hdec hf
  intro T hT X
  obtain ⟨v, st₀, t, T', L', h0, X', hL', e1, e2, ⟨⟨hv, bs, σ, hok, hq1, hq2⟩, hz, hkp⟩, st⟩ := hrun T hT X
  have hv : v = none := by cases hv; rfl
  subst hv
  rw [h0] at hz hkp
  have hS' : va_S A s.heap T'.heap (locs ++ L') := ⟨Nat.le_trans hS.1 (by rw [e1]; exact hz), fun q h1 h2 => by rw [e1, hkp q (Nat.lt_of_lt_of_le h1 hS.1) (fun z => h2 (hsub q z))]; exact hS.2.1 q h1 h2, fun q hq => by
      rcases List.mem_append.mp hq with h | h
      · exact hS.2.2 q h
      · exact hsub _ (hL' q h)⟩
  have hwlt : ∀ (k : Nat) (x : Nat × va_E), ws[k]? = some x → x.1 < H.size ∧ x.1 ≠ b := fun k x hx => by
    refine ⟨(hP (k + 1) x hx).lt, fun z => ?_⟩
    have := hD.1 (k + 1) 0 x (b, ev) hx rfl z
    omega
  have hPw : va_P D vwCl ws T'.heap := fun k x hx => by
    have h9 := hwlt k x hx
    exact (hP (k + 1) x hx).kept (by rw [e1]; exact hkp _ h9.1 (fun z => z.elim h9.2 (fun z => by omega)))
  have hDw : va_D A ws := ⟨fun i j x y hi hj hxy => by have := hD.1 (i + 1) (j + 1) x y hi hj hxy; omega, fun k x hx => hD.2 (k + 1) x hx⟩
  have hDn : va_D A (nw bs σ ++ ws) := va_D.app (hq2.weaken (fun _ _ _ z => hsub _ z)) hDw (fun i j x y hi hj => fun hxy => by
    have h9 := hwlt j y hj
    have h8 := hq2.2 i x hi
    rw [hxy] at h8
    exact h8.elim h9.2 (fun z => by omega))
  have hPn : va_P D vwCl (nw bs σ ++ ws) T'.heap := va_P.app (by rw [e1]; exact hq1) hPw
  obtain ⟨t2, a1, b1⟩ := kk bs σ T'.heap (locs ++ L') hok hPn hDn hS' T' rfl X'
  exact ⟨t2, st t2 a1, b1⟩
end CN2
