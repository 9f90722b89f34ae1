section SM
variable {p : Program} {l : Launch} {e : Env} {s : State} {m : MethodId} {args : Array Value} {below : List Frame} {meth : Method} {c : Code}
variable {own : String} {cc : ByteArray} {ret : Option FieldType} {G : sv_G} {gs : List Nat} {fr lo cs sl : Nat} {Kr : Option sv_AV → sv_S → Prop} {T : sv_T}
theorem sv_W_mk {R : Room} {pc : Nat} {L : List (Option sv_AV)} {S : List sv_AV} {σ : sv_S} (bs : List Bool) (h : sv_W p l e R s m args below meth c G Kr pc (sv_mk bs L) S σ) : sv_W p l e R s m args below meth c G Kr pc L S σ := by
  intro H locs ls hP hS hL hO hlen
  exact h H locs ls hP hS (sv_L_mk hL bs) hO (by rw [sv_mk_len]; exact hlen)
theorem sv_vc_ok (hcl : ∀ g, g < 6 → sv_clok g) (hC : sv_Cx p s m args meth c own cc ret G gs) (hT : sv_Tok l own gs fr lo T) {tb : List (Nat × (Instr × Nat))} (htb : sv_tbok cc tb = true) (stops : List (Nat × List Bool)) :
    ∀ (n pc : Nat) (L : List (Option sv_AV)) (S : List sv_AV) (σ : sv_S), sv_vc tb T gs ret Kr stops (sv_W p l e { frames := fr, cells := cs, slots := sl, locals := lo } s m args below meth c G Kr) n pc L S σ → sv_W p l e { frames := fr, cells := cs, slots := sl, locals := lo } s m args below meth c G Kr pc L S σ
  | 0, pc, L, S, σ, h => h
  | n + 1, pc, L, S, σ, h => by
    unfold sv_vc sv_ex2 at h
    split at h
    · rename_i i k hi
      obtain ⟨h1, h2⟩ := sv_tbok_at htb hi
      refine sv_ins_ok hcl hC hT ?_ h1 h2 h
      intro pc L S σ hk
      split at hk
      · exact sv_W_mk _ hk
      · exact sv_vc_ok hcl hC hT htb stops n pc L S σ hk
    · exact h.elim
theorem sv_lvargs : ∀ (vs : List Value) (i j : Nat) (w : Value), (∀ v ∈ vs, v.category = 1) → vs[j]? = some w → (i + j, w) ∈ lv_args i vs
  | [], i, j, w, h, hj => by cases hj
  | v :: vs, i, 0, w, h, hj => by
    have e : v = w := Option.some.inj hj
    subst e
    exact List.mem_cons_self
  | v :: vs, i, j + 1, w, h, hj => by
    have hc := h v List.mem_cons_self
    have := sv_lvargs vs (i + 1) j w (fun u hu => h u (List.mem_cons_of_mem _ hu)) hj
    unfold lv_args
    rw [if_neg (by omega)]
    refine List.mem_cons_of_mem _ ?_
    rw [show i + (j + 1) = i + 1 + j by omega]
    exact this
theorem sv_lgsl : ∀ (vs : List Value), (∀ v ∈ vs, v.category = 1) → (lg_sl vs).length = vs.length
  | [], _ => rfl
  | v :: vs, h => by
    have hc := h v List.mem_cons_self
    have := sv_lgsl vs (fun u hu => h u (List.mem_cons_of_mem _ hu))
    unfold lg_sl at this ⊢
    rw [List.flatMap_cons, if_neg (by omega), List.length_append, this, List.length_cons, List.length_cons, List.length_nil]
    omega
/-- the locals at a method's start -/
def sv_en (maxL : Nat) (av : List sv_AV) : List (Option sv_AV) := av.map some ++ List.replicate (maxL - av.length) none
theorem sv_en_get {maxL : Nat} {av : List sv_AV} {i : Nat} {v : sv_AV} (h : (sv_en maxL av)[i]? = some (some v)) : av[i]? = some v := by
  unfold sv_en at h
  by_cases hi : i < av.length
  · rw [List.getElem?_append_left (by rw [List.length_map]; exact hi), List.getElem?_map] at h
    cases hq : av[i]? with
    | none => rw [hq] at h; cases h
    | some u =>
      rw [hq] at h
      exact congrArg some (Option.some.inj (Option.some.inj h))
  · rw [List.getElem?_append_right (by rw [List.length_map]; omega)] at h
    have := List.eq_of_mem_replicate (List.mem_of_getElem? h)
    cases this
set_option maxHeartbeats 2000000 in
theorem sv_meth (hcl : ∀ g, g < 6 → sv_clok g) {y : MethodName} {maxL : Nat} {sp : sv_P} (tb : List (Nat × (Instr × Nat))) (T : sv_T) (hy : plainName y.cls = true) (htb : sv_tbok cc tb = true) (hT : sv_Tok l y.cls gs fr lo T)
    (body : ∀ (Wk : sv_K) (Kr : Option sv_AV → sv_S → Prop), (∀ stops n pc L S σ, sv_vc tb T gs ret Kr stops Wk n pc L S σ → Wk pc L S σ) → ∀ (av : List sv_AV) (σ : sv_S), sp av σ Kr → (av.length ≤ maxL ∧ ∀ v ∈ av, sv_cat v = 1) ∧ Wk 0 (sv_en maxL av) [] σ) :
    sv_C l y cc maxL ret gs fr lo sp := by
  intro G av σ K hXG hok hsp
  refine Met.ofW (cc := cc) (maxL := maxL) (ret := ret) hy rfl ?_
  intro p e s m args below meth c s₁ B hml hv
  obtain ⟨rfl, hP, hKK, hD0, hst, hnw⟩ := hv
  have hts0 := atoms_spec (ws := sv_ws y cc maxL ret) B.pre
  have hts : ∀ w ∈ sv_tb, w.before (av.map (sv_val (sv_ad G))).toArray s = true := fun w hw => hts0 w (List.mem_cons_of_mem _ hw)
  have hown : s.vm.findClass y.cls = some m.cls := findClass_of_methodNamed B.named
  have hC : sv_Cx p s m (av.map (sv_val (sv_ad G))).toArray meth c y.cls cc ret G gs := ⟨B.exec, B.bytes, B.returns, B.notSynchronized, hown, hts, hKK, fun σ' => sv_D_any hD0 σ', hst, hnw, hXG⟩
  obtain ⟨⟨hlen, hcat⟩, hb⟩ := body (sv_W p l e { frames := fr, cells := 0, slots := 0, locals := lo } s m (av.map (sv_val (sv_ad G))).toArray below meth c G K) K (fun stops n pc L S σ h => sv_vc_ok hcl hC hT htb stops n pc L S σ h) av σ hsp
  have hcv : ∀ v ∈ av.map (sv_val (sv_ad G)), v.category = 1 := by
    intro v hv
    obtain ⟨u, hu, rfl⟩ := List.mem_map.mp hv
    rw [sv_val_cat]
    exact hcat u hu
  have hl := lv_entry (av.map (sv_val (sv_ad G))) (n := maxL) (by rw [sv_lgsl _ hcv, List.length_map]; exact hlen)
  rw [lg_entry_eq]
  generalize (lg_sl (av.map (sv_val (sv_ad G))) ++ List.replicate (maxL - (lg_sl (av.map (sv_val (sv_ad G)))).length) Slot.unset).toArray = ls at hl ⊢
  have hel : (sv_en maxL av).length = maxL := by
    unfold sv_en
    rw [List.length_append, List.length_map, List.length_replicate]
    omega
  refine hb s.heap [] ls hP va_S.rf ⟨⟨by rw [hel]; exact hl.1, hl.2.1, ?_⟩, ?_⟩ (fun v hv => by cases hv) (by rw [hel]; exact hml.symm)
  · rintro ⟨j, w⟩ hq
    obtain ⟨u, hj, rfl⟩ := sv_pr_mem.mp hq
    refine hl.2.2 _ ?_
    have := sv_lvargs (av.map (sv_val (sv_ad G))) 0 j (sv_val (sv_ad G) u) hcv (by rw [List.getElem?_map, sv_en_get hj]; rfl)
    rw [Nat.zero_add] at this
    exact this
  · intro i v hi
    have := List.mem_of_getElem? (sv_en_get hi)
    exact ⟨hcat v this, hok v this⟩
theorem sv_cs_sum (ad : Nat → Nat → Nat) : ∀ S : List sv_AV, ((S.map (sv_val ad)).map fun v => v.category).sum = sv_cs S
  | [] => rfl
  | v :: S => by
    rw [List.map_cons, List.map_cons, List.sum_cons, sv_cs_sum ad S, sv_val_cat]
    rfl
theorem sv_XG_sub {gs gs' : List Nat} {G : sv_G} (h : sv_XG gs G) (hs : gs'.all (sv_in gs) = true) : sv_XG gs' G := ⟨h.1, fun g hg => h.2 g (sv_in_mem _ _ (List.all_eq_true.mp hs g hg))⟩
theorem sv_blind (av : List Value) (G : sv_G) (σ : sv_S) : FrameBlind (va_Pc av (sv_WD G σ)) := by
  intro a U g mk h
  obtain ⟨h0, hP, hK, hD, hst, hnw⟩ := h
  refine ⟨h0, hP, va_K.moved (u := U) (U := U.calling g mk a) (Vm.Alike.refl U.vm) hK, hD, fun q hq => ?_, fun q hq => va_Nw.same rfl rfl (hnw.1 q hq), fun q hq => va_Nw.same rfl rfl (hnw.2 q hq)⟩
  exact ⟨va_Z.moved (u := U) (U := U.calling g mk a) (Vm.Alike.refl U.vm) (hst q hq).1, va_T.moved (u := U) (U := U.calling g mk a) (Vm.Alike.refl U.vm) (hst q hq).2⟩
/-- behind a call -/
theorem sv_back {R : Room} {pc : Nat} {L : List (Option sv_AV)} {rest : List sv_AV} {st0 : List Value} {K' : Option sv_AV → sv_S → Prop} {H : Heap} {locs : List Loc} {ls : Array Slot} {a : Array Value}
    (hr : va_Run p l e R s m args below meth c H locs R.cells R.slots 0 0 (F0 m pc ls st0) (rest.map (sv_val (sv_ad G))) (sv_Q G K' a) (sv_A G)) (hS : va_S (sv_A G) s.heap H locs) (hL : sv_L (sv_ad G) ls L) (hO : ∀ v ∈ rest, sv_ok v) (hlen : L.length = c.maxLocals)
    (kk : ∀ r σ', K' r σ' → sv_W p l e R s m args below meth c G Kr (pc + 3) L (sv_psh r rest) σ') : W p l e R s m args below meth c H locs R.cells R.slots (MQ below (sv_Q G Kr) args s R.cells R.slots (sv_A G)) (F0 m pc ls st0) := by
  intro T hT X
  obtain ⟨v, st₀, t, T', L', h0, X', hL', e1, e2, ⟨⟨r, σ', hv, hok, hk, hWD⟩, hz, hkp⟩, st⟩ := hr T hT X
  have hv : v = r.map (sv_val (sv_ad G)) := by cases hv; rfl
  subst hv
  rw [h0] at hz hkp
  have hS' : va_S (sv_A G) s.heap T'.heap (locs ++ L') := ⟨Nat.le_trans hS.1 (by rw [e1]; exact hz), fun q h1 h2 => by rw [e1, hkp q (Nat.lt_of_lt_of_le h1 hS.1) h2]; exact hS.2.1 q h1 h2, fun q hq => by
      rcases List.mem_append.mp hq with h | h
      · exact hS.2.2 q h
      · exact hL' q h⟩
  have hO' : ∀ v ∈ sv_psh r rest, sv_ok v := by
    cases r with
    | none => exact hO
    | some v => exact sv_okc hok hO
  obtain ⟨t2, a1, b1⟩ := kk r σ' hk T'.heap (locs ++ L') ls (by rw [e1]; exact hWD.1) hS' hL hO' hlen T' rfl X'
  refine ⟨t2, st t2 ?_, b1⟩
  cases r with
  | none => exact a1
  | some v => exact a1
theorem sv_COv_of {y : MethodName} {bytes : ByteArray} {maxL : Nat} {ret' : Option FieldType} {gs' : List Nat} {fr' lo' n na idx g : Nat} {sp : sv_P} (hM : sv_C l y bytes maxL ret' gs' fr' lo' sp) (hcl : ∀ g, g < 6 → sv_clok g)
    (h1 : Cond.methodLink own idx y ∈ sv_tb) (h2 : Cond.instanceMethod y ∈ sv_tb) (h3 : Cond.selects y.cls y y ∈ sv_tb) (h4 : Cond.initialized y.cls ∈ sv_tb) (h5 : Cond.code y bytes maxL ret' ∈ sv_tb)
    (hd : y.cls ≠ "java/lang/invoke/MethodHandle" ∧ y.cls ≠ "java/lang/invoke/VarHandle" ∧ (parseMethodDescriptor y.desc).map (fun d => d.parameters.length) = some n) (hna : na = n + 1) (hR : fr' + 1 ≤ fr ∧ 8 + (maxL + 11) + lo' ≤ lo) (hgs : gs'.all (sv_in gs) = true) (hg : vwCl[g]?.map (fun r => r.1) = some y.cls) (h6 : g < 6) :
    sv_COv l own gs fr lo idx na g sp := by
  intro p e s m args below meth c cc ret G Kr cs sl hC pc L as rest σ K' hdec hna2 hgm hcs hsp kk
  obtain ⟨hx, hb, hr, hlocks, hown, hts, hKK, hD, hst, hnw, hXG⟩ := hC
  obtain ⟨C, Tt, N, ty0, c1, c2, c3, -⟩ := hcl g h6
  intro H locs ls hP hS hL hO hlen
  have hO1 : ∀ v ∈ rest, sv_ok v := fun v hv => hO v (List.mem_append_right _ (List.mem_cons_of_mem _ hv))
  have hO2 : ∀ v ∈ (.inr (.inr (g, 0)) :: as : List sv_AV), sv_ok v := by
    intro v hv
    rcases List.mem_cons.mp hv with rfl | hv
    · exact hO _ (List.mem_append_right _ List.mem_cons_self)
    · exact hO v (List.mem_append_left _ (List.mem_reverse.mpr hv))
  have hCe : C = y.cls := by
    rw [c1] at hg
    exact Option.some.inj hg
  subst hCe
  obtain ⟨k, hXk, hwk⟩ := sv_wl_at (hXG.2 g hgm 0 (hO2 _ List.mem_cons_self))
  have hrecv := va_recv hKK hP c1 ((hwk σ).trans (by rw [sv_cell_obj c3]))
  have hgood : GoodIn sv_tb (wsV own idx y.cls y (sv_ws y bytes maxL ret')) := by
    intro w hw
    have hm : w ∈ sv_tb := by
      rcases List.mem_append.mp hw with hw | hw
      · simp only [List.mem_cons, List.not_mem_nil, or_false] at hw
        rcases hw with rfl | rfl | rfl | rfl
        · exact h1
        · exact h2
        · exact h3
        · exact h4
      · rcases List.mem_cons.mp hw with rfl | hw
        · exact h5
        · exact hw
    exact ⟨hm, good_of_word (List.mem_filter.mp hm).2⟩
  refine sv_back (a := (Value.ref (sv_ad G g 0) :: as.map (sv_val (sv_ad G))).toArray) (va_runV (As := as.map (sv_val (sv_ad G))) (b := sv_ad G g 0) (C := y.cls) (n := n) (cc := cc) (nL := c.maxLocals) (Ts := sv_tb) (own := own) ⟨hx, hb, rfl, hown, hts⟩ (hM G (.inr (.inr (g, 0)) :: as) σ K' (sv_XG_sub hXG hgs) hO2 hsp) (cwV n hts hgood rfl rfl rfl ⟨rfl, hd⟩ hR) ⟨sv_blind _ G σ, hrecv, fun U hU hW => ⟨rfl, sv_WD_at hKK hst hnw (hD σ) (by rw [hU]; exact hP) (by rw [hU]; exact hS) hW⟩⟩ rfl (by rw [List.length_map]; omega) (by show ls.size = _; rw [← hlen]; exact hL.1.1) ?_ (lv_room (by rw [sv_cs_sum]; exact hcs)) hdec ⟨Nat.le_refl _, Nat.le_refl _⟩) hS hL hO1 hlen kk
  show (as.reverse ++ .inr (.inr (g, 0)) :: rest).map (sv_val (sv_ad G)) = _
  rw [List.map_append, List.map_reverse]
  rfl
theorem sv_COs_gen {y : MethodName} {bytes : ByteArray} {maxL : Nat} {ret' : Option FieldType} {gs' : List Nat} {fr' lo' n na idx : Nat} {sp : sv_P} (hM : sv_C l y bytes maxL ret' gs' fr' lo' sp)
    (h1 : Cond.methodLink own idx y ∈ sv_tb ∨ ∃ h, (own, idx, y, h) ∈ sv_nM) (h2 : Cond.static y ∈ sv_tb) (h4 : Cond.initialized y.cls ∈ sv_tb) (h5 : Cond.code y bytes maxL ret' ∈ sv_tb)
    (hd : y.cls ≠ "java/lang/invoke/MethodHandle" ∧ y.cls ≠ "java/lang/invoke/VarHandle" ∧ (parseMethodDescriptor y.desc).map (fun d => d.parameters.length) = some n) (hna : na = n) (hR : fr' + 1 ≤ fr ∧ 8 + (maxL + 11) + lo' ≤ lo) (hgs : gs'.all (sv_in gs) = true) :
    sv_COs l own gs fr lo idx na sp := by
  intro p e s m args below meth c cc ret G Kr cs sl hC pc L as rest σ K' hdec hna2 hcs hsp kk
  obtain ⟨hx, hb, hr, hlocks, hown, hts, hKK, hD, hst, hnw, hXG⟩ := hC
  intro H locs ls hP hS hL hO hlen
  have hO1 : ∀ v ∈ rest, sv_ok v := fun v hv => hO v (List.mem_append_right _ hv)
  have hO2 : ∀ v ∈ as, sv_ok v := fun v hv => hO v (List.mem_append_left _ (List.mem_reverse.mpr hv))
  have hgood : GoodIn sv_tb (sv_ws y bytes maxL ret') := by
    intro w hw
    have hm : w ∈ sv_tb := by
      rcases List.mem_cons.mp hw with rfl | hw
      · exact h5
      · exact hw
    exact ⟨hm, good_of_word (List.mem_filter.mp hm).2⟩
  have hpre : PreS s H (va_Pc (as.map (sv_val (sv_ad G))) (sv_WD G σ)) (as.map (sv_val (sv_ad G))) := ⟨sv_blind _ G σ, fun U hU hW => ⟨rfl, sv_WD_at hKK hst hnw (hD σ) (by rw [hU]; exact hP) (by rw [hU]; exact hS) hW⟩⟩
  have hstk : (as.reverse ++ rest).map (sv_val (sv_ad G)) = (as.map (sv_val (sv_ad G))).reverse ++ rest.map (sv_val (sv_ad G)) := by
    rw [List.map_append, List.map_reverse]
  have hsz : ls.size = c.maxLocals := by rw [← hlen]; exact hL.1.1
  have hMet := hM G as σ K' (sv_XG_sub hXG hgs) hO2 hsp
  rcases h1 with h1 | ⟨hh, h1⟩
  · exact sv_back (a := (as.map (sv_val (sv_ad G))).toArray) (va_runS (As := as.map (sv_val (sv_ad G))) (n := n) (cc := cc) (nL := c.maxLocals) (Ts := sv_tb) (own := own) ⟨hx, hb, rfl, hown, hts⟩ hMet ⟨callB_of n hts hgood rfl rfl rfl (hts _ h4) (hts _ h1) hd hR, hts _ h2⟩ hpre rfl (by rw [List.length_map]; omega) hsz hstk (lv_room (by rw [sv_cs_sum]; exact hcs)) hdec ⟨Nat.le_refl _, Nat.le_refl _⟩) hS hL hO1 hlen kk
  · exact sv_back (a := (as.map (sv_val (sv_ad G))).toArray) (va_runSN (As := as.map (sv_val (sv_ad G))) (n := n) (cc := cc) (nL := c.maxLocals) (Ts := sv_tb) (own := own) (host := hh) ⟨hx, hb, rfl, hown, hts⟩ hMet ⟨va_cnB n hts hgood rfl rfl rfl (hnw.1 _ h1) (hts _ h4) hd hR, hts _ h2, trivial⟩ hpre rfl (by rw [List.length_map]; omega) hsz hstk (lv_room (by rw [sv_cs_sum]; exact hcs)) hdec ⟨Nat.le_refl _, Nat.le_refl _⟩) hS hL hO1 hlen kk
end SM
