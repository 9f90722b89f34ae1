set_option maxHeartbeats 8000000 in
set_option maxRecDepth 100000 in
theorem lw_loop {p : Program} {l : Launch} {e : Env} {s : State} {m : MethodId} {below : List Frame} {meth : Method} {c : Code} {b L : Nat} {xs : Nat → Int32} {G : sv_G} (hc : lw_C p s m c b L xs G) (hr : meth.sig.returnType = ret) (hlocks : meth.locks = false) (hL : L ≤ 2560) : ∀ n, n ≤ 513 → ∀ (σ : sv_S) (d : dD) (H : Heap) (locs : List Loc) (ls : Array Slot), lw_I n σ d → va_P G.1 vwCl (sv_wl G σ) H → va_S (sv_A G) s.heap H locs → lw_L G b n ls → W p l e room_1 s m #[Value.ref b] below meth c H locs 68 9140 (lw_Z below #[Value.ref b] s) (F0 m 18 ls []) := by
  refine lpN (fun n hn9 ih σ d H locs ls hI hP hS hl => ?_)
  obtain ⟨hx, hb, hml, hown, hts, hX, hbl, hbA, hK, hD, hst, hnw, hXG, hAle⟩ := id hc
  have ih : n < 513 → lw_N p l e s m below meth c b G n := fun h σ d H locs ls => ih h σ d H locs ls
  refine lv_iload_n hx hb dL_18 rfl (lv_at hl 0 rfl) ?_
  refine lv_aload_n hx hb dL_19 rfl (lv_at hl 1 rfl) ?_
  refine va_slen hx hb hX hbl hbA hS dL_20 ?_
  refine lv_iconst (v := 5) hx hb dL_21 rfl ?_
  refine lv_isub hx hb dL_22 ?_
  have e5 : (Int32.ofNat L - (5 : Int32)).toInt = (L : Int) - 5 := pk_sub_toInt (a := L) (b := 5) (by omega) (by omega)
  refine lv_icmp_gt (tgt := 909) hx hb dL_23 (by decide) (fun hgt => ?_) (fun hle => ?_)
  · refine va_forget (fun q hq => hAle _ (hS.2.2 q hq)) ?_
    refine W.widen (k := 600000) (n := 7302250) (Nat.le_of_ble_eq_true rfl) (Nat.le_of_ble_eq_true rfl) ?_
    refine lv_iconst (v := 1) hx hb dL_909 rfl ?_
    exact lw_ret hx hb hr hlocks dL_910
  · have hn : 5 * n + 5 ≤ L := by
      rw [Int32.lt_iff_toInt_lt, e5, nI_toInt (by omega)] at hle
      omega
    refine lv_aload_n hx hb dL_26 rfl (lv_at hl 1 rfl) ?_
    refine lv_iload_n hx hb dL_27 rfl (lv_at hl 0 rfl) ?_
    refine va_sld hx hb hX hbl hbA hS (pk_in (5 * n) L (by omega)) dL_28 ?_
    refine lv_bipush (v := 31) hx hb dL_29 rfl ?_
    refine lv_iand hx hb dL_31 ?_
    obtain ⟨j, hj, ej⟩ := pk_andE (xs (nI (5 * n)).toNatClampNeg) (m := 31) 5 (by decide)
    rw [ej]
    rcases (show j = 0 ∨ j = 1 ∨ j = 2 ∨ j = 3 ∨ j = 4 ∨ j = 5 ∨ j = 6 ∨ j = 7 ∨ j = 8 ∨ j = 9 ∨ j = 10 ∨ j = 11 ∨ j = 12 ∨ j = 13 ∨ j = 14 ∨ j = 15 ∨ j = 16 ∨ j = 17 ∨ j = 18 ∨ j = 19 ∨ j = 20 ∨ j = 21 ∨ j = 22 ∨ j = 23 ∨ j = 24 ∨ 25 ≤ j by omega) with rfl | rfl | rfl | rfl | rfl | rfl | rfl | rfl | rfl | rfl | rfl | rfl | rfl | rfl | rfl | rfl | rfl | rfl | rfl | rfl | rfl | rfl | rfl | rfl | rfl | h25
    · refine lv_tableIn (x := nI 0) (off := 116) (tgt := 148) hx hb dL_32 (by decide) (by decide) (by decide) (by decide) ?_
      exact lc_part hc hn hL hI hP hS hl (ih (by omega))
    · refine lv_tableIn (x := nI 1) (off := 149) (tgt := 181) hx hb dL_32 (by decide) (by decide) (by decide) (by decide) ?_
      exact lc_runs hc hn hL hI hP hS hl (ih (by omega))
    · refine lv_tableIn (x := nI 2) (off := 192) (tgt := 224) hx hb dL_32 (by decide) (by decide) (by decide) (by decide) ?_
      exact lc_cut hc hn hL hI hP hS hl (ih (by omega))
    · refine lv_tableIn (x := nI 3) (off := 205) (tgt := 237) hx hb dL_32 (by decide) (by decide) (by decide) (by decide) ?_
      exact lc_thing hc hn hL hI hP hS hl (ih (by omega))
    · refine lv_tableIn (x := nI 4) (off := 228) (tgt := 260) hx hb dL_32 (by decide) (by decide) (by decide) (by decide) ?_
      exact lc_uses hc hn hL hI hP hS hl (ih (by omega))
    · refine lv_tableIn (x := nI 5) (off := 281) (tgt := 313) hx hb dL_32 (by decide) (by decide) (by decide) (by decide) ?_
      exact lc_size hc hn hL hI hP hS hl (ih (by omega))
    · refine lv_tableIn (x := nI 6) (off := 314) (tgt := 346) hx hb dL_32 (by decide) (by decide) (by decide) (by decide) ?_
      exact lc_setting hc hn hL hI hP hS hl (ih (by omega))
    · refine lv_tableIn (x := nI 7) (off := 347) (tgt := 379) hx hb dL_32 (by decide) (by decide) (by decide) (by decide) ?_
      exact lc_ofPart hc hn hL hI hP hS hl (ih (by omega))
    · refine lv_tableIn (x := nI 8) (off := 380) (tgt := 412) hx hb dL_32 (by decide) (by decide) (by decide) (by decide) ?_
      exact lc_plan hc hn hL hI hP hS hl (ih (by omega))
    · refine lv_tableIn (x := nI 9) (off := 413) (tgt := 445) hx hb dL_32 (by decide) (by decide) (by decide) (by decide) ?_
      exact lc_take hc hn hL hI hP hS hl (ih (by omega))
    · refine lv_tableIn (x := nI 10) (off := 446) (tgt := 478) hx hb dL_32 (by decide) (by decide) (by decide) (by decide) ?_
      exact lc_planned hc hn hL hI hP hS hl (ih (by omega))
    · refine lv_tableIn (x := nI 11) (off := 469) (tgt := 501) hx hb dL_32 (by decide) (by decide) (by decide) (by decide) ?_
      exact lc_misfit hc hn hL hI hP hS hl (ih (by omega))
    · refine lv_tableIn (x := nI 12) (off := 482) (tgt := 514) hx hb dL_32 (by decide) (by decide) (by decide) (by decide) ?_
      exact lc_cost hc hn hL hI hP hS hl (ih (by omega))
    · refine lv_tableIn (x := nI 13) (off := 505) (tgt := 537) hx hb dL_32 (by decide) (by decide) (by decide) (by decide) ?_
      exact lc_carried hc hn hL hI hP hS hl (ih (by omega))
    · refine lv_tableIn (x := nI 14) (off := 528) (tgt := 560) hx hb dL_32 (by decide) (by decide) (by decide) (by decide) ?_
      exact lc_best hc hn hL hI hP hS hl (ih (by omega))
    · refine lv_tableIn (x := nI 15) (off := 571) (tgt := 603) hx hb dL_32 (by decide) (by decide) (by decide) (by decide) ?_
      exact lc_bestSet hc hn hL hI hP hS hl (ih (by omega))
    · refine lv_tableIn (x := nI 16) (off := 614) (tgt := 646) hx hb dL_32 (by decide) (by decide) (by decide) (by decide) ?_
      exact lc_room hc hn hL hI hP hS hl (ih (by omega))
    · refine lv_tableIn (x := nI 17) (off := 647) (tgt := 679) hx hb dL_32 (by decide) (by decide) (by decide) (by decide) ?_
      exact lc_drop hc hn hL hI hP hS hl (ih (by omega))
    · refine lv_tableIn (x := nI 18) (off := 680) (tgt := 712) hx hb dL_32 (by decide) (by decide) (by decide) (by decide) ?_
      exact lc_place hc hn hL hI hP hS hl (ih (by omega))
    · refine lv_tableIn (x := nI 19) (off := 723) (tgt := 755) hx hb dL_32 (by decide) (by decide) (by decide) (by decide) ?_
      exact lc_stuck hc hn hL hI hP hS hl (ih (by omega))
    · refine lv_tableIn (x := nI 20) (off := 746) (tgt := 778) hx hb dL_32 (by decide) (by decide) (by decide) (by decide) ?_
      exact lc_order hc hn hL hI hP hS hl (ih (by omega))
    · refine lv_tableIn (x := nI 21) (off := 759) (tgt := 791) hx hb dL_32 (by decide) (by decide) (by decide) (by decide) ?_
      exact lc_reach hc hn hL hI hP hS hl (ih (by omega))
    · refine lv_tableIn (x := nI 22) (off := 782) (tgt := 814) hx hb dL_32 (by decide) (by decide) (by decide) (by decide) ?_
      exact lc_ofTime hc hn hL hI hP hS hl (ih (by omega))
    · refine lv_tableIn (x := nI 23) (off := 825) (tgt := 857) hx hb dL_32 (by decide) (by decide) (by decide) (by decide) ?_
      exact lc_time hc hn hL hI hP hS hl (ih (by omega))
    · refine lv_tableIn (x := nI 24) (off := 848) (tgt := 880) hx hb dL_32 (by decide) (by decide) (by decide) (by decide) ?_
      exact lc_many hc hn hL hI hP hS hl (ih (by omega))
    · refine lv_tableOut (tgt := 903) hx hb dL_32 (Or.inr ?_) (by decide) ?_
      · rw [nI_toInt (by omega)]
        omega
      · exact lw_next hc hn hL ⟨CI_mono hI.1, hI.2⟩ hP hS hl (ih (by omega))
theorem lw_elS : ∀ j, j < 32 → Cond.eq (Term.elem (Term.static "FastShelf$Finder" "STATE_OF" "[I") (Term.int (Int32.ofNat j))) (Term.int (sv_tab 44 j)) ∈ flatC (Jvm.Cond.and given_1 narrow_1) := by decide +kernel
theorem lw_elF : ∀ j, j < 6 → Cond.eq (Term.elem (Term.static "FastShelf" "FACTORIALS" "[I") (Term.int (Int32.ofNat j))) (Term.int (sv_tab 43 j)) ∈ flatC (Jvm.Cond.and given_1 narrow_1) := by decide +kernel
def dD0 : dD := ((0, 0), fun _ _ => 0, fun _ => 0, fun _ _ => 0, fun _ _ => 0, fun k => [16, 10, 1, 2].getD k 0, fun _ => 0)
theorem dD0_ok : wfP dD0 := ⟨by decide, by decide, fun k p _ hp => absurd hp (Nat.not_lt_zero _), fun t ht => absurd ht (Nat.not_lt_zero _), fun t p _ hp => absurd hp (Nat.not_lt_zero _), fun t p _ _ hp => absurd hp (Nat.not_lt_zero _), by decide⟩
def cn_okY (pr : Nat → Bool) (X : List (Nat × Nat)) : Bool := X.all fun q => pr q.1 && Nat.blt (sv_kd q.1) 3 && (if sv_kd q.1 = 0 then (List.range (sv_ln q.1)).all (fun f => Nat.blt (sv_fk q.1 f) 3 || pr (sv_fk q.1 f - 3)) else true) && (if sv_kd q.1 = 2 then pr (sv_rw q.1) else true)
theorem cn_joinY (D : va_G) (cI cJ : ClassId) {bs bs' : Nat → Nat} {X : List (Nat × Nat)} {σ σ' : sv_S} (pr : Nat → Bool) (hX : cn_okY pr X = true) (h1 : ∀ g, pr g = true → bs g = bs' g) (h3 : ∀ g, pr g = true → ∀ i j, sv_gA σ g i j = sv_gA σ' g i j) (h4 : ∀ g, pr g = true → ∀ j, sv_gJ σ g j = sv_gJ σ' g j) : cn_wl D cI cJ bs X σ = cn_wl D cI cJ bs' X σ' := by
  have key : ∀ q ∈ X, pr q.1 = true ∧ sv_kd q.1 < 3 ∧ (sv_kd q.1 = 0 → ∀ f, f < sv_ln q.1 → 3 ≤ sv_fk q.1 f → pr (sv_fk q.1 f - 3) = true) ∧ (sv_kd q.1 = 2 → pr (sv_rw q.1) = true) := by
    intro q hq
    have := List.all_eq_true.mp hX q hq
    simp only [Bool.and_eq_true] at this
    obtain ⟨⟨⟨a1, a2⟩, a3⟩, a4⟩ := this
    refine ⟨a1, Nat.le_of_ble_eq_true a2, fun e f hf h3 => ?_, fun e => ?_⟩
    · rw [if_pos e] at a3
      have := List.all_eq_true.mp a3 f (List.mem_range.mpr hf)
      simp only [Bool.or_eq_true] at this
      rcases this with b | b
      · have := Nat.le_of_ble_eq_true b
        omega
      · exact b
    · rw [if_pos e] at a4
      exact a4
  exact cn_wl_cong D cI cJ (fun q hq => h1 _ (key q hq).1) (fun q hq => h3 _ (key q hq).1) (fun q hq => h4 _ (key q hq).1) (fun q hq e f hf h => h1 _ ((key q hq).2.2.1 e f hf h)) (fun q hq e => h1 _ ((key q hq).2.2.2 e)) (fun q hq => (key q hq).2.1)
def lw_q5 (g : Nat) : Bool := Nat.beq (sv_ow g) 5
def lw_q4 (g : Nat) : Bool := Nat.blt g 43 && !(Nat.beq (sv_ow g) 5)
set_option maxHeartbeats 8000000 in
set_option maxRecDepth 100000 in
theorem whole_start {p : Program} {e : Env} {s : State} {m : MethodId} {below : List Frame} {meth : Method} {c : Code} (l : Launch) (hflags : l.flags = flags0) {b L : Nat} {xs : Nat → Int32} (hL : L ≤ 2560) (C0 : lw_At p s m meth c b L xs) : W p l e room_1 s m #[Value.ref b] below meth c s.heap [] 0 0 (lw_Z below #[Value.ref b] s) (entryFrame m ([Value.ref b] : List Value).toArray 4) := by
  obtain ⟨hx, hb, hr, hml, hown, hts0, hX, hbl, hlocks, hgv⟩ := C0
  have hts : ∀ w ∈ sv_tb, w.before #[Value.ref b] s = true := fun w hw => hts0 w (List.mem_filter.mp hw).1
  obtain ⟨c0, iS0, hKn0⟩ := u_known (C := RX0) (T := TX0) (N := 9) (n := 9) hts sv_u0 (hts _ (sv_mem 147 (by decide +kernel) rfl))
  obtain ⟨c1, iS1, hKn1⟩ := u_known (C := RX1) (T := TX1) (N := 4) (n := 4) hts sv_u1 (hts _ (sv_mem 124 (by decide +kernel) rfl))
  obtain ⟨c2, iS2, hKn2⟩ := u_known (C := RX2) (T := TX2) (N := 9) (n := 9) hts sv_u2 (hts _ (sv_mem 69 (by decide +kernel) rfl))
  obtain ⟨c3, iS3, hKn3⟩ := u_known (C := RX3) (T := TX3) (N := 6) (n := 6) hts sv_u3 (hts _ (sv_mem 189 (by decide +kernel) rfl))
  obtain ⟨c4, iS4, hKn4⟩ := u_known (C := RX4) (T := TX4) (N := 4) (n := 4) hts sv_u4 (hts _ (sv_mem 61 (by decide +kernel) rfl))
  obtain ⟨c5, iS5, hKn5⟩ := u_known (C := RX5) (T := TX5) (N := 16) (n := 16) hts sv_u5 (hts _ (sv_mem 562 (by decide +kernel) rfl))
  obtain ⟨D, hKc⟩ : ∃ D : va_G, ∀ (k : Nat) (q : vw_C), vwCl[k]? = some q → u_Kn s q.1 q.2.1 q.2.2 (D.1 k) (D.2 k) := by
    refine ⟨(fun k => [c0, c1, c2, c3, c4, c5].getD k c0, fun k => [iS0, iS1, iS2, iS3, iS4, iS5].getD k iS0), ?_⟩
    intro k q hq
    match k, hq with
    | 0, hq => cases hq; exact hKn0
    | 1, hq => cases hq; exact hKn1
    | 2, hq => cases hq; exact hKn2
    | 3, hq => cases hq; exact hKn3
    | 4, hq => cases hq; exact hKn4
    | 5, hq => cases hq; exact hKn5
    | k + 6, hq => simp [vwCl] at hq
  obtain ⟨cI, kI, compI, fI, gI, eI⟩ := Cond.arrayClass_spec (hts (.arrayClass .int) (sv_mem 122 (by decide +kernel) rfl))
  have hov : (Cond.arrayOver (.array .int)).before #[Value.ref b] s = true := hts0 _ (List.mem_of_getElem? (i := 75) (by decide +kernel))
  obtain ⟨compJ, cJ, kJ, fJ0, fJ, gJ, eJ⟩ := mg_over hov
  have hK : va_K D vwCl (cn_ty cI cJ) s := ⟨hKc, fun k q hq => by
    match k, hq with
    | 0, hq => cases hq; exact ⟨fun n z => ⟨fun k h => (by cases h), kI, gI, compI, eI⟩, fI⟩
    | 1, hq => cases hq; exact ⟨fun n z => ⟨fun k h => (by cases h), kJ, gJ, compJ, eJ⟩, fJ⟩
    | k + 2, hq => simp [cn_ty] at hq⟩
  generalize hAe : (fun q : Nat => s.heap.size ≤ q) = A
  have hA : ∀ q : Nat, s.heap.size ≤ q → A q := fun q h => by rw [← hAe]; exact h
  have hAle : ∀ q : Nat, A q → s.heap.size ≤ q := fun q h => by rw [← hAe] at h; exact h
  have hAn : ∀ a : Nat, a < s.heap.size → ¬ A a := fun a h z => by have := hAle a z; omega
  have hfl := flat_of_before _ hgv
  obtain ⟨zF, hzF, hTF⟩ := va_Tof (tm := Term.static "FastShelf" "FACTORIALS" "[I") (ty := .int) (N := 6) (f := fun j => .int (sv_tab 43 j)) (A := A) (by decide) (hfl _ (by decide +kernel)) (va_eqt (hfl _ (by decide +kernel))) (fun j hj => va_eqt (hfl _ (lw_elF j hj))) hAn
  obtain ⟨zS, hzS, hTS⟩ := va_Tof (tm := Term.static "FastShelf$Finder" "STATE_OF" "[I") (ty := .int) (N := 32) (f := fun j => .int (sv_tab 44 j)) (A := A) (by decide) (hfl _ (by decide +kernel)) (va_eqt (hfl _ (by decide +kernel))) (fun j hj => va_eqt (hfl _ (lw_elS j hj))) hAn
  have hZF := va_Zof (C := "FastShelf") (n := "FACTORIALS") (d := "[I") (A := A) (hts0 _ (List.mem_of_getElem? (i := 487) (by decide +kernel))) (hts0 _ (List.mem_of_getElem? (i := 51) (by decide +kernel))) hzF hAn
  have hZS := va_Zof (C := "FastShelf$Finder") (n := "STATE_OF") (d := "[I") (A := A) (hts0 _ (List.mem_of_getElem? (i := 384) (by decide +kernel))) (hts0 _ (List.mem_of_getElem? (i := 54) (by decide +kernel))) hzS hAn
  have hstt : sv_stt A (fun g _ => if g = 43 then zF else zS) s s.heap := by
    intro q hq
    simp only [sv_sts, List.mem_cons, List.not_mem_nil, or_false] at hq
    rcases hq with rfl | rfl
    · exact ⟨hZF, hTF⟩
    · exact ⟨hZS, hTS⟩
  generalize hadS : (fun (g : Nat) (_ : Nat) => if g = 43 then zF else zS) = adS at hstt
  have hnw : sv_nw s := ⟨List.forall_mem_cons.mpr ⟨va_Nw.of rfl (hts0 _ (List.mem_of_getElem? (i := 70) (by decide +kernel))), List.forall_mem_cons.mpr ⟨va_Nw.of rfl (hts0 _ (List.mem_of_getElem? (i := 157) (by decide +kernel))), List.forall_mem_cons.mpr ⟨va_Nw.of rfl (hts0 _ (List.mem_of_getElem? (i := 258) (by decide +kernel))), List.forall_mem_cons.mpr ⟨va_Nw.of rfl (hts0 _ (List.mem_of_getElem? (i := 355) (by decide +kernel))), List.forall_mem_cons.mpr ⟨va_Nw.of rfl (hts0 _ (List.mem_of_getElem? (i := 499) (by decide +kernel))), fun _ h => absurd h List.not_mem_nil⟩⟩⟩⟩⟩, List.forall_mem_cons.mpr ⟨va_Nw.of rfl (hts0 _ (List.mem_of_getElem? (i := 486) (by decide +kernel))), List.forall_mem_cons.mpr ⟨va_Nw.of rfl (hts0 _ (List.mem_of_getElem? (i := 498) (by decide +kernel))), fun _ h => absurd h List.not_mem_nil⟩⟩⟩
  have hst : cn_St A adS s s.heap := ⟨hstt, hnw, (cn_ao_vm (a' := #[Value.ref b]) (U := s) (U' := s) rfl).trans hov⟩
  have hS : va_S A s.heap s.heap [] := va_S.rf
  have hP : va_P D vwCl [] s.heap := fun k q h => by simp at h
  have hD : va_D A [] := ⟨fun i j p q h => by simp at h, fun k q h => by simp at h⟩
  have hl := lv_entry ([.ref b]) (n := 4) (Nat.le_of_ble_eq_true rfl)
  rw [lg_entry_eq]
  generalize (lg_sl ([.ref b]) ++ List.replicate (4 - (lg_sl ([.ref b])).length) Slot.unset).toArray = ls at hl ⊢
  have hl : lv_has ls 4 [(0, .ref b)] := hl
  refine va_new (ci := 4) (fs := [.null, .null, .null, .null]) (C := RX4) (T := TX4) (N := 4) hx hb hts sv_u4 tyX4 tyX4_ok hown (hts _ (sv_mem 60 (by decide +kernel) rfl)) (hts _ (sv_mem 61 (by decide +kernel) rfl)) (hts _ (sv_mem 51 (by decide +kernel) rfl)) hK hP hD hS hA rfl (fun j hj => by rcases (show j = 0 ∨ j = 1 ∨ j = 2 ∨ j = 3 by omega) with rfl | rfl | rfl | rfl <;> rfl) (Nat.le_of_ble_eq_true rfl) (Nat.le_of_ble_eq_true rfl) dL_0 (fun q1 H hP hD hS => ?_)
  have hP := cn_Pc hP
  have hD := cn_Dc hD
  have hP : va_P D vwCl ([(q1, .inr (4, [.null, .null, .null, .null]))]) H := hP
  have hD : va_D A ([(q1, .inr (4, [.null, .null, .null, .null]))]) := hD
  refine lv_dup hx hb dL_3 rfl ?_
  refine cn_make (As := []) (b := q1) (rest := [.ref q1]) (n := 0) (nw := fun bs σ => cn_wl D cI cJ bs cn_X4 σ) (ok := fun bs σ => (bs 4 = q1 ∧ (∀ k, k < 4 → sv_gA σ 20 0 k = nI ([16, 10, 1, 2].getD k 0)) ∧ cn_z0 σ 2 ∧ cn_z0 σ 28 ∧ FT σ ∧ sv_gA σ 0 0 1 = -1)) hx hb hown hts (by rw [hml]; exact hl.1) (c_X4_init l D cI cJ adS q1 H.size) (Or.inl (sv_mem 62 (by decide +kernel) rfl)) (sv_mem 63 (by decide +kernel) rfl) (sv_mem 51 (by decide +kernel) rfl) (sv_mem 64 (by decide +kernel) rfl) (by decide +kernel) rfl rfl rfl rfl ⟨(Nat.le_of_ble_eq_true rfl), (Nat.le_of_ble_eq_true rfl)⟩ (Nat.le_of_ble_eq_true rfl) ⟨(Nat.le_of_ble_eq_true rfl), (Nat.le_of_ble_eq_true rfl)⟩ hK hP hD hS hA hst dL_4 (fun bs4 σ4 H locs hok4 hP hD hS => ?_)
  refine lv_astore_n (lv' := [(1, .ref q1), (0, .ref b)]) hx hb dL_7 rfl hl (by decide) rfl (fun ls hl => ?_)
  refine va_new (ci := 5) (fs := [.int 0, .int 0, .null, .null, .null, .null, .null, .null, .null, .null, .null, .int 0, .null, .null, .null, .int 0]) (C := RX5) (T := TX5) (N := 16) hx hb hts sv_u5 tyX5 tyX5_ok hown (hts _ (sv_mem 561 (by decide +kernel) rfl)) (hts _ (sv_mem 562 (by decide +kernel) rfl)) (hts _ (sv_mem 56 (by decide +kernel) rfl)) hK hP hD hS hA rfl (fun j hj => by rcases (show j = 0 ∨ j = 1 ∨ j = 2 ∨ j = 3 ∨ j = 4 ∨ j = 5 ∨ j = 6 ∨ j = 7 ∨ j = 8 ∨ j = 9 ∨ j = 10 ∨ j = 11 ∨ j = 12 ∨ j = 13 ∨ j = 14 ∨ j = 15 by omega) with rfl | rfl | rfl | rfl | rfl | rfl | rfl | rfl | rfl | rfl | rfl | rfl | rfl | rfl | rfl | rfl <;> rfl) (Nat.le_of_ble_eq_true rfl) (Nat.le_of_ble_eq_true rfl) dL_8 (fun q2 H hP hD hS => ?_)
  have hP := cn_Pc hP
  have hD := cn_Dc hD
  have hP : va_P D vwCl ((q2, .inr (5, [.int 0, .int 0, .null, .null, .null, .null, .null, .null, .null, .null, .null, .int 0, .null, .null, .null, .int 0])) :: (cn_wl D cI cJ bs4 cn_X4 σ4 ++ [])) H := hP
  have hD : va_D A ((q2, .inr (5, [.int 0, .int 0, .null, .null, .null, .null, .null, .null, .null, .null, .null, .int 0, .null, .null, .null, .int 0])) :: (cn_wl D cI cJ bs4 cn_X4 σ4 ++ [])) := hD
  refine lv_dup hx hb dL_11 rfl ?_
  refine cn_make (As := []) (b := q2) (rest := [.ref q2]) (n := 0) (nw := fun bs σ => cn_wl D cI cJ bs cn_X5 σ) (ok := fun bs σ => (bs 5 = q2 ∧ (∀ k, k < 4 → sv_gA σ 35 0 k = nI ([16, 10, 1, 2].getD k 0)) ∧ (∀ g, g ≠ 35 → cn_z0 σ g))) hx hb hown hts (by rw [hml]; exact hl.1) (c_X5_init l D cI cJ adS q2 H.size) (Or.inl (sv_mem 563 (by decide +kernel) rfl)) (sv_mem 564 (by decide +kernel) rfl) (sv_mem 56 (by decide +kernel) rfl) (sv_mem 565 (by decide +kernel) rfl) (by decide +kernel) rfl rfl rfl rfl ⟨(Nat.le_of_ble_eq_true rfl), (Nat.le_of_ble_eq_true rfl)⟩ (Nat.le_of_ble_eq_true rfl) ⟨(Nat.le_of_ble_eq_true rfl), (Nat.le_of_ble_eq_true rfl)⟩ hK hP hD hS hA hst dL_12 (fun bs5 σ5 H locs hok5 hP hD hS => ?_)
  refine lv_astore_n (lv' := [(2, .ref q2), (1, .ref q1), (0, .ref b)]) hx hb dL_15 rfl hl (by decide) rfl (fun ls hl => ?_)
  refine lv_iconst (v := 0) hx hb dL_16 rfl ?_
  refine lv_istore_n (lv' := [(3, .int 0), (2, .ref q2), (1, .ref q1), (0, .ref b)]) hx hb dL_17 rfl hl (by decide) rfl (fun ls hl => ?_)
  have hw : cn_wl D cI cJ (fun g => if lw_q5 g = true then bs5 g else if lw_q4 g = true then bs4 g else adS g 0) (cn_X5 ++ (cn_X4 ++ [])) ((fun g i j => if lw_q5 g = true then σ5.1 g i j else σ4.1 g i j, fun g k => if lw_q5 g = true then σ5.2 g k else σ4.2 g k) : sv_S) = cn_wl D cI cJ bs5 cn_X5 σ5 ++ (cn_wl D cI cJ bs4 cn_X4 σ4 ++ []) := by
    rw [cn_wl_app, cn_wl_app]
    have hne : ∀ g, lw_q4 g = true → ¬ lw_q5 g = true := fun g h h5 => by
      unfold lw_q4 at h
      unfold lw_q5 at h5
      rw [h5] at h
      simp at h
    have e5 := cn_joinY D cI cJ (bs := fun g => if lw_q5 g = true then bs5 g else if lw_q4 g = true then bs4 g else adS g 0) (bs' := bs5) (X := cn_X5) (σ := ((fun g i j => if lw_q5 g = true then σ5.1 g i j else σ4.1 g i j, fun g k => if lw_q5 g = true then σ5.2 g k else σ4.2 g k) : sv_S)) (σ' := σ5) lw_q5 (by decide +kernel) (fun g h => if_pos h) (fun g h i j => if_pos h) (fun g h j => if_pos h)
    have e4 := cn_joinY D cI cJ (bs := fun g => if lw_q5 g = true then bs5 g else if lw_q4 g = true then bs4 g else adS g 0) (bs' := bs4) (X := cn_X4) (σ := ((fun g i j => if lw_q5 g = true then σ5.1 g i j else σ4.1 g i j, fun g k => if lw_q5 g = true then σ5.2 g k else σ4.2 g k) : sv_S)) (σ' := σ4) lw_q4 (by decide +kernel) (fun g h => by show (if _ then _ else _) = _; rw [if_neg (hne g h), if_pos h]) (fun g h i j => if_neg (hne g h)) (fun g h j => if_neg (hne g h))
    rw [e5, e4]
    rfl
  have hA4 : ∀ g, lw_q5 g = false → ∀ i j, sv_gA ((fun g i j => if lw_q5 g = true then σ5.1 g i j else σ4.1 g i j, fun g k => if lw_q5 g = true then σ5.2 g k else σ4.2 g k) : sv_S) g i j = sv_gA σ4 g i j := fun g h i j => if_neg (by rw [h]; decide)
  have hA5 : ∀ g, lw_q5 g = true → ∀ i j, sv_gA ((fun g i j => if lw_q5 g = true then σ5.1 g i j else σ4.1 g i j, fun g k => if lw_q5 g = true then σ5.2 g k else σ4.2 g k) : sv_S) g i j = sv_gA σ5 g i j := fun g h i j => if_pos h
  have hb4 : (fun g => if lw_q5 g = true then bs5 g else if lw_q4 g = true then bs4 g else adS g 0) 4 = q1 := by
    show (if _ then _ else _) = _
    rw [if_neg (by decide), if_pos (by decide)]
    exact hok4.1
  have hb5 : (fun g => if lw_q5 g = true then bs5 g else if lw_q4 g = true then bs4 g else adS g 0) 5 = q2 := by
    show (if _ then _ else _) = _
    rw [if_pos (by decide)]
    exact hok5.1
  have hb43 : (fun g => if lw_q5 g = true then bs5 g else if lw_q4 g = true then bs4 g else adS g 0) 43 = adS 43 0 := by
    show (if _ then _ else _) = _
    rw [if_neg (by decide), if_neg (by decide)]
  have hb44 : (fun g => if lw_q5 g = true then bs5 g else if lw_q4 g = true then bs4 g else adS g 0) 44 = adS 44 0 := by
    show (if _ then _ else _) = _
    rw [if_neg (by decide), if_neg (by decide)]
  rw [← hw] at hP hD
  clear hw
  generalize (fun g => if lw_q5 g = true then bs5 g else if lw_q4 g = true then bs4 g else adS g 0) = bs at hP hD hb4 hb5 hb43 hb44
  generalize ((fun g i j => if lw_q5 g = true then σ5.1 g i j else σ4.1 g i j, fun g k => if lw_q5 g = true then σ5.2 g k else σ4.2 g k) : sv_S) = σ at hP hD hA4 hA5
  have hPG : va_P D vwCl (sv_wl (D, A, (fun g i => bs g + i), cI, cJ, cn_X5 ++ (cn_X4 ++ [])) σ) H := hP
  have hDG : va_D A (sv_wl (D, A, (fun g i => bs g + i), cI, cJ, cn_X5 ++ (cn_X4 ++ [])) σ) := hD
  have hC : lw_C p s m c b L xs (D, A, (fun g i => bs g + i), cI, cJ, cn_X5 ++ (cn_X4 ++ [])) := ⟨hx, hb, hml, hown, hts, hX, hbl, hAn b hbl, hK, fun σ' => sv_D_any hDG σ', cn_stt_cong (cn_sts (P := fun g => adS g 0 = bs g + 0) hb43.symm hb44.symm) hstt, hnw, ⟨(by decide +kernel : ∀ q ∈ cn_X5 ++ (cn_X4 ++ []), q.2 < sv_ct q.1), (by decide +kernel : ∀ g ∈ sv_all, ∀ i, i < sv_ct g → (g, i) ∈ cn_X5 ++ (cn_X4 ++ []))⟩, hAle⟩
  have hI : lw_I 0 σ dD0 := by
    have z4 : ∀ g, lw_q5 g = false → cn_z0 σ4 g → cn_z0 σ g := fun g h hz i j => (hA4 g h i j).trans (hz i j)
    have z2 := z4 2 (by decide) hok4.2.2.1
    have z28 := z4 28 (by decide) hok4.2.2.2.1
    refine ⟨⟨⟨dD0_ok, z2 0 0, z2 0 1, fun k hk => (hA4 20 (by decide) 0 k).trans (hok4.2.1 k hk), fun k p _ hp => absurd hp (Nat.not_lt_zero _), fun t ht => absurd ht (Nat.not_lt_zero _), fun t p _ hp => absurd hp (Nat.not_lt_zero _), fun t p _ hp => absurd hp (Nat.not_lt_zero _), fun p hp => absurd hp (Nat.not_lt_zero _)⟩, ⟨fun p hp => absurd hp (Nat.not_lt_zero _), fun p hp => absurd hp (Nat.not_lt_zero _)⟩, ⟨⟨fun z hz => (hA4 6 (by decide) 0 z).trans (hok4.2.2.2.2.1.1 z hz), fun t i ht hi => (hA4 8 (by decide) t i).trans (hok4.2.2.2.2.1.2 t i ht hi)⟩, 0, Nat.zero_le _, z2 0 2, Or.inl ((hA4 0 (by decide) 0 1).trans hok4.2.2.2.2.2)⟩, fun p _ => ⟨0, by decide, z28 0 p⟩⟩, ⟨dD0_ok, fun p hp => absurd hp (Nat.not_lt_zero _), (hA5 5 (by decide) 0 0).trans (hok5.2.2 5 (by decide) 0 0), (hA5 5 (by decide) 0 1).trans (hok5.2.2 5 (by decide) 0 1), fun k p _ hp => absurd hp (Nat.not_lt_zero _), fun t ht => absurd ht (Nat.not_lt_zero _), fun t p _ hp => absurd hp (Nat.not_lt_zero _), fun t p _ hp => absurd hp (Nat.not_lt_zero _), fun k hk => (hA5 35 (by decide) 0 k).trans (hok5.2.1 k hk), fun p hp => absurd hp (Nat.not_lt_zero _)⟩, Or.inl ((hA5 5 (by decide) 0 11).trans (hok5.2.2 5 (by decide) 0 11))⟩
  refine lw_loop hC hr hlocks hL 0 (by omega) σ dD0 H locs ls hI hPG hS ?_
  have hl2 := lv_sub hl (l' := [(3, .int 0), (0, .ref b), (1, .ref q1), (2, .ref q2)]) [0, 3, 2, 1] rfl
  unfold lw_L
  show lv_has ls 4 [(3, .int (nI 0)), (0, .ref b), (1, .ref (bs 4 + 0)), (2, .ref (bs 5 + 0))]
  rw [hb4, hb5]
  exact hl2
set_option maxHeartbeats 4000000 in
theorem lw_walk (l : Launch) (hflags : l.flags = flags0) (b : Addr) (xs : List Int32) : MetFree l x (headSpec (Jvm.Cond.code x code maxLocals ret :: tables_1) room_1) (lw_P b xs) (fun _ _ _ _ _ => True) lw_Q := by
  refine MetFree.of_bodyS (code := code) (maxLocals := maxLocals) (ret := ret) (by decide) ?_ ?_
  · intro args s m h hn
    obtain ⟨meth, c, h1, h2, h3, h4, h5, h6, -, -⟩ := Cond.code_spec hn (atoms_spec (ws := Jvm.Cond.code x code maxLocals ret :: tables_1) h _ List.mem_cons_self)
    exact ⟨meth, c, h1, h2, h3, h4, h5, h6⟩
  · intro p e s m args below meth c s₁ B hml0 hP _
    obtain ⟨rfl, hx, hbd, hgv⟩ := hP
    obtain ⟨scr, harrAt, hlist, hof, hsmall⟩ := hx
    obtain ⟨hcb, hkn, -, -⟩ := State.arrayAt?_spec harrAt
    have hown : s.vm.findClass R_law = some m.cls := findClass_of_methodNamed B.named
    have hts0 : ∀ c ∈ (Jvm.Cond.code x code maxLocals ret :: tables_1), c.before #[Value.ref b] s = true := atoms_spec (ws := Jvm.Cond.code x code maxLocals ret :: tables_1) B.pre
    have hts : ∀ w ∈ lw_tbl, w.before #[Value.ref b] s = true := k2_hts_sels lw_privs (fun w hw => hts0 w (List.mem_cons_of_mem _ hw)) lw_privs_ok
    have hml : c.maxLocals = 4 := B.maxLocals_eq (hts0 _ List.mem_cons_self)
    have X₀ : Stand p l e room_1 s m #[Value.ref b] below meth c s₁ [] 0 0 := Stand.of_body B
    have hh0 : s₁.heap = s.heap := by rw [B.state]; rfl
    have hsz : scr.slots.size = xs.length := by rw [← Array.length_toList, hlist, List.length_map]
    have hval : ∀ j : Nat, j < xs.length → scr.slots[j]? = some (.int (xs.getD j 0)) := fun j hj => by
      rw [← Array.getElem?_toList, hlist]
      simp [hj]
    have hbl : b < s.heap.size := (Array.getElem?_eq_some_iff.mp hcb).1
    have hX : va_X b xs.length (fun j => xs.getD j 0) s s.heap := ⟨scr, hcb, hof, hkn, hsz, hval⟩
    have K : W p l e room_1 s m #[Value.ref b] below meth c s₁.heap [] 0 0 (lw_Z below #[Value.ref b] s) (entryFrame m ([Value.ref b] : List Value).toArray 4) := by
      rw [hh0]
      exact whole_start l hflags hbd ⟨B.exec, B.bytes, B.returns, hml, hown, hts, hX, hbl, B.notSynchronized, hgv⟩
    obtain ⟨t, a1, o, b1, b2, b3⟩ := K s₁ rfl X₀
    exact ⟨t, o, a1, b1, b2, b3⟩
theorem lw_pre_spec {args : Array Value} {s : State} (h : (Jvm.Cond.and given_1 narrow_1).before args s = true) (hr : rest_1_c.before args s = true) : ∃ (b : Addr) (xs : List Int32), lw_P b xs args s := by
  have hs := flat_of_before _ h
  have hq := flat_of_before _ hr
  have hc : (Cond.count 1).before args s = true := hs _ (by decide +kernel)
  have harr : (Cond.arrayOf (.arg 0) .int).before args s = true := hs _ (by decide +kernel)
  have hle : (Cond.le (.length (.arg 0)) (.int 2560)).before args s = true := hs _ (by decide +kernel)
  have hlen : (Cond.isInt (.length (.arg 0))).before args s = true := hq _ (by decide +kernel)
  have hall : (Cond.all (.arg 0) (.isInt (.elem (.arg 0) (.index 0)))).before args s = true := hq _ (by decide +kernel)
  obtain ⟨b, xs, hb, hx⟩ := State.ints_of_pre rfl harr hlen hall
  have hsm : xs.length < 2 ^ 31 := hx.choose_spec.2.2.2
  have hev : (Term.length (.arg 0)).eval args s none [] s = some (.int xs.length.toInt32) := hx.length_eval hb
  have hv := Cond.le_ints hev (show (Term.int 2560).eval args s none [] s = some (.int 2560) from rfl)
  have hd : xs.length.toInt32 ≤ 2560 := by
    simpa [Cond.before, Cond.holds, hv] using hle
  have hN : xs.length ≤ 2560 := (Int32.ofNat_le_ofNat hsm (by decide)).mp (show Int32.ofNat xs.length ≤ Int32.ofNat 2560 from hd)
  exact ⟨b, xs, Cond.one_arg hc (show args[0]? = some (.ref b) from hb), hx, hN, h⟩
theorem lw_comes (l : Launch) (hflags : l.flags = flags0) : Comes l x (Jvm.Cond.code x code maxLocals ret :: tables_1) room_1 (fun tb e args s => Calls_1 tb e args s ∧ rest_1 tb e args s ∧ Pre_1 tb e args s)
    (fun _ _ args s o t => lw_Q args s o t) := by
  intro p e ha hc hk s m args below hf hfit hheap happ hpre
  obtain ⟨b, xs, hP⟩ := lw_pre_spec hpre.2.2 hpre.2.1
  obtain ⟨k, o, h1, h2, h3, hQ⟩ := lw_walk l hflags b xs p e ha hc hk s m args below hf ((Spec.applies_iff_loose hf).mp happ).1 hP trivial
  exact ⟨k, o, h1, h2, h3, hQ⟩
theorem lw_frame {s t : State} {o : Outcome} {args : Array Value} (h : Framed s o t [] 600000 7302250) :
    Framed s o t (fieldLocs frame_1_writes args s ++ arrayLocs frame_1_arrays args s ++ staticLocs frame_1_statics s) 600000 7302250 := h
theorem lw_limb (L : Cond) (hL : ∀ (args : Array Value) (s t : State), L.after args s (.returned (some (.int 1))) t = true) :
    ArmFor flags0 classFile x code maxLocals ret World_1 tables_1 room_1 Calls_1 rest_1 Pre_1
      (fun tb e a s o t => postC L tb e a s o t ∧ Framed s o t (fieldLocs frame_1_writes a s ++ arrayLocs frame_1_arrays a s ++ staticLocs frame_1_statics s) 600000 7302250) := by
  intro l hflags _ _ p e ha hc hk s m args below hf hfit hheap happ hpre
  obtain ⟨k, o, h1, h2, h3, rfl, hF⟩ := lw_comes l hflags p e ha hc hk s m args below hf hfit hheap happ hpre
  exact ⟨k, _, h1, h2, h3, hL args s _, lw_frame hF⟩
theorem i_vc : Claimed_1_1 ∧ Claimed_1_2 := ⟨lw_limb limb_1_1 (fun args s t => by simp [limb_1_1, Cond.after, Cond.holds, Cond.value]), lw_limb limb_1_2 (fun args s t => Cond.after_iff.mpr (by
  first | (rw [show limb_1_2 = Cond.eq .result (.int 1) from rfl, Cond.eq_ints (x := 1) (y := 1) rfl rfl]; simp; done) | (simp [limb_1_2, Cond.value, Term.eval]; done)))⟩
