/-! the constructors -/
def cn_z0 (σ : sv_S) (g : Nat) : Prop := ∀ i j, sv_gA σ g i j = 0
theorem dX1_init_0 : decode cX1_init 0 = .ok (.aload_n 0, 1) := by decide +kernel
theorem dX1_init_1 : decode cX1_init 1 = .ok (.invokespecial 3, 3) := by decide +kernel
theorem dX1_init_4 : decode cX1_init 4 = .ok (.aload_n 0, 1) := by decide +kernel
theorem dX1_init_5 : decode cX1_init 5 = .ok (.bipush 10, 2) := by decide +kernel
theorem dX1_init_7 : decode cX1_init 7 = .ok (.newarray .int, 2) := by decide +kernel
theorem dX1_init_9 : decode cX1_init 9 = .ok (.putfield 9, 3) := by decide +kernel
theorem dX1_init_12 : decode cX1_init 12 = .ok (.aload_n 0, 1) := by decide +kernel
theorem dX1_init_13 : decode cX1_init 13 = .ok (.bipush 10, 2) := by decide +kernel
theorem dX1_init_15 : decode cX1_init 15 = .ok (.newarray .int, 2) := by decide +kernel
theorem dX1_init_17 : decode cX1_init 17 = .ok (.putfield 15, 3) := by decide +kernel
theorem dX1_init_20 : decode cX1_init 20 = .ok (.aload_n 0, 1) := by decide +kernel
theorem dX1_init_21 : decode cX1_init 21 = .ok (.bipush 10, 2) := by decide +kernel
theorem dX1_init_23 : decode cX1_init 23 = .ok (.newarray .int, 2) := by decide +kernel
theorem dX1_init_25 : decode cX1_init 25 = .ok (.putfield 18, 3) := by decide +kernel
theorem dX1_init_28 : decode cX1_init 28 = .ok (.aload_n 0, 1) := by decide +kernel
theorem dX1_init_29 : decode cX1_init 29 = .ok (.aload_n 1, 1) := by decide +kernel
theorem dX1_init_30 : decode cX1_init 30 = .ok (.putfield 21, 3) := by decide +kernel
theorem dX1_init_33 : decode cX1_init 33 = .ok (.return_, 1) := by decide +kernel
def cn_X1 : List (Nat × Nat) := [(19, 0), (18, 0), (17, 0), (1, 0)]
set_option maxHeartbeats 8000000 in
set_option maxRecDepth 100000 in
theorem c_X1_init (l : Launch) (D : va_G) (cI cJ : ClassId) (adS : Nat → Nat → Nat) (b pq sz : Nat) : Met l yX1_init (sv_ws yX1_init cX1_init 2 none) { frames := 1, cells := 3, slots := 30, locals := 12 } (va_Pc [.ref b, .ref pq] (cn_Pre D (cn_A b sz) cI cJ adS [(b, .inr (1, [.null, .null, .null, .null]))])) (cn_Q (cn_A b sz) (fun H => ∃ bs σ, (bs 1 = b ∧ bs 2 = pq) ∧ va_P D vwCl (cn_wl D cI cJ bs cn_X1 σ) H ∧ va_D (cn_A b sz) (cn_wl D cI cJ bs cn_X1 σ))) 3 30 (cn_A b sz) := by
  refine Met.ofW (cc := cX1_init) (maxL := 2) (ret := none) (by decide) rfl ?_
  intro p e s m args below meth c s₁ B hml hv
  obtain ⟨rfl, hP, hK, hD, hA, hst⟩ := hv
  have hx := B.exec
  have hb := B.bytes
  have hr := B.returns
  have hts0 := atoms_spec (ws := sv_ws yX1_init cX1_init 2 none) B.pre
  have hts := fun w (hw : w ∈ sv_tb) => hts0 w (List.mem_cons_of_mem _ hw)
  have hown : s.vm.findClass RX1 = some m.cls := findClass_of_methodNamed B.named
  have hlocks := B.notSynchronized
  have hin : meth.name = "<init>" := (name_of_methodNamed B.named B.method).1
  have hS : va_S (cn_A b sz) s.heap s.heap [] := va_S.rf
  have hl := lv_entry ([.ref b, .ref pq]) (n := 2) (Nat.le_of_ble_eq_true rfl)
  rw [lg_entry_eq]
  generalize (lg_sl ([.ref b, .ref pq]) ++ List.replicate (2 - (lg_sl ([.ref b, .ref pq])).length) Slot.unset).toArray = ls at hl ⊢
  have hl : lv_has ls 2 [(0, .ref b), (1, .ref pq)] := hl
  have harr := hts (.arrayClass .int) (sv_mem 122 (by decide +kernel) rfl)
  have hover := (cn_ao_vm (a := ([.ref b, .ref pq] : List Value).toArray) (U := s) (U' := s) rfl).trans hst.2.2
  have hA : ∀ q, s.heap.size ≤ q → cn_A b sz q := hA
  refine lv_aload_n hx hb dX1_init_0 rfl (lv_at hl 0 rfl) ?_
  refine W.objInit hx hb hown (hts _ (sv_mem 128 (by decide +kernel) rfl)) (hts _ (sv_mem 66 (by decide +kernel) rfl)) (hts _ (sv_mem 67 (by decide +kernel) rfl)) rfl (by rw [hml]; exact hl.1) rfl dX1_init_1 (Nat.le_of_ble_eq_true rfl) (Nat.le_of_ble_eq_true rfl) ?_
  refine W.eq (g2 := F0 m 4 ls []) rfl ?_
  refine lv_aload_n hx hb dX1_init_4 rfl (lv_at hl 0 rfl) ?_
  refine lv_bipush (v := (10)) hx hb dX1_init_5 rfl ?_
  refine cn_newa hx hb harr hK hP hD hS hA (by decide) (N := 10) (by decide) (Nat.le_of_ble_eq_true rfl) (Nat.le_of_ble_eq_true rfl) (Nat.le_of_ble_eq_true rfl) dX1_init_7 (fun q1 H hP hD hS => ?_)
  have hP : va_P D vwCl ([(q1, .inl (cI, 10, .inl (fun _ => 0))), (b, .inr (1, [.null, .null, .null, .null]))]) H := hP
  have hD : va_D (cn_A b sz) ([(q1, .inl (cI, 10, .inl (fun _ => 0))), (b, .inr (1, [.null, .null, .null, .null]))]) := hD
  refine va_putF (D := D) (ref := RX1) (ci := 1) (v := .ref q1) (ty := .array .int) (C := RX1) (T := TX1) (N := 4) hx hb hts sv_u1 tyX1 tyX1_ok nmX1 hown hK hP hD hS 1 rfl rfl 1 (by decide) (hts _ (sv_mem 130 (by decide +kernel) rfl)) (fun _ h9 => h9) rfl hin rfl (by decide +kernel) rfl rfl (Nat.le_of_ble_eq_true rfl) dX1_init_9 (fun H locs hP hD hS => ?_)
  have hP : va_P D vwCl ([(q1, .inl (cI, 10, .inl (fun _ => 0))), (b, .inr (1, [.null, .ref q1, .null, .null]))]) H := hP
  have hD : va_D (cn_A b sz) ([(q1, .inl (cI, 10, .inl (fun _ => 0))), (b, .inr (1, [.null, .ref q1, .null, .null]))]) := hD
  refine lv_aload_n hx hb dX1_init_12 rfl (lv_at hl 0 rfl) ?_
  refine lv_bipush (v := (10)) hx hb dX1_init_13 rfl ?_
  refine cn_newa hx hb harr hK hP hD hS hA (by decide) (N := 10) (by decide) (Nat.le_of_ble_eq_true rfl) (Nat.le_of_ble_eq_true rfl) (Nat.le_of_ble_eq_true rfl) dX1_init_15 (fun q2 H hP hD hS => ?_)
  have hP : va_P D vwCl ([(q2, .inl (cI, 10, .inl (fun _ => 0))), (q1, .inl (cI, 10, .inl (fun _ => 0))), (b, .inr (1, [.null, .ref q1, .null, .null]))]) H := hP
  have hD : va_D (cn_A b sz) ([(q2, .inl (cI, 10, .inl (fun _ => 0))), (q1, .inl (cI, 10, .inl (fun _ => 0))), (b, .inr (1, [.null, .ref q1, .null, .null]))]) := hD
  refine va_putF (D := D) (ref := RX1) (ci := 1) (v := .ref q2) (ty := .array .int) (C := RX1) (T := TX1) (N := 4) hx hb hts sv_u1 tyX1 tyX1_ok nmX1 hown hK hP hD hS 2 rfl rfl 2 (by decide) (hts _ (sv_mem 133 (by decide +kernel) rfl)) (fun _ h9 => h9) rfl hin rfl (by decide +kernel) rfl rfl (Nat.le_of_ble_eq_true rfl) dX1_init_17 (fun H locs hP hD hS => ?_)
  have hP : va_P D vwCl ([(q2, .inl (cI, 10, .inl (fun _ => 0))), (q1, .inl (cI, 10, .inl (fun _ => 0))), (b, .inr (1, [.null, .ref q1, .ref q2, .null]))]) H := hP
  have hD : va_D (cn_A b sz) ([(q2, .inl (cI, 10, .inl (fun _ => 0))), (q1, .inl (cI, 10, .inl (fun _ => 0))), (b, .inr (1, [.null, .ref q1, .ref q2, .null]))]) := hD
  refine lv_aload_n hx hb dX1_init_20 rfl (lv_at hl 0 rfl) ?_
  refine lv_bipush (v := (10)) hx hb dX1_init_21 rfl ?_
  refine cn_newa hx hb harr hK hP hD hS hA (by decide) (N := 10) (by decide) (Nat.le_of_ble_eq_true rfl) (Nat.le_of_ble_eq_true rfl) (Nat.le_of_ble_eq_true rfl) dX1_init_23 (fun q3 H hP hD hS => ?_)
  have hP : va_P D vwCl ([(q3, .inl (cI, 10, .inl (fun _ => 0))), (q2, .inl (cI, 10, .inl (fun _ => 0))), (q1, .inl (cI, 10, .inl (fun _ => 0))), (b, .inr (1, [.null, .ref q1, .ref q2, .null]))]) H := hP
  have hD : va_D (cn_A b sz) ([(q3, .inl (cI, 10, .inl (fun _ => 0))), (q2, .inl (cI, 10, .inl (fun _ => 0))), (q1, .inl (cI, 10, .inl (fun _ => 0))), (b, .inr (1, [.null, .ref q1, .ref q2, .null]))]) := hD
  refine va_putF (D := D) (ref := RX1) (ci := 1) (v := .ref q3) (ty := .array .int) (C := RX1) (T := TX1) (N := 4) hx hb hts sv_u1 tyX1 tyX1_ok nmX1 hown hK hP hD hS 3 rfl rfl 3 (by decide) (hts _ (sv_mem 135 (by decide +kernel) rfl)) (fun _ h9 => h9) rfl hin rfl (by decide +kernel) rfl rfl (Nat.le_of_ble_eq_true rfl) dX1_init_25 (fun H locs hP hD hS => ?_)
  have hP : va_P D vwCl ([(q3, .inl (cI, 10, .inl (fun _ => 0))), (q2, .inl (cI, 10, .inl (fun _ => 0))), (q1, .inl (cI, 10, .inl (fun _ => 0))), (b, .inr (1, [.null, .ref q1, .ref q2, .ref q3]))]) H := hP
  have hD : va_D (cn_A b sz) ([(q3, .inl (cI, 10, .inl (fun _ => 0))), (q2, .inl (cI, 10, .inl (fun _ => 0))), (q1, .inl (cI, 10, .inl (fun _ => 0))), (b, .inr (1, [.null, .ref q1, .ref q2, .ref q3]))]) := hD
  refine lv_aload_n hx hb dX1_init_28 rfl (lv_at hl 0 rfl) ?_
  refine lv_aload_n hx hb dX1_init_29 rfl (lv_at hl 1 rfl) ?_
  refine va_putF (D := D) (ref := RX1) (ci := 1) (v := .ref pq) (ty := .object "FastShelf$Program") (C := RX1) (T := TX1) (N := 4) hx hb hts sv_u1 tyX1 tyX1_ok nmX1 hown hK hP hD hS 3 rfl rfl 0 (by decide) (hts _ (sv_mem 129 (by decide +kernel) rfl)) (fun _ h9 => h9) rfl hin rfl (by decide +kernel) rfl rfl (Nat.le_of_ble_eq_true rfl) dX1_init_30 (fun H locs hP hD hS => ?_)
  have hP : va_P D vwCl ([(q3, .inl (cI, 10, .inl (fun _ => 0))), (q2, .inl (cI, 10, .inl (fun _ => 0))), (q1, .inl (cI, 10, .inl (fun _ => 0))), (b, .inr (1, [.ref pq, .ref q1, .ref q2, .ref q3]))]) H := hP
  have hD : va_D (cn_A b sz) ([(q3, .inl (cI, 10, .inl (fun _ => 0))), (q2, .inl (cI, 10, .inl (fun _ => 0))), (q1, .inl (cI, 10, .inl (fun _ => 0))), (b, .inr (1, [.ref pq, .ref q1, .ref q2, .ref q3]))]) := hD
  have hP9 : va_P D vwCl (cn_wl D cI cJ (fun g => ([0, b, pq, 0, 0, 0, 0, 0, 0, 0, 0, 0, 0, 0, 0, 0, 0, q1, q2, q3, 0, 0, 0, 0, 0, 0, 0, 0, 0, 0, 0, 0, 0, 0, 0, 0, 0, 0, 0, 0, 0, 0, 0, 0, 0] : List Nat).getD g 0) cn_X1 ((fun _ _ _ => 0, fun _ _ => 0) : sv_S)) H := hP
  have hD9 : va_D (cn_A b sz) (cn_wl D cI cJ (fun g => ([0, b, pq, 0, 0, 0, 0, 0, 0, 0, 0, 0, 0, 0, 0, 0, 0, q1, q2, q3, 0, 0, 0, 0, 0, 0, 0, 0, 0, 0, 0, 0, 0, 0, 0, 0, 0, 0, 0, 0, 0, 0, 0, 0, 0] : List Nat).getD g 0) cn_X1 ((fun _ _ _ => 0, fun _ _ => 0) : sv_S)) := hD
  exact W.vret hx hb hr (fun t ht hW => ⟨⟨rfl, _, _, ⟨rfl, rfl⟩, by rw [ht]; exact hP9, hD9⟩, hS.F ht⟩) hS.2.2 dX1_init_33
theorem dX3_init_0 : decode cX3_init 0 = .ok (.aload_n 0, 1) := by decide +kernel
theorem dX3_init_1 : decode cX3_init 1 = .ok (.invokespecial 3, 3) := by decide +kernel
theorem dX3_init_4 : decode cX3_init 4 = .ok (.aload_n 0, 1) := by decide +kernel
theorem dX3_init_5 : decode cX3_init 5 = .ok (.iconst 5, 1) := by decide +kernel
theorem dX3_init_6 : decode cX3_init 6 = .ok (.newarray .int, 2) := by decide +kernel
theorem dX3_init_8 : decode cX3_init 8 = .ok (.putfield 9, 3) := by decide +kernel
theorem dX3_init_11 : decode cX3_init 11 = .ok (.aload_n 0, 1) := by decide +kernel
theorem dX3_init_12 : decode cX3_init 12 = .ok (.iconst 5, 1) := by decide +kernel
theorem dX3_init_13 : decode cX3_init 13 = .ok (.newarray .int, 2) := by decide +kernel
theorem dX3_init_15 : decode cX3_init 15 = .ok (.putfield 15, 3) := by decide +kernel
theorem dX3_init_18 : decode cX3_init 18 = .ok (.aload_n 0, 1) := by decide +kernel
theorem dX3_init_19 : decode cX3_init 19 = .ok (.aload_n 1, 1) := by decide +kernel
theorem dX3_init_20 : decode cX3_init 20 = .ok (.putfield 18, 3) := by decide +kernel
theorem dX3_init_23 : decode cX3_init 23 = .ok (.aload_n 0, 1) := by decide +kernel
theorem dX3_init_24 : decode cX3_init 24 = .ok (.aload_n 2, 1) := by decide +kernel
theorem dX3_init_25 : decode cX3_init 25 = .ok (.putfield 22, 3) := by decide +kernel
theorem dX3_init_28 : decode cX3_init 28 = .ok (.return_, 1) := by decide +kernel
def cn_X3 : List (Nat × Nat) := [(30, 0), (29, 0), (3, 0)]
set_option maxHeartbeats 8000000 in
set_option maxRecDepth 100000 in
theorem c_X3_init (l : Launch) (D : va_G) (cI cJ : ClassId) (adS : Nat → Nat → Nat) (b pq rq sz : Nat) : Met l yX3_init (sv_ws yX3_init cX3_init 3 none) { frames := 1, cells := 2, slots := 10, locals := 12 } (va_Pc [.ref b, .ref pq, .ref rq] (cn_Pre D (cn_A b sz) cI cJ adS [(b, .inr (3, [.null, .null, .null, .null, .long 0, .int 0]))])) (cn_Q (cn_A b sz) (fun H => ∃ bs σ, (bs 3 = b ∧ bs 2 = pq ∧ bs 1 = rq) ∧ va_P D vwCl (cn_wl D cI cJ bs cn_X3 σ) H ∧ va_D (cn_A b sz) (cn_wl D cI cJ bs cn_X3 σ))) 2 10 (cn_A b sz) := by
  refine Met.ofW (cc := cX3_init) (maxL := 3) (ret := none) (by decide) rfl ?_
  intro p e s m args below meth c s₁ B hml hv
  obtain ⟨rfl, hP, hK, hD, hA, hst⟩ := hv
  have hx := B.exec
  have hb := B.bytes
  have hr := B.returns
  have hts0 := atoms_spec (ws := sv_ws yX3_init cX3_init 3 none) B.pre
  have hts := fun w (hw : w ∈ sv_tb) => hts0 w (List.mem_cons_of_mem _ hw)
  have hown : s.vm.findClass RX3 = some m.cls := findClass_of_methodNamed B.named
  have hlocks := B.notSynchronized
  have hin : meth.name = "<init>" := (name_of_methodNamed B.named B.method).1
  have hS : va_S (cn_A b sz) s.heap s.heap [] := va_S.rf
  have hl := lv_entry ([.ref b, .ref pq, .ref rq]) (n := 3) (Nat.le_of_ble_eq_true rfl)
  rw [lg_entry_eq]
  generalize (lg_sl ([.ref b, .ref pq, .ref rq]) ++ List.replicate (3 - (lg_sl ([.ref b, .ref pq, .ref rq])).length) Slot.unset).toArray = ls at hl ⊢
  have hl : lv_has ls 3 [(0, .ref b), (1, .ref pq), (2, .ref rq)] := hl
  have harr := hts (.arrayClass .int) (sv_mem 122 (by decide +kernel) rfl)
  have hover := (cn_ao_vm (a := ([.ref b, .ref pq, .ref rq] : List Value).toArray) (U := s) (U' := s) rfl).trans hst.2.2
  have hA : ∀ q, s.heap.size ≤ q → cn_A b sz q := hA
  refine lv_aload_n hx hb dX3_init_0 rfl (lv_at hl 0 rfl) ?_
  refine W.objInit hx hb hown (hts _ (sv_mem 193 (by decide +kernel) rfl)) (hts _ (sv_mem 66 (by decide +kernel) rfl)) (hts _ (sv_mem 67 (by decide +kernel) rfl)) rfl (by rw [hml]; exact hl.1) rfl dX3_init_1 (Nat.le_of_ble_eq_true rfl) (Nat.le_of_ble_eq_true rfl) ?_
  refine W.eq (g2 := F0 m 4 ls []) rfl ?_
  refine lv_aload_n hx hb dX3_init_4 rfl (lv_at hl 0 rfl) ?_
  refine lv_iconst (v := (5)) hx hb dX3_init_5 rfl ?_
  refine cn_newa hx hb harr hK hP hD hS hA (by decide) (N := 5) (by decide) (Nat.le_of_ble_eq_true rfl) (Nat.le_of_ble_eq_true rfl) (Nat.le_of_ble_eq_true rfl) dX3_init_6 (fun q1 H hP hD hS => ?_)
  have hP : va_P D vwCl ([(q1, .inl (cI, 5, .inl (fun _ => 0))), (b, .inr (3, [.null, .null, .null, .null, .long 0, .int 0]))]) H := hP
  have hD : va_D (cn_A b sz) ([(q1, .inl (cI, 5, .inl (fun _ => 0))), (b, .inr (3, [.null, .null, .null, .null, .long 0, .int 0]))]) := hD
  refine va_putF (D := D) (ref := RX3) (ci := 3) (v := .ref q1) (ty := .array .int) (C := RX3) (T := TX3) (N := 6) hx hb hts sv_u3 tyX3 tyX3_ok nmX3 hown hK hP hD hS 1 rfl rfl 2 (by decide) (hts _ (sv_mem 196 (by decide +kernel) rfl)) (fun _ h9 => h9) rfl hin rfl (by decide +kernel) rfl rfl (Nat.le_of_ble_eq_true rfl) dX3_init_8 (fun H locs hP hD hS => ?_)
  have hP : va_P D vwCl ([(q1, .inl (cI, 5, .inl (fun _ => 0))), (b, .inr (3, [.null, .null, .ref q1, .null, .long 0, .int 0]))]) H := hP
  have hD : va_D (cn_A b sz) ([(q1, .inl (cI, 5, .inl (fun _ => 0))), (b, .inr (3, [.null, .null, .ref q1, .null, .long 0, .int 0]))]) := hD
  refine lv_aload_n hx hb dX3_init_11 rfl (lv_at hl 0 rfl) ?_
  refine lv_iconst (v := (5)) hx hb dX3_init_12 rfl ?_
  refine cn_newa hx hb harr hK hP hD hS hA (by decide) (N := 5) (by decide) (Nat.le_of_ble_eq_true rfl) (Nat.le_of_ble_eq_true rfl) (Nat.le_of_ble_eq_true rfl) dX3_init_13 (fun q2 H hP hD hS => ?_)
  have hP : va_P D vwCl ([(q2, .inl (cI, 5, .inl (fun _ => 0))), (q1, .inl (cI, 5, .inl (fun _ => 0))), (b, .inr (3, [.null, .null, .ref q1, .null, .long 0, .int 0]))]) H := hP
  have hD : va_D (cn_A b sz) ([(q2, .inl (cI, 5, .inl (fun _ => 0))), (q1, .inl (cI, 5, .inl (fun _ => 0))), (b, .inr (3, [.null, .null, .ref q1, .null, .long 0, .int 0]))]) := hD
  refine va_putF (D := D) (ref := RX3) (ci := 3) (v := .ref q2) (ty := .array .int) (C := RX3) (T := TX3) (N := 6) hx hb hts sv_u3 tyX3 tyX3_ok nmX3 hown hK hP hD hS 2 rfl rfl 3 (by decide) (hts _ (sv_mem 197 (by decide +kernel) rfl)) (fun _ h9 => h9) rfl hin rfl (by decide +kernel) rfl rfl (Nat.le_of_ble_eq_true rfl) dX3_init_15 (fun H locs hP hD hS => ?_)
  have hP : va_P D vwCl ([(q2, .inl (cI, 5, .inl (fun _ => 0))), (q1, .inl (cI, 5, .inl (fun _ => 0))), (b, .inr (3, [.null, .null, .ref q1, .ref q2, .long 0, .int 0]))]) H := hP
  have hD : va_D (cn_A b sz) ([(q2, .inl (cI, 5, .inl (fun _ => 0))), (q1, .inl (cI, 5, .inl (fun _ => 0))), (b, .inr (3, [.null, .null, .ref q1, .ref q2, .long 0, .int 0]))]) := hD
  refine lv_aload_n hx hb dX3_init_18 rfl (lv_at hl 0 rfl) ?_
  refine lv_aload_n hx hb dX3_init_19 rfl (lv_at hl 1 rfl) ?_
  refine va_putF (D := D) (ref := RX3) (ci := 3) (v := .ref pq) (ty := .object "FastShelf$Program") (C := RX3) (T := TX3) (N := 6) hx hb hts sv_u3 tyX3 tyX3_ok nmX3 hown hK hP hD hS 2 rfl rfl 0 (by decide) (hts _ (sv_mem 194 (by decide +kernel) rfl)) (fun _ h9 => h9) rfl hin rfl (by decide +kernel) rfl rfl (Nat.le_of_ble_eq_true rfl) dX3_init_20 (fun H locs hP hD hS => ?_)
  have hP : va_P D vwCl ([(q2, .inl (cI, 5, .inl (fun _ => 0))), (q1, .inl (cI, 5, .inl (fun _ => 0))), (b, .inr (3, [.ref pq, .null, .ref q1, .ref q2, .long 0, .int 0]))]) H := hP
  have hD : va_D (cn_A b sz) ([(q2, .inl (cI, 5, .inl (fun _ => 0))), (q1, .inl (cI, 5, .inl (fun _ => 0))), (b, .inr (3, [.ref pq, .null, .ref q1, .ref q2, .long 0, .int 0]))]) := hD
  refine lv_aload_n hx hb dX3_init_23 rfl (lv_at hl 0 rfl) ?_
  refine lv_aload_n hx hb dX3_init_24 rfl (lv_at hl 2 rfl) ?_
  refine va_putF (D := D) (ref := RX3) (ci := 3) (v := .ref rq) (ty := .object "FastShelf$Plan") (C := RX3) (T := TX3) (N := 6) hx hb hts sv_u3 tyX3 tyX3_ok nmX3 hown hK hP hD hS 2 rfl rfl 1 (by decide) (hts _ (sv_mem 195 (by decide +kernel) rfl)) (fun _ h9 => h9) rfl hin rfl (by decide +kernel) rfl rfl (Nat.le_of_ble_eq_true rfl) dX3_init_25 (fun H locs hP hD hS => ?_)
  have hP : va_P D vwCl ([(q2, .inl (cI, 5, .inl (fun _ => 0))), (q1, .inl (cI, 5, .inl (fun _ => 0))), (b, .inr (3, [.ref pq, .ref rq, .ref q1, .ref q2, .long 0, .int 0]))]) H := hP
  have hD : va_D (cn_A b sz) ([(q2, .inl (cI, 5, .inl (fun _ => 0))), (q1, .inl (cI, 5, .inl (fun _ => 0))), (b, .inr (3, [.ref pq, .ref rq, .ref q1, .ref q2, .long 0, .int 0]))]) := hD
  have hP9 : va_P D vwCl (cn_wl D cI cJ (fun g => ([0, rq, pq, b, 0, 0, 0, 0, 0, 0, 0, 0, 0, 0, 0, 0, 0, 0, 0, 0, 0, 0, 0, 0, 0, 0, 0, 0, 0, q1, q2, 0, 0, 0, 0, 0, 0, 0, 0, 0, 0, 0, 0, 0, 0] : List Nat).getD g 0) cn_X3 ((fun _ _ _ => 0, fun _ _ => 0) : sv_S)) H := hP
  have hD9 : va_D (cn_A b sz) (cn_wl D cI cJ (fun g => ([0, rq, pq, b, 0, 0, 0, 0, 0, 0, 0, 0, 0, 0, 0, 0, 0, 0, 0, 0, 0, 0, 0, 0, 0, 0, 0, 0, 0, q1, q2, 0, 0, 0, 0, 0, 0, 0, 0, 0, 0, 0, 0, 0, 0] : List Nat).getD g 0) cn_X3 ((fun _ _ _ => 0, fun _ _ => 0) : sv_S)) := hD
  exact W.vret hx hb hr (fun t ht hW => ⟨⟨rfl, _, _, ⟨rfl, rfl, rfl⟩, by rw [ht]; exact hP9, hD9⟩, hS.F ht⟩) hS.2.2 dX3_init_28
theorem dX2_init_0 : decode cX2_init 0 = .ok (.aload_n 0, 1) := by decide +kernel
theorem dX2_init_1 : decode cX2_init 1 = .ok (.invokespecial 3, 3) := by decide +kernel
theorem dX2_init_4 : decode cX2_init 4 = .ok (.aload_n 0, 1) := by decide +kernel
theorem dX2_init_5 : decode cX2_init 5 = .ok (.iconst 4, 1) := by decide +kernel
theorem dX2_init_6 : decode cX2_init 6 = .ok (.newarray .int, 2) := by decide +kernel
theorem dX2_init_8 : decode cX2_init 8 = .ok (.dup, 1) := by decide +kernel
theorem dX2_init_9 : decode cX2_init 9 = .ok (.iconst 0, 1) := by decide +kernel
theorem dX2_init_10 : decode cX2_init 10 = .ok (.bipush 16, 2) := by decide +kernel
theorem dX2_init_12 : decode cX2_init 12 = .ok (.iastore, 1) := by decide +kernel
theorem dX2_init_13 : decode cX2_init 13 = .ok (.dup, 1) := by decide +kernel
theorem dX2_init_14 : decode cX2_init 14 = .ok (.iconst 1, 1) := by decide +kernel
theorem dX2_init_15 : decode cX2_init 15 = .ok (.bipush 10, 2) := by decide +kernel
theorem dX2_init_17 : decode cX2_init 17 = .ok (.iastore, 1) := by decide +kernel
theorem dX2_init_18 : decode cX2_init 18 = .ok (.dup, 1) := by decide +kernel
theorem dX2_init_19 : decode cX2_init 19 = .ok (.iconst 2, 1) := by decide +kernel
theorem dX2_init_20 : decode cX2_init 20 = .ok (.iconst 1, 1) := by decide +kernel
theorem dX2_init_21 : decode cX2_init 21 = .ok (.iastore, 1) := by decide +kernel
theorem dX2_init_22 : decode cX2_init 22 = .ok (.dup, 1) := by decide +kernel
theorem dX2_init_23 : decode cX2_init 23 = .ok (.iconst 3, 1) := by decide +kernel
theorem dX2_init_24 : decode cX2_init 24 = .ok (.iconst 2, 1) := by decide +kernel
theorem dX2_init_25 : decode cX2_init 25 = .ok (.iastore, 1) := by decide +kernel
theorem dX2_init_26 : decode cX2_init 26 = .ok (.putfield 9, 3) := by decide +kernel
theorem dX2_init_29 : decode cX2_init 29 = .ok (.aload_n 0, 1) := by decide +kernel
theorem dX2_init_30 : decode cX2_init 30 = .ok (.iconst 2, 1) := by decide +kernel
theorem dX2_init_31 : decode cX2_init 31 = .ok (.bipush 10, 2) := by decide +kernel
theorem dX2_init_33 : decode cX2_init 33 = .ok (.multianewarray 15 2, 4) := by decide +kernel
theorem dX2_init_37 : decode cX2_init 37 = .ok (.putfield 17, 3) := by decide +kernel
theorem dX2_init_40 : decode cX2_init 40 = .ok (.aload_n 0, 1) := by decide +kernel
theorem dX2_init_41 : decode cX2_init 41 = .ok (.iconst 5, 1) := by decide +kernel
theorem dX2_init_42 : decode cX2_init 42 = .ok (.newarray .int, 2) := by decide +kernel
theorem dX2_init_44 : decode cX2_init 44 = .ok (.putfield 20, 3) := by decide +kernel
theorem dX2_init_47 : decode cX2_init 47 = .ok (.aload_n 0, 1) := by decide +kernel
theorem dX2_init_48 : decode cX2_init 48 = .ok (.iconst 5, 1) := by decide +kernel
theorem dX2_init_49 : decode cX2_init 49 = .ok (.bipush 10, 2) := by decide +kernel
theorem dX2_init_51 : decode cX2_init 51 = .ok (.multianewarray 15 2, 4) := by decide +kernel
theorem dX2_init_55 : decode cX2_init 55 = .ok (.putfield 23, 3) := by decide +kernel
theorem dX2_init_58 : decode cX2_init 58 = .ok (.aload_n 0, 1) := by decide +kernel
theorem dX2_init_59 : decode cX2_init 59 = .ok (.iconst 5, 1) := by decide +kernel
theorem dX2_init_60 : decode cX2_init 60 = .ok (.bipush 10, 2) := by decide +kernel
theorem dX2_init_62 : decode cX2_init 62 = .ok (.multianewarray 15 2, 4) := by decide +kernel
theorem dX2_init_66 : decode cX2_init 66 = .ok (.putfield 26, 3) := by decide +kernel
theorem dX2_init_69 : decode cX2_init 69 = .ok (.aload_n 0, 1) := by decide +kernel
theorem dX2_init_70 : decode cX2_init 70 = .ok (.bipush 10, 2) := by decide +kernel
theorem dX2_init_72 : decode cX2_init 72 = .ok (.newarray .int, 2) := by decide +kernel
theorem dX2_init_74 : decode cX2_init 74 = .ok (.putfield 29, 3) := by decide +kernel
theorem dX2_init_77 : decode cX2_init 77 = .ok (.return_, 1) := by decide +kernel
def cn_X2 : List (Nat × Nat) := [(28, 0), (26, 0), (27, 0), (27, 1), (27, 2), (27, 3), (27, 4), (24, 0), (25, 0), (25, 1), (25, 2), (25, 3), (25, 4), (23, 0), (21, 0), (22, 0), (22, 1), (20, 0), (2, 0)]
set_option maxHeartbeats 8000000 in
set_option maxRecDepth 100000 in
theorem c_X2_init (l : Launch) (D : va_G) (cI cJ : ClassId) (adS : Nat → Nat → Nat) (b sz : Nat) : Met l yX2_init (sv_ws yX2_init cX2_init 1 none) { frames := 1, cells := 18, slots := 151, locals := 12 } (va_Pc [.ref b] (cn_Pre D (cn_A b sz) cI cJ adS [(b, .inr (2, [.int 0, .int 0, .int 0, .null, .null, .null, .null, .null, .null]))])) (cn_Q (cn_A b sz) (fun H => ∃ bs σ, (bs 2 = b ∧ (∀ k, k < 4 → sv_gA σ 20 0 k = nI ([16, 10, 1, 2].getD k 0)) ∧ (∀ g, g ≠ 20 → cn_z0 σ g)) ∧ va_P D vwCl (cn_wl D cI cJ bs cn_X2 σ) H ∧ va_D (cn_A b sz) (cn_wl D cI cJ bs cn_X2 σ))) 18 151 (cn_A b sz) := by
  refine Met.ofW (cc := cX2_init) (maxL := 1) (ret := none) (by decide) rfl ?_
  intro p e s m args below meth c s₁ B hml hv
  obtain ⟨rfl, hP, hK, hD, hA, hst⟩ := hv
  have hx := B.exec
  have hb := B.bytes
  have hr := B.returns
  have hts0 := atoms_spec (ws := sv_ws yX2_init cX2_init 1 none) B.pre
  have hts := fun w (hw : w ∈ sv_tb) => hts0 w (List.mem_cons_of_mem _ hw)
  have hown : s.vm.findClass RX2 = some m.cls := findClass_of_methodNamed B.named
  have hlocks := B.notSynchronized
  have hin : meth.name = "<init>" := (name_of_methodNamed B.named B.method).1
  have hS : va_S (cn_A b sz) s.heap s.heap [] := va_S.rf
  have hl := lv_entry ([.ref b]) (n := 1) (Nat.le_of_ble_eq_true rfl)
  rw [lg_entry_eq]
  generalize (lg_sl ([.ref b]) ++ List.replicate (1 - (lg_sl ([.ref b])).length) Slot.unset).toArray = ls at hl ⊢
  have hl : lv_has ls 1 [(0, .ref b)] := hl
  have harr := hts (.arrayClass .int) (sv_mem 122 (by decide +kernel) rfl)
  have hover := (cn_ao_vm (a := ([.ref b] : List Value).toArray) (U := s) (U' := s) rfl).trans hst.2.2
  have hA : ∀ q, s.heap.size ≤ q → cn_A b sz q := hA
  refine lv_aload_n hx hb dX2_init_0 rfl (lv_at hl 0 rfl) ?_
  refine W.objInit hx hb hown (hts _ (sv_mem 73 (by decide +kernel) rfl)) (hts _ (sv_mem 66 (by decide +kernel) rfl)) (hts _ (sv_mem 67 (by decide +kernel) rfl)) rfl (by rw [hml]; exact hl.1) rfl dX2_init_1 (Nat.le_of_ble_eq_true rfl) (Nat.le_of_ble_eq_true rfl) ?_
  refine W.eq (g2 := F0 m 4 ls []) rfl ?_
  refine lv_aload_n hx hb dX2_init_4 rfl (lv_at hl 0 rfl) ?_
  refine lv_iconst (v := (4)) hx hb dX2_init_5 rfl ?_
  refine cn_newa hx hb harr hK hP hD hS hA (by decide) (N := 4) (by decide) (Nat.le_of_ble_eq_true rfl) (Nat.le_of_ble_eq_true rfl) (Nat.le_of_ble_eq_true rfl) dX2_init_6 (fun q1 H hP hD hS => ?_)
  have hP : va_P D vwCl ([(q1, .inl (cI, 4, .inl (fun _ => 0))), (b, .inr (2, [.int 0, .int 0, .int 0, .null, .null, .null, .null, .null, .null]))]) H := hP
  have hD : va_D (cn_A b sz) ([(q1, .inl (cI, 4, .inl (fun _ => 0))), (b, .inr (2, [.int 0, .int 0, .int 0, .null, .null, .null, .null, .null, .null]))]) := hD
  refine lv_dup hx hb dX2_init_8 rfl ?_
  refine lv_iconst (v := (0)) hx hb dX2_init_9 rfl ?_
  refine lv_bipush (v := (16)) hx hb dX2_init_10 rfl ?_
  refine va_iast (D := D) hx hb hK hP hD hS 0 0 rfl rfl (pk_in 0 4 (by omega)) dX2_init_12 (fun H locs hP hD hS => ?_)
  have hP : va_P D vwCl ([(q1, .inl (cI, 4, .inl (upd (fun _ => 0) (0 : Int32).toNatClampNeg (16)))), (b, .inr (2, [.int 0, .int 0, .int 0, .null, .null, .null, .null, .null, .null]))]) H := hP
  have hD : va_D (cn_A b sz) ([(q1, .inl (cI, 4, .inl (upd (fun _ => 0) (0 : Int32).toNatClampNeg (16)))), (b, .inr (2, [.int 0, .int 0, .int 0, .null, .null, .null, .null, .null, .null]))]) := hD
  refine lv_dup hx hb dX2_init_13 rfl ?_
  refine lv_iconst (v := (1)) hx hb dX2_init_14 rfl ?_
  refine lv_bipush (v := (10)) hx hb dX2_init_15 rfl ?_
  refine va_iast (D := D) hx hb hK hP hD hS 0 0 rfl rfl (pk_in 1 4 (by omega)) dX2_init_17 (fun H locs hP hD hS => ?_)
  have hP : va_P D vwCl ([(q1, .inl (cI, 4, .inl (upd (upd (fun _ => 0) (0 : Int32).toNatClampNeg (16)) (1 : Int32).toNatClampNeg (10)))), (b, .inr (2, [.int 0, .int 0, .int 0, .null, .null, .null, .null, .null, .null]))]) H := hP
  have hD : va_D (cn_A b sz) ([(q1, .inl (cI, 4, .inl (upd (upd (fun _ => 0) (0 : Int32).toNatClampNeg (16)) (1 : Int32).toNatClampNeg (10)))), (b, .inr (2, [.int 0, .int 0, .int 0, .null, .null, .null, .null, .null, .null]))]) := hD
  refine lv_dup hx hb dX2_init_18 rfl ?_
  refine lv_iconst (v := (2)) hx hb dX2_init_19 rfl ?_
  refine lv_iconst (v := (1)) hx hb dX2_init_20 rfl ?_
  refine va_iast (D := D) hx hb hK hP hD hS 0 0 rfl rfl (pk_in 2 4 (by omega)) dX2_init_21 (fun H locs hP hD hS => ?_)
  have hP : va_P D vwCl ([(q1, .inl (cI, 4, .inl (upd (upd (upd (fun _ => 0) (0 : Int32).toNatClampNeg (16)) (1 : Int32).toNatClampNeg (10)) (2 : Int32).toNatClampNeg (1)))), (b, .inr (2, [.int 0, .int 0, .int 0, .null, .null, .null, .null, .null, .null]))]) H := hP
  have hD : va_D (cn_A b sz) ([(q1, .inl (cI, 4, .inl (upd (upd (upd (fun _ => 0) (0 : Int32).toNatClampNeg (16)) (1 : Int32).toNatClampNeg (10)) (2 : Int32).toNatClampNeg (1)))), (b, .inr (2, [.int 0, .int 0, .int 0, .null, .null, .null, .null, .null, .null]))]) := hD
  refine lv_dup hx hb dX2_init_22 rfl ?_
  refine lv_iconst (v := (3)) hx hb dX2_init_23 rfl ?_
  refine lv_iconst (v := (2)) hx hb dX2_init_24 rfl ?_
  refine va_iast (D := D) hx hb hK hP hD hS 0 0 rfl rfl (pk_in 3 4 (by omega)) dX2_init_25 (fun H locs hP hD hS => ?_)
  have hP : va_P D vwCl ([(q1, .inl (cI, 4, .inl (upd (upd (upd (upd (fun _ => 0) (0 : Int32).toNatClampNeg (16)) (1 : Int32).toNatClampNeg (10)) (2 : Int32).toNatClampNeg (1)) (3 : Int32).toNatClampNeg (2)))), (b, .inr (2, [.int 0, .int 0, .int 0, .null, .null, .null, .null, .null, .null]))]) H := hP
  have hD : va_D (cn_A b sz) ([(q1, .inl (cI, 4, .inl (upd (upd (upd (upd (fun _ => 0) (0 : Int32).toNatClampNeg (16)) (1 : Int32).toNatClampNeg (10)) (2 : Int32).toNatClampNeg (1)) (3 : Int32).toNatClampNeg (2)))), (b, .inr (2, [.int 0, .int 0, .int 0, .null, .null, .null, .null, .null, .null]))]) := hD
  refine va_putF (D := D) (ref := RX2) (ci := 2) (v := .ref q1) (ty := .array .int) (C := RX2) (T := TX2) (N := 9) hx hb hts sv_u2 tyX2 tyX2_ok nmX2 hown hK hP hD hS 1 rfl rfl 3 (by decide) (hts _ (sv_mem 86 (by decide +kernel) rfl)) (fun _ h9 => h9) rfl hin rfl (by decide +kernel) rfl rfl (Nat.le_of_ble_eq_true rfl) dX2_init_26 (fun H locs hP hD hS => ?_)
  have hP : va_P D vwCl ([(q1, .inl (cI, 4, .inl (upd (upd (upd (upd (fun _ => 0) (0 : Int32).toNatClampNeg (16)) (1 : Int32).toNatClampNeg (10)) (2 : Int32).toNatClampNeg (1)) (3 : Int32).toNatClampNeg (2)))), (b, .inr (2, [.int 0, .int 0, .int 0, .ref q1, .null, .null, .null, .null, .null]))]) H := hP
  have hD : va_D (cn_A b sz) ([(q1, .inl (cI, 4, .inl (upd (upd (upd (upd (fun _ => 0) (0 : Int32).toNatClampNeg (16)) (1 : Int32).toNatClampNeg (10)) (2 : Int32).toNatClampNeg (1)) (3 : Int32).toNatClampNeg (2)))), (b, .inr (2, [.int 0, .int 0, .int 0, .ref q1, .null, .null, .null, .null, .null]))]) := hD
  refine lv_aload_n hx hb dX2_init_29 rfl (lv_at hl 0 rfl) ?_
  refine lv_iconst (v := (2)) hx hb dX2_init_30 rfl ?_
  refine lv_bipush (v := (10)) hx hb dX2_init_31 rfl ?_
  refine cn_mna hx hb hown (hts _ (sv_mem 74 (by decide +kernel) rfl)) hover harr hK hP hD hS hA (by decide) (by decide) (N := 2) (K := 10) (by decide) (by decide) (Nat.le_of_ble_eq_true rfl) (Nat.le_of_ble_eq_true rfl) (Nat.le_of_ble_eq_true rfl) (Nat.le_of_ble_eq_true rfl) (Nat.le_of_ble_eq_true rfl) dX2_init_33 (fun q2 H hP hD hS => ?_)
  have hP : va_P D vwCl ([(q2, .inl (cJ, 2, .inr (.inr (.inr (.inr (fun i => if i < 2 then some (q2 + 1 + i) else none)))))), (q2 + 1 + 0, .inl (cI, 10, .inl (fun _ => 0))), (q2 + 1 + 1, .inl (cI, 10, .inl (fun _ => 0))), (q1, .inl (cI, 4, .inl (upd (upd (upd (upd (fun _ => 0) (0 : Int32).toNatClampNeg (16)) (1 : Int32).toNatClampNeg (10)) (2 : Int32).toNatClampNeg (1)) (3 : Int32).toNatClampNeg (2)))), (b, .inr (2, [.int 0, .int 0, .int 0, .ref q1, .null, .null, .null, .null, .null]))]) H := hP
  have hD : va_D (cn_A b sz) ([(q2, .inl (cJ, 2, .inr (.inr (.inr (.inr (fun i => if i < 2 then some (q2 + 1 + i) else none)))))), (q2 + 1 + 0, .inl (cI, 10, .inl (fun _ => 0))), (q2 + 1 + 1, .inl (cI, 10, .inl (fun _ => 0))), (q1, .inl (cI, 4, .inl (upd (upd (upd (upd (fun _ => 0) (0 : Int32).toNatClampNeg (16)) (1 : Int32).toNatClampNeg (10)) (2 : Int32).toNatClampNeg (1)) (3 : Int32).toNatClampNeg (2)))), (b, .inr (2, [.int 0, .int 0, .int 0, .ref q1, .null, .null, .null, .null, .null]))]) := hD
  refine va_putF (D := D) (ref := RX2) (ci := 2) (v := .ref q2) (ty := .array (.array .int)) (C := RX2) (T := TX2) (N := 9) hx hb hts sv_u2 tyX2 tyX2_ok nmX2 hown hK hP hD hS 4 rfl rfl 4 (by decide) (hts _ (sv_mem 90 (by decide +kernel) rfl)) (fun _ h9 => h9) rfl hin rfl (by decide +kernel) rfl rfl (Nat.le_of_ble_eq_true rfl) dX2_init_37 (fun H locs hP hD hS => ?_)
  have hP : va_P D vwCl ([(q2, .inl (cJ, 2, .inr (.inr (.inr (.inr (fun i => if i < 2 then some (q2 + 1 + i) else none)))))), (q2 + 1 + 0, .inl (cI, 10, .inl (fun _ => 0))), (q2 + 1 + 1, .inl (cI, 10, .inl (fun _ => 0))), (q1, .inl (cI, 4, .inl (upd (upd (upd (upd (fun _ => 0) (0 : Int32).toNatClampNeg (16)) (1 : Int32).toNatClampNeg (10)) (2 : Int32).toNatClampNeg (1)) (3 : Int32).toNatClampNeg (2)))), (b, .inr (2, [.int 0, .int 0, .int 0, .ref q1, .ref q2, .null, .null, .null, .null]))]) H := hP
  have hD : va_D (cn_A b sz) ([(q2, .inl (cJ, 2, .inr (.inr (.inr (.inr (fun i => if i < 2 then some (q2 + 1 + i) else none)))))), (q2 + 1 + 0, .inl (cI, 10, .inl (fun _ => 0))), (q2 + 1 + 1, .inl (cI, 10, .inl (fun _ => 0))), (q1, .inl (cI, 4, .inl (upd (upd (upd (upd (fun _ => 0) (0 : Int32).toNatClampNeg (16)) (1 : Int32).toNatClampNeg (10)) (2 : Int32).toNatClampNeg (1)) (3 : Int32).toNatClampNeg (2)))), (b, .inr (2, [.int 0, .int 0, .int 0, .ref q1, .ref q2, .null, .null, .null, .null]))]) := hD
  refine lv_aload_n hx hb dX2_init_40 rfl (lv_at hl 0 rfl) ?_
  refine lv_iconst (v := (5)) hx hb dX2_init_41 rfl ?_
  refine cn_newa hx hb harr hK hP hD hS hA (by decide) (N := 5) (by decide) (Nat.le_of_ble_eq_true rfl) (Nat.le_of_ble_eq_true rfl) (Nat.le_of_ble_eq_true rfl) dX2_init_42 (fun q3 H hP hD hS => ?_)
  have hP : va_P D vwCl ([(q3, .inl (cI, 5, .inl (fun _ => 0))), (q2, .inl (cJ, 2, .inr (.inr (.inr (.inr (fun i => if i < 2 then some (q2 + 1 + i) else none)))))), (q2 + 1 + 0, .inl (cI, 10, .inl (fun _ => 0))), (q2 + 1 + 1, .inl (cI, 10, .inl (fun _ => 0))), (q1, .inl (cI, 4, .inl (upd (upd (upd (upd (fun _ => 0) (0 : Int32).toNatClampNeg (16)) (1 : Int32).toNatClampNeg (10)) (2 : Int32).toNatClampNeg (1)) (3 : Int32).toNatClampNeg (2)))), (b, .inr (2, [.int 0, .int 0, .int 0, .ref q1, .ref q2, .null, .null, .null, .null]))]) H := hP
  have hD : va_D (cn_A b sz) ([(q3, .inl (cI, 5, .inl (fun _ => 0))), (q2, .inl (cJ, 2, .inr (.inr (.inr (.inr (fun i => if i < 2 then some (q2 + 1 + i) else none)))))), (q2 + 1 + 0, .inl (cI, 10, .inl (fun _ => 0))), (q2 + 1 + 1, .inl (cI, 10, .inl (fun _ => 0))), (q1, .inl (cI, 4, .inl (upd (upd (upd (upd (fun _ => 0) (0 : Int32).toNatClampNeg (16)) (1 : Int32).toNatClampNeg (10)) (2 : Int32).toNatClampNeg (1)) (3 : Int32).toNatClampNeg (2)))), (b, .inr (2, [.int 0, .int 0, .int 0, .ref q1, .ref q2, .null, .null, .null, .null]))]) := hD
  refine va_putF (D := D) (ref := RX2) (ci := 2) (v := .ref q3) (ty := .array .int) (C := RX2) (T := TX2) (N := 9) hx hb hts sv_u2 tyX2 tyX2_ok nmX2 hown hK hP hD hS 5 rfl rfl 5 (by decide) (hts _ (sv_mem 93 (by decide +kernel) rfl)) (fun _ h9 => h9) rfl hin rfl (by decide +kernel) rfl rfl (Nat.le_of_ble_eq_true rfl) dX2_init_44 (fun H locs hP hD hS => ?_)
  have hP : va_P D vwCl ([(q3, .inl (cI, 5, .inl (fun _ => 0))), (q2, .inl (cJ, 2, .inr (.inr (.inr (.inr (fun i => if i < 2 then some (q2 + 1 + i) else none)))))), (q2 + 1 + 0, .inl (cI, 10, .inl (fun _ => 0))), (q2 + 1 + 1, .inl (cI, 10, .inl (fun _ => 0))), (q1, .inl (cI, 4, .inl (upd (upd (upd (upd (fun _ => 0) (0 : Int32).toNatClampNeg (16)) (1 : Int32).toNatClampNeg (10)) (2 : Int32).toNatClampNeg (1)) (3 : Int32).toNatClampNeg (2)))), (b, .inr (2, [.int 0, .int 0, .int 0, .ref q1, .ref q2, .ref q3, .null, .null, .null]))]) H := hP
  have hD : va_D (cn_A b sz) ([(q3, .inl (cI, 5, .inl (fun _ => 0))), (q2, .inl (cJ, 2, .inr (.inr (.inr (.inr (fun i => if i < 2 then some (q2 + 1 + i) else none)))))), (q2 + 1 + 0, .inl (cI, 10, .inl (fun _ => 0))), (q2 + 1 + 1, .inl (cI, 10, .inl (fun _ => 0))), (q1, .inl (cI, 4, .inl (upd (upd (upd (upd (fun _ => 0) (0 : Int32).toNatClampNeg (16)) (1 : Int32).toNatClampNeg (10)) (2 : Int32).toNatClampNeg (1)) (3 : Int32).toNatClampNeg (2)))), (b, .inr (2, [.int 0, .int 0, .int 0, .ref q1, .ref q2, .ref q3, .null, .null, .null]))]) := hD
  refine lv_aload_n hx hb dX2_init_47 rfl (lv_at hl 0 rfl) ?_
  refine lv_iconst (v := (5)) hx hb dX2_init_48 rfl ?_
  refine lv_bipush (v := (10)) hx hb dX2_init_49 rfl ?_
  refine cn_mna hx hb hown (hts _ (sv_mem 74 (by decide +kernel) rfl)) hover harr hK hP hD hS hA (by decide) (by decide) (N := 5) (K := 10) (by decide) (by decide) (Nat.le_of_ble_eq_true rfl) (Nat.le_of_ble_eq_true rfl) (Nat.le_of_ble_eq_true rfl) (Nat.le_of_ble_eq_true rfl) (Nat.le_of_ble_eq_true rfl) dX2_init_51 (fun q4 H hP hD hS => ?_)
  have hP : va_P D vwCl ([(q4, .inl (cJ, 5, .inr (.inr (.inr (.inr (fun i => if i < 5 then some (q4 + 1 + i) else none)))))), (q4 + 1 + 0, .inl (cI, 10, .inl (fun _ => 0))), (q4 + 1 + 1, .inl (cI, 10, .inl (fun _ => 0))), (q4 + 1 + 2, .inl (cI, 10, .inl (fun _ => 0))), (q4 + 1 + 3, .inl (cI, 10, .inl (fun _ => 0))), (q4 + 1 + 4, .inl (cI, 10, .inl (fun _ => 0))), (q3, .inl (cI, 5, .inl (fun _ => 0))), (q2, .inl (cJ, 2, .inr (.inr (.inr (.inr (fun i => if i < 2 then some (q2 + 1 + i) else none)))))), (q2 + 1 + 0, .inl (cI, 10, .inl (fun _ => 0))), (q2 + 1 + 1, .inl (cI, 10, .inl (fun _ => 0))), (q1, .inl (cI, 4, .inl (upd (upd (upd (upd (fun _ => 0) (0 : Int32).toNatClampNeg (16)) (1 : Int32).toNatClampNeg (10)) (2 : Int32).toNatClampNeg (1)) (3 : Int32).toNatClampNeg (2)))), (b, .inr (2, [.int 0, .int 0, .int 0, .ref q1, .ref q2, .ref q3, .null, .null, .null]))]) H := hP
  have hD : va_D (cn_A b sz) ([(q4, .inl (cJ, 5, .inr (.inr (.inr (.inr (fun i => if i < 5 then some (q4 + 1 + i) else none)))))), (q4 + 1 + 0, .inl (cI, 10, .inl (fun _ => 0))), (q4 + 1 + 1, .inl (cI, 10, .inl (fun _ => 0))), (q4 + 1 + 2, .inl (cI, 10, .inl (fun _ => 0))), (q4 + 1 + 3, .inl (cI, 10, .inl (fun _ => 0))), (q4 + 1 + 4, .inl (cI, 10, .inl (fun _ => 0))), (q3, .inl (cI, 5, .inl (fun _ => 0))), (q2, .inl (cJ, 2, .inr (.inr (.inr (.inr (fun i => if i < 2 then some (q2 + 1 + i) else none)))))), (q2 + 1 + 0, .inl (cI, 10, .inl (fun _ => 0))), (q2 + 1 + 1, .inl (cI, 10, .inl (fun _ => 0))), (q1, .inl (cI, 4, .inl (upd (upd (upd (upd (fun _ => 0) (0 : Int32).toNatClampNeg (16)) (1 : Int32).toNatClampNeg (10)) (2 : Int32).toNatClampNeg (1)) (3 : Int32).toNatClampNeg (2)))), (b, .inr (2, [.int 0, .int 0, .int 0, .ref q1, .ref q2, .ref q3, .null, .null, .null]))]) := hD
  refine va_putF (D := D) (ref := RX2) (ci := 2) (v := .ref q4) (ty := .array (.array .int)) (C := RX2) (T := TX2) (N := 9) hx hb hts sv_u2 tyX2 tyX2_ok nmX2 hown hK hP hD hS 11 rfl rfl 6 (by decide) (hts _ (sv_mem 96 (by decide +kernel) rfl)) (fun _ h9 => h9) rfl hin rfl (by decide +kernel) rfl rfl (Nat.le_of_ble_eq_true rfl) dX2_init_55 (fun H locs hP hD hS => ?_)
  have hP : va_P D vwCl ([(q4, .inl (cJ, 5, .inr (.inr (.inr (.inr (fun i => if i < 5 then some (q4 + 1 + i) else none)))))), (q4 + 1 + 0, .inl (cI, 10, .inl (fun _ => 0))), (q4 + 1 + 1, .inl (cI, 10, .inl (fun _ => 0))), (q4 + 1 + 2, .inl (cI, 10, .inl (fun _ => 0))), (q4 + 1 + 3, .inl (cI, 10, .inl (fun _ => 0))), (q4 + 1 + 4, .inl (cI, 10, .inl (fun _ => 0))), (q3, .inl (cI, 5, .inl (fun _ => 0))), (q2, .inl (cJ, 2, .inr (.inr (.inr (.inr (fun i => if i < 2 then some (q2 + 1 + i) else none)))))), (q2 + 1 + 0, .inl (cI, 10, .inl (fun _ => 0))), (q2 + 1 + 1, .inl (cI, 10, .inl (fun _ => 0))), (q1, .inl (cI, 4, .inl (upd (upd (upd (upd (fun _ => 0) (0 : Int32).toNatClampNeg (16)) (1 : Int32).toNatClampNeg (10)) (2 : Int32).toNatClampNeg (1)) (3 : Int32).toNatClampNeg (2)))), (b, .inr (2, [.int 0, .int 0, .int 0, .ref q1, .ref q2, .ref q3, .ref q4, .null, .null]))]) H := hP
  have hD : va_D (cn_A b sz) ([(q4, .inl (cJ, 5, .inr (.inr (.inr (.inr (fun i => if i < 5 then some (q4 + 1 + i) else none)))))), (q4 + 1 + 0, .inl (cI, 10, .inl (fun _ => 0))), (q4 + 1 + 1, .inl (cI, 10, .inl (fun _ => 0))), (q4 + 1 + 2, .inl (cI, 10, .inl (fun _ => 0))), (q4 + 1 + 3, .inl (cI, 10, .inl (fun _ => 0))), (q4 + 1 + 4, .inl (cI, 10, .inl (fun _ => 0))), (q3, .inl (cI, 5, .inl (fun _ => 0))), (q2, .inl (cJ, 2, .inr (.inr (.inr (.inr (fun i => if i < 2 then some (q2 + 1 + i) else none)))))), (q2 + 1 + 0, .inl (cI, 10, .inl (fun _ => 0))), (q2 + 1 + 1, .inl (cI, 10, .inl (fun _ => 0))), (q1, .inl (cI, 4, .inl (upd (upd (upd (upd (fun _ => 0) (0 : Int32).toNatClampNeg (16)) (1 : Int32).toNatClampNeg (10)) (2 : Int32).toNatClampNeg (1)) (3 : Int32).toNatClampNeg (2)))), (b, .inr (2, [.int 0, .int 0, .int 0, .ref q1, .ref q2, .ref q3, .ref q4, .null, .null]))]) := hD
  refine lv_aload_n hx hb dX2_init_58 rfl (lv_at hl 0 rfl) ?_
  refine lv_iconst (v := (5)) hx hb dX2_init_59 rfl ?_
  refine lv_bipush (v := (10)) hx hb dX2_init_60 rfl ?_
  refine cn_mna hx hb hown (hts _ (sv_mem 74 (by decide +kernel) rfl)) hover harr hK hP hD hS hA (by decide) (by decide) (N := 5) (K := 10) (by decide) (by decide) (Nat.le_of_ble_eq_true rfl) (Nat.le_of_ble_eq_true rfl) (Nat.le_of_ble_eq_true rfl) (Nat.le_of_ble_eq_true rfl) (Nat.le_of_ble_eq_true rfl) dX2_init_62 (fun q5 H hP hD hS => ?_)
  have hP : va_P D vwCl ([(q5, .inl (cJ, 5, .inr (.inr (.inr (.inr (fun i => if i < 5 then some (q5 + 1 + i) else none)))))), (q5 + 1 + 0, .inl (cI, 10, .inl (fun _ => 0))), (q5 + 1 + 1, .inl (cI, 10, .inl (fun _ => 0))), (q5 + 1 + 2, .inl (cI, 10, .inl (fun _ => 0))), (q5 + 1 + 3, .inl (cI, 10, .inl (fun _ => 0))), (q5 + 1 + 4, .inl (cI, 10, .inl (fun _ => 0))), (q4, .inl (cJ, 5, .inr (.inr (.inr (.inr (fun i => if i < 5 then some (q4 + 1 + i) else none)))))), (q4 + 1 + 0, .inl (cI, 10, .inl (fun _ => 0))), (q4 + 1 + 1, .inl (cI, 10, .inl (fun _ => 0))), (q4 + 1 + 2, .inl (cI, 10, .inl (fun _ => 0))), (q4 + 1 + 3, .inl (cI, 10, .inl (fun _ => 0))), (q4 + 1 + 4, .inl (cI, 10, .inl (fun _ => 0))), (q3, .inl (cI, 5, .inl (fun _ => 0))), (q2, .inl (cJ, 2, .inr (.inr (.inr (.inr (fun i => if i < 2 then some (q2 + 1 + i) else none)))))), (q2 + 1 + 0, .inl (cI, 10, .inl (fun _ => 0))), (q2 + 1 + 1, .inl (cI, 10, .inl (fun _ => 0))), (q1, .inl (cI, 4, .inl (upd (upd (upd (upd (fun _ => 0) (0 : Int32).toNatClampNeg (16)) (1 : Int32).toNatClampNeg (10)) (2 : Int32).toNatClampNeg (1)) (3 : Int32).toNatClampNeg (2)))), (b, .inr (2, [.int 0, .int 0, .int 0, .ref q1, .ref q2, .ref q3, .ref q4, .null, .null]))]) H := hP
  have hD : va_D (cn_A b sz) ([(q5, .inl (cJ, 5, .inr (.inr (.inr (.inr (fun i => if i < 5 then some (q5 + 1 + i) else none)))))), (q5 + 1 + 0, .inl (cI, 10, .inl (fun _ => 0))), (q5 + 1 + 1, .inl (cI, 10, .inl (fun _ => 0))), (q5 + 1 + 2, .inl (cI, 10, .inl (fun _ => 0))), (q5 + 1 + 3, .inl (cI, 10, .inl (fun _ => 0))), (q5 + 1 + 4, .inl (cI, 10, .inl (fun _ => 0))), (q4, .inl (cJ, 5, .inr (.inr (.inr (.inr (fun i => if i < 5 then some (q4 + 1 + i) else none)))))), (q4 + 1 + 0, .inl (cI, 10, .inl (fun _ => 0))), (q4 + 1 + 1, .inl (cI, 10, .inl (fun _ => 0))), (q4 + 1 + 2, .inl (cI, 10, .inl (fun _ => 0))), (q4 + 1 + 3, .inl (cI, 10, .inl (fun _ => 0))), (q4 + 1 + 4, .inl (cI, 10, .inl (fun _ => 0))), (q3, .inl (cI, 5, .inl (fun _ => 0))), (q2, .inl (cJ, 2, .inr (.inr (.inr (.inr (fun i => if i < 2 then some (q2 + 1 + i) else none)))))), (q2 + 1 + 0, .inl (cI, 10, .inl (fun _ => 0))), (q2 + 1 + 1, .inl (cI, 10, .inl (fun _ => 0))), (q1, .inl (cI, 4, .inl (upd (upd (upd (upd (fun _ => 0) (0 : Int32).toNatClampNeg (16)) (1 : Int32).toNatClampNeg (10)) (2 : Int32).toNatClampNeg (1)) (3 : Int32).toNatClampNeg (2)))), (b, .inr (2, [.int 0, .int 0, .int 0, .ref q1, .ref q2, .ref q3, .ref q4, .null, .null]))]) := hD
  refine va_putF (D := D) (ref := RX2) (ci := 2) (v := .ref q5) (ty := .array (.array .int)) (C := RX2) (T := TX2) (N := 9) hx hb hts sv_u2 tyX2 tyX2_ok nmX2 hown hK hP hD hS 17 rfl rfl 7 (by decide) (hts _ (sv_mem 98 (by decide +kernel) rfl)) (fun _ h9 => h9) rfl hin rfl (by decide +kernel) rfl rfl (Nat.le_of_ble_eq_true rfl) dX2_init_66 (fun H locs hP hD hS => ?_)
  have hP : va_P D vwCl ([(q5, .inl (cJ, 5, .inr (.inr (.inr (.inr (fun i => if i < 5 then some (q5 + 1 + i) else none)))))), (q5 + 1 + 0, .inl (cI, 10, .inl (fun _ => 0))), (q5 + 1 + 1, .inl (cI, 10, .inl (fun _ => 0))), (q5 + 1 + 2, .inl (cI, 10, .inl (fun _ => 0))), (q5 + 1 + 3, .inl (cI, 10, .inl (fun _ => 0))), (q5 + 1 + 4, .inl (cI, 10, .inl (fun _ => 0))), (q4, .inl (cJ, 5, .inr (.inr (.inr (.inr (fun i => if i < 5 then some (q4 + 1 + i) else none)))))), (q4 + 1 + 0, .inl (cI, 10, .inl (fun _ => 0))), (q4 + 1 + 1, .inl (cI, 10, .inl (fun _ => 0))), (q4 + 1 + 2, .inl (cI, 10, .inl (fun _ => 0))), (q4 + 1 + 3, .inl (cI, 10, .inl (fun _ => 0))), (q4 + 1 + 4, .inl (cI, 10, .inl (fun _ => 0))), (q3, .inl (cI, 5, .inl (fun _ => 0))), (q2, .inl (cJ, 2, .inr (.inr (.inr (.inr (fun i => if i < 2 then some (q2 + 1 + i) else none)))))), (q2 + 1 + 0, .inl (cI, 10, .inl (fun _ => 0))), (q2 + 1 + 1, .inl (cI, 10, .inl (fun _ => 0))), (q1, .inl (cI, 4, .inl (upd (upd (upd (upd (fun _ => 0) (0 : Int32).toNatClampNeg (16)) (1 : Int32).toNatClampNeg (10)) (2 : Int32).toNatClampNeg (1)) (3 : Int32).toNatClampNeg (2)))), (b, .inr (2, [.int 0, .int 0, .int 0, .ref q1, .ref q2, .ref q3, .ref q4, .ref q5, .null]))]) H := hP
  have hD : va_D (cn_A b sz) ([(q5, .inl (cJ, 5, .inr (.inr (.inr (.inr (fun i => if i < 5 then some (q5 + 1 + i) else none)))))), (q5 + 1 + 0, .inl (cI, 10, .inl (fun _ => 0))), (q5 + 1 + 1, .inl (cI, 10, .inl (fun _ => 0))), (q5 + 1 + 2, .inl (cI, 10, .inl (fun _ => 0))), (q5 + 1 + 3, .inl (cI, 10, .inl (fun _ => 0))), (q5 + 1 + 4, .inl (cI, 10, .inl (fun _ => 0))), (q4, .inl (cJ, 5, .inr (.inr (.inr (.inr (fun i => if i < 5 then some (q4 + 1 + i) else none)))))), (q4 + 1 + 0, .inl (cI, 10, .inl (fun _ => 0))), (q4 + 1 + 1, .inl (cI, 10, .inl (fun _ => 0))), (q4 + 1 + 2, .inl (cI, 10, .inl (fun _ => 0))), (q4 + 1 + 3, .inl (cI, 10, .inl (fun _ => 0))), (q4 + 1 + 4, .inl (cI, 10, .inl (fun _ => 0))), (q3, .inl (cI, 5, .inl (fun _ => 0))), (q2, .inl (cJ, 2, .inr (.inr (.inr (.inr (fun i => if i < 2 then some (q2 + 1 + i) else none)))))), (q2 + 1 + 0, .inl (cI, 10, .inl (fun _ => 0))), (q2 + 1 + 1, .inl (cI, 10, .inl (fun _ => 0))), (q1, .inl (cI, 4, .inl (upd (upd (upd (upd (fun _ => 0) (0 : Int32).toNatClampNeg (16)) (1 : Int32).toNatClampNeg (10)) (2 : Int32).toNatClampNeg (1)) (3 : Int32).toNatClampNeg (2)))), (b, .inr (2, [.int 0, .int 0, .int 0, .ref q1, .ref q2, .ref q3, .ref q4, .ref q5, .null]))]) := hD
  refine lv_aload_n hx hb dX2_init_69 rfl (lv_at hl 0 rfl) ?_
  refine lv_bipush (v := (10)) hx hb dX2_init_70 rfl ?_
  refine cn_newa hx hb harr hK hP hD hS hA (by decide) (N := 10) (by decide) (Nat.le_of_ble_eq_true rfl) (Nat.le_of_ble_eq_true rfl) (Nat.le_of_ble_eq_true rfl) dX2_init_72 (fun q6 H hP hD hS => ?_)
  have hP : va_P D vwCl ([(q6, .inl (cI, 10, .inl (fun _ => 0))), (q5, .inl (cJ, 5, .inr (.inr (.inr (.inr (fun i => if i < 5 then some (q5 + 1 + i) else none)))))), (q5 + 1 + 0, .inl (cI, 10, .inl (fun _ => 0))), (q5 + 1 + 1, .inl (cI, 10, .inl (fun _ => 0))), (q5 + 1 + 2, .inl (cI, 10, .inl (fun _ => 0))), (q5 + 1 + 3, .inl (cI, 10, .inl (fun _ => 0))), (q5 + 1 + 4, .inl (cI, 10, .inl (fun _ => 0))), (q4, .inl (cJ, 5, .inr (.inr (.inr (.inr (fun i => if i < 5 then some (q4 + 1 + i) else none)))))), (q4 + 1 + 0, .inl (cI, 10, .inl (fun _ => 0))), (q4 + 1 + 1, .inl (cI, 10, .inl (fun _ => 0))), (q4 + 1 + 2, .inl (cI, 10, .inl (fun _ => 0))), (q4 + 1 + 3, .inl (cI, 10, .inl (fun _ => 0))), (q4 + 1 + 4, .inl (cI, 10, .inl (fun _ => 0))), (q3, .inl (cI, 5, .inl (fun _ => 0))), (q2, .inl (cJ, 2, .inr (.inr (.inr (.inr (fun i => if i < 2 then some (q2 + 1 + i) else none)))))), (q2 + 1 + 0, .inl (cI, 10, .inl (fun _ => 0))), (q2 + 1 + 1, .inl (cI, 10, .inl (fun _ => 0))), (q1, .inl (cI, 4, .inl (upd (upd (upd (upd (fun _ => 0) (0 : Int32).toNatClampNeg (16)) (1 : Int32).toNatClampNeg (10)) (2 : Int32).toNatClampNeg (1)) (3 : Int32).toNatClampNeg (2)))), (b, .inr (2, [.int 0, .int 0, .int 0, .ref q1, .ref q2, .ref q3, .ref q4, .ref q5, .null]))]) H := hP
  have hD : va_D (cn_A b sz) ([(q6, .inl (cI, 10, .inl (fun _ => 0))), (q5, .inl (cJ, 5, .inr (.inr (.inr (.inr (fun i => if i < 5 then some (q5 + 1 + i) else none)))))), (q5 + 1 + 0, .inl (cI, 10, .inl (fun _ => 0))), (q5 + 1 + 1, .inl (cI, 10, .inl (fun _ => 0))), (q5 + 1 + 2, .inl (cI, 10, .inl (fun _ => 0))), (q5 + 1 + 3, .inl (cI, 10, .inl (fun _ => 0))), (q5 + 1 + 4, .inl (cI, 10, .inl (fun _ => 0))), (q4, .inl (cJ, 5, .inr (.inr (.inr (.inr (fun i => if i < 5 then some (q4 + 1 + i) else none)))))), (q4 + 1 + 0, .inl (cI, 10, .inl (fun _ => 0))), (q4 + 1 + 1, .inl (cI, 10, .inl (fun _ => 0))), (q4 + 1 + 2, .inl (cI, 10, .inl (fun _ => 0))), (q4 + 1 + 3, .inl (cI, 10, .inl (fun _ => 0))), (q4 + 1 + 4, .inl (cI, 10, .inl (fun _ => 0))), (q3, .inl (cI, 5, .inl (fun _ => 0))), (q2, .inl (cJ, 2, .inr (.inr (.inr (.inr (fun i => if i < 2 then some (q2 + 1 + i) else none)))))), (q2 + 1 + 0, .inl (cI, 10, .inl (fun _ => 0))), (q2 + 1 + 1, .inl (cI, 10, .inl (fun _ => 0))), (q1, .inl (cI, 4, .inl (upd (upd (upd (upd (fun _ => 0) (0 : Int32).toNatClampNeg (16)) (1 : Int32).toNatClampNeg (10)) (2 : Int32).toNatClampNeg (1)) (3 : Int32).toNatClampNeg (2)))), (b, .inr (2, [.int 0, .int 0, .int 0, .ref q1, .ref q2, .ref q3, .ref q4, .ref q5, .null]))]) := hD
  refine va_putF (D := D) (ref := RX2) (ci := 2) (v := .ref q6) (ty := .array .int) (C := RX2) (T := TX2) (N := 9) hx hb hts sv_u2 tyX2 tyX2_ok nmX2 hown hK hP hD hS 18 rfl rfl 8 (by decide) (hts _ (sv_mem 100 (by decide +kernel) rfl)) (fun _ h9 => h9) rfl hin rfl (by decide +kernel) rfl rfl (Nat.le_of_ble_eq_true rfl) dX2_init_74 (fun H locs hP hD hS => ?_)
  have hP : va_P D vwCl ([(q6, .inl (cI, 10, .inl (fun _ => 0))), (q5, .inl (cJ, 5, .inr (.inr (.inr (.inr (fun i => if i < 5 then some (q5 + 1 + i) else none)))))), (q5 + 1 + 0, .inl (cI, 10, .inl (fun _ => 0))), (q5 + 1 + 1, .inl (cI, 10, .inl (fun _ => 0))), (q5 + 1 + 2, .inl (cI, 10, .inl (fun _ => 0))), (q5 + 1 + 3, .inl (cI, 10, .inl (fun _ => 0))), (q5 + 1 + 4, .inl (cI, 10, .inl (fun _ => 0))), (q4, .inl (cJ, 5, .inr (.inr (.inr (.inr (fun i => if i < 5 then some (q4 + 1 + i) else none)))))), (q4 + 1 + 0, .inl (cI, 10, .inl (fun _ => 0))), (q4 + 1 + 1, .inl (cI, 10, .inl (fun _ => 0))), (q4 + 1 + 2, .inl (cI, 10, .inl (fun _ => 0))), (q4 + 1 + 3, .inl (cI, 10, .inl (fun _ => 0))), (q4 + 1 + 4, .inl (cI, 10, .inl (fun _ => 0))), (q3, .inl (cI, 5, .inl (fun _ => 0))), (q2, .inl (cJ, 2, .inr (.inr (.inr (.inr (fun i => if i < 2 then some (q2 + 1 + i) else none)))))), (q2 + 1 + 0, .inl (cI, 10, .inl (fun _ => 0))), (q2 + 1 + 1, .inl (cI, 10, .inl (fun _ => 0))), (q1, .inl (cI, 4, .inl (upd (upd (upd (upd (fun _ => 0) (0 : Int32).toNatClampNeg (16)) (1 : Int32).toNatClampNeg (10)) (2 : Int32).toNatClampNeg (1)) (3 : Int32).toNatClampNeg (2)))), (b, .inr (2, [.int 0, .int 0, .int 0, .ref q1, .ref q2, .ref q3, .ref q4, .ref q5, .ref q6]))]) H := hP
  have hD : va_D (cn_A b sz) ([(q6, .inl (cI, 10, .inl (fun _ => 0))), (q5, .inl (cJ, 5, .inr (.inr (.inr (.inr (fun i => if i < 5 then some (q5 + 1 + i) else none)))))), (q5 + 1 + 0, .inl (cI, 10, .inl (fun _ => 0))), (q5 + 1 + 1, .inl (cI, 10, .inl (fun _ => 0))), (q5 + 1 + 2, .inl (cI, 10, .inl (fun _ => 0))), (q5 + 1 + 3, .inl (cI, 10, .inl (fun _ => 0))), (q5 + 1 + 4, .inl (cI, 10, .inl (fun _ => 0))), (q4, .inl (cJ, 5, .inr (.inr (.inr (.inr (fun i => if i < 5 then some (q4 + 1 + i) else none)))))), (q4 + 1 + 0, .inl (cI, 10, .inl (fun _ => 0))), (q4 + 1 + 1, .inl (cI, 10, .inl (fun _ => 0))), (q4 + 1 + 2, .inl (cI, 10, .inl (fun _ => 0))), (q4 + 1 + 3, .inl (cI, 10, .inl (fun _ => 0))), (q4 + 1 + 4, .inl (cI, 10, .inl (fun _ => 0))), (q3, .inl (cI, 5, .inl (fun _ => 0))), (q2, .inl (cJ, 2, .inr (.inr (.inr (.inr (fun i => if i < 2 then some (q2 + 1 + i) else none)))))), (q2 + 1 + 0, .inl (cI, 10, .inl (fun _ => 0))), (q2 + 1 + 1, .inl (cI, 10, .inl (fun _ => 0))), (q1, .inl (cI, 4, .inl (upd (upd (upd (upd (fun _ => 0) (0 : Int32).toNatClampNeg (16)) (1 : Int32).toNatClampNeg (10)) (2 : Int32).toNatClampNeg (1)) (3 : Int32).toNatClampNeg (2)))), (b, .inr (2, [.int 0, .int 0, .int 0, .ref q1, .ref q2, .ref q3, .ref q4, .ref q5, .ref q6]))]) := hD
  have hP9 : va_P D vwCl (cn_wl D cI cJ (fun g => ([0, 0, b, 0, 0, 0, 0, 0, 0, 0, 0, 0, 0, 0, 0, 0, 0, 0, 0, 0, q1, q2, (q2 + 1), q3, q4, (q4 + 1), q5, (q5 + 1), q6, 0, 0, 0, 0, 0, 0, 0, 0, 0, 0, 0, 0, 0, 0, 0, 0] : List Nat).getD g 0) cn_X2 ((fun g _ j => if g = 20 then (upd (upd (upd (upd (fun _ => 0) (0 : Int32).toNatClampNeg (16)) (1 : Int32).toNatClampNeg (10)) (2 : Int32).toNatClampNeg (1)) (3 : Int32).toNatClampNeg (2)) j else 0, fun _ _ => 0) : sv_S)) H := hP
  have hD9 : va_D (cn_A b sz) (cn_wl D cI cJ (fun g => ([0, 0, b, 0, 0, 0, 0, 0, 0, 0, 0, 0, 0, 0, 0, 0, 0, 0, 0, 0, q1, q2, (q2 + 1), q3, q4, (q4 + 1), q5, (q5 + 1), q6, 0, 0, 0, 0, 0, 0, 0, 0, 0, 0, 0, 0, 0, 0, 0, 0] : List Nat).getD g 0) cn_X2 ((fun g _ j => if g = 20 then (upd (upd (upd (upd (fun _ => 0) (0 : Int32).toNatClampNeg (16)) (1 : Int32).toNatClampNeg (10)) (2 : Int32).toNatClampNeg (1)) (3 : Int32).toNatClampNeg (2)) j else 0, fun _ _ => 0) : sv_S)) := hD
  exact W.vret hx hb hr (fun t ht hW => ⟨⟨rfl, _, _, ⟨rfl, by decide +kernel, by intro g hg i j; exact if_neg hg⟩, by rw [ht]; exact hP9, hD9⟩, hS.F ht⟩) hS.2.2 dX2_init_77
theorem dX5_init_0 : decode cX5_init 0 = .ok (.aload_n 0, 1) := by decide +kernel
theorem dX5_init_1 : decode cX5_init 1 = .ok (.invokespecial 1, 3) := by decide +kernel
theorem dX5_init_4 : decode cX5_init 4 = .ok (.aload_n 0, 1) := by decide +kernel
theorem dX5_init_5 : decode cX5_init 5 = .ok (.bipush 20, 2) := by decide +kernel
theorem dX5_init_7 : decode cX5_init 7 = .ok (.newarray .int, 2) := by decide +kernel
theorem dX5_init_9 : decode cX5_init 9 = .ok (.putfield 7, 3) := by decide +kernel
theorem dX5_init_12 : decode cX5_init 12 = .ok (.aload_n 0, 1) := by decide +kernel
theorem dX5_init_13 : decode cX5_init 13 = .ok (.iconst 5, 1) := by decide +kernel
theorem dX5_init_14 : decode cX5_init 14 = .ok (.newarray .int, 2) := by decide +kernel
theorem dX5_init_16 : decode cX5_init 16 = .ok (.putfield 13, 3) := by decide +kernel
theorem dX5_init_19 : decode cX5_init 19 = .ok (.aload_n 0, 1) := by decide +kernel
theorem dX5_init_20 : decode cX5_init 20 = .ok (.bipush 50, 2) := by decide +kernel
theorem dX5_init_22 : decode cX5_init 22 = .ok (.newarray .int, 2) := by decide +kernel
theorem dX5_init_24 : decode cX5_init 24 = .ok (.putfield 16, 3) := by decide +kernel
theorem dX5_init_27 : decode cX5_init 27 = .ok (.aload_n 0, 1) := by decide +kernel
theorem dX5_init_28 : decode cX5_init 28 = .ok (.bipush 50, 2) := by decide +kernel
theorem dX5_init_30 : decode cX5_init 30 = .ok (.newarray .int, 2) := by decide +kernel
theorem dX5_init_32 : decode cX5_init 32 = .ok (.putfield 19, 3) := by decide +kernel
theorem dX5_init_35 : decode cX5_init 35 = .ok (.aload_n 0, 1) := by decide +kernel
theorem dX5_init_36 : decode cX5_init 36 = .ok (.iconst 4, 1) := by decide +kernel
theorem dX5_init_37 : decode cX5_init 37 = .ok (.newarray .int, 2) := by decide +kernel
theorem dX5_init_39 : decode cX5_init 39 = .ok (.putfield 22, 3) := by decide +kernel
theorem dX5_init_42 : decode cX5_init 42 = .ok (.aload_n 0, 1) := by decide +kernel
theorem dX5_init_43 : decode cX5_init 43 = .ok (.bipush 10, 2) := by decide +kernel
theorem dX5_init_45 : decode cX5_init 45 = .ok (.newarray .int, 2) := by decide +kernel
theorem dX5_init_47 : decode cX5_init 47 = .ok (.putfield 25, 3) := by decide +kernel
theorem dX5_init_50 : decode cX5_init 50 = .ok (.aload_n 0, 1) := by decide +kernel
theorem dX5_init_51 : decode cX5_init 51 = .ok (.bipush 10, 2) := by decide +kernel
theorem dX5_init_53 : decode cX5_init 53 = .ok (.newarray .int, 2) := by decide +kernel
theorem dX5_init_55 : decode cX5_init 55 = .ok (.putfield 28, 3) := by decide +kernel
theorem dX5_init_58 : decode cX5_init 58 = .ok (.aload_n 0, 1) := by decide +kernel
theorem dX5_init_59 : decode cX5_init 59 = .ok (.sipush 2673, 3) := by decide +kernel
theorem dX5_init_62 : decode cX5_init 62 = .ok (.newarray .int, 2) := by decide +kernel
theorem dX5_init_64 : decode cX5_init 64 = .ok (.putfield 31, 3) := by decide +kernel
theorem dX5_init_67 : decode cX5_init 67 = .ok (.aload_n 0, 1) := by decide +kernel
theorem dX5_init_68 : decode cX5_init 68 = .ok (.sipush 2430, 3) := by decide +kernel
theorem dX5_init_71 : decode cX5_init 71 = .ok (.newarray .int, 2) := by decide +kernel
theorem dX5_init_73 : decode cX5_init 73 = .ok (.putfield 34, 3) := by decide +kernel
theorem dX5_init_76 : decode cX5_init 76 = .ok (.aload_n 0, 1) := by decide +kernel
theorem dX5_init_77 : decode cX5_init 77 = .ok (.bipush 122, 2) := by decide +kernel
theorem dX5_init_79 : decode cX5_init 79 = .ok (.newarray .int, 2) := by decide +kernel
theorem dX5_init_81 : decode cX5_init 81 = .ok (.putfield 37, 3) := by decide +kernel
theorem dX5_init_84 : decode cX5_init 84 = .ok (.aload_n 0, 1) := by decide +kernel
theorem dX5_init_85 : decode cX5_init 85 = .ok (.iconst 5, 1) := by decide +kernel
theorem dX5_init_86 : decode cX5_init 86 = .ok (.newarray .int, 2) := by decide +kernel
theorem dX5_init_88 : decode cX5_init 88 = .ok (.putfield 40, 3) := by decide +kernel
theorem dX5_init_91 : decode cX5_init 91 = .ok (.aload_n 0, 1) := by decide +kernel
theorem dX5_init_92 : decode cX5_init 92 = .ok (.iconst 5, 1) := by decide +kernel
theorem dX5_init_93 : decode cX5_init 93 = .ok (.newarray .int, 2) := by decide +kernel
theorem dX5_init_95 : decode cX5_init 95 = .ok (.putfield 43, 3) := by decide +kernel
theorem dX5_init_98 : decode cX5_init 98 = .ok (.aload_n 0, 1) := by decide +kernel
theorem dX5_init_99 : decode cX5_init 99 = .ok (.getfield 22, 3) := by decide +kernel
theorem dX5_init_102 : decode cX5_init 102 = .ok (.iconst 0, 1) := by decide +kernel
theorem dX5_init_103 : decode cX5_init 103 = .ok (.bipush 16, 2) := by decide +kernel
theorem dX5_init_105 : decode cX5_init 105 = .ok (.iastore, 1) := by decide +kernel
theorem dX5_init_106 : decode cX5_init 106 = .ok (.aload_n 0, 1) := by decide +kernel
theorem dX5_init_107 : decode cX5_init 107 = .ok (.getfield 22, 3) := by decide +kernel
theorem dX5_init_110 : decode cX5_init 110 = .ok (.iconst 1, 1) := by decide +kernel
theorem dX5_init_111 : decode cX5_init 111 = .ok (.bipush 10, 2) := by decide +kernel
theorem dX5_init_113 : decode cX5_init 113 = .ok (.iastore, 1) := by decide +kernel
theorem dX5_init_114 : decode cX5_init 114 = .ok (.aload_n 0, 1) := by decide +kernel
theorem dX5_init_115 : decode cX5_init 115 = .ok (.getfield 22, 3) := by decide +kernel
theorem dX5_init_118 : decode cX5_init 118 = .ok (.iconst 2, 1) := by decide +kernel
theorem dX5_init_119 : decode cX5_init 119 = .ok (.iconst 1, 1) := by decide +kernel
theorem dX5_init_120 : decode cX5_init 120 = .ok (.iastore, 1) := by decide +kernel
theorem dX5_init_121 : decode cX5_init 121 = .ok (.aload_n 0, 1) := by decide +kernel
theorem dX5_init_122 : decode cX5_init 122 = .ok (.getfield 22, 3) := by decide +kernel
theorem dX5_init_125 : decode cX5_init 125 = .ok (.iconst 3, 1) := by decide +kernel
theorem dX5_init_126 : decode cX5_init 126 = .ok (.iconst 2, 1) := by decide +kernel
theorem dX5_init_127 : decode cX5_init 127 = .ok (.iastore, 1) := by decide +kernel
theorem dX5_init_128 : decode cX5_init 128 = .ok (.return_, 1) := by decide +kernel
def cn_X5 : List (Nat × Nat) := [(42, 0), (41, 0), (40, 0), (39, 0), (38, 0), (37, 0), (36, 0), (35, 0), (34, 0), (33, 0), (32, 0), (31, 0), (5, 0)]
set_option maxHeartbeats 8000000 in
set_option maxRecDepth 100000 in
theorem c_X5_init (l : Launch) (D : va_G) (cI cJ : ClassId) (adS : Nat → Nat → Nat) (b sz : Nat) : Met l yX5_init (sv_ws yX5_init cX5_init 1 none) { frames := 1, cells := 12, slots := 5384, locals := 12 } (va_Pc [.ref b] (cn_Pre D (cn_A b sz) cI cJ adS [(b, .inr (5, [.int 0, .int 0, .null, .null, .null, .null, .null, .null, .null, .null, .null, .int 0, .null, .null, .null, .int 0]))])) (cn_Q (cn_A b sz) (fun H => ∃ bs σ, (bs 5 = b ∧ (∀ k, k < 4 → sv_gA σ 35 0 k = nI ([16, 10, 1, 2].getD k 0)) ∧ (∀ g, g ≠ 35 → cn_z0 σ g)) ∧ va_P D vwCl (cn_wl D cI cJ bs cn_X5 σ) H ∧ va_D (cn_A b sz) (cn_wl D cI cJ bs cn_X5 σ))) 12 5384 (cn_A b sz) := by
  refine Met.ofW (cc := cX5_init) (maxL := 1) (ret := none) (by decide) rfl ?_
  intro p e s m args below meth c s₁ B hml hv
  obtain ⟨rfl, hP, hK, hD, hA, hst⟩ := hv
  have hx := B.exec
  have hb := B.bytes
  have hr := B.returns
  have hts0 := atoms_spec (ws := sv_ws yX5_init cX5_init 1 none) B.pre
  have hts := fun w (hw : w ∈ sv_tb) => hts0 w (List.mem_cons_of_mem _ hw)
  have hown : s.vm.findClass RX5 = some m.cls := findClass_of_methodNamed B.named
  have hlocks := B.notSynchronized
  have hin : meth.name = "<init>" := (name_of_methodNamed B.named B.method).1
  have hS : va_S (cn_A b sz) s.heap s.heap [] := va_S.rf
  have hl := lv_entry ([.ref b]) (n := 1) (Nat.le_of_ble_eq_true rfl)
  rw [lg_entry_eq]
  generalize (lg_sl ([.ref b]) ++ List.replicate (1 - (lg_sl ([.ref b])).length) Slot.unset).toArray = ls at hl ⊢
  have hl : lv_has ls 1 [(0, .ref b)] := hl
  have harr := hts (.arrayClass .int) (sv_mem 122 (by decide +kernel) rfl)
  have hover := (cn_ao_vm (a := ([.ref b] : List Value).toArray) (U := s) (U' := s) rfl).trans hst.2.2
  have hA : ∀ q, s.heap.size ≤ q → cn_A b sz q := hA
  refine lv_aload_n hx hb dX5_init_0 rfl (lv_at hl 0 rfl) ?_
  refine W.objInit hx hb hown (hts _ (sv_mem 566 (by decide +kernel) rfl)) (hts _ (sv_mem 66 (by decide +kernel) rfl)) (hts _ (sv_mem 67 (by decide +kernel) rfl)) rfl (by rw [hml]; exact hl.1) rfl dX5_init_1 (Nat.le_of_ble_eq_true rfl) (Nat.le_of_ble_eq_true rfl) ?_
  refine W.eq (g2 := F0 m 4 ls []) rfl ?_
  refine lv_aload_n hx hb dX5_init_4 rfl (lv_at hl 0 rfl) ?_
  refine lv_bipush (v := (20)) hx hb dX5_init_5 rfl ?_
  refine cn_newa hx hb harr hK hP hD hS hA (by decide) (N := 20) (by decide) (Nat.le_of_ble_eq_true rfl) (Nat.le_of_ble_eq_true rfl) (Nat.le_of_ble_eq_true rfl) dX5_init_7 (fun q1 H hP hD hS => ?_)
  have hP : va_P D vwCl ([(q1, .inl (cI, 20, .inl (fun _ => 0))), (b, .inr (5, [.int 0, .int 0, .null, .null, .null, .null, .null, .null, .null, .null, .null, .int 0, .null, .null, .null, .int 0]))]) H := hP
  have hD : va_D (cn_A b sz) ([(q1, .inl (cI, 20, .inl (fun _ => 0))), (b, .inr (5, [.int 0, .int 0, .null, .null, .null, .null, .null, .null, .null, .null, .null, .int 0, .null, .null, .null, .int 0]))]) := hD
  refine va_putF (D := D) (ref := RX5) (ci := 5) (v := .ref q1) (ty := .array .int) (C := RX5) (T := TX5) (N := 16) hx hb hts sv_u5 tyX5 tyX5_ok nmX5 hown hK hP hD hS 1 rfl rfl 2 (by decide) (hts _ (sv_mem 569 (by decide +kernel) rfl)) (fun _ h9 => h9) rfl hin rfl (by decide +kernel) rfl rfl (Nat.le_of_ble_eq_true rfl) dX5_init_9 (fun H locs hP hD hS => ?_)
  have hP : va_P D vwCl ([(q1, .inl (cI, 20, .inl (fun _ => 0))), (b, .inr (5, [.int 0, .int 0, .ref q1, .null, .null, .null, .null, .null, .null, .null, .null, .int 0, .null, .null, .null, .int 0]))]) H := hP
  have hD : va_D (cn_A b sz) ([(q1, .inl (cI, 20, .inl (fun _ => 0))), (b, .inr (5, [.int 0, .int 0, .ref q1, .null, .null, .null, .null, .null, .null, .null, .null, .int 0, .null, .null, .null, .int 0]))]) := hD
  refine lv_aload_n hx hb dX5_init_12 rfl (lv_at hl 0 rfl) ?_
  refine lv_iconst (v := (5)) hx hb dX5_init_13 rfl ?_
  refine cn_newa hx hb harr hK hP hD hS hA (by decide) (N := 5) (by decide) (Nat.le_of_ble_eq_true rfl) (Nat.le_of_ble_eq_true rfl) (Nat.le_of_ble_eq_true rfl) dX5_init_14 (fun q2 H hP hD hS => ?_)
  have hP : va_P D vwCl ([(q2, .inl (cI, 5, .inl (fun _ => 0))), (q1, .inl (cI, 20, .inl (fun _ => 0))), (b, .inr (5, [.int 0, .int 0, .ref q1, .null, .null, .null, .null, .null, .null, .null, .null, .int 0, .null, .null, .null, .int 0]))]) H := hP
  have hD : va_D (cn_A b sz) ([(q2, .inl (cI, 5, .inl (fun _ => 0))), (q1, .inl (cI, 20, .inl (fun _ => 0))), (b, .inr (5, [.int 0, .int 0, .ref q1, .null, .null, .null, .null, .null, .null, .null, .null, .int 0, .null, .null, .null, .int 0]))]) := hD
  refine va_putF (D := D) (ref := RX5) (ci := 5) (v := .ref q2) (ty := .array .int) (C := RX5) (T := TX5) (N := 16) hx hb hts sv_u5 tyX5 tyX5_ok nmX5 hown hK hP hD hS 2 rfl rfl 3 (by decide) (hts _ (sv_mem 570 (by decide +kernel) rfl)) (fun _ h9 => h9) rfl hin rfl (by decide +kernel) rfl rfl (Nat.le_of_ble_eq_true rfl) dX5_init_16 (fun H locs hP hD hS => ?_)
  have hP : va_P D vwCl ([(q2, .inl (cI, 5, .inl (fun _ => 0))), (q1, .inl (cI, 20, .inl (fun _ => 0))), (b, .inr (5, [.int 0, .int 0, .ref q1, .ref q2, .null, .null, .null, .null, .null, .null, .null, .int 0, .null, .null, .null, .int 0]))]) H := hP
  have hD : va_D (cn_A b sz) ([(q2, .inl (cI, 5, .inl (fun _ => 0))), (q1, .inl (cI, 20, .inl (fun _ => 0))), (b, .inr (5, [.int 0, .int 0, .ref q1, .ref q2, .null, .null, .null, .null, .null, .null, .null, .int 0, .null, .null, .null, .int 0]))]) := hD
  refine lv_aload_n hx hb dX5_init_19 rfl (lv_at hl 0 rfl) ?_
  refine lv_bipush (v := (50)) hx hb dX5_init_20 rfl ?_
  refine cn_newa hx hb harr hK hP hD hS hA (by decide) (N := 50) (by decide) (Nat.le_of_ble_eq_true rfl) (Nat.le_of_ble_eq_true rfl) (Nat.le_of_ble_eq_true rfl) dX5_init_22 (fun q3 H hP hD hS => ?_)
  have hP : va_P D vwCl ([(q3, .inl (cI, 50, .inl (fun _ => 0))), (q2, .inl (cI, 5, .inl (fun _ => 0))), (q1, .inl (cI, 20, .inl (fun _ => 0))), (b, .inr (5, [.int 0, .int 0, .ref q1, .ref q2, .null, .null, .null, .null, .null, .null, .null, .int 0, .null, .null, .null, .int 0]))]) H := hP
  have hD : va_D (cn_A b sz) ([(q3, .inl (cI, 50, .inl (fun _ => 0))), (q2, .inl (cI, 5, .inl (fun _ => 0))), (q1, .inl (cI, 20, .inl (fun _ => 0))), (b, .inr (5, [.int 0, .int 0, .ref q1, .ref q2, .null, .null, .null, .null, .null, .null, .null, .int 0, .null, .null, .null, .int 0]))]) := hD
  refine va_putF (D := D) (ref := RX5) (ci := 5) (v := .ref q3) (ty := .array .int) (C := RX5) (T := TX5) (N := 16) hx hb hts sv_u5 tyX5 tyX5_ok nmX5 hown hK hP hD hS 3 rfl rfl 4 (by decide) (hts _ (sv_mem 571 (by decide +kernel) rfl)) (fun _ h9 => h9) rfl hin rfl (by decide +kernel) rfl rfl (Nat.le_of_ble_eq_true rfl) dX5_init_24 (fun H locs hP hD hS => ?_)
  have hP : va_P D vwCl ([(q3, .inl (cI, 50, .inl (fun _ => 0))), (q2, .inl (cI, 5, .inl (fun _ => 0))), (q1, .inl (cI, 20, .inl (fun _ => 0))), (b, .inr (5, [.int 0, .int 0, .ref q1, .ref q2, .ref q3, .null, .null, .null, .null, .null, .null, .int 0, .null, .null, .null, .int 0]))]) H := hP
  have hD : va_D (cn_A b sz) ([(q3, .inl (cI, 50, .inl (fun _ => 0))), (q2, .inl (cI, 5, .inl (fun _ => 0))), (q1, .inl (cI, 20, .inl (fun _ => 0))), (b, .inr (5, [.int 0, .int 0, .ref q1, .ref q2, .ref q3, .null, .null, .null, .null, .null, .null, .int 0, .null, .null, .null, .int 0]))]) := hD
  refine lv_aload_n hx hb dX5_init_27 rfl (lv_at hl 0 rfl) ?_
  refine lv_bipush (v := (50)) hx hb dX5_init_28 rfl ?_
  refine cn_newa hx hb harr hK hP hD hS hA (by decide) (N := 50) (by decide) (Nat.le_of_ble_eq_true rfl) (Nat.le_of_ble_eq_true rfl) (Nat.le_of_ble_eq_true rfl) dX5_init_30 (fun q4 H hP hD hS => ?_)
  have hP : va_P D vwCl ([(q4, .inl (cI, 50, .inl (fun _ => 0))), (q3, .inl (cI, 50, .inl (fun _ => 0))), (q2, .inl (cI, 5, .inl (fun _ => 0))), (q1, .inl (cI, 20, .inl (fun _ => 0))), (b, .inr (5, [.int 0, .int 0, .ref q1, .ref q2, .ref q3, .null, .null, .null, .null, .null, .null, .int 0, .null, .null, .null, .int 0]))]) H := hP
  have hD : va_D (cn_A b sz) ([(q4, .inl (cI, 50, .inl (fun _ => 0))), (q3, .inl (cI, 50, .inl (fun _ => 0))), (q2, .inl (cI, 5, .inl (fun _ => 0))), (q1, .inl (cI, 20, .inl (fun _ => 0))), (b, .inr (5, [.int 0, .int 0, .ref q1, .ref q2, .ref q3, .null, .null, .null, .null, .null, .null, .int 0, .null, .null, .null, .int 0]))]) := hD
  refine va_putF (D := D) (ref := RX5) (ci := 5) (v := .ref q4) (ty := .array .int) (C := RX5) (T := TX5) (N := 16) hx hb hts sv_u5 tyX5 tyX5_ok nmX5 hown hK hP hD hS 4 rfl rfl 5 (by decide) (hts _ (sv_mem 572 (by decide +kernel) rfl)) (fun _ h9 => h9) rfl hin rfl (by decide +kernel) rfl rfl (Nat.le_of_ble_eq_true rfl) dX5_init_32 (fun H locs hP hD hS => ?_)
  have hP : va_P D vwCl ([(q4, .inl (cI, 50, .inl (fun _ => 0))), (q3, .inl (cI, 50, .inl (fun _ => 0))), (q2, .inl (cI, 5, .inl (fun _ => 0))), (q1, .inl (cI, 20, .inl (fun _ => 0))), (b, .inr (5, [.int 0, .int 0, .ref q1, .ref q2, .ref q3, .ref q4, .null, .null, .null, .null, .null, .int 0, .null, .null, .null, .int 0]))]) H := hP
  have hD : va_D (cn_A b sz) ([(q4, .inl (cI, 50, .inl (fun _ => 0))), (q3, .inl (cI, 50, .inl (fun _ => 0))), (q2, .inl (cI, 5, .inl (fun _ => 0))), (q1, .inl (cI, 20, .inl (fun _ => 0))), (b, .inr (5, [.int 0, .int 0, .ref q1, .ref q2, .ref q3, .ref q4, .null, .null, .null, .null, .null, .int 0, .null, .null, .null, .int 0]))]) := hD
  refine lv_aload_n hx hb dX5_init_35 rfl (lv_at hl 0 rfl) ?_
  refine lv_iconst (v := (4)) hx hb dX5_init_36 rfl ?_
  refine cn_newa hx hb harr hK hP hD hS hA (by decide) (N := 4) (by decide) (Nat.le_of_ble_eq_true rfl) (Nat.le_of_ble_eq_true rfl) (Nat.le_of_ble_eq_true rfl) dX5_init_37 (fun q5 H hP hD hS => ?_)
  have hP : va_P D vwCl ([(q5, .inl (cI, 4, .inl (fun _ => 0))), (q4, .inl (cI, 50, .inl (fun _ => 0))), (q3, .inl (cI, 50, .inl (fun _ => 0))), (q2, .inl (cI, 5, .inl (fun _ => 0))), (q1, .inl (cI, 20, .inl (fun _ => 0))), (b, .inr (5, [.int 0, .int 0, .ref q1, .ref q2, .ref q3, .ref q4, .null, .null, .null, .null, .null, .int 0, .null, .null, .null, .int 0]))]) H := hP
  have hD : va_D (cn_A b sz) ([(q5, .inl (cI, 4, .inl (fun _ => 0))), (q4, .inl (cI, 50, .inl (fun _ => 0))), (q3, .inl (cI, 50, .inl (fun _ => 0))), (q2, .inl (cI, 5, .inl (fun _ => 0))), (q1, .inl (cI, 20, .inl (fun _ => 0))), (b, .inr (5, [.int 0, .int 0, .ref q1, .ref q2, .ref q3, .ref q4, .null, .null, .null, .null, .null, .int 0, .null, .null, .null, .int 0]))]) := hD
  refine va_putF (D := D) (ref := RX5) (ci := 5) (v := .ref q5) (ty := .array .int) (C := RX5) (T := TX5) (N := 16) hx hb hts sv_u5 tyX5 tyX5_ok nmX5 hown hK hP hD hS 5 rfl rfl 6 (by decide) (hts _ (sv_mem 573 (by decide +kernel) rfl)) (fun _ h9 => h9) rfl hin rfl (by decide +kernel) rfl rfl (Nat.le_of_ble_eq_true rfl) dX5_init_39 (fun H locs hP hD hS => ?_)
  have hP : va_P D vwCl ([(q5, .inl (cI, 4, .inl (fun _ => 0))), (q4, .inl (cI, 50, .inl (fun _ => 0))), (q3, .inl (cI, 50, .inl (fun _ => 0))), (q2, .inl (cI, 5, .inl (fun _ => 0))), (q1, .inl (cI, 20, .inl (fun _ => 0))), (b, .inr (5, [.int 0, .int 0, .ref q1, .ref q2, .ref q3, .ref q4, .ref q5, .null, .null, .null, .null, .int 0, .null, .null, .null, .int 0]))]) H := hP
  have hD : va_D (cn_A b sz) ([(q5, .inl (cI, 4, .inl (fun _ => 0))), (q4, .inl (cI, 50, .inl (fun _ => 0))), (q3, .inl (cI, 50, .inl (fun _ => 0))), (q2, .inl (cI, 5, .inl (fun _ => 0))), (q1, .inl (cI, 20, .inl (fun _ => 0))), (b, .inr (5, [.int 0, .int 0, .ref q1, .ref q2, .ref q3, .ref q4, .ref q5, .null, .null, .null, .null, .int 0, .null, .null, .null, .int 0]))]) := hD
  refine lv_aload_n hx hb dX5_init_42 rfl (lv_at hl 0 rfl) ?_
  refine lv_bipush (v := (10)) hx hb dX5_init_43 rfl ?_
  refine cn_newa hx hb harr hK hP hD hS hA (by decide) (N := 10) (by decide) (Nat.le_of_ble_eq_true rfl) (Nat.le_of_ble_eq_true rfl) (Nat.le_of_ble_eq_true rfl) dX5_init_45 (fun q6 H hP hD hS => ?_)
  have hP : va_P D vwCl ([(q6, .inl (cI, 10, .inl (fun _ => 0))), (q5, .inl (cI, 4, .inl (fun _ => 0))), (q4, .inl (cI, 50, .inl (fun _ => 0))), (q3, .inl (cI, 50, .inl (fun _ => 0))), (q2, .inl (cI, 5, .inl (fun _ => 0))), (q1, .inl (cI, 20, .inl (fun _ => 0))), (b, .inr (5, [.int 0, .int 0, .ref q1, .ref q2, .ref q3, .ref q4, .ref q5, .null, .null, .null, .null, .int 0, .null, .null, .null, .int 0]))]) H := hP
  have hD : va_D (cn_A b sz) ([(q6, .inl (cI, 10, .inl (fun _ => 0))), (q5, .inl (cI, 4, .inl (fun _ => 0))), (q4, .inl (cI, 50, .inl (fun _ => 0))), (q3, .inl (cI, 50, .inl (fun _ => 0))), (q2, .inl (cI, 5, .inl (fun _ => 0))), (q1, .inl (cI, 20, .inl (fun _ => 0))), (b, .inr (5, [.int 0, .int 0, .ref q1, .ref q2, .ref q3, .ref q4, .ref q5, .null, .null, .null, .null, .int 0, .null, .null, .null, .int 0]))]) := hD
  refine va_putF (D := D) (ref := RX5) (ci := 5) (v := .ref q6) (ty := .array .int) (C := RX5) (T := TX5) (N := 16) hx hb hts sv_u5 tyX5 tyX5_ok nmX5 hown hK hP hD hS 6 rfl rfl 7 (by decide) (hts _ (sv_mem 574 (by decide +kernel) rfl)) (fun _ h9 => h9) rfl hin rfl (by decide +kernel) rfl rfl (Nat.le_of_ble_eq_true rfl) dX5_init_47 (fun H locs hP hD hS => ?_)
  have hP : va_P D vwCl ([(q6, .inl (cI, 10, .inl (fun _ => 0))), (q5, .inl (cI, 4, .inl (fun _ => 0))), (q4, .inl (cI, 50, .inl (fun _ => 0))), (q3, .inl (cI, 50, .inl (fun _ => 0))), (q2, .inl (cI, 5, .inl (fun _ => 0))), (q1, .inl (cI, 20, .inl (fun _ => 0))), (b, .inr (5, [.int 0, .int 0, .ref q1, .ref q2, .ref q3, .ref q4, .ref q5, .ref q6, .null, .null, .null, .int 0, .null, .null, .null, .int 0]))]) H := hP
  have hD : va_D (cn_A b sz) ([(q6, .inl (cI, 10, .inl (fun _ => 0))), (q5, .inl (cI, 4, .inl (fun _ => 0))), (q4, .inl (cI, 50, .inl (fun _ => 0))), (q3, .inl (cI, 50, .inl (fun _ => 0))), (q2, .inl (cI, 5, .inl (fun _ => 0))), (q1, .inl (cI, 20, .inl (fun _ => 0))), (b, .inr (5, [.int 0, .int 0, .ref q1, .ref q2, .ref q3, .ref q4, .ref q5, .ref q6, .null, .null, .null, .int 0, .null, .null, .null, .int 0]))]) := hD
  refine lv_aload_n hx hb dX5_init_50 rfl (lv_at hl 0 rfl) ?_
  refine lv_bipush (v := (10)) hx hb dX5_init_51 rfl ?_
  refine cn_newa hx hb harr hK hP hD hS hA (by decide) (N := 10) (by decide) (Nat.le_of_ble_eq_true rfl) (Nat.le_of_ble_eq_true rfl) (Nat.le_of_ble_eq_true rfl) dX5_init_53 (fun q7 H hP hD hS => ?_)
  have hP : va_P D vwCl ([(q7, .inl (cI, 10, .inl (fun _ => 0))), (q6, .inl (cI, 10, .inl (fun _ => 0))), (q5, .inl (cI, 4, .inl (fun _ => 0))), (q4, .inl (cI, 50, .inl (fun _ => 0))), (q3, .inl (cI, 50, .inl (fun _ => 0))), (q2, .inl (cI, 5, .inl (fun _ => 0))), (q1, .inl (cI, 20, .inl (fun _ => 0))), (b, .inr (5, [.int 0, .int 0, .ref q1, .ref q2, .ref q3, .ref q4, .ref q5, .ref q6, .null, .null, .null, .int 0, .null, .null, .null, .int 0]))]) H := hP
  have hD : va_D (cn_A b sz) ([(q7, .inl (cI, 10, .inl (fun _ => 0))), (q6, .inl (cI, 10, .inl (fun _ => 0))), (q5, .inl (cI, 4, .inl (fun _ => 0))), (q4, .inl (cI, 50, .inl (fun _ => 0))), (q3, .inl (cI, 50, .inl (fun _ => 0))), (q2, .inl (cI, 5, .inl (fun _ => 0))), (q1, .inl (cI, 20, .inl (fun _ => 0))), (b, .inr (5, [.int 0, .int 0, .ref q1, .ref q2, .ref q3, .ref q4, .ref q5, .ref q6, .null, .null, .null, .int 0, .null, .null, .null, .int 0]))]) := hD
  refine va_putF (D := D) (ref := RX5) (ci := 5) (v := .ref q7) (ty := .array .int) (C := RX5) (T := TX5) (N := 16) hx hb hts sv_u5 tyX5 tyX5_ok nmX5 hown hK hP hD hS 7 rfl rfl 8 (by decide) (hts _ (sv_mem 575 (by decide +kernel) rfl)) (fun _ h9 => h9) rfl hin rfl (by decide +kernel) rfl rfl (Nat.le_of_ble_eq_true rfl) dX5_init_55 (fun H locs hP hD hS => ?_)
  have hP : va_P D vwCl ([(q7, .inl (cI, 10, .inl (fun _ => 0))), (q6, .inl (cI, 10, .inl (fun _ => 0))), (q5, .inl (cI, 4, .inl (fun _ => 0))), (q4, .inl (cI, 50, .inl (fun _ => 0))), (q3, .inl (cI, 50, .inl (fun _ => 0))), (q2, .inl (cI, 5, .inl (fun _ => 0))), (q1, .inl (cI, 20, .inl (fun _ => 0))), (b, .inr (5, [.int 0, .int 0, .ref q1, .ref q2, .ref q3, .ref q4, .ref q5, .ref q6, .ref q7, .null, .null, .int 0, .null, .null, .null, .int 0]))]) H := hP
  have hD : va_D (cn_A b sz) ([(q7, .inl (cI, 10, .inl (fun _ => 0))), (q6, .inl (cI, 10, .inl (fun _ => 0))), (q5, .inl (cI, 4, .inl (fun _ => 0))), (q4, .inl (cI, 50, .inl (fun _ => 0))), (q3, .inl (cI, 50, .inl (fun _ => 0))), (q2, .inl (cI, 5, .inl (fun _ => 0))), (q1, .inl (cI, 20, .inl (fun _ => 0))), (b, .inr (5, [.int 0, .int 0, .ref q1, .ref q2, .ref q3, .ref q4, .ref q5, .ref q6, .ref q7, .null, .null, .int 0, .null, .null, .null, .int 0]))]) := hD
  refine lv_aload_n hx hb dX5_init_58 rfl (lv_at hl 0 rfl) ?_
  refine lv_sipush (v := (2673)) hx hb dX5_init_59 rfl ?_
  refine cn_newa hx hb harr hK hP hD hS hA (by decide) (N := 2673) (by decide) (Nat.le_of_ble_eq_true rfl) (Nat.le_of_ble_eq_true rfl) (Nat.le_of_ble_eq_true rfl) dX5_init_62 (fun q8 H hP hD hS => ?_)
  have hP : va_P D vwCl ([(q8, .inl (cI, 2673, .inl (fun _ => 0))), (q7, .inl (cI, 10, .inl (fun _ => 0))), (q6, .inl (cI, 10, .inl (fun _ => 0))), (q5, .inl (cI, 4, .inl (fun _ => 0))), (q4, .inl (cI, 50, .inl (fun _ => 0))), (q3, .inl (cI, 50, .inl (fun _ => 0))), (q2, .inl (cI, 5, .inl (fun _ => 0))), (q1, .inl (cI, 20, .inl (fun _ => 0))), (b, .inr (5, [.int 0, .int 0, .ref q1, .ref q2, .ref q3, .ref q4, .ref q5, .ref q6, .ref q7, .null, .null, .int 0, .null, .null, .null, .int 0]))]) H := hP
  have hD : va_D (cn_A b sz) ([(q8, .inl (cI, 2673, .inl (fun _ => 0))), (q7, .inl (cI, 10, .inl (fun _ => 0))), (q6, .inl (cI, 10, .inl (fun _ => 0))), (q5, .inl (cI, 4, .inl (fun _ => 0))), (q4, .inl (cI, 50, .inl (fun _ => 0))), (q3, .inl (cI, 50, .inl (fun _ => 0))), (q2, .inl (cI, 5, .inl (fun _ => 0))), (q1, .inl (cI, 20, .inl (fun _ => 0))), (b, .inr (5, [.int 0, .int 0, .ref q1, .ref q2, .ref q3, .ref q4, .ref q5, .ref q6, .ref q7, .null, .null, .int 0, .null, .null, .null, .int 0]))]) := hD
  refine va_putF (D := D) (ref := RX5) (ci := 5) (v := .ref q8) (ty := .array .int) (C := RX5) (T := TX5) (N := 16) hx hb hts sv_u5 tyX5 tyX5_ok nmX5 hown hK hP hD hS 8 rfl rfl 9 (by decide) (hts _ (sv_mem 576 (by decide +kernel) rfl)) (fun _ h9 => h9) rfl hin rfl (by decide +kernel) rfl rfl (Nat.le_of_ble_eq_true rfl) dX5_init_64 (fun H locs hP hD hS => ?_)
  have hP : va_P D vwCl ([(q8, .inl (cI, 2673, .inl (fun _ => 0))), (q7, .inl (cI, 10, .inl (fun _ => 0))), (q6, .inl (cI, 10, .inl (fun _ => 0))), (q5, .inl (cI, 4, .inl (fun _ => 0))), (q4, .inl (cI, 50, .inl (fun _ => 0))), (q3, .inl (cI, 50, .inl (fun _ => 0))), (q2, .inl (cI, 5, .inl (fun _ => 0))), (q1, .inl (cI, 20, .inl (fun _ => 0))), (b, .inr (5, [.int 0, .int 0, .ref q1, .ref q2, .ref q3, .ref q4, .ref q5, .ref q6, .ref q7, .ref q8, .null, .int 0, .null, .null, .null, .int 0]))]) H := hP
  have hD : va_D (cn_A b sz) ([(q8, .inl (cI, 2673, .inl (fun _ => 0))), (q7, .inl (cI, 10, .inl (fun _ => 0))), (q6, .inl (cI, 10, .inl (fun _ => 0))), (q5, .inl (cI, 4, .inl (fun _ => 0))), (q4, .inl (cI, 50, .inl (fun _ => 0))), (q3, .inl (cI, 50, .inl (fun _ => 0))), (q2, .inl (cI, 5, .inl (fun _ => 0))), (q1, .inl (cI, 20, .inl (fun _ => 0))), (b, .inr (5, [.int 0, .int 0, .ref q1, .ref q2, .ref q3, .ref q4, .ref q5, .ref q6, .ref q7, .ref q8, .null, .int 0, .null, .null, .null, .int 0]))]) := hD
  refine lv_aload_n hx hb dX5_init_67 rfl (lv_at hl 0 rfl) ?_
  refine lv_sipush (v := (2430)) hx hb dX5_init_68 rfl ?_
  refine cn_newa hx hb harr hK hP hD hS hA (by decide) (N := 2430) (by decide) (Nat.le_of_ble_eq_true rfl) (Nat.le_of_ble_eq_true rfl) (Nat.le_of_ble_eq_true rfl) dX5_init_71 (fun q9 H hP hD hS => ?_)
  have hP : va_P D vwCl ([(q9, .inl (cI, 2430, .inl (fun _ => 0))), (q8, .inl (cI, 2673, .inl (fun _ => 0))), (q7, .inl (cI, 10, .inl (fun _ => 0))), (q6, .inl (cI, 10, .inl (fun _ => 0))), (q5, .inl (cI, 4, .inl (fun _ => 0))), (q4, .inl (cI, 50, .inl (fun _ => 0))), (q3, .inl (cI, 50, .inl (fun _ => 0))), (q2, .inl (cI, 5, .inl (fun _ => 0))), (q1, .inl (cI, 20, .inl (fun _ => 0))), (b, .inr (5, [.int 0, .int 0, .ref q1, .ref q2, .ref q3, .ref q4, .ref q5, .ref q6, .ref q7, .ref q8, .null, .int 0, .null, .null, .null, .int 0]))]) H := hP
  have hD : va_D (cn_A b sz) ([(q9, .inl (cI, 2430, .inl (fun _ => 0))), (q8, .inl (cI, 2673, .inl (fun _ => 0))), (q7, .inl (cI, 10, .inl (fun _ => 0))), (q6, .inl (cI, 10, .inl (fun _ => 0))), (q5, .inl (cI, 4, .inl (fun _ => 0))), (q4, .inl (cI, 50, .inl (fun _ => 0))), (q3, .inl (cI, 50, .inl (fun _ => 0))), (q2, .inl (cI, 5, .inl (fun _ => 0))), (q1, .inl (cI, 20, .inl (fun _ => 0))), (b, .inr (5, [.int 0, .int 0, .ref q1, .ref q2, .ref q3, .ref q4, .ref q5, .ref q6, .ref q7, .ref q8, .null, .int 0, .null, .null, .null, .int 0]))]) := hD
  refine va_putF (D := D) (ref := RX5) (ci := 5) (v := .ref q9) (ty := .array .int) (C := RX5) (T := TX5) (N := 16) hx hb hts sv_u5 tyX5 tyX5_ok nmX5 hown hK hP hD hS 9 rfl rfl 10 (by decide) (hts _ (sv_mem 577 (by decide +kernel) rfl)) (fun _ h9 => h9) rfl hin rfl (by decide +kernel) rfl rfl (Nat.le_of_ble_eq_true rfl) dX5_init_73 (fun H locs hP hD hS => ?_)
  have hP : va_P D vwCl ([(q9, .inl (cI, 2430, .inl (fun _ => 0))), (q8, .inl (cI, 2673, .inl (fun _ => 0))), (q7, .inl (cI, 10, .inl (fun _ => 0))), (q6, .inl (cI, 10, .inl (fun _ => 0))), (q5, .inl (cI, 4, .inl (fun _ => 0))), (q4, .inl (cI, 50, .inl (fun _ => 0))), (q3, .inl (cI, 50, .inl (fun _ => 0))), (q2, .inl (cI, 5, .inl (fun _ => 0))), (q1, .inl (cI, 20, .inl (fun _ => 0))), (b, .inr (5, [.int 0, .int 0, .ref q1, .ref q2, .ref q3, .ref q4, .ref q5, .ref q6, .ref q7, .ref q8, .ref q9, .int 0, .null, .null, .null, .int 0]))]) H := hP
  have hD : va_D (cn_A b sz) ([(q9, .inl (cI, 2430, .inl (fun _ => 0))), (q8, .inl (cI, 2673, .inl (fun _ => 0))), (q7, .inl (cI, 10, .inl (fun _ => 0))), (q6, .inl (cI, 10, .inl (fun _ => 0))), (q5, .inl (cI, 4, .inl (fun _ => 0))), (q4, .inl (cI, 50, .inl (fun _ => 0))), (q3, .inl (cI, 50, .inl (fun _ => 0))), (q2, .inl (cI, 5, .inl (fun _ => 0))), (q1, .inl (cI, 20, .inl (fun _ => 0))), (b, .inr (5, [.int 0, .int 0, .ref q1, .ref q2, .ref q3, .ref q4, .ref q5, .ref q6, .ref q7, .ref q8, .ref q9, .int 0, .null, .null, .null, .int 0]))]) := hD
  refine lv_aload_n hx hb dX5_init_76 rfl (lv_at hl 0 rfl) ?_
  refine lv_bipush (v := (122)) hx hb dX5_init_77 rfl ?_
  refine cn_newa hx hb harr hK hP hD hS hA (by decide) (N := 122) (by decide) (Nat.le_of_ble_eq_true rfl) (Nat.le_of_ble_eq_true rfl) (Nat.le_of_ble_eq_true rfl) dX5_init_79 (fun q10 H hP hD hS => ?_)
  have hP : va_P D vwCl ([(q10, .inl (cI, 122, .inl (fun _ => 0))), (q9, .inl (cI, 2430, .inl (fun _ => 0))), (q8, .inl (cI, 2673, .inl (fun _ => 0))), (q7, .inl (cI, 10, .inl (fun _ => 0))), (q6, .inl (cI, 10, .inl (fun _ => 0))), (q5, .inl (cI, 4, .inl (fun _ => 0))), (q4, .inl (cI, 50, .inl (fun _ => 0))), (q3, .inl (cI, 50, .inl (fun _ => 0))), (q2, .inl (cI, 5, .inl (fun _ => 0))), (q1, .inl (cI, 20, .inl (fun _ => 0))), (b, .inr (5, [.int 0, .int 0, .ref q1, .ref q2, .ref q3, .ref q4, .ref q5, .ref q6, .ref q7, .ref q8, .ref q9, .int 0, .null, .null, .null, .int 0]))]) H := hP
  have hD : va_D (cn_A b sz) ([(q10, .inl (cI, 122, .inl (fun _ => 0))), (q9, .inl (cI, 2430, .inl (fun _ => 0))), (q8, .inl (cI, 2673, .inl (fun _ => 0))), (q7, .inl (cI, 10, .inl (fun _ => 0))), (q6, .inl (cI, 10, .inl (fun _ => 0))), (q5, .inl (cI, 4, .inl (fun _ => 0))), (q4, .inl (cI, 50, .inl (fun _ => 0))), (q3, .inl (cI, 50, .inl (fun _ => 0))), (q2, .inl (cI, 5, .inl (fun _ => 0))), (q1, .inl (cI, 20, .inl (fun _ => 0))), (b, .inr (5, [.int 0, .int 0, .ref q1, .ref q2, .ref q3, .ref q4, .ref q5, .ref q6, .ref q7, .ref q8, .ref q9, .int 0, .null, .null, .null, .int 0]))]) := hD
  refine va_putF (D := D) (ref := RX5) (ci := 5) (v := .ref q10) (ty := .array .int) (C := RX5) (T := TX5) (N := 16) hx hb hts sv_u5 tyX5 tyX5_ok nmX5 hown hK hP hD hS 10 rfl rfl 12 (by decide) (hts _ (sv_mem 579 (by decide +kernel) rfl)) (fun _ h9 => h9) rfl hin rfl (by decide +kernel) rfl rfl (Nat.le_of_ble_eq_true rfl) dX5_init_81 (fun H locs hP hD hS => ?_)
  have hP : va_P D vwCl ([(q10, .inl (cI, 122, .inl (fun _ => 0))), (q9, .inl (cI, 2430, .inl (fun _ => 0))), (q8, .inl (cI, 2673, .inl (fun _ => 0))), (q7, .inl (cI, 10, .inl (fun _ => 0))), (q6, .inl (cI, 10, .inl (fun _ => 0))), (q5, .inl (cI, 4, .inl (fun _ => 0))), (q4, .inl (cI, 50, .inl (fun _ => 0))), (q3, .inl (cI, 50, .inl (fun _ => 0))), (q2, .inl (cI, 5, .inl (fun _ => 0))), (q1, .inl (cI, 20, .inl (fun _ => 0))), (b, .inr (5, [.int 0, .int 0, .ref q1, .ref q2, .ref q3, .ref q4, .ref q5, .ref q6, .ref q7, .ref q8, .ref q9, .int 0, .ref q10, .null, .null, .int 0]))]) H := hP
  have hD : va_D (cn_A b sz) ([(q10, .inl (cI, 122, .inl (fun _ => 0))), (q9, .inl (cI, 2430, .inl (fun _ => 0))), (q8, .inl (cI, 2673, .inl (fun _ => 0))), (q7, .inl (cI, 10, .inl (fun _ => 0))), (q6, .inl (cI, 10, .inl (fun _ => 0))), (q5, .inl (cI, 4, .inl (fun _ => 0))), (q4, .inl (cI, 50, .inl (fun _ => 0))), (q3, .inl (cI, 50, .inl (fun _ => 0))), (q2, .inl (cI, 5, .inl (fun _ => 0))), (q1, .inl (cI, 20, .inl (fun _ => 0))), (b, .inr (5, [.int 0, .int 0, .ref q1, .ref q2, .ref q3, .ref q4, .ref q5, .ref q6, .ref q7, .ref q8, .ref q9, .int 0, .ref q10, .null, .null, .int 0]))]) := hD
  refine lv_aload_n hx hb dX5_init_84 rfl (lv_at hl 0 rfl) ?_
  refine lv_iconst (v := (5)) hx hb dX5_init_85 rfl ?_
  refine cn_newa hx hb harr hK hP hD hS hA (by decide) (N := 5) (by decide) (Nat.le_of_ble_eq_true rfl) (Nat.le_of_ble_eq_true rfl) (Nat.le_of_ble_eq_true rfl) dX5_init_86 (fun q11 H hP hD hS => ?_)
  have hP : va_P D vwCl ([(q11, .inl (cI, 5, .inl (fun _ => 0))), (q10, .inl (cI, 122, .inl (fun _ => 0))), (q9, .inl (cI, 2430, .inl (fun _ => 0))), (q8, .inl (cI, 2673, .inl (fun _ => 0))), (q7, .inl (cI, 10, .inl (fun _ => 0))), (q6, .inl (cI, 10, .inl (fun _ => 0))), (q5, .inl (cI, 4, .inl (fun _ => 0))), (q4, .inl (cI, 50, .inl (fun _ => 0))), (q3, .inl (cI, 50, .inl (fun _ => 0))), (q2, .inl (cI, 5, .inl (fun _ => 0))), (q1, .inl (cI, 20, .inl (fun _ => 0))), (b, .inr (5, [.int 0, .int 0, .ref q1, .ref q2, .ref q3, .ref q4, .ref q5, .ref q6, .ref q7, .ref q8, .ref q9, .int 0, .ref q10, .null, .null, .int 0]))]) H := hP
  have hD : va_D (cn_A b sz) ([(q11, .inl (cI, 5, .inl (fun _ => 0))), (q10, .inl (cI, 122, .inl (fun _ => 0))), (q9, .inl (cI, 2430, .inl (fun _ => 0))), (q8, .inl (cI, 2673, .inl (fun _ => 0))), (q7, .inl (cI, 10, .inl (fun _ => 0))), (q6, .inl (cI, 10, .inl (fun _ => 0))), (q5, .inl (cI, 4, .inl (fun _ => 0))), (q4, .inl (cI, 50, .inl (fun _ => 0))), (q3, .inl (cI, 50, .inl (fun _ => 0))), (q2, .inl (cI, 5, .inl (fun _ => 0))), (q1, .inl (cI, 20, .inl (fun _ => 0))), (b, .inr (5, [.int 0, .int 0, .ref q1, .ref q2, .ref q3, .ref q4, .ref q5, .ref q6, .ref q7, .ref q8, .ref q9, .int 0, .ref q10, .null, .null, .int 0]))]) := hD
  refine va_putF (D := D) (ref := RX5) (ci := 5) (v := .ref q11) (ty := .array .int) (C := RX5) (T := TX5) (N := 16) hx hb hts sv_u5 tyX5 tyX5_ok nmX5 hown hK hP hD hS 11 rfl rfl 13 (by decide) (hts _ (sv_mem 580 (by decide +kernel) rfl)) (fun _ h9 => h9) rfl hin rfl (by decide +kernel) rfl rfl (Nat.le_of_ble_eq_true rfl) dX5_init_88 (fun H locs hP hD hS => ?_)
  have hP : va_P D vwCl ([(q11, .inl (cI, 5, .inl (fun _ => 0))), (q10, .inl (cI, 122, .inl (fun _ => 0))), (q9, .inl (cI, 2430, .inl (fun _ => 0))), (q8, .inl (cI, 2673, .inl (fun _ => 0))), (q7, .inl (cI, 10, .inl (fun _ => 0))), (q6, .inl (cI, 10, .inl (fun _ => 0))), (q5, .inl (cI, 4, .inl (fun _ => 0))), (q4, .inl (cI, 50, .inl (fun _ => 0))), (q3, .inl (cI, 50, .inl (fun _ => 0))), (q2, .inl (cI, 5, .inl (fun _ => 0))), (q1, .inl (cI, 20, .inl (fun _ => 0))), (b, .inr (5, [.int 0, .int 0, .ref q1, .ref q2, .ref q3, .ref q4, .ref q5, .ref q6, .ref q7, .ref q8, .ref q9, .int 0, .ref q10, .ref q11, .null, .int 0]))]) H := hP
  have hD : va_D (cn_A b sz) ([(q11, .inl (cI, 5, .inl (fun _ => 0))), (q10, .inl (cI, 122, .inl (fun _ => 0))), (q9, .inl (cI, 2430, .inl (fun _ => 0))), (q8, .inl (cI, 2673, .inl (fun _ => 0))), (q7, .inl (cI, 10, .inl (fun _ => 0))), (q6, .inl (cI, 10, .inl (fun _ => 0))), (q5, .inl (cI, 4, .inl (fun _ => 0))), (q4, .inl (cI, 50, .inl (fun _ => 0))), (q3, .inl (cI, 50, .inl (fun _ => 0))), (q2, .inl (cI, 5, .inl (fun _ => 0))), (q1, .inl (cI, 20, .inl (fun _ => 0))), (b, .inr (5, [.int 0, .int 0, .ref q1, .ref q2, .ref q3, .ref q4, .ref q5, .ref q6, .ref q7, .ref q8, .ref q9, .int 0, .ref q10, .ref q11, .null, .int 0]))]) := hD
  refine lv_aload_n hx hb dX5_init_91 rfl (lv_at hl 0 rfl) ?_
  refine lv_iconst (v := (5)) hx hb dX5_init_92 rfl ?_
  refine cn_newa hx hb harr hK hP hD hS hA (by decide) (N := 5) (by decide) (Nat.le_of_ble_eq_true rfl) (Nat.le_of_ble_eq_true rfl) (Nat.le_of_ble_eq_true rfl) dX5_init_93 (fun q12 H hP hD hS => ?_)
  have hP : va_P D vwCl ([(q12, .inl (cI, 5, .inl (fun _ => 0))), (q11, .inl (cI, 5, .inl (fun _ => 0))), (q10, .inl (cI, 122, .inl (fun _ => 0))), (q9, .inl (cI, 2430, .inl (fun _ => 0))), (q8, .inl (cI, 2673, .inl (fun _ => 0))), (q7, .inl (cI, 10, .inl (fun _ => 0))), (q6, .inl (cI, 10, .inl (fun _ => 0))), (q5, .inl (cI, 4, .inl (fun _ => 0))), (q4, .inl (cI, 50, .inl (fun _ => 0))), (q3, .inl (cI, 50, .inl (fun _ => 0))), (q2, .inl (cI, 5, .inl (fun _ => 0))), (q1, .inl (cI, 20, .inl (fun _ => 0))), (b, .inr (5, [.int 0, .int 0, .ref q1, .ref q2, .ref q3, .ref q4, .ref q5, .ref q6, .ref q7, .ref q8, .ref q9, .int 0, .ref q10, .ref q11, .null, .int 0]))]) H := hP
  have hD : va_D (cn_A b sz) ([(q12, .inl (cI, 5, .inl (fun _ => 0))), (q11, .inl (cI, 5, .inl (fun _ => 0))), (q10, .inl (cI, 122, .inl (fun _ => 0))), (q9, .inl (cI, 2430, .inl (fun _ => 0))), (q8, .inl (cI, 2673, .inl (fun _ => 0))), (q7, .inl (cI, 10, .inl (fun _ => 0))), (q6, .inl (cI, 10, .inl (fun _ => 0))), (q5, .inl (cI, 4, .inl (fun _ => 0))), (q4, .inl (cI, 50, .inl (fun _ => 0))), (q3, .inl (cI, 50, .inl (fun _ => 0))), (q2, .inl (cI, 5, .inl (fun _ => 0))), (q1, .inl (cI, 20, .inl (fun _ => 0))), (b, .inr (5, [.int 0, .int 0, .ref q1, .ref q2, .ref q3, .ref q4, .ref q5, .ref q6, .ref q7, .ref q8, .ref q9, .int 0, .ref q10, .ref q11, .null, .int 0]))]) := hD
  refine va_putF (D := D) (ref := RX5) (ci := 5) (v := .ref q12) (ty := .array .int) (C := RX5) (T := TX5) (N := 16) hx hb hts sv_u5 tyX5 tyX5_ok nmX5 hown hK hP hD hS 12 rfl rfl 14 (by decide) (hts _ (sv_mem 581 (by decide +kernel) rfl)) (fun _ h9 => h9) rfl hin rfl (by decide +kernel) rfl rfl (Nat.le_of_ble_eq_true rfl) dX5_init_95 (fun H locs hP hD hS => ?_)
  have hP : va_P D vwCl ([(q12, .inl (cI, 5, .inl (fun _ => 0))), (q11, .inl (cI, 5, .inl (fun _ => 0))), (q10, .inl (cI, 122, .inl (fun _ => 0))), (q9, .inl (cI, 2430, .inl (fun _ => 0))), (q8, .inl (cI, 2673, .inl (fun _ => 0))), (q7, .inl (cI, 10, .inl (fun _ => 0))), (q6, .inl (cI, 10, .inl (fun _ => 0))), (q5, .inl (cI, 4, .inl (fun _ => 0))), (q4, .inl (cI, 50, .inl (fun _ => 0))), (q3, .inl (cI, 50, .inl (fun _ => 0))), (q2, .inl (cI, 5, .inl (fun _ => 0))), (q1, .inl (cI, 20, .inl (fun _ => 0))), (b, .inr (5, [.int 0, .int 0, .ref q1, .ref q2, .ref q3, .ref q4, .ref q5, .ref q6, .ref q7, .ref q8, .ref q9, .int 0, .ref q10, .ref q11, .ref q12, .int 0]))]) H := hP
  have hD : va_D (cn_A b sz) ([(q12, .inl (cI, 5, .inl (fun _ => 0))), (q11, .inl (cI, 5, .inl (fun _ => 0))), (q10, .inl (cI, 122, .inl (fun _ => 0))), (q9, .inl (cI, 2430, .inl (fun _ => 0))), (q8, .inl (cI, 2673, .inl (fun _ => 0))), (q7, .inl (cI, 10, .inl (fun _ => 0))), (q6, .inl (cI, 10, .inl (fun _ => 0))), (q5, .inl (cI, 4, .inl (fun _ => 0))), (q4, .inl (cI, 50, .inl (fun _ => 0))), (q3, .inl (cI, 50, .inl (fun _ => 0))), (q2, .inl (cI, 5, .inl (fun _ => 0))), (q1, .inl (cI, 20, .inl (fun _ => 0))), (b, .inr (5, [.int 0, .int 0, .ref q1, .ref q2, .ref q3, .ref q4, .ref q5, .ref q6, .ref q7, .ref q8, .ref q9, .int 0, .ref q10, .ref q11, .ref q12, .int 0]))]) := hD
  refine lv_aload_n hx hb dX5_init_98 rfl (lv_at hl 0 rfl) ?_
  refine va_get (D := D) (ref := RX5) (ci := 5) (v := .ref q5) (C := RX5) (T := TX5) (N := 16) hx hb hts sv_u5 hown hK hP 12 rfl rfl 6 (by decide) (hts _ (sv_mem 573 (by decide +kernel) rfl)) (fun _ h9 => h9) rfl dX5_init_99 ?_
  refine lv_iconst (v := (0)) hx hb dX5_init_102 rfl ?_
  refine lv_bipush (v := (16)) hx hb dX5_init_103 rfl ?_
  refine va_iast (D := D) hx hb hK hP hD hS 7 0 rfl rfl (pk_in 0 4 (by omega)) dX5_init_105 (fun H locs hP hD hS => ?_)
  have hP : va_P D vwCl ([(q12, .inl (cI, 5, .inl (fun _ => 0))), (q11, .inl (cI, 5, .inl (fun _ => 0))), (q10, .inl (cI, 122, .inl (fun _ => 0))), (q9, .inl (cI, 2430, .inl (fun _ => 0))), (q8, .inl (cI, 2673, .inl (fun _ => 0))), (q7, .inl (cI, 10, .inl (fun _ => 0))), (q6, .inl (cI, 10, .inl (fun _ => 0))), (q5, .inl (cI, 4, .inl (upd (fun _ => 0) (0 : Int32).toNatClampNeg (16)))), (q4, .inl (cI, 50, .inl (fun _ => 0))), (q3, .inl (cI, 50, .inl (fun _ => 0))), (q2, .inl (cI, 5, .inl (fun _ => 0))), (q1, .inl (cI, 20, .inl (fun _ => 0))), (b, .inr (5, [.int 0, .int 0, .ref q1, .ref q2, .ref q3, .ref q4, .ref q5, .ref q6, .ref q7, .ref q8, .ref q9, .int 0, .ref q10, .ref q11, .ref q12, .int 0]))]) H := hP
  have hD : va_D (cn_A b sz) ([(q12, .inl (cI, 5, .inl (fun _ => 0))), (q11, .inl (cI, 5, .inl (fun _ => 0))), (q10, .inl (cI, 122, .inl (fun _ => 0))), (q9, .inl (cI, 2430, .inl (fun _ => 0))), (q8, .inl (cI, 2673, .inl (fun _ => 0))), (q7, .inl (cI, 10, .inl (fun _ => 0))), (q6, .inl (cI, 10, .inl (fun _ => 0))), (q5, .inl (cI, 4, .inl (upd (fun _ => 0) (0 : Int32).toNatClampNeg (16)))), (q4, .inl (cI, 50, .inl (fun _ => 0))), (q3, .inl (cI, 50, .inl (fun _ => 0))), (q2, .inl (cI, 5, .inl (fun _ => 0))), (q1, .inl (cI, 20, .inl (fun _ => 0))), (b, .inr (5, [.int 0, .int 0, .ref q1, .ref q2, .ref q3, .ref q4, .ref q5, .ref q6, .ref q7, .ref q8, .ref q9, .int 0, .ref q10, .ref q11, .ref q12, .int 0]))]) := hD
  refine lv_aload_n hx hb dX5_init_106 rfl (lv_at hl 0 rfl) ?_
  refine va_get (D := D) (ref := RX5) (ci := 5) (v := .ref q5) (C := RX5) (T := TX5) (N := 16) hx hb hts sv_u5 hown hK hP 12 rfl rfl 6 (by decide) (hts _ (sv_mem 573 (by decide +kernel) rfl)) (fun _ h9 => h9) rfl dX5_init_107 ?_
  refine lv_iconst (v := (1)) hx hb dX5_init_110 rfl ?_
  refine lv_bipush (v := (10)) hx hb dX5_init_111 rfl ?_
  refine va_iast (D := D) hx hb hK hP hD hS 7 0 rfl rfl (pk_in 1 4 (by omega)) dX5_init_113 (fun H locs hP hD hS => ?_)
  have hP : va_P D vwCl ([(q12, .inl (cI, 5, .inl (fun _ => 0))), (q11, .inl (cI, 5, .inl (fun _ => 0))), (q10, .inl (cI, 122, .inl (fun _ => 0))), (q9, .inl (cI, 2430, .inl (fun _ => 0))), (q8, .inl (cI, 2673, .inl (fun _ => 0))), (q7, .inl (cI, 10, .inl (fun _ => 0))), (q6, .inl (cI, 10, .inl (fun _ => 0))), (q5, .inl (cI, 4, .inl (upd (upd (fun _ => 0) (0 : Int32).toNatClampNeg (16)) (1 : Int32).toNatClampNeg (10)))), (q4, .inl (cI, 50, .inl (fun _ => 0))), (q3, .inl (cI, 50, .inl (fun _ => 0))), (q2, .inl (cI, 5, .inl (fun _ => 0))), (q1, .inl (cI, 20, .inl (fun _ => 0))), (b, .inr (5, [.int 0, .int 0, .ref q1, .ref q2, .ref q3, .ref q4, .ref q5, .ref q6, .ref q7, .ref q8, .ref q9, .int 0, .ref q10, .ref q11, .ref q12, .int 0]))]) H := hP
  have hD : va_D (cn_A b sz) ([(q12, .inl (cI, 5, .inl (fun _ => 0))), (q11, .inl (cI, 5, .inl (fun _ => 0))), (q10, .inl (cI, 122, .inl (fun _ => 0))), (q9, .inl (cI, 2430, .inl (fun _ => 0))), (q8, .inl (cI, 2673, .inl (fun _ => 0))), (q7, .inl (cI, 10, .inl (fun _ => 0))), (q6, .inl (cI, 10, .inl (fun _ => 0))), (q5, .inl (cI, 4, .inl (upd (upd (fun _ => 0) (0 : Int32).toNatClampNeg (16)) (1 : Int32).toNatClampNeg (10)))), (q4, .inl (cI, 50, .inl (fun _ => 0))), (q3, .inl (cI, 50, .inl (fun _ => 0))), (q2, .inl (cI, 5, .inl (fun _ => 0))), (q1, .inl (cI, 20, .inl (fun _ => 0))), (b, .inr (5, [.int 0, .int 0, .ref q1, .ref q2, .ref q3, .ref q4, .ref q5, .ref q6, .ref q7, .ref q8, .ref q9, .int 0, .ref q10, .ref q11, .ref q12, .int 0]))]) := hD
  refine lv_aload_n hx hb dX5_init_114 rfl (lv_at hl 0 rfl) ?_
  refine va_get (D := D) (ref := RX5) (ci := 5) (v := .ref q5) (C := RX5) (T := TX5) (N := 16) hx hb hts sv_u5 hown hK hP 12 rfl rfl 6 (by decide) (hts _ (sv_mem 573 (by decide +kernel) rfl)) (fun _ h9 => h9) rfl dX5_init_115 ?_
  refine lv_iconst (v := (2)) hx hb dX5_init_118 rfl ?_
  refine lv_iconst (v := (1)) hx hb dX5_init_119 rfl ?_
  refine va_iast (D := D) hx hb hK hP hD hS 7 0 rfl rfl (pk_in 2 4 (by omega)) dX5_init_120 (fun H locs hP hD hS => ?_)
  have hP : va_P D vwCl ([(q12, .inl (cI, 5, .inl (fun _ => 0))), (q11, .inl (cI, 5, .inl (fun _ => 0))), (q10, .inl (cI, 122, .inl (fun _ => 0))), (q9, .inl (cI, 2430, .inl (fun _ => 0))), (q8, .inl (cI, 2673, .inl (fun _ => 0))), (q7, .inl (cI, 10, .inl (fun _ => 0))), (q6, .inl (cI, 10, .inl (fun _ => 0))), (q5, .inl (cI, 4, .inl (upd (upd (upd (fun _ => 0) (0 : Int32).toNatClampNeg (16)) (1 : Int32).toNatClampNeg (10)) (2 : Int32).toNatClampNeg (1)))), (q4, .inl (cI, 50, .inl (fun _ => 0))), (q3, .inl (cI, 50, .inl (fun _ => 0))), (q2, .inl (cI, 5, .inl (fun _ => 0))), (q1, .inl (cI, 20, .inl (fun _ => 0))), (b, .inr (5, [.int 0, .int 0, .ref q1, .ref q2, .ref q3, .ref q4, .ref q5, .ref q6, .ref q7, .ref q8, .ref q9, .int 0, .ref q10, .ref q11, .ref q12, .int 0]))]) H := hP
  have hD : va_D (cn_A b sz) ([(q12, .inl (cI, 5, .inl (fun _ => 0))), (q11, .inl (cI, 5, .inl (fun _ => 0))), (q10, .inl (cI, 122, .inl (fun _ => 0))), (q9, .inl (cI, 2430, .inl (fun _ => 0))), (q8, .inl (cI, 2673, .inl (fun _ => 0))), (q7, .inl (cI, 10, .inl (fun _ => 0))), (q6, .inl (cI, 10, .inl (fun _ => 0))), (q5, .inl (cI, 4, .inl (upd (upd (upd (fun _ => 0) (0 : Int32).toNatClampNeg (16)) (1 : Int32).toNatClampNeg (10)) (2 : Int32).toNatClampNeg (1)))), (q4, .inl (cI, 50, .inl (fun _ => 0))), (q3, .inl (cI, 50, .inl (fun _ => 0))), (q2, .inl (cI, 5, .inl (fun _ => 0))), (q1, .inl (cI, 20, .inl (fun _ => 0))), (b, .inr (5, [.int 0, .int 0, .ref q1, .ref q2, .ref q3, .ref q4, .ref q5, .ref q6, .ref q7, .ref q8, .ref q9, .int 0, .ref q10, .ref q11, .ref q12, .int 0]))]) := hD
  refine lv_aload_n hx hb dX5_init_121 rfl (lv_at hl 0 rfl) ?_
  refine va_get (D := D) (ref := RX5) (ci := 5) (v := .ref q5) (C := RX5) (T := TX5) (N := 16) hx hb hts sv_u5 hown hK hP 12 rfl rfl 6 (by decide) (hts _ (sv_mem 573 (by decide +kernel) rfl)) (fun _ h9 => h9) rfl dX5_init_122 ?_
  refine lv_iconst (v := (3)) hx hb dX5_init_125 rfl ?_
  refine lv_iconst (v := (2)) hx hb dX5_init_126 rfl ?_
  refine va_iast (D := D) hx hb hK hP hD hS 7 0 rfl rfl (pk_in 3 4 (by omega)) dX5_init_127 (fun H locs hP hD hS => ?_)
  have hP : va_P D vwCl ([(q12, .inl (cI, 5, .inl (fun _ => 0))), (q11, .inl (cI, 5, .inl (fun _ => 0))), (q10, .inl (cI, 122, .inl (fun _ => 0))), (q9, .inl (cI, 2430, .inl (fun _ => 0))), (q8, .inl (cI, 2673, .inl (fun _ => 0))), (q7, .inl (cI, 10, .inl (fun _ => 0))), (q6, .inl (cI, 10, .inl (fun _ => 0))), (q5, .inl (cI, 4, .inl (upd (upd (upd (upd (fun _ => 0) (0 : Int32).toNatClampNeg (16)) (1 : Int32).toNatClampNeg (10)) (2 : Int32).toNatClampNeg (1)) (3 : Int32).toNatClampNeg (2)))), (q4, .inl (cI, 50, .inl (fun _ => 0))), (q3, .inl (cI, 50, .inl (fun _ => 0))), (q2, .inl (cI, 5, .inl (fun _ => 0))), (q1, .inl (cI, 20, .inl (fun _ => 0))), (b, .inr (5, [.int 0, .int 0, .ref q1, .ref q2, .ref q3, .ref q4, .ref q5, .ref q6, .ref q7, .ref q8, .ref q9, .int 0, .ref q10, .ref q11, .ref q12, .int 0]))]) H := hP
  have hD : va_D (cn_A b sz) ([(q12, .inl (cI, 5, .inl (fun _ => 0))), (q11, .inl (cI, 5, .inl (fun _ => 0))), (q10, .inl (cI, 122, .inl (fun _ => 0))), (q9, .inl (cI, 2430, .inl (fun _ => 0))), (q8, .inl (cI, 2673, .inl (fun _ => 0))), (q7, .inl (cI, 10, .inl (fun _ => 0))), (q6, .inl (cI, 10, .inl (fun _ => 0))), (q5, .inl (cI, 4, .inl (upd (upd (upd (upd (fun _ => 0) (0 : Int32).toNatClampNeg (16)) (1 : Int32).toNatClampNeg (10)) (2 : Int32).toNatClampNeg (1)) (3 : Int32).toNatClampNeg (2)))), (q4, .inl (cI, 50, .inl (fun _ => 0))), (q3, .inl (cI, 50, .inl (fun _ => 0))), (q2, .inl (cI, 5, .inl (fun _ => 0))), (q1, .inl (cI, 20, .inl (fun _ => 0))), (b, .inr (5, [.int 0, .int 0, .ref q1, .ref q2, .ref q3, .ref q4, .ref q5, .ref q6, .ref q7, .ref q8, .ref q9, .int 0, .ref q10, .ref q11, .ref q12, .int 0]))]) := hD
  have hP9 : va_P D vwCl (cn_wl D cI cJ (fun g => ([0, 0, 0, 0, 0, b, 0, 0, 0, 0, 0, 0, 0, 0, 0, 0, 0, 0, 0, 0, 0, 0, 0, 0, 0, 0, 0, 0, 0, 0, 0, q1, q2, q3, q4, q5, q6, q7, q8, q9, q10, q11, q12, 0, 0] : List Nat).getD g 0) cn_X5 ((fun g _ j => if g = 35 then (upd (upd (upd (upd (fun _ => 0) (0 : Int32).toNatClampNeg (16)) (1 : Int32).toNatClampNeg (10)) (2 : Int32).toNatClampNeg (1)) (3 : Int32).toNatClampNeg (2)) j else 0, fun _ _ => 0) : sv_S)) H := hP
  have hD9 : va_D (cn_A b sz) (cn_wl D cI cJ (fun g => ([0, 0, 0, 0, 0, b, 0, 0, 0, 0, 0, 0, 0, 0, 0, 0, 0, 0, 0, 0, 0, 0, 0, 0, 0, 0, 0, 0, 0, 0, 0, q1, q2, q3, q4, q5, q6, q7, q8, q9, q10, q11, q12, 0, 0] : List Nat).getD g 0) cn_X5 ((fun g _ j => if g = 35 then (upd (upd (upd (upd (fun _ => 0) (0 : Int32).toNatClampNeg (16)) (1 : Int32).toNatClampNeg (10)) (2 : Int32).toNatClampNeg (1)) (3 : Int32).toNatClampNeg (2)) j else 0, fun _ _ => 0) : sv_S)) := hD
  exact W.vret hx hb hr (fun t ht hW => ⟨⟨rfl, _, _, ⟨rfl, by decide +kernel, by intro g hg i j; exact if_neg hg⟩, by rw [ht]; exact hP9, hD9⟩, hS.F ht⟩) hS.2.2 dX5_init_128
