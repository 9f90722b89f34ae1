theorem sv_sts_ok : ∀ q ∈ sv_sts, sv_ok (.inr (.inr (q.2.2, 0))) := by
  have h : ∀ q ∈ sv_sts, 0 < sv_ct q.2.2 := by decide +kernel
  exact fun q hq => h q hq
theorem sv_kd3 : ∀ g, sv_kd g = 3 → ∃ q ∈ sv_sts, q.2.2 = g := by
  intro g
  by_cases h : g < 45
  · exact (by decide +kernel : ∀ g, g < 45 → sv_kd g = 3 → ∃ q ∈ sv_sts, q.2.2 = g) g h
  · intro h0
    unfold sv_kd at h0
    rw [List.getD_eq_getElem?_getD, List.getElem?_eq_none (by show 45 ≤ g; omega)] at h0
    cases h0
theorem sv_WD_at {G : sv_G} {σ : sv_S} {s t : State} {locs : List Loc} (hKK : va_K G.1 vwCl (sv_tys G) s) (hst : sv_stt (sv_A G) (sv_ad G) s s.heap) (hnw : sv_nw s) (hD : va_D (sv_A G) (sv_wl G σ)) (hP : va_P G.1 vwCl (sv_wl G σ) t.heap) (hS : va_S (sv_A G) s.heap t.heap locs) (hW : s.WarmedH t.vm) : sv_WD G σ t := by
  refine ⟨hP, va_K.moved hW.alike hKK, hD, fun q hq => ?_, fun q hq => va_Nw.warmM hW (hnw.1 q hq), fun q hq => va_Nw.warmF hW (hnw.2 q hq)⟩
  exact ⟨(va_Z.moved hW.alike (hst q hq).1).kept hS.2.1, (va_T.moved hW.alike (hst q hq).2).kept hS.2.1⟩
section SI
variable {p : Program} {l : Launch} {e : Env} {s : State} {m : MethodId} {args : Array Value} {below : List Frame} {meth : Method} {c : Code}
variable {own : String} {cc : ByteArray} {ret : Option FieldType} {G : sv_G} {gs : List Nat} {fr lo cs sl : Nat} {Kr : Option sv_AV → sv_S → Prop} {T : sv_T}
set_option maxHeartbeats 4000000 in
theorem sv_ins_ok (hcl : ∀ g, g < 6 → sv_clok g) (hC : sv_Cx p s m args meth c own cc ret G gs) (hT : sv_Tok l own gs fr lo T) {K : sv_K}
    (hK : ∀ pc L S σ, K pc L S σ → sv_W p l e { frames := fr, cells := cs, slots := sl, locals := lo } s m args below meth c G Kr pc L S σ)
    {pc n : Nat} {i : Instr} {L : List (Option sv_AV)} {S : List sv_AV} {σ : sv_S} (hd : decode cc pc = .ok (i, n)) (hn : sv_len i n = true) (h : sv_ins T gs ret Kr K pc i L S σ) :
    sv_W p l e { frames := fr, cells := cs, slots := sl, locals := lo } s m args below meth c G Kr pc L S σ := by
  obtain ⟨hx, hb, hr, hlocks, hown, hts, hKK, hD, hst, hnw, hXG⟩ := hC
  obtain ⟨hTf, hTs, hTc, hTl, hTm⟩ := hT
  cases i with
  | iconst v =>
    have e1 : n = 1 := by simpa [sv_len] using hn
    subst e1
    intro H locs ls hP hS hL hO hlen
    exact lv_iconst hx hb hd rfl (hK _ _ _ _ h H locs ls hP hS hL (sv_okc trivial hO) hlen)
  | bipush v =>
    have e1 : n = 2 := by simpa [sv_len] using hn
    subst e1
    intro H locs ls hP hS hL hO hlen
    exact lv_bipush hx hb hd rfl (hK _ _ _ _ h H locs ls hP hS hL (sv_okc trivial hO) hlen)
  | sipush v =>
    have e1 : n = 3 := by simpa [sv_len] using hn
    subst e1
    intro H locs ls hP hS hL hO hlen
    exact lv_sipush hx hb hd rfl (hK _ _ _ _ h H locs ls hP hS hL (sv_okc trivial hO) hlen)
  | lconst v =>
    have e1 : n = 1 := by simpa [sv_len] using hn
    subst e1
    intro H locs ls hP hS hL hO hlen
    exact lv_lconst hx hb hd rfl (hK _ _ _ _ h H locs ls hP hS hL (sv_okc trivial hO) hlen)
  | ldc q =>
    have e1 : n = 2 := by simpa [sv_len] using hn
    subst e1
    replace h := sv_ex_of h
    obtain ⟨v, hv, h⟩ := h
    intro H locs ls hP hS hL hO hlen
    exact lv_ldc hx hb hown (hts _ (hTc _ (sv_l3_mem _ _ _ hv))) hd (hK _ _ _ _ h H locs ls hP hS hL (sv_okc trivial hO) hlen)
  | ldc_w q =>
    have e1 : n = 3 := by simpa [sv_len] using hn
    subst e1
    replace h := sv_ex_of h
    obtain ⟨v, hv, h⟩ := h
    intro H locs ls hP hS hL hO hlen
    exact lv_ldcw hx hb hown (hts _ (hTc _ (sv_l3_mem _ _ _ hv))) hd (hK _ _ _ _ h H locs ls hP hS hL (sv_okc trivial hO) hlen)
  | ldc2_w q =>
    have e1 : n = 3 := by simpa [sv_len] using hn
    subst e1
    replace h := sv_ex_of h
    obtain ⟨v, hv, h⟩ := h
    intro H locs ls hP hS hL hO hlen
    exact lv_ldc2 hx hb hown (hts _ (hTl _ (sv_l3_mem _ _ _ hv))) hd (hK _ _ _ _ h H locs ls hP hS hL (sv_okc trivial hO) hlen)
  | iload k =>
    have e1 : n = 2 := by simpa [sv_len] using hn
    subst e1
    replace h := sv_ldI_of h
    obtain ⟨x, hv, h⟩ := h
    intro H locs ls hP hS hL hO hlen
    exact lv_iload hx hb hd (sv_L_get hL hv) (hK _ _ _ _ h H locs ls hP hS hL (sv_okc trivial hO) hlen)
  | iload_n k =>
    have e1 : n = 1 := by simpa [sv_len] using hn
    subst e1
    replace h := sv_ldI_of h
    obtain ⟨x, hv, h⟩ := h
    intro H locs ls hP hS hL hO hlen
    exact lv_iload_n hx hb hd rfl (sv_L_get hL hv) (hK _ _ _ _ h H locs ls hP hS hL (sv_okc trivial hO) hlen)
  | aload k =>
    have e1 : n = 2 := by simpa [sv_len] using hn
    subst e1
    replace h := sv_ldR_of h
    obtain ⟨x, hv, h⟩ := h
    intro H locs ls hP hS hL hO hlen
    exact lv_aload hx hb hd (sv_L_get hL hv) (hK _ _ _ _ h H locs ls hP hS hL (sv_okc (hL.2 _ _ hv).2 hO) hlen)
  | aload_n k =>
    have e1 : n = 1 := by simpa [sv_len] using hn
    subst e1
    replace h := sv_ldR_of h
    obtain ⟨x, hv, h⟩ := h
    intro H locs ls hP hS hL hO hlen
    exact lv_aload_n hx hb hd rfl (sv_L_get hL hv) (hK _ _ _ _ h H locs ls hP hS hL (sv_okc (hL.2 _ _ hv).2 hO) hlen)
  | istore k =>
    have e1 : n = 2 := by simpa [sv_len] using hn
    subst e1
    replace h := sv_pI_of h
    obtain ⟨x, S1, rfl, h⟩ := h
    replace h := sv_lc_of h
    obtain ⟨hk, h⟩ := h
    intro H locs ls hP hS hL hO hlen
    exact lv_istore hx hb hd hL.1 hk rfl fun ls' hl' => hK _ _ _ _ h H locs ls' hP hS (sv_L_store (v := .inl x) hL rfl trivial hk hl') (sv_okt hO) (by rw [List.length_set]; exact hlen)
  | istore_n k =>
    have e1 : n = 1 := by simpa [sv_len] using hn
    subst e1
    replace h := sv_pI_of h
    obtain ⟨x, S1, rfl, h⟩ := h
    replace h := sv_lc_of h
    obtain ⟨hk, h⟩ := h
    intro H locs ls hP hS hL hO hlen
    exact lv_istore_n hx hb hd rfl hL.1 hk rfl fun ls' hl' => hK _ _ _ _ h H locs ls' hP hS (sv_L_store (v := .inl x) hL rfl trivial hk hl') (sv_okt hO) (by rw [List.length_set]; exact hlen)
  | astore k =>
    have e1 : n = 2 := by simpa [sv_len] using hn
    subst e1
    replace h := sv_pR_of h
    obtain ⟨g, j, S1, rfl, h⟩ := h
    replace h := sv_lc_of h
    obtain ⟨hk, h⟩ := h
    intro H locs ls hP hS hL hO hlen
    exact lv_astore hx hb hd hL.1 hk rfl fun ls' hl' => hK _ _ _ _ h H locs ls' hP hS (sv_L_store (v := .inr (.inr (g, j))) hL rfl (hO _ List.mem_cons_self) hk hl') (sv_okt hO) (by rw [List.length_set]; exact hlen)
  | astore_n k =>
    have e1 : n = 1 := by simpa [sv_len] using hn
    subst e1
    replace h := sv_pR_of h
    obtain ⟨g, j, S1, rfl, h⟩ := h
    replace h := sv_lc_of h
    obtain ⟨hk, h⟩ := h
    intro H locs ls hP hS hL hO hlen
    exact lv_astore_n hx hb hd rfl hL.1 hk rfl fun ls' hl' => hK _ _ _ _ h H locs ls' hP hS (sv_L_store (v := .inr (.inr (g, j))) hL rfl (hO _ List.mem_cons_self) hk hl') (sv_okt hO) (by rw [List.length_set]; exact hlen)
  | iinc k v =>
    have e1 : n = 3 := by simpa [sv_len] using hn
    subst e1
    replace h := sv_ldI_of h
    obtain ⟨x, hv, h⟩ := h
    intro H locs ls hP hS hL hO hlen
    have hk : k < L.length := (List.getElem?_eq_some_iff.mp hv).1
    obtain ⟨j, hj⟩ := List.getElem?_of_mem (sv_pr_mem.mpr ⟨_, hv, rfl⟩ : (k, sv_val (sv_ad G) (.inl x)) ∈ sv_pr (sv_ad G) L)
    exact lv_iinc hx hb hd hL.1 hj rfl hk rfl fun ls' hl' => hK _ _ _ _ h H locs ls' hP hS (sv_L_store (v := .inl (x + Int32.ofInt v)) hL rfl trivial hk hl') hO (by rw [List.length_set]; exact hlen)
  | iadd =>
    have e1 : n = 1 := by simpa [sv_len] using hn
    subst e1
    replace h := sv_pI_of h
    obtain ⟨y, S1, rfl, h⟩ := h
    replace h := sv_pI_of h
    obtain ⟨x, S2, rfl, h⟩ := h
    intro H locs ls hP hS hL hO hlen
    exact lv_iadd hx hb hd (hK _ _ _ _ h H locs ls hP hS hL (sv_okc trivial (sv_okt (sv_okt hO))) hlen)
  | isub =>
    have e1 : n = 1 := by simpa [sv_len] using hn
    subst e1
    replace h := sv_pI_of h
    obtain ⟨y, S1, rfl, h⟩ := h
    replace h := sv_pI_of h
    obtain ⟨x, S2, rfl, h⟩ := h
    intro H locs ls hP hS hL hO hlen
    exact lv_isub hx hb hd (hK _ _ _ _ h H locs ls hP hS hL (sv_okc trivial (sv_okt (sv_okt hO))) hlen)
  | imul =>
    have e1 : n = 1 := by simpa [sv_len] using hn
    subst e1
    replace h := sv_pI_of h
    obtain ⟨y, S1, rfl, h⟩ := h
    replace h := sv_pI_of h
    obtain ⟨x, S2, rfl, h⟩ := h
    intro H locs ls hP hS hL hO hlen
    exact lv_imul hx hb hd (hK _ _ _ _ h H locs ls hP hS hL (sv_okc trivial (sv_okt (sv_okt hO))) hlen)
  | iand =>
    have e1 : n = 1 := by simpa [sv_len] using hn
    subst e1
    replace h := sv_pI_of h
    obtain ⟨y, S1, rfl, h⟩ := h
    replace h := sv_pI_of h
    obtain ⟨x, S2, rfl, h⟩ := h
    intro H locs ls hP hS hL hO hlen
    exact lv_iand hx hb hd (hK _ _ _ _ h H locs ls hP hS hL (sv_okc trivial (sv_okt (sv_okt hO))) hlen)
  | ior =>
    have e1 : n = 1 := by simpa [sv_len] using hn
    subst e1
    replace h := sv_pI_of h
    obtain ⟨y, S1, rfl, h⟩ := h
    replace h := sv_pI_of h
    obtain ⟨x, S2, rfl, h⟩ := h
    intro H locs ls hP hS hL hO hlen
    exact lv_ior hx hb hd (hK _ _ _ _ h H locs ls hP hS hL (sv_okc trivial (sv_okt (sv_okt hO))) hlen)
  | ixor =>
    have e1 : n = 1 := by simpa [sv_len] using hn
    subst e1
    replace h := sv_pI_of h
    obtain ⟨y, S1, rfl, h⟩ := h
    replace h := sv_pI_of h
    obtain ⟨x, S2, rfl, h⟩ := h
    intro H locs ls hP hS hL hO hlen
    exact lv_ixor hx hb hd (hK _ _ _ _ h H locs ls hP hS hL (sv_okc trivial (sv_okt (sv_okt hO))) hlen)
  | ishl =>
    have e1 : n = 1 := by simpa [sv_len] using hn
    subst e1
    replace h := sv_pI_of h
    obtain ⟨y, S1, rfl, h⟩ := h
    replace h := sv_pI_of h
    obtain ⟨x, S2, rfl, h⟩ := h
    intro H locs ls hP hS hL hO hlen
    exact lv_ishl hx hb hd (hK _ _ _ _ h H locs ls hP hS hL (sv_okc trivial (sv_okt (sv_okt hO))) hlen)
  | ishr =>
    have e1 : n = 1 := by simpa [sv_len] using hn
    subst e1
    replace h := sv_pI_of h
    obtain ⟨y, S1, rfl, h⟩ := h
    replace h := sv_pI_of h
    obtain ⟨x, S2, rfl, h⟩ := h
    intro H locs ls hP hS hL hO hlen
    exact lv_ishr hx hb hd (hK _ _ _ _ h H locs ls hP hS hL (sv_okc trivial (sv_okt (sv_okt hO))) hlen)
  | lsub =>
    have e1 : n = 1 := by simpa [sv_len] using hn
    subst e1
    replace h := sv_pL_of h
    obtain ⟨y, S1, rfl, h⟩ := h
    replace h := sv_pL_of h
    obtain ⟨x, S2, rfl, h⟩ := h
    intro H locs ls hP hS hL hO hlen
    exact lv_lsub hx hb hd (hK _ _ _ _ h H locs ls hP hS hL (sv_okc trivial (sv_okt (sv_okt hO))) hlen)
  | land =>
    have e1 : n = 1 := by simpa [sv_len] using hn
    subst e1
    replace h := sv_pL_of h
    obtain ⟨y, S1, rfl, h⟩ := h
    replace h := sv_pL_of h
    obtain ⟨x, S2, rfl, h⟩ := h
    intro H locs ls hP hS hL hO hlen
    exact lv_land hx hb hd (hK _ _ _ _ h H locs ls hP hS hL (sv_okc trivial (sv_okt (sv_okt hO))) hlen)
  | lor =>
    have e1 : n = 1 := by simpa [sv_len] using hn
    subst e1
    replace h := sv_pL_of h
    obtain ⟨y, S1, rfl, h⟩ := h
    replace h := sv_pL_of h
    obtain ⟨x, S2, rfl, h⟩ := h
    intro H locs ls hP hS hL hO hlen
    exact lv_lor hx hb hd (hK _ _ _ _ h H locs ls hP hS hL (sv_okc trivial (sv_okt (sv_okt hO))) hlen)
  | lxor =>
    have e1 : n = 1 := by simpa [sv_len] using hn
    subst e1
    replace h := sv_pL_of h
    obtain ⟨y, S1, rfl, h⟩ := h
    replace h := sv_pL_of h
    obtain ⟨x, S2, rfl, h⟩ := h
    intro H locs ls hP hS hL hO hlen
    exact lv_lxor hx hb hd (hK _ _ _ _ h H locs ls hP hS hL (sv_okc trivial (sv_okt (sv_okt hO))) hlen)
  | idiv =>
    have e1 : n = 1 := by simpa [sv_len] using hn
    subst e1
    replace h := sv_pI_of h
    obtain ⟨y, S1, rfl, h⟩ := h
    replace h := sv_pI_of h
    obtain ⟨x, S2, rfl, h⟩ := h
    intro H locs ls hP hS hL hO hlen
    exact lv_idiv hx hb hd h.1 (hK _ _ _ _ h.2 H locs ls hP hS hL (sv_okc trivial (sv_okt (sv_okt hO))) hlen)
  | irem =>
    have e1 : n = 1 := by simpa [sv_len] using hn
    subst e1
    replace h := sv_pI_of h
    obtain ⟨y, S1, rfl, h⟩ := h
    replace h := sv_pI_of h
    obtain ⟨x, S2, rfl, h⟩ := h
    intro H locs ls hP hS hL hO hlen
    exact lv_irem hx hb hd h.1 (hK _ _ _ _ h.2 H locs ls hP hS hL (sv_okc trivial (sv_okt (sv_okt hO))) hlen)
  | iushr =>
    have e1 : n = 1 := by simpa [sv_len] using hn
    subst e1
    replace h := sv_pI_of h
    obtain ⟨y, S1, rfl, h⟩ := h
    replace h := sv_pI_of h
    obtain ⟨x, S2, rfl, h⟩ := h
    intro H locs ls hP hS hL hO hlen
    exact lv_iushr hx hb hd rfl (hK _ _ _ _ h H locs ls hP hS hL (sv_okc trivial (sv_okt (sv_okt hO))) hlen)
  | lshl =>
    have e1 : n = 1 := by simpa [sv_len] using hn
    subst e1
    replace h := sv_pI_of h
    obtain ⟨y, S1, rfl, h⟩ := h
    replace h := sv_pL_of h
    obtain ⟨x, S2, rfl, h⟩ := h
    intro H locs ls hP hS hL hO hlen
    exact lv_lshl hx hb hd rfl (hK _ _ _ _ h H locs ls hP hS hL (sv_okc trivial (sv_okt (sv_okt hO))) hlen)
  | lcmp =>
    have e1 : n = 1 := by simpa [sv_len] using hn
    subst e1
    replace h := sv_pL_of h
    obtain ⟨y, S1, rfl, h⟩ := h
    replace h := sv_pL_of h
    obtain ⟨x, S2, rfl, h⟩ := h
    intro H locs ls hP hS hL hO hlen
    exact W.lcmp hx hb hd (hK _ _ _ _ h H locs ls hP hS hL (sv_okc trivial (sv_okt (sv_okt hO))) hlen)
  | dup =>
    have e1 : n = 1 := by simpa [sv_len] using hn
    subst e1
    cases S with
    | nil => exact False.elim h
    | cons v S1 =>
      replace h := sv_ch_of h
      obtain ⟨hc, h⟩ := h
      intro H locs ls hP hS hL hO hlen
      exact lv_dup hx hb hd (by rw [sv_val_cat]; exact Nat.eq_of_beq_eq_true hc) (hK _ _ _ _ h H locs ls hP hS hL (sv_okc (hO _ List.mem_cons_self) hO) hlen)
  | pop =>
    have e1 : n = 1 := by simpa [sv_len] using hn
    subst e1
    cases S with
    | nil => exact False.elim h
    | cons v S1 =>
      replace h := sv_ch_of h
      obtain ⟨hc, h⟩ := h
      intro H locs ls hP hS hL hO hlen
      exact lv_pop hx hb hd (by rw [sv_val_cat]; exact Nat.eq_of_beq_eq_true hc) (hK _ _ _ _ h H locs ls hP hS hL (sv_okt hO) hlen)
  | ifCond q o =>
    have e1 : n = 3 := by simpa [sv_len] using hn
    subst e1
    replace h := sv_pI_of h
    obtain ⟨x, S1, rfl, h⟩ := h
    replace h := sv_jp_of h
    obtain ⟨t, ht, h⟩ := h
    intro H locs ls hP hS hL hO hlen
    have A1 : ∀ {t : Nat}, K t L S1 σ → _ := fun {t} k => hK t L S1 σ k H locs ls hP hS hL (sv_okt hO) hlen
    cases q with
    | eq => exact lv_if_eq hx hb hd ht (fun z => A1 (h.1 z)) (fun z => A1 (h.2 z))
    | ne => exact lv_if_ne hx hb hd ht (fun z => A1 (h.1 z)) (fun z => A1 (h.2 z))
    | lt => exact lv_if_lt hx hb hd ht (fun z => A1 (h.1 z)) (fun z => A1 (h.2 z))
    | ge => exact lv_if_ge hx hb hd ht (fun z => A1 (h.1 z)) (fun z => A1 (h.2 z))
    | gt => exact lv_if_gt hx hb hd ht (fun z => A1 (h.1 z)) (fun z => A1 (h.2 z))
    | le => exact lv_if_le hx hb hd ht (fun z => A1 (h.1 z)) (fun z => A1 (h.2 z))
  | if_icmp q o =>
    have e1 : n = 3 := by simpa [sv_len] using hn
    subst e1
    replace h := sv_pI_of h
    obtain ⟨y, S1, rfl, h⟩ := h
    replace h := sv_pI_of h
    obtain ⟨x, S2, rfl, h⟩ := h
    replace h := sv_jp_of h
    obtain ⟨t, ht, h⟩ := h
    intro H locs ls hP hS hL hO hlen
    have A1 : ∀ {t : Nat}, K t L S2 σ → _ := fun {t} k => hK t L S2 σ k H locs ls hP hS hL (sv_okt (sv_okt hO)) hlen
    cases q with
    | eq => exact lv_icmp_eq hx hb hd ht (fun z => A1 (h.1 z)) (fun z => A1 (h.2 z))
    | ne => exact lv_icmp_ne hx hb hd ht (fun z => A1 (h.1 z)) (fun z => A1 (h.2 z))
    | lt => exact lv_icmp_lt hx hb hd ht (fun z => A1 (h.1 z)) (fun z => A1 (h.2 z))
    | ge => exact lv_icmp_ge hx hb hd ht (fun z => A1 (h.1 z)) (fun z => A1 (h.2 z))
    | gt => exact lv_icmp_gt hx hb hd ht (fun z => A1 (h.1 z)) (fun z => A1 (h.2 z))
    | le => exact lv_icmp_le hx hb hd ht (fun z => A1 (h.1 z)) (fun z => A1 (h.2 z))
  | goto o =>
    have e1 : n = 3 := by simpa [sv_len] using hn
    subst e1
    replace h := sv_jp_of h
    obtain ⟨t, ht, h⟩ := h
    intro H locs ls hP hS hL hO hlen
    exact lv_goto hx hb hd ht (hK _ _ _ _ h H locs ls hP hS hL hO hlen)
  | tableswitch d lo' hi os =>
    replace h := sv_pI_of h
    obtain ⟨x, S1, rfl, h⟩ := h
    obtain ⟨h1, h2, h3⟩ := h
    intro H locs ls hP hS hL hO hlen
    by_cases ho : x.toInt < lo' ∨ hi < x.toInt
    · obtain ⟨t, ht, k⟩ := sv_jp_of (h1 ho)
      exact lv_tableOut hx hb hd ho ht (hK _ _ _ _ k H locs ls hP hS hL (sv_okt hO) hlen)
    · have ha : ¬ x.toInt < lo' := fun z => ho (Or.inl z)
      have hb2 : ¬ hi < x.toInt := fun z => ho (Or.inr z)
      have hlt : (x.toInt - lo').toNat < os.toList.length := by omega
      have hget : os.toList[(x.toInt - lo').toNat]? = some (os.toList[(x.toInt - lo').toNat]) := List.getElem?_eq_getElem hlt
      obtain ⟨t, ht, k⟩ := sv_jp_of (sv_sw_of os.toList lo' (x.toInt - lo').toNat _ h3 hget (by omega))
      exact lv_tableIn hx hb hd ha hb2 (by rw [← Array.getElem?_toList]; exact hget) ht (hK _ _ _ _ k H locs ls hP hS hL (sv_okt hO) hlen)
  | getfield q =>
    have e1 : n = 3 := by simpa [sv_len] using hn
    subst e1
    replace h := sv_pR_of h
    obtain ⟨g, j, S1, rfl, h⟩ := h
    replace h := sv_ex_of h
    obtain ⟨f, hf, h⟩ := h
    replace h := sv_ch_of h
    obtain ⟨hb1, h⟩ := h
    simp only [Bool.and_eq_true] at hb1
    obtain ⟨⟨hg, hj⟩, hgs⟩ := hb1
    have hg := Nat.eq_of_beq_eq_true hg
    have hj := Nat.eq_of_beq_eq_true hj
    subst hj
    have hgs := sv_in_mem _ _ hgs
    obtain ⟨h6, hk, hw⟩ := hTf _ (sv_l3_mem _ _ _ hf)
    obtain ⟨f1, f2⟩ := f
    dsimp only at hg h6 hk hw h
    subst hg
    obtain ⟨C, Tt, N, ty0, c1, c2, c3, c4, -⟩ := hcl f1 h6
    intro H locs ls hP hS hL hO hlen
    obtain ⟨k, hXk, hwk⟩ := sv_wl_at (hXG.2 f1 hgs 0 (hO _ List.mem_cons_self))
    have hw2 : Cond.fieldLink own q (Tt f2).1 (Tt f2).2.1 (Tt f2).2.2.1 ∈ sv_tb := by
      unfold sv_flw at hw
      rw [c1] at hw
      exact hw
    refine va_get (v := sv_fv (sv_ad G) σ f1 f2) (fs := (List.range (sv_ln f1)).map (sv_fv (sv_ad G) σ f1)) hx hb hts c4 hown hKK hP k (by rw [hwk σ, sv_cell_obj c3]) c1 f2 (by rw [c2]; exact hk) (hts _ hw2) (fun _ z => z) (sv_fs_get hk) hd ?_
    rw [← sv_fa_val]
    exact hK _ _ _ _ h H locs ls hP hS hL (sv_okc (sv_fa_ok sv_fk_ct σ h6 hk) (sv_okt hO)) hlen
  | getstatic q =>
    have e1 : n = 3 := by simpa [sv_len] using hn
    subst e1
    replace h := sv_ex_of h
    obtain ⟨g, hg, h⟩ := h
    obtain ⟨C, nm, h1, h2⟩ := hTs _ (sv_l3_mem _ _ _ hg)
    dsimp only at h1 h2
    intro H locs ls hP hS hL hO hlen
    have hZ := (hst _ h1).1
    have hok : sv_ok (.inr (.inr (g, 0))) := sv_sts_ok _ h1
    rcases h2 with h2 | ⟨hh, h2⟩
    · exact va_gets hx hb hZ hS hown (hts _ h2) (fun _ z => z) hd (hK _ _ _ _ h H locs ls hP hS hL (sv_okc hok hO) hlen)
    · exact va_getsN hx hb hZ hS hown (va_Nw.use rfl (hnw.2 _ h2)) (fun _ z => z) hd (hK _ _ _ _ h H locs ls hP hS hL (sv_okc hok hO) hlen)
  | arraylength =>
    have e1 : n = 1 := by simpa [sv_len] using hn
    subst e1
    replace h := sv_pR_of h
    obtain ⟨g, j, S1, rfl, h⟩ := h
    replace h := sv_ch_of h
    obtain ⟨hb1, h⟩ := h
    simp only [Bool.and_eq_true] at hb1
    have hk1 := Nat.eq_of_beq_eq_true hb1.1
    have hgs := sv_in_mem _ _ hb1.2
    intro H locs ls hP hS hL hO hlen
    obtain ⟨k, hXk, hwk⟩ := sv_wl_at (hXG.2 g hgs j (hO _ List.mem_cons_self))
    exact va_alen hx hb hKK hP k 0 (x := (sv_ln g, .inl (sv_gA σ g j))) (by rw [hwk σ, sv_cell_arr hk1]) (ty := .int) rfl rfl hd (hK _ _ _ _ h H locs ls hP hS hL (sv_okc trivial (sv_okt hO)) hlen)
  | iaload =>
    have e1 : n = 1 := by simpa [sv_len] using hn
    subst e1
    replace h := sv_pI_of h
    obtain ⟨j, S1, rfl, h⟩ := h
    replace h := sv_pR_of h
    obtain ⟨g, i, S2, rfl, h⟩ := h
    intro H locs ls hP hS hL hO hlen
    replace h := sv_arr_of h
    rcases h with ⟨_, h⟩ | ⟨hk1, h⟩ | ⟨_, h⟩ | ⟨hk3, h⟩
    · exact h.elim
    · replace h := sv_ch_of h
      obtain ⟨hgs, hin, h⟩ := h
      have hgs := sv_in_mem _ _ hgs
      obtain ⟨k, hXk, hwk⟩ := sv_wl_at (hXG.2 g hgs i (hO _ (List.mem_cons_of_mem _ List.mem_cons_self)))
      exact va_iald hx hb hKK hP k 0 (by rw [hwk σ, sv_cell_arr hk1]) rfl hin hd (hK _ _ _ _ h H locs ls hP hS hL (sv_okc trivial (sv_okt (sv_okt hO))) hlen)
    · exact h.elim
    · replace h := sv_ch_of h
      obtain ⟨hj, hin, h⟩ := h
      have hj := Nat.eq_of_beq_eq_true hj
      subst hj
      obtain ⟨q, hq, rfl⟩ := sv_kd3 g hk3
      exact va_ti hx hb (hst q hq).2 hS hin rfl hd (hK _ _ _ _ h H locs ls hP hS hL (sv_okc trivial (sv_okt (sv_okt hO))) hlen)
  | aaload =>
    have e1 : n = 1 := by simpa [sv_len] using hn
    subst e1
    replace h := sv_pI_of h
    obtain ⟨j, S1, rfl, h⟩ := h
    replace h := sv_pR_of h
    obtain ⟨g, i, S2, rfl, h⟩ := h
    intro H locs ls hP hS hL hO hlen
    replace h := sv_arr_of h
    rcases h with ⟨_, h⟩ | ⟨_, h⟩ | ⟨hk2, h⟩ | ⟨_, h⟩
    · exact h.elim
    · exact h.elim
    · replace h := sv_ch_of h
      obtain ⟨hb1, hin, h⟩ := h
      simp only [Bool.and_eq_true] at hb1
      have hgs := sv_in_mem _ _ hb1.1
      have hlc := Nat.eq_of_beq_eq_true hb1.2
      have hlt : j.toNatClampNeg < sv_ln g := Nat.not_le.mp fun q => hin (Or.inr q)
      obtain ⟨k, hXk, hwk⟩ := sv_wl_at (hXG.2 g hgs i (hO _ (List.mem_cons_of_mem _ List.mem_cons_self)))
      have hcell := hP k _ ((hwk σ).trans (by rw [sv_cell_ref hk2]))
      refine W.aald (v := .ref (sv_ad G (sv_rw g) j.toNatClampNeg)) (ty := .array .int) hx hb hcell ((hKK.2 1 _ rfl).1 (sv_ln g) (fun j => va_rf (if j < sv_ln g then some (sv_ad G (sv_rw g) j) else none))) rfl (fun q => by cases q) (by show ¬ (j < 0 ∨ (arrV _ _ _).slots.size ≤ _); rw [arrV_size]; exact hin) (by show (arrV _ _ _).slots[_]? = _; rw [arrV_read _ _ hlt]; show some (va_rf (if _ then _ else _)) = _; rw [if_pos hlt]; rfl) rfl rfl hd ?_
      exact hK _ _ _ _ h H locs ls hP hS hL (sv_okc (by show _ < sv_ct _; rw [← hlc]; exact hlt) (sv_okt (sv_okt hO))) hlen
    · exact h.elim
  | iastore =>
    have e1 : n = 1 := by simpa [sv_len] using hn
    subst e1
    replace h := sv_pI_of h
    obtain ⟨v, S0, rfl, h⟩ := h
    replace h := sv_pI_of h
    obtain ⟨j, S1, rfl, h⟩ := h
    replace h := sv_pR_of h
    obtain ⟨g, i, S2, rfl, h⟩ := h
    intro H locs ls hP hS hL hO hlen
    replace h := sv_arr_of h
    rcases h with ⟨_, h⟩ | ⟨hk1, h⟩ | ⟨_, h⟩ | ⟨_, h⟩
    · exact h.elim
    · replace h := sv_ch_of h
      obtain ⟨hgs, hin, h⟩ := h
      have hgs := sv_in_mem _ _ hgs
      obtain ⟨k, hXk, hwk⟩ := sv_wl_at (hXG.2 g hgs i (hO _ (List.mem_cons_of_mem _ (List.mem_cons_of_mem _ List.mem_cons_self))))
      refine va_iast hx hb hKK hP (hD σ) hS k 0 (f := sv_gA σ g i) (by rw [hwk σ, sv_cell_arr hk1]) rfl hin hd fun H1 locs1 hP1 hD1 hS1 => ?_
      have ec : upd (sv_gA σ g i) j.toNatClampNeg v = sv_gA (sv_sA σ g i j.toNatClampNeg v) g i := by
        funext z
        rw [sv_gA_s]
        unfold upd
        simp
      rw [ec, ← sv_cell_arr (G := G) (i := i) hk1, sv_wl_set (hD σ) hXk (fun q hq hne => sv_cell_neA (fun z => by rw [hk1] at z; cases z) hne (fun z => by have := hXG.1 q hq; rw [sv_kd_ct _ z] at this; omega))] at hP1
      exact hK _ _ _ _ h H1 locs1 ls hP1 hS1 hL (sv_okt (sv_okt (sv_okt hO))) hlen
    · exact h.elim
    · exact h.elim
  | putfield q =>
    have e1 : n = 3 := by simpa [sv_len] using hn
    subst e1
    rcases S with _ | ⟨v | v | v, S⟩
    · exact False.elim h
    · replace h := sv_pR_of h
      obtain ⟨g, j, S1, rfl, h⟩ := h
      replace h := sv_ex_of h
      obtain ⟨f, hf, h⟩ := h
      replace h := sv_ch_of h
      obtain ⟨hb1, h⟩ := h
      simp only [Bool.and_eq_true] at hb1
      obtain ⟨⟨hg, hj⟩, hgs⟩ := hb1
      have hg := Nat.eq_of_beq_eq_true hg
      have hj := Nat.eq_of_beq_eq_true hj
      subst hj
      have hgs := sv_in_mem _ _ hgs
      obtain ⟨h6, hk, hw⟩ := hTf _ (sv_l3_mem _ _ _ hf)
      obtain ⟨f1, f2⟩ := f
      dsimp only at hg h6 hk hw h
      subst hg
      obtain ⟨C, Tt, N, ty0, c1, c2, c3, c4, c5, c6, c7, c8, c9⟩ := hcl f1 h6
      intro H locs ls hP hS hL hO hlen
      obtain ⟨k, hXk, hwk⟩ := sv_wl_at (hXG.2 f1 hgs 0 (hO _ (List.mem_cons_of_mem _ List.mem_cons_self)))
      have hw2 : Cond.fieldLink own q (Tt f2).1 (Tt f2).2.1 (Tt f2).2.2.1 ∈ sv_tb := by
        unfold sv_flw at hw
        rw [c1] at hw
        exact hw
      have hkN : f2 < N := by rw [c2]; exact hk
      have hl : f2 < ((List.range (sv_ln f1)).map (sv_fv (sv_ad G) σ f1)).length := by rw [List.length_map, List.length_range]; exact hk
      have fin : ∀ (hfk : sv_fk f1 f2 = 0 ∨ sv_fk f1 f2 = 2) (ty : FieldType) (hfi : (Tt f2).2.2.2 = false) (hty : ty0 f2 = ty) (hna : narrow ty (.int v) = .int v) (hfi2 : fits ty (.int v) = true), K (pc + 3) L S1 (sv_sA σ f1 0 f2 v) → W p l e { frames := fr, cells := cs, slots := sl, locals := lo } s m args below meth c H locs cs sl (MQ below (sv_Q G Kr) args s cs sl (sv_A G)) (F0 m pc ls ((.inl v :: .inr (.inr (f1, 0)) :: S1 : List sv_AV).map (sv_val (sv_ad G)))) := by
        intro hfk ty hfi hty hna hfi2 hk9
        refine va_put (v := .int v) (fs := (List.range (sv_ln f1)).map (sv_fv (sv_ad G) σ f1)) hx hb hts c4 ty0 c5 c6 hown hKK hP (hD σ) hS k (by rw [hwk σ, sv_cell_obj c3]) c1 f2 hkN (hts _ hw2) (fun _ z => z) hfi (by rw [c5 f2 hkN, hty]) hna hfi2 hl hd fun H1 locs1 hP1 hD1 hS1 => ?_
        rw [sv_fs_setA hk hfk, ← sv_cell_obj (G := G) (i := 0) c3, sv_wl_set (hD σ) hXk (fun q hq hne => sv_cell_neA (fun _ => rfl) hne (fun z => by have := hXG.1 q hq; rw [sv_kd_ct _ z] at this; omega))] at hP1
        exact hK _ _ _ _ hk9 H1 locs1 ls hP1 hS1 hL (sv_okt (sv_okt hO)) hlen
      unfold sv_pf at h
      split at h
      · rename_i e0
        exact fin (Or.inl e0) .int (c7 f2 hkN e0).2 (c7 f2 hkN e0).1 rfl rfl h
      · rename_i e0
        exact fin (Or.inr e0) .boolean (c9 f2 hkN e0).2 (c9 f2 hkN e0).1 h.1.1 h.1.2 h.2
      · exact h.elim
    · replace h := sv_pR_of h
      obtain ⟨g, j, S1, rfl, h⟩ := h
      replace h := sv_ex_of h
      obtain ⟨f, hf, h⟩ := h
      replace h := sv_ch_of h
      obtain ⟨hb1, h⟩ := h
      simp only [Bool.and_eq_true] at hb1
      obtain ⟨⟨⟨hg, hj⟩, hgs⟩, hfk⟩ := hb1
      have hg := Nat.eq_of_beq_eq_true hg
      have hj := Nat.eq_of_beq_eq_true hj
      have hfk := Nat.eq_of_beq_eq_true hfk
      subst hj
      have hgs := sv_in_mem _ _ hgs
      obtain ⟨h6, hk, hw⟩ := hTf _ (sv_l3_mem _ _ _ hf)
      obtain ⟨f1, f2⟩ := f
      dsimp only at hg h6 hk hw h hfk
      subst hg
      obtain ⟨C, Tt, N, ty0, c1, c2, c3, c4, c5, c6, c7, c8, c9⟩ := hcl f1 h6
      intro H locs ls hP hS hL hO hlen
      obtain ⟨k, hXk, hwk⟩ := sv_wl_at (hXG.2 f1 hgs 0 (hO _ (List.mem_cons_of_mem _ List.mem_cons_self)))
      have hw2 : Cond.fieldLink own q (Tt f2).1 (Tt f2).2.1 (Tt f2).2.2.1 ∈ sv_tb := by
        unfold sv_flw at hw
        rw [c1] at hw
        exact hw
      have hkN : f2 < N := by rw [c2]; exact hk
      have hl : f2 < ((List.range (sv_ln f1)).map (sv_fv (sv_ad G) σ f1)).length := by rw [List.length_map, List.length_range]; exact hk
      refine va_put (v := .long v) (fs := (List.range (sv_ln f1)).map (sv_fv (sv_ad G) σ f1)) hx hb hts c4 ty0 c5 c6 hown hKK hP (hD σ) hS k (by rw [hwk σ, sv_cell_obj c3]) c1 f2 hkN (hts _ hw2) (fun _ z => z) (c8 f2 hkN hfk).2 (by rw [c5 f2 hkN, (c8 f2 hkN hfk).1]) rfl rfl hl hd fun H1 locs1 hP1 hD1 hS1 => ?_
      rw [sv_fs_setJ hk hfk, ← sv_cell_obj (G := G) (i := 0) c3, sv_wl_set (hD σ) hXk (fun q hq hne => sv_cell_neJ (fun z => hne ⟨z, by have := hXG.1 q hq; rw [z, sv_kd_ct _ c3] at this; omega⟩))] at hP1
      exact hK _ _ _ _ h H1 locs1 ls hP1 hS1 hL (sv_okt (sv_okt hO)) hlen
    · exact False.elim h
  | invokevirtual q =>
    have e1 : n = 3 := by simpa [sv_len] using hn
    subst e1
    replace h := sv_ex_of h
    obtain ⟨f, hf, h⟩ := h
    replace h := sv_ex_of h
    obtain ⟨z, hz, h⟩ := h
    replace h := sv_ch_of h
    obtain ⟨hb1, h⟩ := h
    simp only [Bool.and_eq_true] at hb1
    obtain ⟨⟨⟨hrc, hcs⟩, hgs⟩, h90⟩ := hb1
    obtain ⟨av, rest⟩ := z
    obtain ⟨as, ha⟩ := sv_rc_of hrc
    dsimp only at ha h hcs
    subst ha
    obtain ⟨h1, h2⟩ := sv_av_of _ _ _ _ _ hz
    have h1 : S = as.reverse ++ .inr (.inr (f.2.1, 0)) :: rest := by
      have := h1
      simpa using this
    subst h1
    refine (hTm _ (sv_l3_mem _ _ _ hf)).1 (Nat.le_of_ble_eq_true h90) p e s m args below meth c cc ret G Kr cs sl ⟨hx, hb, hr, hlocks, hown, hts, hKK, hD, hst, hnw, hXG⟩ pc L as rest σ _ hd (by simpa using h2) (sv_in_mem _ _ hgs) (Nat.le_of_ble_eq_true hcs) h ?_
    intro r σ' hk
    exact hK _ _ _ _ hk
  | invokestatic q =>
    have e1 : n = 3 := by simpa [sv_len] using hn
    subst e1
    replace h := sv_ex_of h
    obtain ⟨f, hf, h⟩ := h
    replace h := sv_ex_of h
    obtain ⟨z, hz, h⟩ := h
    replace h := sv_ch_of h
    obtain ⟨hb1, h⟩ := h
    simp only [Bool.and_eq_true] at hb1
    obtain ⟨hcs, h90⟩ := hb1
    obtain ⟨av, rest⟩ := z
    dsimp only at h hcs
    obtain ⟨h1, h2⟩ := sv_av_of _ _ _ _ _ hz
    have h1 : S = av.reverse ++ rest := by
      have := h1
      simpa using this
    subst h1
    refine (hTm _ (sv_l3_mem _ _ _ hf)).2 (Nat.le_of_ble_eq_true h90) p e s m args below meth c cc ret G Kr cs sl ⟨hx, hb, hr, hlocks, hown, hts, hKK, hD, hst, hnw, hXG⟩ pc L av rest σ _ hd (by simpa using h2) (Nat.le_of_ble_eq_true hcs) h ?_
    intro r σ' hk
    exact hK _ _ _ _ hk
  | ireturn =>
    have e1 : n = 1 := by simpa [sv_len] using hn
    subst e1
    replace h := sv_pI_of h
    obtain ⟨v, S1, rfl, h⟩ := h
    replace h := sv_al_of h
    obtain ⟨rfl, h⟩ := h
    intro H locs ls hP hS hL hO hlen
    have hq : ∀ k : Kr (some (.inl v)) σ, ∀ t : State, t.heap = H → s.WarmedH t.vm → sv_Q G Kr args s (.returned (some (.int v))) t := fun k t ht hW =>
      ⟨⟨some (.inl v), σ, rfl, trivial, k, sv_WD_at hKK hst hnw (hD σ) (by rw [ht]; exact hP) (by rw [ht]; exact hS) hW⟩, hS.F ht⟩
    unfold sv_rt at h
    split at h
    · exact W.iret hx hb hr (hq h) hS.2.2 hd hlocks
    · exact W.zret hx hb hr h.1 (hq h.2) hS.2.2 hd hlocks
    · exact h.elim
  | lreturn =>
    have e1 : n = 1 := by simpa [sv_len] using hn
    subst e1
    replace h := sv_pL_of h
    obtain ⟨v, S1, rfl, h⟩ := h
    replace h := sv_al_of h
    obtain ⟨rfl, h⟩ := h
    intro H locs ls hP hS hL hO hlen
    exact W.lret hx hb (hr.trans h.1) (fun t ht hW => ⟨⟨some (.inr (.inl v)), σ, rfl, trivial, h.2, sv_WD_at hKK hst hnw (hD σ) (by rw [ht]; exact hP) (by rw [ht]; exact hS) hW⟩, hS.F ht⟩) hS.2.2 hd hlocks
  | return_ =>
    have e1 : n = 1 := by simpa [sv_len] using hn
    subst e1
    replace h := sv_al_of h
    obtain ⟨rfl, h⟩ := h
    intro H locs ls hP hS hL hO hlen
    exact W.vret hx hb (hr.trans h.1) (fun t ht hW => ⟨⟨none, σ, rfl, trivial, h.2, sv_WD_at hKK hst hnw (hD σ) (by rw [ht]; exact hP) (by rw [ht]; exact hS) hW⟩, hS.F ht⟩) hS.2.2 hd hlocks
  | _ => exact False.elim h
end SI
