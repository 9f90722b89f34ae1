abbrev sv_all : List Nat := [0, 1, 2, 3, 4, 5, 6, 7, 8, 9, 10, 11, 12, 13, 14, 15, 16, 17, 18, 19, 20, 21, 22, 23, 24, 25, 26, 27, 28, 29, 30, 31, 32, 33, 34, 35, 36, 37, 38, 39, 40, 41, 42]
set_option maxRecDepth 100000 in
theorem sv_u0 : ∀ w ∈ u_ws RX0 TX0 9, w ∈ sv_tb := sv_mems [169, 171, 173, 175, 177, 179, 181, 183, 185] (by decide +kernel) (by decide +kernel)
set_option maxRecDepth 100000 in
theorem sv_clok0 : sv_clok 0 := ⟨RX0, TX0, 9, tyX0, rfl, rfl, rfl, sv_u0, tyX0_ok, nmX0, by decide +kernel, by decide +kernel, by decide +kernel⟩
set_option maxRecDepth 100000 in
theorem sv_u1 : ∀ w ∈ u_ws RX1 TX1 4, w ∈ sv_tb := sv_mems [137, 139, 141, 143] (by decide +kernel) (by decide +kernel)
set_option maxRecDepth 100000 in
theorem sv_clok1 : sv_clok 1 := ⟨RX1, TX1, 4, tyX1, rfl, rfl, rfl, sv_u1, tyX1_ok, nmX1, by decide +kernel, by decide +kernel, by decide +kernel⟩
set_option maxRecDepth 100000 in
theorem sv_u2 : ∀ w ∈ u_ws RX2 TX2 9, w ∈ sv_tb := sv_mems [103, 105, 107, 109, 111, 113, 115, 117, 119] (by decide +kernel) (by decide +kernel)
set_option maxRecDepth 100000 in
theorem sv_clok2 : sv_clok 2 := ⟨RX2, TX2, 9, tyX2, rfl, rfl, rfl, sv_u2, tyX2_ok, nmX2, by decide +kernel, by decide +kernel, by decide +kernel⟩
set_option maxRecDepth 100000 in
theorem sv_u3 : ∀ w ∈ u_ws RX3 TX3 6, w ∈ sv_tb := sv_mems [202, 204, 206, 208, 210, 212] (by decide +kernel) (by decide +kernel)
set_option maxRecDepth 100000 in
theorem sv_clok3 : sv_clok 3 := ⟨RX3, TX3, 6, tyX3, rfl, rfl, rfl, sv_u3, tyX3_ok, nmX3, by decide +kernel, by decide +kernel, by decide +kernel⟩
set_option maxRecDepth 100000 in
theorem sv_u4 : ∀ w ∈ u_ws RX4 TX4 4, w ∈ sv_tb := sv_mems [219, 221, 223, 225] (by decide +kernel) (by decide +kernel)
set_option maxRecDepth 100000 in
theorem sv_clok4 : sv_clok 4 := ⟨RX4, TX4, 4, tyX4, rfl, rfl, rfl, sv_u4, tyX4_ok, nmX4, by decide +kernel, by decide +kernel, by decide +kernel⟩
set_option maxRecDepth 100000 in
theorem sv_u5 : ∀ w ∈ u_ws RX5 TX5 16, w ∈ sv_tb := sv_mems [583, 585, 587, 589, 591, 593, 595, 597, 599, 601, 603, 605, 607, 609, 611, 613] (by decide +kernel) (by decide +kernel)
set_option maxRecDepth 100000 in
theorem sv_clok5 : sv_clok 5 := ⟨RX5, TX5, 16, tyX5, rfl, rfl, rfl, sv_u5, tyX5_ok, nmX5, by decide +kernel, by decide +kernel, by decide +kernel⟩
theorem sv_clok_all : ∀ g, g < 6 → sv_clok g
  | 0, _ => sv_clok0
  | 1, _ => sv_clok1
  | 2, _ => sv_clok2
  | 3, _ => sv_clok3
  | 4, _ => sv_clok4
  | 5, _ => sv_clok5
  | n + 6, h => absurd h (by omega)
def flX0 : List (Nat × (Nat × Nat)) := [(11, (0, 1)), (15, (0, 2)), (21, (0, 3)), (24, (0, 4)), (27, (0, 5)), (30, (0, 6)), (33, (0, 7)), (36, (0, 8)), (39, (0, 0)), (80, (2, 0)), (90, (2, 8)), (93, (2, 2)), (114, (2, 1)), (125, (2, 4)), (128, (2, 3))]
set_option maxRecDepth 100000 in
theorem flokX0 : ∀ q ∈ flX0, q.2.1 < 6 ∧ q.2.2 < sv_ln q.2.1 ∧ sv_flw RX0 q ∈ sv_tb := by
  have h := sv_mems (ws := flX0.map (sv_flw RX0)) [161, 162, 163, 164, 165, 166, 167, 168, 160, 79, 102, 85, 83, 92, 89] (by decide +kernel) (by decide +kernel)
  have h2 : ∀ q ∈ flX0, q.2.1 < 6 ∧ q.2.2 < sv_ln q.2.1 := by decide +kernel
  exact fun q hq => ⟨(h2 q hq).1, (h2 q hq).2, h _ (List.mem_map.mpr ⟨q, hq, rfl⟩)⟩
def sfX0 : List (Nat × Nat) := [(107, 44)]
theorem sfokX0 : ∀ q ∈ sfX0, ∃ C n, (C, n, q.2) ∈ sv_sts ∧ (Cond.fieldLink RX0 q.1 C n "[I" ∈ sv_tb ∨ ∃ h, (RX0, q.1, C, n, "[I", h) ∈ sv_nF) := List.forall_mem_cons.mpr ⟨⟨_, _, List.mem_of_getElem? (i := 1) rfl, Or.inl (sv_mem 383 (by decide +kernel) rfl)⟩, fun _ h => absurd h List.not_mem_nil⟩
def kcX0 : List (Nat × Int32) := [(121, 1000000000)]
theorem kcokX0 : ∀ q ∈ kcX0, Cond.constant RX0 q.1 q.2 ∈ sv_tb := List.forall_mem_cons.mpr ⟨sv_mem 389 (by decide +kernel) rfl, fun _ h => absurd h List.not_mem_nil⟩
def klX0 : List (Nat × Int64) := []
theorem klokX0 : ∀ q ∈ klX0, Cond.constantLong RX0 q.1 q.2 ∈ sv_tb := fun _ h => absurd h List.not_mem_nil
def flX1 : List (Nat × (Nat × Nat)) := [(9, (1, 1)), (15, (1, 2)), (18, (1, 3)), (21, (1, 0)), (25, (2, 0)), (31, (2, 8))]
set_option maxRecDepth 100000 in
theorem flokX1 : ∀ q ∈ flX1, q.2.1 < 6 ∧ q.2.2 < sv_ln q.2.1 ∧ sv_flw RX1 q ∈ sv_tb := by
  have h := sv_mems (ws := flX1.map (sv_flw RX1)) [130, 133, 135, 129, 77, 101] (by decide +kernel) (by decide +kernel)
  have h2 : ∀ q ∈ flX1, q.2.1 < 6 ∧ q.2.2 < sv_ln q.2.1 := by decide +kernel
  exact fun q hq => ⟨(h2 q hq).1, (h2 q hq).2, h _ (List.mem_map.mpr ⟨q, hq, rfl⟩)⟩
def sfX1 : List (Nat × Nat) := []
theorem sfokX1 : ∀ q ∈ sfX1, ∃ C n, (C, n, q.2) ∈ sv_sts ∧ (Cond.fieldLink RX1 q.1 C n "[I" ∈ sv_tb ∨ ∃ h, (RX1, q.1, C, n, "[I", h) ∈ sv_nF) := fun _ h => absurd h List.not_mem_nil
def kcX1 : List (Nat × Int32) := []
theorem kcokX1 : ∀ q ∈ kcX1, Cond.constant RX1 q.1 q.2 ∈ sv_tb := fun _ h => absurd h List.not_mem_nil
def klX1 : List (Nat × Int64) := []
theorem klokX1 : ∀ q ∈ klX1, Cond.constantLong RX1 q.1 q.2 ∈ sv_tb := fun _ h => absurd h List.not_mem_nil
def flX2 : List (Nat × (Nat × Nat)) := [(9, (2, 3)), (17, (2, 4)), (20, (2, 5)), (23, (2, 6)), (26, (2, 7)), (29, (2, 8)), (32, (2, 0)), (40, (2, 1)), (51, (2, 2))]
set_option maxRecDepth 100000 in
theorem flokX2 : ∀ q ∈ flX2, q.2.1 < 6 ∧ q.2.2 < sv_ln q.2.1 ∧ sv_flw RX2 q ∈ sv_tb := by
  have h := sv_mems (ws := flX2.map (sv_flw RX2)) [86, 90, 93, 96, 98, 100, 76, 80, 84] (by decide +kernel) (by decide +kernel)
  have h2 : ∀ q ∈ flX2, q.2.1 < 6 ∧ q.2.2 < sv_ln q.2.1 := by decide +kernel
  exact fun q hq => ⟨(h2 q hq).1, (h2 q hq).2, h _ (List.mem_map.mpr ⟨q, hq, rfl⟩)⟩
def sfX2 : List (Nat × Nat) := [(58, 43)]
theorem sfokX2 : ∀ q ∈ sfX2, ∃ C n, (C, n, q.2) ∈ sv_sts ∧ (Cond.fieldLink RX2 q.1 C n "[I" ∈ sv_tb ∨ ∃ h, (RX2, q.1, C, n, "[I", h) ∈ sv_nF) := List.forall_mem_cons.mpr ⟨⟨_, _, List.mem_of_getElem? (i := 0) rfl, Or.inr ⟨_, List.mem_of_getElem? (i := 0) rfl⟩⟩, fun _ h => absurd h List.not_mem_nil⟩
def kcX2 : List (Nat × Int32) := []
theorem kcokX2 : ∀ q ∈ kcX2, Cond.constant RX2 q.1 q.2 ∈ sv_tb := fun _ h => absurd h List.not_mem_nil
def klX2 : List (Nat × Int64) := []
theorem klokX2 : ∀ q ∈ klX2, Cond.constantLong RX2 q.1 q.2 ∈ sv_tb := fun _ h => absurd h List.not_mem_nil
def flX3 : List (Nat × (Nat × Nat)) := [(9, (3, 2)), (15, (3, 3)), (18, (3, 0)), (22, (3, 1)), (30, (3, 4)), (34, (3, 5)), (38, (1, 1)), (56, (2, 1)), (66, (2, 5)), (85, (2, 3))]
set_option maxRecDepth 100000 in
theorem flokX3 : ∀ q ∈ flX3, q.2.1 < 6 ∧ q.2.2 < sv_ln q.2.1 ∧ sv_flw RX3 q ∈ sv_tb := by
  have h := sv_mems (ws := flX3.map (sv_flw RX3)) [196, 197, 194, 195, 199, 200, 131, 81, 94, 87] (by decide +kernel) (by decide +kernel)
  have h2 : ∀ q ∈ flX3, q.2.1 < 6 ∧ q.2.2 < sv_ln q.2.1 := by decide +kernel
  exact fun q hq => ⟨(h2 q hq).1, (h2 q hq).2, h _ (List.mem_map.mpr ⟨q, hq, rfl⟩)⟩
def sfX3 : List (Nat × Nat) := [(59, 43)]
theorem sfokX3 : ∀ q ∈ sfX3, ∃ C n, (C, n, q.2) ∈ sv_sts ∧ (Cond.fieldLink RX3 q.1 C n "[I" ∈ sv_tb ∨ ∃ h, (RX3, q.1, C, n, "[I", h) ∈ sv_nF) := List.forall_mem_cons.mpr ⟨⟨_, _, List.mem_of_getElem? (i := 0) rfl, Or.inr ⟨_, List.mem_of_getElem? (i := 1) rfl⟩⟩, fun _ h => absurd h List.not_mem_nil⟩
def kcX3 : List (Nat × Int32) := []
theorem kcokX3 : ∀ q ∈ kcX3, Cond.constant RX3 q.1 q.2 ∈ sv_tb := fun _ h => absurd h List.not_mem_nil
def klX3 : List (Nat × Int64) := [(73, -1)]
theorem klokX3 : ∀ q ∈ klX3, Cond.constantLong RX3 q.1 q.2 ∈ sv_tb := List.forall_mem_cons.mpr ⟨sv_mem 507 (by decide +kernel) rfl, fun _ h => absurd h List.not_mem_nil⟩
def flX4 : List (Nat × (Nat × Nat)) := [(10, (4, 0)), (21, (4, 1)), (28, (4, 2)), (37, (4, 3)), (45, (2, 0)), (53, (1, 1)), (72, (2, 1)), (89, (2, 5)), (99, (2, 3)), (105, (2, 4)), (112, (2, 6)), (115, (2, 7)), (144, (1, 2)), (151, (1, 3)), (173, (3, 3)), (179, (3, 5))]
set_option maxRecDepth 100000 in
theorem flokX4 : ∀ q ∈ flX4, q.2.1 < 6 ∧ q.2.2 < sv_ln q.2.1 ∧ sv_flw RX4 q ∈ sv_tb := by
  have h := sv_mems (ws := flX4.map (sv_flw RX4)) [215, 216, 217, 218, 78, 132, 82, 95, 88, 91, 97, 99, 134, 136, 198, 201] (by decide +kernel) (by decide +kernel)
  have h2 : ∀ q ∈ flX4, q.2.1 < 6 ∧ q.2.2 < sv_ln q.2.1 := by decide +kernel
  exact fun q hq => ⟨(h2 q hq).1, (h2 q hq).2, h _ (List.mem_map.mpr ⟨q, hq, rfl⟩)⟩
def sfX4 : List (Nat × Nat) := []
theorem sfokX4 : ∀ q ∈ sfX4, ∃ C n, (C, n, q.2) ∈ sv_sts ∧ (Cond.fieldLink RX4 q.1 C n "[I" ∈ sv_tb ∨ ∃ h, (RX4, q.1, C, n, "[I", h) ∈ sv_nF) := fun _ h => absurd h List.not_mem_nil
def kcX4 : List (Nat × Int32) := [(160, 9999999)]
theorem kcokX4 : ∀ q ∈ kcX4, Cond.constant RX4 q.1 q.2 ∈ sv_tb := List.forall_mem_cons.mpr ⟨sv_mem 464 (by decide +kernel) rfl, fun _ h => absurd h List.not_mem_nil⟩
def klX4 : List (Nat × Int64) := []
theorem klokX4 : ∀ q ∈ klX4, Cond.constantLong RX4 q.1 q.2 ∈ sv_tb := fun _ h => absurd h List.not_mem_nil
def flX5 : List (Nat × (Nat × Nat)) := [(7, (5, 2)), (13, (5, 3)), (16, (5, 4)), (19, (5, 5)), (22, (5, 6)), (25, (5, 7)), (28, (5, 8)), (31, (5, 9)), (34, (5, 10)), (37, (5, 12)), (40, (5, 13)), (43, (5, 14)), (46, (5, 0)), (54, (5, 1)), (61, (5, 11)), (168, (5, 15))]
set_option maxRecDepth 100000 in
theorem flokX5 : ∀ q ∈ flX5, q.2.1 < 6 ∧ q.2.2 < sv_ln q.2.1 ∧ sv_flw RX5 q ∈ sv_tb := by
  have h := sv_mems (ws := flX5.map (sv_flw RX5)) [569, 570, 571, 572, 573, 574, 575, 576, 577, 579, 580, 581, 567, 568, 578, 582] (by decide +kernel) (by decide +kernel)
  have h2 : ∀ q ∈ flX5, q.2.1 < 6 ∧ q.2.2 < sv_ln q.2.1 := by decide +kernel
  exact fun q hq => ⟨(h2 q hq).1, (h2 q hq).2, h _ (List.mem_map.mpr ⟨q, hq, rfl⟩)⟩
def sfX5 : List (Nat × Nat) := []
theorem sfokX5 : ∀ q ∈ sfX5, ∃ C n, (C, n, q.2) ∈ sv_sts ∧ (Cond.fieldLink RX5 q.1 C n "[I" ∈ sv_tb ∨ ∃ h, (RX5, q.1, C, n, "[I", h) ∈ sv_nF) := fun _ h => absurd h List.not_mem_nil
def kcX5 : List (Nat × Int32) := [(102, 1000000000), (158, 9999999)]
theorem kcokX5 : ∀ q ∈ kcX5, Cond.constant RX5 q.1 q.2 ∈ sv_tb := List.forall_mem_cons.mpr ⟨sv_mem 715 (by decide +kernel) rfl, List.forall_mem_cons.mpr ⟨sv_mem 796 (by decide +kernel) rfl, fun _ h => absurd h List.not_mem_nil⟩⟩
def klX5 : List (Nat × Int64) := []
theorem klokX5 : ∀ q ∈ klX5, Cond.constantLong RX5 q.1 q.2 ∈ sv_tb := fun _ h => absurd h List.not_mem_nil
def flJ6 : List (Nat × (Nat × Nat)) := []
set_option maxRecDepth 100000 in
theorem flokJ6 : ∀ q ∈ flJ6, q.2.1 < 6 ∧ q.2.2 < sv_ln q.2.1 ∧ sv_flw RJ6 q ∈ sv_tb := by
  have h := sv_mems (ws := flJ6.map (sv_flw RJ6)) [] (by decide +kernel) (by decide +kernel)
  have h2 : ∀ q ∈ flJ6, q.2.1 < 6 ∧ q.2.2 < sv_ln q.2.1 := by decide +kernel
  exact fun q hq => ⟨(h2 q hq).1, (h2 q hq).2, h _ (List.mem_map.mpr ⟨q, hq, rfl⟩)⟩
def sfJ6 : List (Nat × Nat) := []
theorem sfokJ6 : ∀ q ∈ sfJ6, ∃ C n, (C, n, q.2) ∈ sv_sts ∧ (Cond.fieldLink RJ6 q.1 C n "[I" ∈ sv_tb ∨ ∃ h, (RJ6, q.1, C, n, "[I", h) ∈ sv_nF) := fun _ h => absurd h List.not_mem_nil
def kcJ6 : List (Nat × Int32) := [(265, 1431655765), (266, 858993459), (267, 252645135)]
theorem kcokJ6 : ∀ q ∈ kcJ6, Cond.constant RJ6 q.1 q.2 ∈ sv_tb := List.forall_mem_cons.mpr ⟨sv_mem 444 (by decide +kernel) rfl, List.forall_mem_cons.mpr ⟨sv_mem 445 (by decide +kernel) rfl, List.forall_mem_cons.mpr ⟨sv_mem 446 (by decide +kernel) rfl, fun _ h => absurd h List.not_mem_nil⟩⟩⟩
def klJ6 : List (Nat × Int64) := []
theorem klokJ6 : ∀ q ∈ klJ6, Cond.constantLong RJ6 q.1 q.2 ∈ sv_tb := fun _ h => absurd h List.not_mem_nil
def flJ9 : List (Nat × (Nat × Nat)) := []
set_option maxRecDepth 100000 in
theorem flokJ9 : ∀ q ∈ flJ9, q.2.1 < 6 ∧ q.2.2 < sv_ln q.2.1 ∧ sv_flw RJ9 q ∈ sv_tb := by
  have h := sv_mems (ws := flJ9.map (sv_flw RJ9)) [] (by decide +kernel) (by decide +kernel)
  have h2 : ∀ q ∈ flJ9, q.2.1 < 6 ∧ q.2.2 < sv_ln q.2.1 := by decide +kernel
  exact fun q hq => ⟨(h2 q hq).1, (h2 q hq).2, h _ (List.mem_map.mpr ⟨q, hq, rfl⟩)⟩
def sfJ9 : List (Nat × Nat) := []
theorem sfokJ9 : ∀ q ∈ sfJ9, ∃ C n, (C, n, q.2) ∈ sv_sts ∧ (Cond.fieldLink RJ9 q.1 C n "[I" ∈ sv_tb ∨ ∃ h, (RJ9, q.1, C, n, "[I", h) ∈ sv_nF) := fun _ h => absurd h List.not_mem_nil
def kcJ9 : List (Nat × Int32) := []
theorem kcokJ9 : ∀ q ∈ kcJ9, Cond.constant RJ9 q.1 q.2 ∈ sv_tb := fun _ h => absurd h List.not_mem_nil
def klJ9 : List (Nat × Int64) := []
theorem klokJ9 : ∀ q ∈ klJ9, Cond.constantLong RJ9 q.1 q.2 ∈ sv_tb := fun _ h => absurd h List.not_mem_nil
def flJ7 : List (Nat × (Nat × Nat)) := []
set_option maxRecDepth 100000 in
theorem flokJ7 : ∀ q ∈ flJ7, q.2.1 < 6 ∧ q.2.2 < sv_ln q.2.1 ∧ sv_flw RJ7 q ∈ sv_tb := by
  have h := sv_mems (ws := flJ7.map (sv_flw RJ7)) [] (by decide +kernel) (by decide +kernel)
  have h2 : ∀ q ∈ flJ7, q.2.1 < 6 ∧ q.2.2 < sv_ln q.2.1 := by decide +kernel
  exact fun q hq => ⟨(h2 q hq).1, (h2 q hq).2, h _ (List.mem_map.mpr ⟨q, hq, rfl⟩)⟩
def sfJ7 : List (Nat × Nat) := []
theorem sfokJ7 : ∀ q ∈ sfJ7, ∃ C n, (C, n, q.2) ∈ sv_sts ∧ (Cond.fieldLink RJ7 q.1 C n "[I" ∈ sv_tb ∨ ∃ h, (RJ7, q.1, C, n, "[I", h) ∈ sv_nF) := fun _ h => absurd h List.not_mem_nil
def kcJ7 : List (Nat × Int32) := []
theorem kcokJ7 : ∀ q ∈ kcJ7, Cond.constant RJ7 q.1 q.2 ∈ sv_tb := fun _ h => absurd h List.not_mem_nil
def klJ7 : List (Nat × Int64) := []
theorem klokJ7 : ∀ q ∈ klJ7, Cond.constantLong RJ7 q.1 q.2 ∈ sv_tb := fun _ h => absurd h List.not_mem_nil
theorem sb_vin {x : Int32} {n : Nat} (h : decide (¬ (x < 0 ∨ n ≤ x.toNatClampNeg)) = true) : vp_in x n := (of_decide_eq_true h : ¬ (x < 0 ∨ n ≤ x.toNatClampNeg))
theorem sb_nt {c A B : Prop} (h : ¬ c) (a : A) : (¬ c → A) ∧ (c → B) := ⟨fun _ => a, fun z => absurd z h⟩
theorem sb_nf {c A B : Prop} (h : c) (b : B) : (¬ c → A) ∧ (c → B) := ⟨fun z => absurd h z, fun _ => b⟩
