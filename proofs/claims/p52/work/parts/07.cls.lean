/-! The classes: their tables. -/
def clR : Nat → String
  | 0 => RJx4a65c
  | 1 => RJx4a65c
  | 2 => RJx4a65c
  | 3 => RX0
  | 4 => RX1
  | 5 => RX3
  | 6 => RX4
  | 7 => RX5
  | 8 => RX6
  | 9 => RX7
  | 10 => RX8
  | 11 => RX10
  | 12 => RX11
  | 13 => RX0
  | 14 => RX0
  | 15 => RX0
  | 16 => RX0
  | _ => RX0
def clT : Nat → u_T
  | 0 => TJx4a65c
  | 1 => TJx4a65c
  | 2 => TJx4a65c
  | 3 => TX0
  | 4 => TX1
  | 5 => TX3
  | 6 => TX4
  | 7 => TX5
  | 8 => TX6
  | 9 => TX7
  | 10 => TX8
  | 11 => TX10
  | 12 => TX11
  | 13 => TX0
  | 14 => TX0
  | 15 => TX0
  | 16 => TX0
  | _ => TX0
set_option maxRecDepth 100000 in
theorem cl_in0 : GoodIn lw_tbl (u_ws RJx4a65c TJx4a65c (clN 0)) := goodIn_of _ (by decide +kernel)
theorem cl_in1 : GoodIn lw_tbl (u_ws RJx4a65c TJx4a65c (clN 1)) := goodIn_of _ (by decide +kernel)
theorem cl_in2 : GoodIn lw_tbl (u_ws RJx4a65c TJx4a65c (clN 2)) := goodIn_of _ (by decide +kernel)
theorem cl_in3 : GoodIn lw_tbl (u_ws RX0 TX0 (clN 3)) := goodIn_of _ (by decide +kernel)
theorem cl_in4 : GoodIn lw_tbl (u_ws RX1 TX1 (clN 4)) := goodIn_of _ (by decide +kernel)
theorem cl_in5 : GoodIn lw_tbl (u_ws RX3 TX3 (clN 5)) := goodIn_of _ (by decide +kernel)
theorem cl_in6 : GoodIn lw_tbl (u_ws RX4 TX4 (clN 6)) := goodIn_of _ (by decide +kernel)
theorem cl_in7 : GoodIn lw_tbl (u_ws RX5 TX5 (clN 7)) := goodIn_of _ (by decide +kernel)
theorem cl_in8 : GoodIn lw_tbl (u_ws RX6 TX6 (clN 8)) := goodIn_of _ (by decide +kernel)
theorem cl_in9 : GoodIn lw_tbl (u_ws RX7 TX7 (clN 9)) := goodIn_of _ (by decide +kernel)
theorem cl_in10 : GoodIn lw_tbl (u_ws RX8 TX8 (clN 10)) := goodIn_of _ (by decide +kernel)
theorem cl_in11 : GoodIn lw_tbl (u_ws RX10 TX10 (clN 11)) := goodIn_of _ (by decide +kernel)
theorem cl_in12 : GoodIn lw_tbl (u_ws RX11 TX11 (clN 12)) := goodIn_of _ (by decide +kernel)
theorem cl_in13 : GoodIn lw_tbl (u_ws RX0 TX0 (clN 13)) := goodIn_of _ (by decide +kernel)
theorem cl_in14 : GoodIn lw_tbl (u_ws RX0 TX0 (clN 14)) := goodIn_of _ (by decide +kernel)
theorem cl_in15 : GoodIn lw_tbl (u_ws RX0 TX0 (clN 15)) := goodIn_of _ (by decide +kernel)
theorem cl_in16 : GoodIn lw_tbl (u_ws RX0 TX0 (clN 16)) := goodIn_of _ (by decide +kernel)
theorem cl_in17 : GoodIn lw_tbl (u_ws RX0 TX0 (clN 17)) := goodIn_of _ (by decide +kernel)
theorem lw_goodIn {ws : List Cond} (h : GoodIn lw_tbl ws) (hg : ws.all goodWord = true) : ∀ w ∈ ws, w ∈ lw_good := fun w hw => List.mem_filter.mpr ⟨(h w hw).1, List.all_eq_true.mp hg w hw⟩
theorem cl_ok {ci : Nat} (hci : ci < 18) : vwCl[ci]? = some (clR ci, clT ci, clN ci) := by
  match ci, hci with
  | 0, _ => exact rfl
  | 1, _ => exact rfl
  | 2, _ => exact rfl
  | 3, _ => exact rfl
  | 4, _ => exact rfl
  | 5, _ => exact rfl
  | 6, _ => exact rfl
  | 7, _ => exact rfl
  | 8, _ => exact rfl
  | 9, _ => exact rfl
  | 10, _ => exact rfl
  | 11, _ => exact rfl
  | 12, _ => exact rfl
  | 13, _ => exact rfl
  | 14, _ => exact rfl
  | 15, _ => exact rfl
  | 16, _ => exact rfl
  | 17, _ => exact rfl
  | n + 18, hx => exact absurd hx (by omega)
theorem cl_in {ci : Nat} (hci : ci < 18) : ∀ w ∈ u_ws (clR ci) (clT ci) (clN ci), w ∈ lw_good := by
  match ci, hci with
  | 0, _ => exact lw_goodIn cl_in0 (by decide +kernel)
  | 1, _ => exact lw_goodIn cl_in1 (by decide +kernel)
  | 2, _ => exact lw_goodIn cl_in2 (by decide +kernel)
  | 3, _ => exact lw_goodIn cl_in3 (by decide +kernel)
  | 4, _ => exact lw_goodIn cl_in4 (by decide +kernel)
  | 5, _ => exact lw_goodIn cl_in5 (by decide +kernel)
  | 6, _ => exact lw_goodIn cl_in6 (by decide +kernel)
  | 7, _ => exact lw_goodIn cl_in7 (by decide +kernel)
  | 8, _ => exact lw_goodIn cl_in8 (by decide +kernel)
  | 9, _ => exact lw_goodIn cl_in9 (by decide +kernel)
  | 10, _ => exact lw_goodIn cl_in10 (by decide +kernel)
  | 11, _ => exact lw_goodIn cl_in11 (by decide +kernel)
  | 12, _ => exact lw_goodIn cl_in12 (by decide +kernel)
  | 13, _ => exact lw_goodIn cl_in13 (by decide +kernel)
  | 14, _ => exact lw_goodIn cl_in14 (by decide +kernel)
  | 15, _ => exact lw_goodIn cl_in15 (by decide +kernel)
  | 16, _ => exact lw_goodIn cl_in16 (by decide +kernel)
  | 17, _ => exact lw_goodIn cl_in17 (by decide +kernel)
  | n + 18, hx => exact absurd hx (by omega)
theorem cl_ty {ci : Nat} (hci : ci < 18) : ∀ k, k < clN ci → parseFieldDescriptor (clT ci k).2.2.1 = some (clTy ci k) := by
  match ci, hci with
  | 0, _ => exact tyJx4a65c_ok
  | 1, _ => exact tyJx4a65c_ok
  | 2, _ => exact tyJx4a65c_ok
  | 3, _ => exact tyX0_ok
  | 4, _ => exact tyX1_ok
  | 5, _ => exact tyX3_ok
  | 6, _ => exact tyX4_ok
  | 7, _ => exact tyX5_ok
  | 8, _ => exact tyX6_ok
  | 9, _ => exact tyX7_ok
  | 10, _ => exact tyX8_ok
  | 11, _ => exact tyX10_ok
  | 12, _ => exact tyX11_ok
  | 13, _ => exact tyX0_ok
  | 14, _ => exact tyX0_ok
  | 15, _ => exact tyX0_ok
  | 16, _ => exact tyX0_ok
  | 17, _ => exact tyX0_ok
  | n + 18, hx => exact absurd hx (by omega)
theorem cl_nm {ci : Nat} (hci : ci < 18) : ∀ a, a < clN ci → ∀ b, b < clN ci → a ≠ b → (clT ci a).2.1 ≠ (clT ci b).2.1 := by
  match ci, hci with
  | 0, _ => exact nmJx4a65c
  | 1, _ => exact nmJx4a65c
  | 2, _ => exact nmJx4a65c
  | 3, _ => exact nmX0
  | 4, _ => exact nmX1
  | 5, _ => exact nmX3
  | 6, _ => exact nmX4
  | 7, _ => exact nmX5
  | 8, _ => exact nmX6
  | 9, _ => exact nmX7
  | 10, _ => exact nmX8
  | 11, _ => exact nmX10
  | 12, _ => exact nmX11
  | 13, _ => exact nmX0
  | 14, _ => exact nmX0
  | 15, _ => exact nmX0
  | 16, _ => exact nmX0
  | 17, _ => exact nmX0
  | n + 18, hx => exact absurd hx (by omega)
def caX : List String := (List.range 18).map clR ++ arTys.map (fun ty => "[" ++ ty.toString)
theorem caX_tbl : (caX.all fun C => decide (Cond.castable C "java/lang/Object" ∈ lw_tbl)) = true := by decide +kernel
theorem caX_ok : ∀ C ∈ caX, Cond.castable C "java/lang/Object" ∈ dwX := fun C hC => List.mem_filter.mpr ⟨of_decide_eq_true (List.all_eq_true.mp caX_tbl C hC), rfl⟩
