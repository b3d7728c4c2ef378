/-! the classes' words; fields and constants of each constant pool; the code of each method, as lists (written by a program out of the task's names) -/
theorem fwX0 : ∀ w ∈ u_ws RX0 TX0 8, w ∈ fT := f_cls_of (by decide +kernel)
theorem fwX1 : ∀ w ∈ u_ws RX1 TX1 7, w ∈ fT := f_cls_of (by decide +kernel)
theorem fwX2 : ∀ w ∈ u_ws RX2 TX2 9, w ∈ fT := f_cls_of (by decide +kernel)
theorem fwX3 : ∀ w ∈ u_ws RX3 TX3 11, w ∈ fT := f_cls_of (by decide +kernel)
theorem fwX4 : ∀ w ∈ u_ws RX4 TX4 5, w ∈ fT := f_cls_of (by decide +kernel)
theorem fwX5 : ∀ w ∈ u_ws RX5 TX5 11, w ∈ fT := f_cls_of (by decide +kernel)
theorem fwX6 : ∀ w ∈ u_ws RX6 TX6 11, w ∈ fT := f_cls_of (by decide +kernel)
theorem fwX7 : ∀ w ∈ u_ws RX7 TX7 10, w ∈ fT := f_cls_of (by decide +kernel)
theorem fwX9 : ∀ w ∈ u_ws RX9 TX9 6, w ∈ fT := f_cls_of (by decide +kernel)
theorem fwX10 : ∀ w ∈ u_ws RX10 TX10 9, w ∈ fT := f_cls_of (by decide +kernel)
theorem fwX11 : ∀ w ∈ u_ws RX11 TX11 12, w ∈ fT := f_cls_of (by decide +kernel)
theorem fwX12 : ∀ w ∈ u_ws RX12 TX12 95, w ∈ fT := f_cls_of (by decide +kernel)
theorem f_cl : f_clok := by
  intro ci C T N h
  match ci, h with
  | 0, h => cases h; exact ⟨fwX0, tyX0, tyX0_ok, nmX0⟩
  | 1, h => cases h; exact ⟨fwX1, tyX1, tyX1_ok, nmX1⟩
  | 2, h => cases h; exact ⟨fwX2, tyX2, tyX2_ok, nmX2⟩
  | 3, h => cases h; exact ⟨fwX3, tyX3, tyX3_ok, nmX3⟩
  | 4, h => cases h; exact ⟨fwX4, tyX4, tyX4_ok, nmX4⟩
  | 5, h => cases h; exact ⟨fwX5, tyX5, tyX5_ok, nmX5⟩
  | 6, h => cases h; exact ⟨fwX6, tyX6, tyX6_ok, nmX6⟩
  | 7, h => cases h; exact ⟨fwX7, tyX7, tyX7_ok, nmX7⟩
  | 8, h => cases h; exact ⟨fwX9, tyX9, tyX9_ok, nmX9⟩
  | 9, h => cases h; exact ⟨fwX10, tyX10, tyX10_ok, nmX10⟩
  | 10, h => cases h; exact ⟨fwX11, tyX11, tyX11_ok, nmX11⟩
  | 11, h => cases h; exact ⟨fwX12, tyX12, tyX12_ok, nmX12⟩
  | ci + 12, h => simp [vwCl] at h
def flX0 : List (Nat × Nat × Nat × Nat) := [(9, 0, 3, 0), (13, 0, 0, 0), (17, 0, 1, 0), (21, 0, 2, 0), (25, 0, 5, 2), (29, 2, 7, 1), (39, 0, 4, 1), (42, 0, 6, 2), (45, 3, 10, 1), (50, 0, 7, 1), (56, 3, 9, 1), (94, 2, 2, 0)]
theorem flX0_ok : f_frok RX0 (f_frl flX0) := f_frok_of (by decide +kernel)
def fiX0 : List (Nat × Int32) := []
theorem fiX0_ok : ∀ j v, f_cnl fiX0 j = some v → Cond.constant RX0 j v ∈ fT := f_cnl_of (P := fun j v => Cond.constant RX0 j v ∈ fT) (fun q hq => by
  have h : fiX0.all (fun q => decide (Cond.constant RX0 q.1 q.2 ∈ lw_tbl) && goodWord (Cond.constant RX0 q.1 q.2)) = true := by decide +kernel
  have h1 := List.all_eq_true.mp h q hq
  simp only [Bool.and_eq_true, decide_eq_true_eq] at h1
  exact fT_in h1.1 h1.2)
def fjX0 : List (Nat × Int64) := []
theorem fjX0_ok : ∀ j v, f_cnl fjX0 j = some v → Cond.constantLong RX0 j v ∈ fT := f_cnl_of (P := fun j v => Cond.constantLong RX0 j v ∈ fT) (fun q hq => by
  have h : fjX0.all (fun q => decide (Cond.constantLong RX0 q.1 q.2 ∈ lw_tbl) && goodWord (Cond.constantLong RX0 q.1 q.2)) = true := by decide +kernel
  have h1 := List.all_eq_true.mp h q hq
  simp only [Bool.and_eq_true, decide_eq_true_eq] at h1
  exact fT_in h1.1 h1.2)
def flX1 : List (Nat × Nat × Nat × Nat) := [(11, 1, 0, 0), (15, 1, 1, 0), (18, 1, 2, 0), (22, 1, 3, 0), (25, 1, 6, 1), (29, 1, 4, 1), (32, 1, 5, 1)]
theorem flX1_ok : f_frok RX1 (f_frl flX1) := f_frok_of (by decide +kernel)
def fiX1 : List (Nat × Int32) := []
theorem fiX1_ok : ∀ j v, f_cnl fiX1 j = some v → Cond.constant RX1 j v ∈ fT := f_cnl_of (P := fun j v => Cond.constant RX1 j v ∈ fT) (fun q hq => by
  have h : fiX1.all (fun q => decide (Cond.constant RX1 q.1 q.2 ∈ lw_tbl) && goodWord (Cond.constant RX1 q.1 q.2)) = true := by decide +kernel
  have h1 := List.all_eq_true.mp h q hq
  simp only [Bool.and_eq_true, decide_eq_true_eq] at h1
  exact fT_in h1.1 h1.2)
def fjX1 : List (Nat × Int64) := []
theorem fjX1_ok : ∀ j v, f_cnl fjX1 j = some v → Cond.constantLong RX1 j v ∈ fT := f_cnl_of (P := fun j v => Cond.constantLong RX1 j v ∈ fT) (fun q hq => by
  have h : fjX1.all (fun q => decide (Cond.constantLong RX1 q.1 q.2 ∈ lw_tbl) && goodWord (Cond.constantLong RX1 q.1 q.2)) = true := by decide +kernel
  have h1 := List.all_eq_true.mp h q hq
  simp only [Bool.and_eq_true, decide_eq_true_eq] at h1
  exact fT_in h1.1 h1.2)
def flX2 : List (Nat × Nat × Nat × Nat) := [(11, 2, 0, 0), (15, 2, 1, 0), (18, 2, 2, 0), (21, 2, 3, 0), (24, 2, 4, 0), (28, 2, 5, 0), (31, 2, 6, 1), (35, 2, 7, 1)]
theorem flX2_ok : f_frok RX2 (f_frl flX2) := f_frok_of (by decide +kernel)
def fiX2 : List (Nat × Int32) := []
theorem fiX2_ok : ∀ j v, f_cnl fiX2 j = some v → Cond.constant RX2 j v ∈ fT := f_cnl_of (P := fun j v => Cond.constant RX2 j v ∈ fT) (fun q hq => by
  have h : fiX2.all (fun q => decide (Cond.constant RX2 q.1 q.2 ∈ lw_tbl) && goodWord (Cond.constant RX2 q.1 q.2)) = true := by decide +kernel
  have h1 := List.all_eq_true.mp h q hq
  simp only [Bool.and_eq_true, decide_eq_true_eq] at h1
  exact fT_in h1.1 h1.2)
def fjX2 : List (Nat × Int64) := [(50, 1099511627776)]
theorem fjX2_ok : ∀ j v, f_cnl fjX2 j = some v → Cond.constantLong RX2 j v ∈ fT := f_cnl_of (P := fun j v => Cond.constantLong RX2 j v ∈ fT) (fun q hq => by
  have h : fjX2.all (fun q => decide (Cond.constantLong RX2 q.1 q.2 ∈ lw_tbl) && goodWord (Cond.constantLong RX2 q.1 q.2)) = true := by decide +kernel
  have h1 := List.all_eq_true.mp h q hq
  simp only [Bool.and_eq_true, decide_eq_true_eq] at h1
  exact fT_in h1.1 h1.2)
def flX3 : List (Nat × Nat × Nat × Nat) := [(13, 3, 0, 0), (17, 3, 1, 0), (21, 3, 2, 0), (24, 3, 3, 0), (27, 3, 4, 0), (30, 3, 5, 0), (33, 3, 6, 0), (36, 3, 7, 0), (39, 3, 8, 0), (42, 1, 4, 1), (46, 3, 9, 1), (47, 1, 5, 1), (50, 3, 10, 1), (65, 1, 6, 1), (83, 1, 2, 0)]
theorem flX3_ok : f_frok RX3 (f_frl flX3) := f_frok_of (by decide +kernel)
def fiX3 : List (Nat × Int32) := []
theorem fiX3_ok : ∀ j v, f_cnl fiX3 j = some v → Cond.constant RX3 j v ∈ fT := f_cnl_of (P := fun j v => Cond.constant RX3 j v ∈ fT) (fun q hq => by
  have h : fiX3.all (fun q => decide (Cond.constant RX3 q.1 q.2 ∈ lw_tbl) && goodWord (Cond.constant RX3 q.1 q.2)) = true := by decide +kernel
  have h1 := List.all_eq_true.mp h q hq
  simp only [Bool.and_eq_true, decide_eq_true_eq] at h1
  exact fT_in h1.1 h1.2)
def fjX3 : List (Nat × Int64) := [(108, -1), (110, 275955859520), (112, 127)]
theorem fjX3_ok : ∀ j v, f_cnl fjX3 j = some v → Cond.constantLong RX3 j v ∈ fT := f_cnl_of (P := fun j v => Cond.constantLong RX3 j v ∈ fT) (fun q hq => by
  have h : fjX3.all (fun q => decide (Cond.constantLong RX3 q.1 q.2 ∈ lw_tbl) && goodWord (Cond.constantLong RX3 q.1 q.2)) = true := by decide +kernel
  have h1 := List.all_eq_true.mp h q hq
  simp only [Bool.and_eq_true, decide_eq_true_eq] at h1
  exact fT_in h1.1 h1.2)
def flX4 : List (Nat × Nat × Nat × Nat) := [(11, 4, 1, 0), (17, 4, 3, 1), (21, 4, 0, 0), (43, 4, 2, 1), (46, 8, 4, 3), (71, 8, 2, 1), (80, 1, 4, 1), (88, 1, 6, 1), (97, 1, 5, 1), (129, 4, 4, 1), (149, 8, 3, 1)]
theorem flX4_ok : f_frok RX4 (f_frl flX4) := f_frok_of (by decide +kernel)
def fiX4 : List (Nat × Int32) := []
theorem fiX4_ok : ∀ j v, f_cnl fiX4 j = some v → Cond.constant RX4 j v ∈ fT := f_cnl_of (P := fun j v => Cond.constant RX4 j v ∈ fT) (fun q hq => by
  have h : fiX4.all (fun q => decide (Cond.constant RX4 q.1 q.2 ∈ lw_tbl) && goodWord (Cond.constant RX4 q.1 q.2)) = true := by decide +kernel
  have h1 := List.all_eq_true.mp h q hq
  simp only [Bool.and_eq_true, decide_eq_true_eq] at h1
  exact fT_in h1.1 h1.2)
def fjX4 : List (Nat × Int64) := [(74, 370116), (86, 244780), (95, 769604), (115, 307), (124, 498)]
theorem fjX4_ok : ∀ j v, f_cnl fjX4 j = some v → Cond.constantLong RX4 j v ∈ fT := f_cnl_of (P := fun j v => Cond.constantLong RX4 j v ∈ fT) (fun q hq => by
  have h : fjX4.all (fun q => decide (Cond.constantLong RX4 q.1 q.2 ∈ lw_tbl) && goodWord (Cond.constantLong RX4 q.1 q.2)) = true := by decide +kernel
  have h1 := List.all_eq_true.mp h q hq
  simp only [Bool.and_eq_true, decide_eq_true_eq] at h1
  exact fT_in h1.1 h1.2)
def flX5 : List (Nat × Nat × Nat × Nat) := [(11, 5, 3, 0), (17, 5, 4, 0), (21, 5, 0, 0), (25, 9, 1, 0), (31, 5, 1, 0), (32, 5, 2, 0), (36, 5, 7, 2), (40, 5, 6, 2), (43, 5, 5, 1), (67, 7, 9, 1), (68, 7, 6, 0), (71, 9, 7, 1), (72, 9, 4, 0), (75, 9, 2, 0), (86, 9, 8, 1), (89, 5, 8, 1), (92, 5, 9, 1), (95, 5, 10, 1), (112, 7, 2, 0), (115, 7, 3, 0), (123, 7, 4, 0), (126, 7, 5, 0)]
theorem flX5_ok : f_frok RX5 (f_frl flX5) := f_frok_of (by decide +kernel)
def fiX5 : List (Nat × Int32) := []
theorem fiX5_ok : ∀ j v, f_cnl fiX5 j = some v → Cond.constant RX5 j v ∈ fT := f_cnl_of (P := fun j v => Cond.constant RX5 j v ∈ fT) (fun q hq => by
  have h : fiX5.all (fun q => decide (Cond.constant RX5 q.1 q.2 ∈ lw_tbl) && goodWord (Cond.constant RX5 q.1 q.2)) = true := by decide +kernel
  have h1 := List.all_eq_true.mp h q hq
  simp only [Bool.and_eq_true, decide_eq_true_eq] at h1
  exact fT_in h1.1 h1.2)
def fjX5 : List (Nat × Int64) := [(59, -1)]
theorem fjX5_ok : ∀ j v, f_cnl fjX5 j = some v → Cond.constantLong RX5 j v ∈ fT := f_cnl_of (P := fun j v => Cond.constantLong RX5 j v ∈ fT) (fun q hq => by
  have h : fjX5.all (fun q => decide (Cond.constantLong RX5 q.1 q.2 ∈ lw_tbl) && goodWord (Cond.constantLong RX5 q.1 q.2)) = true := by decide +kernel
  have h1 := List.all_eq_true.mp h q hq
  simp only [Bool.and_eq_true, decide_eq_true_eq] at h1
  exact fT_in h1.1 h1.2)
def flX6 : List (Nat × Nat × Nat × Nat) := [(11, 6, 3, 0), (15, 6, 4, 0), (20, 6, 5, 0), (25, 6, 6, 0), (28, 6, 7, 0), (31, 6, 0, 0), (35, 6, 1, 0), (39, 6, 2, 0), (46, 6, 8, 1), (50, 6, 9, 1), (63, 2, 6, 1), (84, 2, 0, 0), (94, 6, 10, 1), (125, 3, 10, 1), (153, 3, 9, 1), (174, 3, 8, 0)]
theorem flX6_ok : f_frok RX6 (f_frl flX6) := f_frok_of (by decide +kernel)
def fiX6 : List (Nat × Int32) := []
theorem fiX6_ok : ∀ j v, f_cnl fiX6 j = some v → Cond.constant RX6 j v ∈ fT := f_cnl_of (P := fun j v => Cond.constant RX6 j v ∈ fT) (fun q hq => by
  have h : fiX6.all (fun q => decide (Cond.constant RX6 q.1 q.2 ∈ lw_tbl) && goodWord (Cond.constant RX6 q.1 q.2)) = true := by decide +kernel
  have h1 := List.all_eq_true.mp h q hq
  simp only [Bool.and_eq_true, decide_eq_true_eq] at h1
  exact fT_in h1.1 h1.2)
def fjX6 : List (Nat × Int64) := []
theorem fjX6_ok : ∀ j v, f_cnl fjX6 j = some v → Cond.constantLong RX6 j v ∈ fT := f_cnl_of (P := fun j v => Cond.constantLong RX6 j v ∈ fT) (fun q hq => by
  have h : fjX6.all (fun q => decide (Cond.constantLong RX6 q.1 q.2 ∈ lw_tbl) && goodWord (Cond.constantLong RX6 q.1 q.2)) = true := by decide +kernel
  have h1 := List.all_eq_true.mp h q hq
  simp only [Bool.and_eq_true, decide_eq_true_eq] at h1
  exact fT_in h1.1 h1.2)
def flX7 : List (Nat × Nat × Nat × Nat) := [(13, 7, 1, 0), (17, 7, 2, 0), (20, 7, 3, 0), (23, 7, 4, 0), (26, 7, 5, 0), (29, 7, 6, 0), (32, 7, 7, 0), (35, 7, 8, 0), (38, 7, 0, 0), (48, 7, 9, 1), (52, 3, 0, 0), (57, 3, 4, 0), (58, 3, 5, 0), (63, 3, 6, 0), (64, 3, 7, 0)]
theorem flX7_ok : f_frok RX7 (f_frl flX7) := f_frok_of (by decide +kernel)
def fiX7 : List (Nat × Int32) := []
theorem fiX7_ok : ∀ j v, f_cnl fiX7 j = some v → Cond.constant RX7 j v ∈ fT := f_cnl_of (P := fun j v => Cond.constant RX7 j v ∈ fT) (fun q hq => by
  have h : fiX7.all (fun q => decide (Cond.constant RX7 q.1 q.2 ∈ lw_tbl) && goodWord (Cond.constant RX7 q.1 q.2)) = true := by decide +kernel
  have h1 := List.all_eq_true.mp h q hq
  simp only [Bool.and_eq_true, decide_eq_true_eq] at h1
  exact fT_in h1.1 h1.2)
def fjX7 : List (Nat × Int64) := []
theorem fjX7_ok : ∀ j v, f_cnl fjX7 j = some v → Cond.constantLong RX7 j v ∈ fT := f_cnl_of (P := fun j v => Cond.constantLong RX7 j v ∈ fT) (fun q hq => by
  have h : fjX7.all (fun q => decide (Cond.constantLong RX7 q.1 q.2 ∈ lw_tbl) && goodWord (Cond.constantLong RX7 q.1 q.2)) = true := by decide +kernel
  have h1 := List.all_eq_true.mp h q hq
  simp only [Bool.and_eq_true, decide_eq_true_eq] at h1
  exact fT_in h1.1 h1.2)
def flX8 : List (Nat × Nat × Nat × Nat) := []
theorem flX8_ok : f_frok RX8 (f_frl flX8) := f_frok_of (by decide +kernel)
def fiX8 : List (Nat × Int32) := [(11, 16777216), (12, 16777215)]
theorem fiX8_ok : ∀ j v, f_cnl fiX8 j = some v → Cond.constant RX8 j v ∈ fT := f_cnl_of (P := fun j v => Cond.constant RX8 j v ∈ fT) (fun q hq => by
  have h : fiX8.all (fun q => decide (Cond.constant RX8 q.1 q.2 ∈ lw_tbl) && goodWord (Cond.constant RX8 q.1 q.2)) = true := by decide +kernel
  have h1 := List.all_eq_true.mp h q hq
  simp only [Bool.and_eq_true, decide_eq_true_eq] at h1
  exact fT_in h1.1 h1.2)
def fjX8 : List (Nat × Int64) := []
theorem fjX8_ok : ∀ j v, f_cnl fjX8 j = some v → Cond.constantLong RX8 j v ∈ fT := f_cnl_of (P := fun j v => Cond.constantLong RX8 j v ∈ fT) (fun q hq => by
  have h : fjX8.all (fun q => decide (Cond.constantLong RX8 q.1 q.2 ∈ lw_tbl) && goodWord (Cond.constantLong RX8 q.1 q.2)) = true := by decide +kernel
  have h1 := List.all_eq_true.mp h q hq
  simp only [Bool.and_eq_true, decide_eq_true_eq] at h1
  exact fT_in h1.1 h1.2)
def flX9 : List (Nat × Nat × Nat × Nat) := [(9, 8, 0, 0), (13, 8, 1, 1), (17, 8, 5, 1), (23, 8, 3, 1), (26, 8, 4, 3), (34, 8, 2, 1)]
theorem flX9_ok : f_frok RX9 (f_frl flX9) := f_frok_of (by decide +kernel)
def fiX9 : List (Nat × Int32) := []
theorem fiX9_ok : ∀ j v, f_cnl fiX9 j = some v → Cond.constant RX9 j v ∈ fT := f_cnl_of (P := fun j v => Cond.constant RX9 j v ∈ fT) (fun q hq => by
  have h : fiX9.all (fun q => decide (Cond.constant RX9 q.1 q.2 ∈ lw_tbl) && goodWord (Cond.constant RX9 q.1 q.2)) = true := by decide +kernel
  have h1 := List.all_eq_true.mp h q hq
  simp only [Bool.and_eq_true, decide_eq_true_eq] at h1
  exact fT_in h1.1 h1.2)
def fjX9 : List (Nat × Int64) := [(30, 32), (32, 97)]
theorem fjX9_ok : ∀ j v, f_cnl fjX9 j = some v → Cond.constantLong RX9 j v ∈ fT := f_cnl_of (P := fun j v => Cond.constantLong RX9 j v ∈ fT) (fun q hq => by
  have h : fjX9.all (fun q => decide (Cond.constantLong RX9 q.1 q.2 ∈ lw_tbl) && goodWord (Cond.constantLong RX9 q.1 q.2)) = true := by decide +kernel
  have h1 := List.all_eq_true.mp h q hq
  simp only [Bool.and_eq_true, decide_eq_true_eq] at h1
  exact fT_in h1.1 h1.2)
def flX10 : List (Nat × Nat × Nat × Nat) := [(13, 9, 2, 0), (17, 9, 3, 0), (20, 9, 4, 0), (23, 9, 5, 0), (27, 9, 6, 0), (30, 9, 0, 0), (39, 9, 1, 0), (43, 9, 7, 1), (47, 9, 8, 1), (56, 2, 6, 1), (59, 2, 0, 0), (69, 3, 8, 0), (76, 3, 2, 0), (77, 3, 3, 0), (80, 3, 0, 0), (86, 3, 1, 0), (97, 7, 9, 1)]
theorem flX10_ok : f_frok RX10 (f_frl flX10) := f_frok_of (by decide +kernel)
def fiX10 : List (Nat × Int32) := []
theorem fiX10_ok : ∀ j v, f_cnl fiX10 j = some v → Cond.constant RX10 j v ∈ fT := f_cnl_of (P := fun j v => Cond.constant RX10 j v ∈ fT) (fun q hq => by
  have h : fiX10.all (fun q => decide (Cond.constant RX10 q.1 q.2 ∈ lw_tbl) && goodWord (Cond.constant RX10 q.1 q.2)) = true := by decide +kernel
  have h1 := List.all_eq_true.mp h q hq
  simp only [Bool.and_eq_true, decide_eq_true_eq] at h1
  exact fT_in h1.1 h1.2)
def fjX10 : List (Nat × Int64) := [(78, 275955859520)]
theorem fjX10_ok : ∀ j v, f_cnl fjX10 j = some v → Cond.constantLong RX10 j v ∈ fT := f_cnl_of (P := fun j v => Cond.constantLong RX10 j v ∈ fT) (fun q hq => by
  have h : fjX10.all (fun q => decide (Cond.constantLong RX10 q.1 q.2 ∈ lw_tbl) && goodWord (Cond.constantLong RX10 q.1 q.2)) = true := by decide +kernel
  have h1 := List.all_eq_true.mp h q hq
  simp only [Bool.and_eq_true, decide_eq_true_eq] at h1
  exact fT_in h1.1 h1.2)
def flX11 : List (Nat × Nat × Nat × Nat) := [(10, 10, 0, 0), (21, 10, 1, 0), (28, 10, 9, 4), (32, 10, 10, 4), (38, 10, 2, 0), (47, 10, 3, 0), (54, 10, 7, 0), (58, 10, 8, 0), (67, 10, 4, 0), (76, 10, 5, 0), (83, 10, 6, 0), (95, 8, 1, 1), (114, 2, 8, 2), (124, 1, 5, 1), (131, 2, 6, 1), (134, 4, 2, 1), (137, 4, 3, 1), (143, 1, 2, 0), (151, 1, 4, 1), (162, 2, 0, 0), (168, 5, 6, 2), (171, 5, 5, 1), (199, 6, 9, 1), (202, 6, 10, 1), (218, 6, 4, 0), (224, 3, 3, 0), (235, 10, 11, 1), (247, 2, 7, 1), (258, 0, 6, 2), (261, 0, 7, 1), (264, 0, 3, 0), (270, 3, 0, 0), (278, 2, 2, 0)]
theorem flX11_ok : f_frok RX11 (f_frl flX11) := f_frok_of (by decide +kernel)
def fiX11 : List (Nat × Int32) := [(246, 100000)]
theorem fiX11_ok : ∀ j v, f_cnl fiX11 j = some v → Cond.constant RX11 j v ∈ fT := f_cnl_of (P := fun j v => Cond.constant RX11 j v ∈ fT) (fun q hq => by
  have h : fiX11.all (fun q => decide (Cond.constant RX11 q.1 q.2 ∈ lw_tbl) && goodWord (Cond.constant RX11 q.1 q.2)) = true := by decide +kernel
  have h1 := List.all_eq_true.mp h q hq
  simp only [Bool.and_eq_true, decide_eq_true_eq] at h1
  exact fT_in h1.1 h1.2)
def fjX11 : List (Nat × Int64) := []
theorem fjX11_ok : ∀ j v, f_cnl fjX11 j = some v → Cond.constantLong RX11 j v ∈ fT := f_cnl_of (P := fun j v => Cond.constantLong RX11 j v ∈ fT) (fun q hq => by
  have h : fjX11.all (fun q => decide (Cond.constantLong RX11 q.1 q.2 ∈ lw_tbl) && goodWord (Cond.constantLong RX11 q.1 q.2)) = true := by decide +kernel
  have h1 := List.all_eq_true.mp h q hq
  simp only [Bool.and_eq_true, decide_eq_true_eq] at h1
  exact fT_in h1.1 h1.2)
def flX12 : List (Nat × Nat × Nat × Nat) := [(7, 11, 0, 0), (13, 11, 1, 0), (16, 11, 5, 1), (20, 11, 10, 0), (24, 11, 11, 0), (27, 11, 12, 0), (30, 11, 13, 0), (33, 11, 14, 0), (36, 11, 15, 0), (39, 11, 16, 0), (42, 11, 17, 0), (45, 11, 18, 0), (48, 11, 19, 0), (51, 11, 20, 0), (54, 11, 21, 0), (58, 11, 22, 0), (62, 11, 23, 0), (65, 11, 26, 0), (68, 11, 27, 0), (71, 11, 28, 0), (74, 11, 29, 0), (77, 11, 31, 0), (80, 11, 32, 0), (83, 11, 33, 0), (86, 11, 34, 0), (89, 11, 35, 0), (92, 11, 36, 0), (95, 11, 37, 0), (98, 11, 38, 0), (101, 11, 39, 0), (104, 11, 40, 0), (107, 11, 41, 0), (110, 11, 42, 0), (113, 11, 43, 0), (116, 11, 44, 0), (119, 11, 49, 0), (122, 11, 50, 0), (125, 11, 51, 0), (128, 11, 52, 0), (131, 11, 56, 0), (134, 11, 57, 0), (137, 11, 58, 0), (140, 11, 60, 0), (143, 11, 61, 0), (146, 11, 62, 0), (149, 11, 63, 0), (152, 11, 64, 0), (155, 11, 65, 0), (158, 11, 66, 0), (161, 11, 67, 0), (164, 11, 68, 0), (167, 11, 72, 0), (170, 11, 73, 0), (173, 11, 75, 0), (176, 11, 76, 0), (179, 11, 77, 0), (182, 11, 78, 0), (185, 11, 79, 0), (188, 11, 80, 0), (191, 11, 81, 0), (194, 11, 82, 0), (197, 11, 85, 0), (200, 11, 86, 0), (203, 11, 87, 0), (206, 11, 88, 0), (209, 11, 89, 0), (212, 11, 90, 0), (215, 11, 91, 0), (218, 11, 92, 0), (221, 11, 93, 0), (224, 11, 94, 0), (233, 11, 3, 1), (236, 11, 4, 1), (249, 11, 7, 1), (252, 11, 6, 1), (259, 11, 8, 1), (266, 11, 9, 3), (291, 11, 2, 1), (294, 11, 25, 1), (300, 11, 24, 1), (306, 11, 83, 1), (309, 11, 30, 1), (359, 11, 70, 2), (376, 11, 48, 1), (379, 11, 46, 1), (382, 11, 47, 1), (385, 11, 45, 1), (407, 11, 53, 1), (413, 11, 55, 1), (416, 11, 54, 1), (426, 11, 59, 1), (460, 11, 71, 2), (463, 11, 69, 1), (472, 11, 74, 1), (522, 11, 84, 1)]
theorem flX12_ok : f_frok RX12 (f_frl flX12) := f_frok_of (by decide +kernel)
def fiX12 : List (Nat × Int32) := [(525, 100000)]
theorem fiX12_ok : ∀ j v, f_cnl fiX12 j = some v → Cond.constant RX12 j v ∈ fT := f_cnl_of (P := fun j v => Cond.constant RX12 j v ∈ fT) (fun q hq => by
  have h : fiX12.all (fun q => decide (Cond.constant RX12 q.1 q.2 ∈ lw_tbl) && goodWord (Cond.constant RX12 q.1 q.2)) = true := by decide +kernel
  have h1 := List.all_eq_true.mp h q hq
  simp only [Bool.and_eq_true, decide_eq_true_eq] at h1
  exact fT_in h1.1 h1.2)
def fjX12 : List (Nat × Int64) := [(239, 1802071652), (241, 1735352684), (243, 2003792484), (245, 26995), (247, 28530)]
theorem fjX12_ok : ∀ j v, f_cnl fjX12 j = some v → Cond.constantLong RX12 j v ∈ fT := f_cnl_of (P := fun j v => Cond.constantLong RX12 j v ∈ fT) (fun q hq => by
  have h : fjX12.all (fun q => decide (Cond.constantLong RX12 q.1 q.2 ∈ lw_tbl) && goodWord (Cond.constantLong RX12 q.1 q.2)) = true := by decide +kernel
  have h1 := List.all_eq_true.mp h q hq
  simp only [Bool.and_eq_true, decide_eq_true_eq] at h1
  exact fT_in h1.1 h1.2)
