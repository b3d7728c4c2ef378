/-! the constructors of Strings, Trial, Repair and Readings -/
theorem g_good {y : MethodName} {cc : ByteArray} {nL : Nat} {ret : Option FieldType} (h : Cond.code y cc nL ret ∈ fT) : GoodIn fT (Cond.code y cc nL ret :: fT) := by
  intro w hw
  have hm : w ∈ fT := by
    rcases List.mem_cons.mp hw with e | e
    · rw [e]; exact h
    · exact e
  exact ⟨hm, fT_good hm⟩
theorem ic_X0 : Cond.code yX0_init cX0_init 4 none ∈ fT := f_pos (ws := [Cond.code yX0_init cX0_init 4 none]) [407] (by decide +kernel) (by decide +kernel) _ List.mem_cons_self
theorem ii_X0 : Cond.instanceMethod yX0_init ∈ fT := f_pos (ws := [Cond.instanceMethod yX0_init]) [406] (by decide +kernel) (by decide +kernel) _ List.mem_cons_self
theorem iz_X0 : Cond.initialized RX0 ∈ fT := f_pos (ws := [Cond.initialized RX0]) [12] (by decide +kernel) (by decide +kernel) _ List.mem_cons_self
theorem it_X0 : Cond.instantiable RX0 8 ∈ fT := f_pos (ws := [Cond.instantiable RX0 8]) [404] (by decide +kernel) (by decide +kernel) _ List.mem_cons_self
theorem ic_X1 : Cond.code yX1_init cX1_init 1 none ∈ fT := f_pos (ws := [Cond.code yX1_init cX1_init 1 none]) [90] (by decide +kernel) (by decide +kernel) _ List.mem_cons_self
theorem ii_X1 : Cond.instanceMethod yX1_init ∈ fT := f_pos (ws := [Cond.instanceMethod yX1_init]) [89] (by decide +kernel) (by decide +kernel) _ List.mem_cons_self
theorem iz_X1 : Cond.initialized RX1 ∈ fT := f_pos (ws := [Cond.initialized RX1]) [4] (by decide +kernel) (by decide +kernel) _ List.mem_cons_self
theorem it_X1 : Cond.instantiable RX1 7 ∈ fT := f_pos (ws := [Cond.instantiable RX1 7]) [87] (by decide +kernel) (by decide +kernel) _ List.mem_cons_self
theorem ic_X2 : Cond.code yX2_init cX2_init 1 none ∈ fT := f_pos (ws := [Cond.code yX2_init cX2_init 1 none]) [272] (by decide +kernel) (by decide +kernel) _ List.mem_cons_self
theorem ii_X2 : Cond.instanceMethod yX2_init ∈ fT := f_pos (ws := [Cond.instanceMethod yX2_init]) [271] (by decide +kernel) (by decide +kernel) _ List.mem_cons_self
theorem iz_X2 : Cond.initialized RX2 ∈ fT := f_pos (ws := [Cond.initialized RX2]) [9] (by decide +kernel) (by decide +kernel) _ List.mem_cons_self
theorem it_X2 : Cond.instantiable RX2 9 ∈ fT := f_pos (ws := [Cond.instantiable RX2 9]) [269] (by decide +kernel) (by decide +kernel) _ List.mem_cons_self
theorem ic_X3 : Cond.code yX3_init cX3_init 1 none ∈ fT := f_pos (ws := [Cond.code yX3_init cX3_init 1 none]) [129] (by decide +kernel) (by decide +kernel) _ List.mem_cons_self
theorem ii_X3 : Cond.instanceMethod yX3_init ∈ fT := f_pos (ws := [Cond.instanceMethod yX3_init]) [128] (by decide +kernel) (by decide +kernel) _ List.mem_cons_self
theorem iz_X3 : Cond.initialized RX3 ∈ fT := f_pos (ws := [Cond.initialized RX3]) [5] (by decide +kernel) (by decide +kernel) _ List.mem_cons_self
theorem it_X3 : Cond.instantiable RX3 11 ∈ fT := f_pos (ws := [Cond.instantiable RX3 11]) [126] (by decide +kernel) (by decide +kernel) _ List.mem_cons_self
theorem ic_X4 : Cond.code yX4_init cX4_init 2 none ∈ fT := f_pos (ws := [Cond.code yX4_init cX4_init 2 none]) [65] (by decide +kernel) (by decide +kernel) _ List.mem_cons_self
theorem ii_X4 : Cond.instanceMethod yX4_init ∈ fT := f_pos (ws := [Cond.instanceMethod yX4_init]) [64] (by decide +kernel) (by decide +kernel) _ List.mem_cons_self
theorem iz_X4 : Cond.initialized RX4 ∈ fT := f_pos (ws := [Cond.initialized RX4]) [3] (by decide +kernel) (by decide +kernel) _ List.mem_cons_self
theorem it_X4 : Cond.instantiable RX4 5 ∈ fT := f_pos (ws := [Cond.instantiable RX4 5]) [62] (by decide +kernel) (by decide +kernel) _ List.mem_cons_self
theorem ic_X5 : Cond.code yX5_init cX5_init 3 none ∈ fT := f_pos (ws := [Cond.code yX5_init cX5_init 3 none]) [317] (by decide +kernel) (by decide +kernel) _ List.mem_cons_self
theorem ii_X5 : Cond.instanceMethod yX5_init ∈ fT := f_pos (ws := [Cond.instanceMethod yX5_init]) [316] (by decide +kernel) (by decide +kernel) _ List.mem_cons_self
theorem iz_X5 : Cond.initialized RX5 ∈ fT := f_pos (ws := [Cond.initialized RX5]) [10] (by decide +kernel) (by decide +kernel) _ List.mem_cons_self
theorem it_X5 : Cond.instantiable RX5 11 ∈ fT := f_pos (ws := [Cond.instantiable RX5 11]) [314] (by decide +kernel) (by decide +kernel) _ List.mem_cons_self
theorem ic_X6 : Cond.code yX6_init cX6_init 4 none ∈ fT := f_pos (ws := [Cond.code yX6_init cX6_init 4 none]) [359] (by decide +kernel) (by decide +kernel) _ List.mem_cons_self
theorem ii_X6 : Cond.instanceMethod yX6_init ∈ fT := f_pos (ws := [Cond.instanceMethod yX6_init]) [358] (by decide +kernel) (by decide +kernel) _ List.mem_cons_self
theorem iz_X6 : Cond.initialized RX6 ∈ fT := f_pos (ws := [Cond.initialized RX6]) [11] (by decide +kernel) (by decide +kernel) _ List.mem_cons_self
theorem it_X6 : Cond.instantiable RX6 11 ∈ fT := f_pos (ws := [Cond.instantiable RX6 11]) [356] (by decide +kernel) (by decide +kernel) _ List.mem_cons_self
theorem ic_X7 : Cond.code yX7_init cX7_init 2 none ∈ fT := f_pos (ws := [Cond.code yX7_init cX7_init 2 none]) [192] (by decide +kernel) (by decide +kernel) _ List.mem_cons_self
theorem ii_X7 : Cond.instanceMethod yX7_init ∈ fT := f_pos (ws := [Cond.instanceMethod yX7_init]) [191] (by decide +kernel) (by decide +kernel) _ List.mem_cons_self
theorem iz_X7 : Cond.initialized RX7 ∈ fT := f_pos (ws := [Cond.initialized RX7]) [7] (by decide +kernel) (by decide +kernel) _ List.mem_cons_self
theorem it_X7 : Cond.instantiable RX7 10 ∈ fT := f_pos (ws := [Cond.instantiable RX7 10]) [189] (by decide +kernel) (by decide +kernel) _ List.mem_cons_self
theorem ic_X9 : Cond.code yX9_init cX9_init 1 none ∈ fT := f_pos (ws := [Cond.code yX9_init cX9_init 1 none]) [35] (by decide +kernel) (by decide +kernel) _ List.mem_cons_self
theorem ii_X9 : Cond.instanceMethod yX9_init ∈ fT := f_pos (ws := [Cond.instanceMethod yX9_init]) [34] (by decide +kernel) (by decide +kernel) _ List.mem_cons_self
theorem iz_X9 : Cond.initialized RX9 ∈ fT := f_pos (ws := [Cond.initialized RX9]) [2] (by decide +kernel) (by decide +kernel) _ List.mem_cons_self
theorem it_X9 : Cond.instantiable RX9 6 ∈ fT := f_pos (ws := [Cond.instantiable RX9 6]) [32] (by decide +kernel) (by decide +kernel) _ List.mem_cons_self
theorem ic_X10 : Cond.code yX10_init cX10_init 2 none ∈ fT := f_pos (ws := [Cond.code yX10_init cX10_init 2 none]) [186] (by decide +kernel) (by decide +kernel) _ List.mem_cons_self
theorem ii_X10 : Cond.instanceMethod yX10_init ∈ fT := f_pos (ws := [Cond.instanceMethod yX10_init]) [185] (by decide +kernel) (by decide +kernel) _ List.mem_cons_self
theorem iz_X10 : Cond.initialized RX10 ∈ fT := f_pos (ws := [Cond.initialized RX10]) [6] (by decide +kernel) (by decide +kernel) _ List.mem_cons_self
theorem it_X10 : Cond.instantiable RX10 9 ∈ fT := f_pos (ws := [Cond.instantiable RX10 9]) [183] (by decide +kernel) (by decide +kernel) _ List.mem_cons_self
theorem ic_X11 : Cond.code yX11_init cX11_init 1 none ∈ fT := f_pos (ws := [Cond.code yX11_init cX11_init 1 none]) [27] (by decide +kernel) (by decide +kernel) _ List.mem_cons_self
theorem ii_X11 : Cond.instanceMethod yX11_init ∈ fT := f_pos (ws := [Cond.instanceMethod yX11_init]) [26] (by decide +kernel) (by decide +kernel) _ List.mem_cons_self
theorem iz_X11 : Cond.initialized RX11 ∈ fT := f_pos (ws := [Cond.initialized RX11]) [1] (by decide +kernel) (by decide +kernel) _ List.mem_cons_self
theorem it_X11 : Cond.instantiable RX11 12 ∈ fT := f_pos (ws := [Cond.instantiable RX11 12]) [24] (by decide +kernel) (by decide +kernel) _ List.mem_cons_self
theorem ic_X12 : Cond.code yX12_init cX12_init 2 none ∈ fT := f_pos (ws := [Cond.code yX12_init cX12_init 2 none]) [1203] (by decide +kernel) (by decide +kernel) _ List.mem_cons_self
theorem ii_X12 : Cond.instanceMethod yX12_init ∈ fT := f_pos (ws := [Cond.instanceMethod yX12_init]) [1202] (by decide +kernel) (by decide +kernel) _ List.mem_cons_self
theorem iz_X12 : Cond.initialized RX12 ∈ fT := f_pos (ws := [Cond.initialized RX12]) [13] (by decide +kernel) (by decide +kernel) _ List.mem_cons_self
theorem it_X12 : Cond.instantiable RX12 95 ∈ fT := f_pos (ws := [Cond.instantiable RX12 95]) [1200] (by decide +kernel) (by decide +kernel) _ List.mem_cons_self
theorem kl_X10_34 : Cond.classLink RX10 34 RX7 ∈ fT := f_pos (ws := [Cond.classLink RX10 34 RX7]) [188] (by decide +kernel) (by decide +kernel) _ List.mem_cons_self
theorem kn_X10_36 : Cond.methodLink RX10 36 yX7_init ∈ fT := f_pos (ws := [Cond.methodLink RX10 36 yX7_init]) [190] (by decide +kernel) (by decide +kernel) _ List.mem_cons_self
def rmX7 : Room := { frames := 1, cells := 8, slots := 151, locals := 23 }
set_option maxHeartbeats 40000000 in
set_option maxRecDepth 100000 in
theorem nX7 (l : Launch) (dC : Nat → ClassId) (dI : Nat → Nat → Nat) (cy : Nat → ClassId) (h0 sz r1 : Nat) : Met l yX7_init (Cond.code yX7_init cX7_init 2 none :: fT) rmX7 (va_Pc [.ref h0, .ref r1] (fun U => U.heap.size = sz ∧ va_P (dC, dI) vwCl [(h0, .inr (7, [.null, .null, .null, .null, .null, .null, .null, .null, .null, .int 0]))] U.heap ∧ va_K (dC, dI) vwCl (f_tys cy) U))
    (va_Qv (fun _ : Unit => True) (fun _ t => ∃ (q1 q2 q3 q4 q5 q6 q7 q8 : Nat) (g : Nat → Int32), (∀ j : Nat, j < 20 → g j = -1) ∧ (∀ j : Nat, 20 ≤ j → g j = 0) ∧ va_P (dC, dI) vwCl [(h0, .inr (7, [.ref r1, .ref q1, .ref q2, .ref q3, .ref q4, .ref q5, .ref q6, .ref q7, .ref q8, .int 0])), (q1, .inl (cy 0, 20, .inl (fun _ => 0))), (q2, .inl (cy 0, 20, .inl (fun _ => 0))), (q3, .inl (cy 0, 20, .inl (fun _ => 0))), (q4, .inl (cy 0, 20, .inl (fun _ => 0))), (q5, .inl (cy 0, 20, .inl (fun _ => 0))), (q6, .inl (cy 0, 20, .inl g)), (q7, .inl (cy 0, 10, .inl (fun _ => 0))), (q8, .inl (cy 0, 21, .inl (upd (fun _ => 0) 0 1)))] t.heap ∧ va_D (va_A [(h0, .inr (7, [.null, .null, .null, .null, .null, .null, .null, .null, .null, .int 0]))] sz) [(h0, .inr (7, [.ref r1, .ref q1, .ref q2, .ref q3, .ref q4, .ref q5, .ref q6, .ref q7, .ref q8, .int 0])), (q1, .inl (cy 0, 20, .inl (fun _ => 0))), (q2, .inl (cy 0, 20, .inl (fun _ => 0))), (q3, .inl (cy 0, 20, .inl (fun _ => 0))), (q4, .inl (cy 0, 20, .inl (fun _ => 0))), (q5, .inl (cy 0, 20, .inl (fun _ => 0))), (q6, .inl (cy 0, 20, .inl g)), (q7, .inl (cy 0, 10, .inl (fun _ => 0))), (q8, .inl (cy 0, 21, .inl (upd (fun _ => 0) 0 1)))]) (va_A [(h0, .inr (7, [.null, .null, .null, .null, .null, .null, .null, .null, .null, .int 0]))] sz)) 8 151 (va_A [(h0, .inr (7, [.null, .null, .null, .null, .null, .null, .null, .null, .null, .int 0]))] sz) := by
  refine Met.ofW (cc := cX7_init) (maxL := 2) (ret := none) (by decide) rfl ?_
  intro p e s m args below meth c s₁ B hml hv
  obtain ⟨rfl, hsz, hP, hK⟩ := hv
  have hx := B.exec
  have hb := B.bytes
  have hr := B.returns
  have hts0 := atoms_spec (ws := Cond.code yX7_init cX7_init 2 none :: fT) B.pre
  have hts : ∀ w ∈ fT, w.before _ s = true := fun w h => hts0 w (List.mem_cons_of_mem _ h)
  have hown : s.vm.findClass RX7 = some m.cls := findClass_of_methodNamed B.named
  have hlocks := B.notSynchronized
  have hin : meth.name = "<init>" := (name_of_methodNamed B.named B.method).1
  have C : g_Cx p s m [Value.ref h0, Value.ref r1].toArray meth c cy dC dI cX7_init RX7 := ⟨hx, hb, hown, hts, hin, hK⟩
  subst hsz
  have hD : va_D (va_A [(h0, .inr (7, [.null, .null, .null, .null, .null, .null, .null, .null, .null, .int 0]))] s.heap.size) [(h0, .inr (7, [.null, .null, .null, .null, .null, .null, .null, .null, .null, .int 0]))] := g_one
  generalize hAe : va_A [(h0, .inr (7, [.null, .null, .null, .null, .null, .null, .null, .null, .null, .int 0]))] s.heap.size = A at hD ⊢
  have hA : ∀ q : Nat, s.heap.size ≤ q → A q := fun q h => by rw [← hAe]; exact Or.inr h
  have hS : va_S A s.heap s.heap [] := va_S.rf
  have hl := lv_entry ([.ref h0, .ref r1]) (n := 2) (Nat.le_of_ble_eq_true rfl)
  rw [lg_entry_eq]
  generalize (lg_sl ([.ref h0, .ref r1]) ++ List.replicate (2 - (lg_sl ([.ref h0, .ref r1])).length) Slot.unset).toArray = ls at hl ⊢
  have hl : lv_has ls 2 [(0, .ref h0), (1, .ref r1)] := hl
  refine lv_aload_n (k := 0) (i := 0) (x := h0) hx hb (by decide +kernel) rfl (lv_at hl 0 rfl) ?_
  refine W.objInit hx hb hown (hts _ oi_X7) (hts _ oi_im) (hts _ oi_co) rfl (by rw [hml]; exact hl.1) rfl (by show decode cX7_init 1 = .ok (.invokespecial 5, 3); decide +kernel) (Nat.le_of_ble_eq_true rfl) (Nat.le_of_ble_eq_true rfl) ?_
  refine W.eq (g2 := F0 m 4 ls []) rfl ?_
  have hlen : ([.null, .null, .null, .null, .null, .null, .null, .null, .null, .int 0] : List Value).length = 10 := rfl
  refine lv_aload_n (k := 0) (i := 0) (x := h0) hx hb (by decide +kernel) rfl (lv_at hl 0 rfl) ?_
  refine lv_bipush (v := 20) hx hb (n := 20) (by decide +kernel) rfl ?_
  refine g_na C hlen hP hD hS hA (atype := .int) rfl 0 rfl ac_int (N' := 20) (a0 := (20, .inl (fun _ => 0))) (fun _ => rfl) (by decide) (by decide) (by decide) (Nat.le_of_ble_eq_true rfl) (Nat.le_of_ble_eq_true rfl) (by decide +kernel) (k := 1) (j := 13) (T := TX7) rfl (g_link flX7_ok (w := 0) rfl rfl) rfl rfl rfl (fun _ => rfl) (fun _ => rfl) (by decide +kernel) (fun q1 H locs _ hP hD hS => ?_)
  replace hlen : ([.null, .ref q1, .null, .null, .null, .null, .null, .null, .null, .int 0] : List Value).length = 10 := rfl
  replace hP : va_P (dC, dI) vwCl [(h0, .inr (7, [.null, .ref q1, .null, .null, .null, .null, .null, .null, .null, .int 0])), (q1, .inl (cy 0, 20, .inl (fun _ => 0)))] H := hP
  replace hD : va_D A [(h0, .inr (7, [.null, .ref q1, .null, .null, .null, .null, .null, .null, .null, .int 0])), (q1, .inl (cy 0, 20, .inl (fun _ => 0)))] := hD
  refine lv_aload_n (k := 0) (i := 0) (x := h0) hx hb (by decide +kernel) rfl (lv_at hl 0 rfl) ?_
  refine lv_bipush (v := 20) hx hb (n := 20) (by decide +kernel) rfl ?_
  refine g_na C hlen hP hD hS hA (atype := .int) rfl 0 rfl ac_int (N' := 20) (a0 := (20, .inl (fun _ => 0))) (fun _ => rfl) (by decide) (by decide) (by decide) (Nat.le_of_ble_eq_true rfl) (Nat.le_of_ble_eq_true rfl) (by decide +kernel) (k := 2) (j := 17) (T := TX7) rfl (g_link flX7_ok (w := 0) rfl rfl) rfl rfl rfl (fun _ => rfl) (fun _ => rfl) (by decide +kernel) (fun q2 H locs _ hP hD hS => ?_)
  replace hlen : ([.null, .ref q1, .ref q2, .null, .null, .null, .null, .null, .null, .int 0] : List Value).length = 10 := rfl
  replace hP : va_P (dC, dI) vwCl [(h0, .inr (7, [.null, .ref q1, .ref q2, .null, .null, .null, .null, .null, .null, .int 0])), (q1, .inl (cy 0, 20, .inl (fun _ => 0))), (q2, .inl (cy 0, 20, .inl (fun _ => 0)))] H := hP
  replace hD : va_D A [(h0, .inr (7, [.null, .ref q1, .ref q2, .null, .null, .null, .null, .null, .null, .int 0])), (q1, .inl (cy 0, 20, .inl (fun _ => 0))), (q2, .inl (cy 0, 20, .inl (fun _ => 0)))] := hD
  refine lv_aload_n (k := 0) (i := 0) (x := h0) hx hb (by decide +kernel) rfl (lv_at hl 0 rfl) ?_
  refine lv_bipush (v := 20) hx hb (n := 20) (by decide +kernel) rfl ?_
  refine g_na C hlen hP hD hS hA (atype := .int) rfl 0 rfl ac_int (N' := 20) (a0 := (20, .inl (fun _ => 0))) (fun _ => rfl) (by decide) (by decide) (by decide) (Nat.le_of_ble_eq_true rfl) (Nat.le_of_ble_eq_true rfl) (by decide +kernel) (k := 3) (j := 20) (T := TX7) rfl (g_link flX7_ok (w := 0) rfl rfl) rfl rfl rfl (fun _ => rfl) (fun _ => rfl) (by decide +kernel) (fun q3 H locs _ hP hD hS => ?_)
  replace hlen : ([.null, .ref q1, .ref q2, .ref q3, .null, .null, .null, .null, .null, .int 0] : List Value).length = 10 := rfl
  replace hP : va_P (dC, dI) vwCl [(h0, .inr (7, [.null, .ref q1, .ref q2, .ref q3, .null, .null, .null, .null, .null, .int 0])), (q1, .inl (cy 0, 20, .inl (fun _ => 0))), (q2, .inl (cy 0, 20, .inl (fun _ => 0))), (q3, .inl (cy 0, 20, .inl (fun _ => 0)))] H := hP
  replace hD : va_D A [(h0, .inr (7, [.null, .ref q1, .ref q2, .ref q3, .null, .null, .null, .null, .null, .int 0])), (q1, .inl (cy 0, 20, .inl (fun _ => 0))), (q2, .inl (cy 0, 20, .inl (fun _ => 0))), (q3, .inl (cy 0, 20, .inl (fun _ => 0)))] := hD
  refine lv_aload_n (k := 0) (i := 0) (x := h0) hx hb (by decide +kernel) rfl (lv_at hl 0 rfl) ?_
  refine lv_bipush (v := 20) hx hb (n := 20) (by decide +kernel) rfl ?_
  refine g_na C hlen hP hD hS hA (atype := .int) rfl 0 rfl ac_int (N' := 20) (a0 := (20, .inl (fun _ => 0))) (fun _ => rfl) (by decide) (by decide) (by decide) (Nat.le_of_ble_eq_true rfl) (Nat.le_of_ble_eq_true rfl) (by decide +kernel) (k := 4) (j := 23) (T := TX7) rfl (g_link flX7_ok (w := 0) rfl rfl) rfl rfl rfl (fun _ => rfl) (fun _ => rfl) (by decide +kernel) (fun q4 H locs _ hP hD hS => ?_)
  replace hlen : ([.null, .ref q1, .ref q2, .ref q3, .ref q4, .null, .null, .null, .null, .int 0] : List Value).length = 10 := rfl
  replace hP : va_P (dC, dI) vwCl [(h0, .inr (7, [.null, .ref q1, .ref q2, .ref q3, .ref q4, .null, .null, .null, .null, .int 0])), (q1, .inl (cy 0, 20, .inl (fun _ => 0))), (q2, .inl (cy 0, 20, .inl (fun _ => 0))), (q3, .inl (cy 0, 20, .inl (fun _ => 0))), (q4, .inl (cy 0, 20, .inl (fun _ => 0)))] H := hP
  replace hD : va_D A [(h0, .inr (7, [.null, .ref q1, .ref q2, .ref q3, .ref q4, .null, .null, .null, .null, .int 0])), (q1, .inl (cy 0, 20, .inl (fun _ => 0))), (q2, .inl (cy 0, 20, .inl (fun _ => 0))), (q3, .inl (cy 0, 20, .inl (fun _ => 0))), (q4, .inl (cy 0, 20, .inl (fun _ => 0)))] := hD
  refine lv_aload_n (k := 0) (i := 0) (x := h0) hx hb (by decide +kernel) rfl (lv_at hl 0 rfl) ?_
  refine lv_bipush (v := 20) hx hb (n := 20) (by decide +kernel) rfl ?_
  refine g_na C hlen hP hD hS hA (atype := .int) rfl 0 rfl ac_int (N' := 20) (a0 := (20, .inl (fun _ => 0))) (fun _ => rfl) (by decide) (by decide) (by decide) (Nat.le_of_ble_eq_true rfl) (Nat.le_of_ble_eq_true rfl) (by decide +kernel) (k := 5) (j := 26) (T := TX7) rfl (g_link flX7_ok (w := 0) rfl rfl) rfl rfl rfl (fun _ => rfl) (fun _ => rfl) (by decide +kernel) (fun q5 H locs _ hP hD hS => ?_)
  replace hlen : ([.null, .ref q1, .ref q2, .ref q3, .ref q4, .ref q5, .null, .null, .null, .int 0] : List Value).length = 10 := rfl
  replace hP : va_P (dC, dI) vwCl [(h0, .inr (7, [.null, .ref q1, .ref q2, .ref q3, .ref q4, .ref q5, .null, .null, .null, .int 0])), (q1, .inl (cy 0, 20, .inl (fun _ => 0))), (q2, .inl (cy 0, 20, .inl (fun _ => 0))), (q3, .inl (cy 0, 20, .inl (fun _ => 0))), (q4, .inl (cy 0, 20, .inl (fun _ => 0))), (q5, .inl (cy 0, 20, .inl (fun _ => 0)))] H := hP
  replace hD : va_D A [(h0, .inr (7, [.null, .ref q1, .ref q2, .ref q3, .ref q4, .ref q5, .null, .null, .null, .int 0])), (q1, .inl (cy 0, 20, .inl (fun _ => 0))), (q2, .inl (cy 0, 20, .inl (fun _ => 0))), (q3, .inl (cy 0, 20, .inl (fun _ => 0))), (q4, .inl (cy 0, 20, .inl (fun _ => 0))), (q5, .inl (cy 0, 20, .inl (fun _ => 0)))] := hD
  refine lv_aload_n (k := 0) (i := 0) (x := h0) hx hb (by decide +kernel) rfl (lv_at hl 0 rfl) ?_
  refine lv_bipush (v := 20) hx hb (n := 20) (by decide +kernel) rfl ?_
  refine g_na C hlen hP hD hS hA (atype := .int) rfl 0 rfl ac_int (N' := 20) (a0 := (20, .inl (fun _ => 0))) (fun _ => rfl) (by decide) (by decide) (by decide) (Nat.le_of_ble_eq_true rfl) (Nat.le_of_ble_eq_true rfl) (by decide +kernel) (k := 6) (j := 29) (T := TX7) rfl (g_link flX7_ok (w := 0) rfl rfl) rfl rfl rfl (fun _ => rfl) (fun _ => rfl) (by decide +kernel) (fun q6 H locs _ hP hD hS => ?_)
  replace hlen : ([.null, .ref q1, .ref q2, .ref q3, .ref q4, .ref q5, .ref q6, .null, .null, .int 0] : List Value).length = 10 := rfl
  replace hP : va_P (dC, dI) vwCl [(h0, .inr (7, [.null, .ref q1, .ref q2, .ref q3, .ref q4, .ref q5, .ref q6, .null, .null, .int 0])), (q1, .inl (cy 0, 20, .inl (fun _ => 0))), (q2, .inl (cy 0, 20, .inl (fun _ => 0))), (q3, .inl (cy 0, 20, .inl (fun _ => 0))), (q4, .inl (cy 0, 20, .inl (fun _ => 0))), (q5, .inl (cy 0, 20, .inl (fun _ => 0))), (q6, .inl (cy 0, 20, .inl (fun _ => 0)))] H := hP
  replace hD : va_D A [(h0, .inr (7, [.null, .ref q1, .ref q2, .ref q3, .ref q4, .ref q5, .ref q6, .null, .null, .int 0])), (q1, .inl (cy 0, 20, .inl (fun _ => 0))), (q2, .inl (cy 0, 20, .inl (fun _ => 0))), (q3, .inl (cy 0, 20, .inl (fun _ => 0))), (q4, .inl (cy 0, 20, .inl (fun _ => 0))), (q5, .inl (cy 0, 20, .inl (fun _ => 0))), (q6, .inl (cy 0, 20, .inl (fun _ => 0)))] := hD
  refine lv_aload_n (k := 0) (i := 0) (x := h0) hx hb (by decide +kernel) rfl (lv_at hl 0 rfl) ?_
  refine lv_bipush (v := 10) hx hb (n := 10) (by decide +kernel) rfl ?_
  refine g_na C hlen hP hD hS hA (atype := .int) rfl 0 rfl ac_int (N' := 10) (a0 := (10, .inl (fun _ => 0))) (fun _ => rfl) (by decide) (by decide) (by decide) (Nat.le_of_ble_eq_true rfl) (Nat.le_of_ble_eq_true rfl) (by decide +kernel) (k := 7) (j := 32) (T := TX7) rfl (g_link flX7_ok (w := 0) rfl rfl) rfl rfl rfl (fun _ => rfl) (fun _ => rfl) (by decide +kernel) (fun q7 H locs _ hP hD hS => ?_)
  replace hlen : ([.null, .ref q1, .ref q2, .ref q3, .ref q4, .ref q5, .ref q6, .ref q7, .null, .int 0] : List Value).length = 10 := rfl
  replace hP : va_P (dC, dI) vwCl [(h0, .inr (7, [.null, .ref q1, .ref q2, .ref q3, .ref q4, .ref q5, .ref q6, .ref q7, .null, .int 0])), (q1, .inl (cy 0, 20, .inl (fun _ => 0))), (q2, .inl (cy 0, 20, .inl (fun _ => 0))), (q3, .inl (cy 0, 20, .inl (fun _ => 0))), (q4, .inl (cy 0, 20, .inl (fun _ => 0))), (q5, .inl (cy 0, 20, .inl (fun _ => 0))), (q6, .inl (cy 0, 20, .inl (fun _ => 0))), (q7, .inl (cy 0, 10, .inl (fun _ => 0)))] H := hP
  replace hD : va_D A [(h0, .inr (7, [.null, .ref q1, .ref q2, .ref q3, .ref q4, .ref q5, .ref q6, .ref q7, .null, .int 0])), (q1, .inl (cy 0, 20, .inl (fun _ => 0))), (q2, .inl (cy 0, 20, .inl (fun _ => 0))), (q3, .inl (cy 0, 20, .inl (fun _ => 0))), (q4, .inl (cy 0, 20, .inl (fun _ => 0))), (q5, .inl (cy 0, 20, .inl (fun _ => 0))), (q6, .inl (cy 0, 20, .inl (fun _ => 0))), (q7, .inl (cy 0, 10, .inl (fun _ => 0)))] := hD
  refine lv_aload_n (k := 0) (i := 0) (x := h0) hx hb (by decide +kernel) rfl (lv_at hl 0 rfl) ?_
  refine lv_bipush (v := 21) hx hb (n := 21) (by decide +kernel) rfl ?_
  refine g_na C hlen hP hD hS hA (atype := .int) rfl 0 rfl ac_int (N' := 21) (a0 := (21, .inl (fun _ => 0))) (fun _ => rfl) (by decide) (by decide) (by decide) (Nat.le_of_ble_eq_true rfl) (Nat.le_of_ble_eq_true rfl) (by decide +kernel) (k := 8) (j := 35) (T := TX7) rfl (g_link flX7_ok (w := 0) rfl rfl) rfl rfl rfl (fun _ => rfl) (fun _ => rfl) (by decide +kernel) (fun q8 H locs _ hP hD hS => ?_)
  replace hlen : ([.null, .ref q1, .ref q2, .ref q3, .ref q4, .ref q5, .ref q6, .ref q7, .ref q8, .int 0] : List Value).length = 10 := rfl
  replace hP : va_P (dC, dI) vwCl [(h0, .inr (7, [.null, .ref q1, .ref q2, .ref q3, .ref q4, .ref q5, .ref q6, .ref q7, .ref q8, .int 0])), (q1, .inl (cy 0, 20, .inl (fun _ => 0))), (q2, .inl (cy 0, 20, .inl (fun _ => 0))), (q3, .inl (cy 0, 20, .inl (fun _ => 0))), (q4, .inl (cy 0, 20, .inl (fun _ => 0))), (q5, .inl (cy 0, 20, .inl (fun _ => 0))), (q6, .inl (cy 0, 20, .inl (fun _ => 0))), (q7, .inl (cy 0, 10, .inl (fun _ => 0))), (q8, .inl (cy 0, 21, .inl (fun _ => 0)))] H := hP
  replace hD : va_D A [(h0, .inr (7, [.null, .ref q1, .ref q2, .ref q3, .ref q4, .ref q5, .ref q6, .ref q7, .ref q8, .int 0])), (q1, .inl (cy 0, 20, .inl (fun _ => 0))), (q2, .inl (cy 0, 20, .inl (fun _ => 0))), (q3, .inl (cy 0, 20, .inl (fun _ => 0))), (q4, .inl (cy 0, 20, .inl (fun _ => 0))), (q5, .inl (cy 0, 20, .inl (fun _ => 0))), (q6, .inl (cy 0, 20, .inl (fun _ => 0))), (q7, .inl (cy 0, 10, .inl (fun _ => 0))), (q8, .inl (cy 0, 21, .inl (fun _ => 0)))] := hD
  refine lv_aload_n (k := 0) (i := 0) (x := h0) hx hb (by decide +kernel) rfl (lv_at hl 0 rfl) ?_
  refine lv_aload_n (k := 1) (i := 1) (x := r1) hx hb (by decide +kernel) rfl (lv_at hl 1 rfl) ?_
  refine g_pf C hlen hP hD hS (k := 0) (j := 38) (T := TX7) rfl (g_link flX7_ok (w := 0) rfl rfl) rfl rfl rfl rfl rfl (by decide +kernel) (fun H locs _ hP hD hS => ?_)
  replace hlen : ([.ref r1, .ref q1, .ref q2, .ref q3, .ref q4, .ref q5, .ref q6, .ref q7, .ref q8, .int 0] : List Value).length = 10 := rfl
  replace hP : va_P (dC, dI) vwCl [(h0, .inr (7, [.ref r1, .ref q1, .ref q2, .ref q3, .ref q4, .ref q5, .ref q6, .ref q7, .ref q8, .int 0])), (q1, .inl (cy 0, 20, .inl (fun _ => 0))), (q2, .inl (cy 0, 20, .inl (fun _ => 0))), (q3, .inl (cy 0, 20, .inl (fun _ => 0))), (q4, .inl (cy 0, 20, .inl (fun _ => 0))), (q5, .inl (cy 0, 20, .inl (fun _ => 0))), (q6, .inl (cy 0, 20, .inl (fun _ => 0))), (q7, .inl (cy 0, 10, .inl (fun _ => 0))), (q8, .inl (cy 0, 21, .inl (fun _ => 0)))] H := hP
  replace hD : va_D A [(h0, .inr (7, [.ref r1, .ref q1, .ref q2, .ref q3, .ref q4, .ref q5, .ref q6, .ref q7, .ref q8, .int 0])), (q1, .inl (cy 0, 20, .inl (fun _ => 0))), (q2, .inl (cy 0, 20, .inl (fun _ => 0))), (q3, .inl (cy 0, 20, .inl (fun _ => 0))), (q4, .inl (cy 0, 20, .inl (fun _ => 0))), (q5, .inl (cy 0, 20, .inl (fun _ => 0))), (q6, .inl (cy 0, 20, .inl (fun _ => 0))), (q7, .inl (cy 0, 10, .inl (fun _ => 0))), (q8, .inl (cy 0, 21, .inl (fun _ => 0)))] := hD
  refine lv_aload_n (k := 0) (i := 0) (x := h0) hx hb (by decide +kernel) rfl (lv_at hl 0 rfl) ?_
  refine va_get hx hb hts (f_cl 7 _ _ _ rfl).1 hown hK hP 0 rfl rfl 8 (by decide) (hts _ (g_link flX7_ok (j := 35) (w := 0) rfl (T := TX7) rfl).2) (fun _ h9 => h9) rfl (by decide +kernel) ?_
  refine lv_iconst (v := 0) hx hb (n := 0) (by decide +kernel) rfl ?_
  refine lv_iconst (v := 1) hx hb (n := 1) (by decide +kernel) rfl ?_
  refine va_iast hx hb hK hP hD hS 8 0 rfl rfl (f_in_vp ⟨by decide, by decide⟩) (by decide +kernel) (fun H locs hP hD hS => ?_)
  replace hP : va_P (dC, dI) vwCl [(h0, .inr (7, [.ref r1, .ref q1, .ref q2, .ref q3, .ref q4, .ref q5, .ref q6, .ref q7, .ref q8, .int 0])), (q1, .inl (cy 0, 20, .inl (fun _ => 0))), (q2, .inl (cy 0, 20, .inl (fun _ => 0))), (q3, .inl (cy 0, 20, .inl (fun _ => 0))), (q4, .inl (cy 0, 20, .inl (fun _ => 0))), (q5, .inl (cy 0, 20, .inl (fun _ => 0))), (q6, .inl (cy 0, 20, .inl (fun _ => 0))), (q7, .inl (cy 0, 10, .inl (fun _ => 0))), (q8, .inl (cy 0, 21, .inl (upd (fun _ => 0) 0 1)))] H := hP
  replace hD : va_D A [(h0, .inr (7, [.ref r1, .ref q1, .ref q2, .ref q3, .ref q4, .ref q5, .ref q6, .ref q7, .ref q8, .int 0])), (q1, .inl (cy 0, 20, .inl (fun _ => 0))), (q2, .inl (cy 0, 20, .inl (fun _ => 0))), (q3, .inl (cy 0, 20, .inl (fun _ => 0))), (q4, .inl (cy 0, 20, .inl (fun _ => 0))), (q5, .inl (cy 0, 20, .inl (fun _ => 0))), (q6, .inl (cy 0, 20, .inl (fun _ => 0))), (q7, .inl (cy 0, 10, .inl (fun _ => 0))), (q8, .inl (cy 0, 21, .inl (upd (fun _ => 0) 0 1)))] := hD
  refine lv_aload_n (k := 0) (i := 0) (x := h0) hx hb (by decide +kernel) rfl (lv_at hl 0 rfl) ?_
  refine va_get hx hb hts (f_cl 7 _ _ _ rfl).1 hown hK hP 0 rfl rfl 6 (by decide) (hts _ (g_link flX7_ok (j := 29) (w := 0) rfl (T := TX7) rfl).2) (fun _ h9 => h9) rfl (by decide +kernel) ?_
  refine lv_iconst (v := -1) hx hb (n := (-1)) (by decide +kernel) rfl ?_
  refine g_fill (q0 := 6) ⟨hx, hb, hml, hown, hts⟩ (mlX7_ok _ (List.mem_of_getElem? (i := 0) rfl)) (by decide) ⟨Nat.le_of_ble_eq_true rfl, Nat.le_of_ble_eq_true rfl⟩ ⟨Nat.le_of_ble_eq_true rfl, Nat.le_of_ble_eq_true rfl⟩ hK hP hD hS rfl hl.1 (by decide) (by decide +kernel) (fun g H locs hg1 hg2 hP hD hS => ?_)
  replace hP : va_P (dC, dI) vwCl [(h0, .inr (7, [.ref r1, .ref q1, .ref q2, .ref q3, .ref q4, .ref q5, .ref q6, .ref q7, .ref q8, .int 0])), (q1, .inl (cy 0, 20, .inl (fun _ => 0))), (q2, .inl (cy 0, 20, .inl (fun _ => 0))), (q3, .inl (cy 0, 20, .inl (fun _ => 0))), (q4, .inl (cy 0, 20, .inl (fun _ => 0))), (q5, .inl (cy 0, 20, .inl (fun _ => 0))), (q6, .inl (cy 0, 20, .inl g)), (q7, .inl (cy 0, 10, .inl (fun _ => 0))), (q8, .inl (cy 0, 21, .inl (upd (fun _ => 0) 0 1)))] H := hP
  replace hD : va_D A [(h0, .inr (7, [.ref r1, .ref q1, .ref q2, .ref q3, .ref q4, .ref q5, .ref q6, .ref q7, .ref q8, .int 0])), (q1, .inl (cy 0, 20, .inl (fun _ => 0))), (q2, .inl (cy 0, 20, .inl (fun _ => 0))), (q3, .inl (cy 0, 20, .inl (fun _ => 0))), (q4, .inl (cy 0, 20, .inl (fun _ => 0))), (q5, .inl (cy 0, 20, .inl (fun _ => 0))), (q6, .inl (cy 0, 20, .inl g)), (q7, .inl (cy 0, 10, .inl (fun _ => 0))), (q8, .inl (cy 0, 21, .inl (upd (fun _ => 0) 0 1)))] := hD
  exact W.vret hx hb hr (fun t ht hW => ⟨⟨(), rfl, trivial, q1, q2, q3, q4, q5, q6, q7, q8, g, hg1, hg2, by rw [ht]; exact hP, hD⟩, hS.F ht⟩) hS.2.2 (by decide +kernel)
def rmX10 : Room := { frames := 2, cells := 14, slots := 203, locals := 60 }
set_option maxHeartbeats 40000000 in
set_option maxRecDepth 100000 in
theorem nX10 (l : Launch) (dC : Nat → ClassId) (dI : Nat → Nat → Nat) (cy : Nat → ClassId) (h0 sz r1 : Nat) : Met l yX10_init (Cond.code yX10_init cX10_init 2 none :: fT) rmX10 (va_Pc [.ref h0, .ref r1] (fun U => U.heap.size = sz ∧ va_P (dC, dI) vwCl [(h0, .inr (9, [.null, .null, .null, .null, .null, .null, .null, .int 0, .int 0]))] U.heap ∧ va_K (dC, dI) vwCl (f_tys cy) U))
    (va_Qv (fun _ : Unit => True) (fun _ t => ∃ (q1 q2 q3 q4 q5 k0 k1 k2 k3 k4 k5 k6 k7 k8 : Nat) (g : Nat → Int32), (∀ j : Nat, j < 20 → g j = -1) ∧ (∀ j : Nat, 20 ≤ j → g j = 0) ∧ va_P (dC, dI) vwCl [(h0, .inr (9, [.ref r1, .ref k0, .ref q1, .ref q2, .ref q3, .ref q4, .ref q5, .int 0, .int 0])), (q1, .inl (cy 0, 8, .inl (fun _ => 0))), (q2, .inl (cy 0, 8, .inl (fun _ => 0))), (q3, .inl (cy 0, 8, .inl (fun _ => 0))), (q4, .inl (cy 1, 9, .inr (.inl (fun _ => 0)))), (q5, .inl (cy 1, 9, .inr (.inl (fun _ => 0)))), (k0, .inr (7, [.ref r1, .ref k1, .ref k2, .ref k3, .ref k4, .ref k5, .ref k6, .ref k7, .ref k8, .int 0])), (k1, .inl (cy 0, 20, .inl (fun _ => 0))), (k2, .inl (cy 0, 20, .inl (fun _ => 0))), (k3, .inl (cy 0, 20, .inl (fun _ => 0))), (k4, .inl (cy 0, 20, .inl (fun _ => 0))), (k5, .inl (cy 0, 20, .inl (fun _ => 0))), (k6, .inl (cy 0, 20, .inl g)), (k7, .inl (cy 0, 10, .inl (fun _ => 0))), (k8, .inl (cy 0, 21, .inl (upd (fun _ => 0) 0 1)))] t.heap ∧ va_D (va_A [(h0, .inr (9, [.null, .null, .null, .null, .null, .null, .null, .int 0, .int 0]))] sz) [(h0, .inr (9, [.ref r1, .ref k0, .ref q1, .ref q2, .ref q3, .ref q4, .ref q5, .int 0, .int 0])), (q1, .inl (cy 0, 8, .inl (fun _ => 0))), (q2, .inl (cy 0, 8, .inl (fun _ => 0))), (q3, .inl (cy 0, 8, .inl (fun _ => 0))), (q4, .inl (cy 1, 9, .inr (.inl (fun _ => 0)))), (q5, .inl (cy 1, 9, .inr (.inl (fun _ => 0)))), (k0, .inr (7, [.ref r1, .ref k1, .ref k2, .ref k3, .ref k4, .ref k5, .ref k6, .ref k7, .ref k8, .int 0])), (k1, .inl (cy 0, 20, .inl (fun _ => 0))), (k2, .inl (cy 0, 20, .inl (fun _ => 0))), (k3, .inl (cy 0, 20, .inl (fun _ => 0))), (k4, .inl (cy 0, 20, .inl (fun _ => 0))), (k5, .inl (cy 0, 20, .inl (fun _ => 0))), (k6, .inl (cy 0, 20, .inl g)), (k7, .inl (cy 0, 10, .inl (fun _ => 0))), (k8, .inl (cy 0, 21, .inl (upd (fun _ => 0) 0 1)))]) (va_A [(h0, .inr (9, [.null, .null, .null, .null, .null, .null, .null, .int 0, .int 0]))] sz)) 14 203 (va_A [(h0, .inr (9, [.null, .null, .null, .null, .null, .null, .null, .int 0, .int 0]))] sz) := by
  refine Met.ofW (cc := cX10_init) (maxL := 2) (ret := none) (by decide) rfl ?_
  intro p e s m args below meth c s₁ B hml hv
  obtain ⟨rfl, hsz, hP, hK⟩ := hv
  have hx := B.exec
  have hb := B.bytes
  have hr := B.returns
  have hts0 := atoms_spec (ws := Cond.code yX10_init cX10_init 2 none :: fT) B.pre
  have hts : ∀ w ∈ fT, w.before _ s = true := fun w h => hts0 w (List.mem_cons_of_mem _ h)
  have hown : s.vm.findClass RX10 = some m.cls := findClass_of_methodNamed B.named
  have hlocks := B.notSynchronized
  have hin : meth.name = "<init>" := (name_of_methodNamed B.named B.method).1
  have C : g_Cx p s m [Value.ref h0, Value.ref r1].toArray meth c cy dC dI cX10_init RX10 := ⟨hx, hb, hown, hts, hin, hK⟩
  subst hsz
  have hD : va_D (va_A [(h0, .inr (9, [.null, .null, .null, .null, .null, .null, .null, .int 0, .int 0]))] s.heap.size) [(h0, .inr (9, [.null, .null, .null, .null, .null, .null, .null, .int 0, .int 0]))] := g_one
  generalize hAe : va_A [(h0, .inr (9, [.null, .null, .null, .null, .null, .null, .null, .int 0, .int 0]))] s.heap.size = A at hD ⊢
  have hA : ∀ q : Nat, s.heap.size ≤ q → A q := fun q h => by rw [← hAe]; exact Or.inr h
  have hS : va_S A s.heap s.heap [] := va_S.rf
  have hl := lv_entry ([.ref h0, .ref r1]) (n := 2) (Nat.le_of_ble_eq_true rfl)
  rw [lg_entry_eq]
  generalize (lg_sl ([.ref h0, .ref r1]) ++ List.replicate (2 - (lg_sl ([.ref h0, .ref r1])).length) Slot.unset).toArray = ls at hl ⊢
  have hl : lv_has ls 2 [(0, .ref h0), (1, .ref r1)] := hl
  refine lv_aload_n (k := 0) (i := 0) (x := h0) hx hb (by decide +kernel) rfl (lv_at hl 0 rfl) ?_
  refine W.objInit hx hb hown (hts _ oi_X10) (hts _ oi_im) (hts _ oi_co) rfl (by rw [hml]; exact hl.1) rfl (by show decode cX10_init 1 = .ok (.invokespecial 5, 3); decide +kernel) (Nat.le_of_ble_eq_true rfl) (Nat.le_of_ble_eq_true rfl) ?_
  refine W.eq (g2 := F0 m 4 ls []) rfl ?_
  have hlen : ([.null, .null, .null, .null, .null, .null, .null, .int 0, .int 0] : List Value).length = 9 := rfl
  refine lv_aload_n (k := 0) (i := 0) (x := h0) hx hb (by decide +kernel) rfl (lv_at hl 0 rfl) ?_
  refine lv_bipush (v := 8) hx hb (n := 8) (by decide +kernel) rfl ?_
  refine g_na C hlen hP hD hS hA (atype := .int) rfl 0 rfl ac_int (N' := 8) (a0 := (8, .inl (fun _ => 0))) (fun _ => rfl) (by decide) (by decide) (by decide) (Nat.le_of_ble_eq_true rfl) (Nat.le_of_ble_eq_true rfl) (by decide +kernel) (k := 2) (j := 13) (T := TX10) rfl (g_link flX10_ok (w := 0) rfl rfl) rfl rfl rfl (fun _ => rfl) (fun _ => rfl) (by decide +kernel) (fun q1 H locs _ hP hD hS => ?_)
  replace hlen : ([.null, .null, .ref q1, .null, .null, .null, .null, .int 0, .int 0] : List Value).length = 9 := rfl
  replace hP : va_P (dC, dI) vwCl [(h0, .inr (9, [.null, .null, .ref q1, .null, .null, .null, .null, .int 0, .int 0])), (q1, .inl (cy 0, 8, .inl (fun _ => 0)))] H := hP
  replace hD : va_D A [(h0, .inr (9, [.null, .null, .ref q1, .null, .null, .null, .null, .int 0, .int 0])), (q1, .inl (cy 0, 8, .inl (fun _ => 0)))] := hD
  refine lv_aload_n (k := 0) (i := 0) (x := h0) hx hb (by decide +kernel) rfl (lv_at hl 0 rfl) ?_
  refine lv_bipush (v := 8) hx hb (n := 8) (by decide +kernel) rfl ?_
  refine g_na C hlen hP hD hS hA (atype := .int) rfl 0 rfl ac_int (N' := 8) (a0 := (8, .inl (fun _ => 0))) (fun _ => rfl) (by decide) (by decide) (by decide) (Nat.le_of_ble_eq_true rfl) (Nat.le_of_ble_eq_true rfl) (by decide +kernel) (k := 3) (j := 17) (T := TX10) rfl (g_link flX10_ok (w := 0) rfl rfl) rfl rfl rfl (fun _ => rfl) (fun _ => rfl) (by decide +kernel) (fun q2 H locs _ hP hD hS => ?_)
  replace hlen : ([.null, .null, .ref q1, .ref q2, .null, .null, .null, .int 0, .int 0] : List Value).length = 9 := rfl
  replace hP : va_P (dC, dI) vwCl [(h0, .inr (9, [.null, .null, .ref q1, .ref q2, .null, .null, .null, .int 0, .int 0])), (q1, .inl (cy 0, 8, .inl (fun _ => 0))), (q2, .inl (cy 0, 8, .inl (fun _ => 0)))] H := hP
  replace hD : va_D A [(h0, .inr (9, [.null, .null, .ref q1, .ref q2, .null, .null, .null, .int 0, .int 0])), (q1, .inl (cy 0, 8, .inl (fun _ => 0))), (q2, .inl (cy 0, 8, .inl (fun _ => 0)))] := hD
  refine lv_aload_n (k := 0) (i := 0) (x := h0) hx hb (by decide +kernel) rfl (lv_at hl 0 rfl) ?_
  refine lv_bipush (v := 8) hx hb (n := 8) (by decide +kernel) rfl ?_
  refine g_na C hlen hP hD hS hA (atype := .int) rfl 0 rfl ac_int (N' := 8) (a0 := (8, .inl (fun _ => 0))) (fun _ => rfl) (by decide) (by decide) (by decide) (Nat.le_of_ble_eq_true rfl) (Nat.le_of_ble_eq_true rfl) (by decide +kernel) (k := 4) (j := 20) (T := TX10) rfl (g_link flX10_ok (w := 0) rfl rfl) rfl rfl rfl (fun _ => rfl) (fun _ => rfl) (by decide +kernel) (fun q3 H locs _ hP hD hS => ?_)
  replace hlen : ([.null, .null, .ref q1, .ref q2, .ref q3, .null, .null, .int 0, .int 0] : List Value).length = 9 := rfl
  replace hP : va_P (dC, dI) vwCl [(h0, .inr (9, [.null, .null, .ref q1, .ref q2, .ref q3, .null, .null, .int 0, .int 0])), (q1, .inl (cy 0, 8, .inl (fun _ => 0))), (q2, .inl (cy 0, 8, .inl (fun _ => 0))), (q3, .inl (cy 0, 8, .inl (fun _ => 0)))] H := hP
  replace hD : va_D A [(h0, .inr (9, [.null, .null, .ref q1, .ref q2, .ref q3, .null, .null, .int 0, .int 0])), (q1, .inl (cy 0, 8, .inl (fun _ => 0))), (q2, .inl (cy 0, 8, .inl (fun _ => 0))), (q3, .inl (cy 0, 8, .inl (fun _ => 0)))] := hD
  refine lv_aload_n (k := 0) (i := 0) (x := h0) hx hb (by decide +kernel) rfl (lv_at hl 0 rfl) ?_
  refine lv_bipush (v := 9) hx hb (n := 9) (by decide +kernel) rfl ?_
  refine g_na C hlen hP hD hS hA (atype := .long) rfl 1 rfl ac_long (N' := 9) (a0 := (9, .inr (.inl (fun _ => 0)))) (fun _ => rfl) (by decide) (by decide) (by decide) (Nat.le_of_ble_eq_true rfl) (Nat.le_of_ble_eq_true rfl) (by decide +kernel) (k := 5) (j := 23) (T := TX10) rfl (g_link flX10_ok (w := 0) rfl rfl) rfl rfl rfl (fun _ => rfl) (fun _ => rfl) (by decide +kernel) (fun q4 H locs _ hP hD hS => ?_)
  replace hlen : ([.null, .null, .ref q1, .ref q2, .ref q3, .ref q4, .null, .int 0, .int 0] : List Value).length = 9 := rfl
  replace hP : va_P (dC, dI) vwCl [(h0, .inr (9, [.null, .null, .ref q1, .ref q2, .ref q3, .ref q4, .null, .int 0, .int 0])), (q1, .inl (cy 0, 8, .inl (fun _ => 0))), (q2, .inl (cy 0, 8, .inl (fun _ => 0))), (q3, .inl (cy 0, 8, .inl (fun _ => 0))), (q4, .inl (cy 1, 9, .inr (.inl (fun _ => 0))))] H := hP
  replace hD : va_D A [(h0, .inr (9, [.null, .null, .ref q1, .ref q2, .ref q3, .ref q4, .null, .int 0, .int 0])), (q1, .inl (cy 0, 8, .inl (fun _ => 0))), (q2, .inl (cy 0, 8, .inl (fun _ => 0))), (q3, .inl (cy 0, 8, .inl (fun _ => 0))), (q4, .inl (cy 1, 9, .inr (.inl (fun _ => 0))))] := hD
  refine lv_aload_n (k := 0) (i := 0) (x := h0) hx hb (by decide +kernel) rfl (lv_at hl 0 rfl) ?_
  refine lv_bipush (v := 9) hx hb (n := 9) (by decide +kernel) rfl ?_
  refine g_na C hlen hP hD hS hA (atype := .long) rfl 1 rfl ac_long (N' := 9) (a0 := (9, .inr (.inl (fun _ => 0)))) (fun _ => rfl) (by decide) (by decide) (by decide) (Nat.le_of_ble_eq_true rfl) (Nat.le_of_ble_eq_true rfl) (by decide +kernel) (k := 6) (j := 27) (T := TX10) rfl (g_link flX10_ok (w := 0) rfl rfl) rfl rfl rfl (fun _ => rfl) (fun _ => rfl) (by decide +kernel) (fun q5 H locs _ hP hD hS => ?_)
  replace hlen : ([.null, .null, .ref q1, .ref q2, .ref q3, .ref q4, .ref q5, .int 0, .int 0] : List Value).length = 9 := rfl
  replace hP : va_P (dC, dI) vwCl [(h0, .inr (9, [.null, .null, .ref q1, .ref q2, .ref q3, .ref q4, .ref q5, .int 0, .int 0])), (q1, .inl (cy 0, 8, .inl (fun _ => 0))), (q2, .inl (cy 0, 8, .inl (fun _ => 0))), (q3, .inl (cy 0, 8, .inl (fun _ => 0))), (q4, .inl (cy 1, 9, .inr (.inl (fun _ => 0)))), (q5, .inl (cy 1, 9, .inr (.inl (fun _ => 0))))] H := hP
  replace hD : va_D A [(h0, .inr (9, [.null, .null, .ref q1, .ref q2, .ref q3, .ref q4, .ref q5, .int 0, .int 0])), (q1, .inl (cy 0, 8, .inl (fun _ => 0))), (q2, .inl (cy 0, 8, .inl (fun _ => 0))), (q3, .inl (cy 0, 8, .inl (fun _ => 0))), (q4, .inl (cy 1, 9, .inr (.inl (fun _ => 0)))), (q5, .inl (cy 1, 9, .inr (.inl (fun _ => 0))))] := hD
  refine lv_aload_n (k := 0) (i := 0) (x := h0) hx hb (by decide +kernel) rfl (lv_at hl 0 rfl) ?_
  refine lv_aload_n (k := 1) (i := 1) (x := r1) hx hb (by decide +kernel) rfl (lv_at hl 1 rfl) ?_
  refine g_pf C hlen hP hD hS (k := 0) (j := 30) (T := TX10) rfl (g_link flX10_ok (w := 0) rfl rfl) rfl rfl rfl rfl rfl (by decide +kernel) (fun H locs _ hP hD hS => ?_)
  replace hlen : ([.ref r1, .null, .ref q1, .ref q2, .ref q3, .ref q4, .ref q5, .int 0, .int 0] : List Value).length = 9 := rfl
  replace hP : va_P (dC, dI) vwCl [(h0, .inr (9, [.ref r1, .null, .ref q1, .ref q2, .ref q3, .ref q4, .ref q5, .int 0, .int 0])), (q1, .inl (cy 0, 8, .inl (fun _ => 0))), (q2, .inl (cy 0, 8, .inl (fun _ => 0))), (q3, .inl (cy 0, 8, .inl (fun _ => 0))), (q4, .inl (cy 1, 9, .inr (.inl (fun _ => 0)))), (q5, .inl (cy 1, 9, .inr (.inl (fun _ => 0))))] H := hP
  replace hD : va_D A [(h0, .inr (9, [.ref r1, .null, .ref q1, .ref q2, .ref q3, .ref q4, .ref q5, .int 0, .int 0])), (q1, .inl (cy 0, 8, .inl (fun _ => 0))), (q2, .inl (cy 0, 8, .inl (fun _ => 0))), (q3, .inl (cy 0, 8, .inl (fun _ => 0))), (q4, .inl (cy 1, 9, .inr (.inl (fun _ => 0)))), (q5, .inl (cy 1, 9, .inr (.inl (fun _ => 0))))] := hD
  refine lv_aload_n (k := 0) (i := 0) (x := h0) hx hb (by decide +kernel) rfl (lv_at hl 0 rfl) ?_
  refine va_new (ci := 7) (fs := [.null, .null, .null, .null, .null, .null, .null, .null, .null, .int 0]) (C := RX7) (T := TX7) (N := 10) hx hb hts fwX7 tyX7 tyX7_ok hown (hts _ kl_X10_34) (hts _ it_X7) (hts _ iz_X7) hK hP hD hS hA rfl (fun j hj => by rcases (show j = 0 ∨ j = 1 ∨ j = 2 ∨ j = 3 ∨ j = 4 ∨ j = 5 ∨ j = 6 ∨ j = 7 ∨ j = 8 ∨ j = 9 by omega) with rfl | rfl | rfl | rfl | rfl | rfl | rfl | rfl | rfl | rfl <;> rfl) (Nat.le_of_ble_eq_true rfl) (Nat.le_of_ble_eq_true rfl) (by decide +kernel) (fun k0 H hP hD hS => ?_)
  refine lv_dup hx hb (by decide +kernel) rfl ?_
  refine lv_aload_n (k := 1) (i := 1) (x := r1) hx hb (by decide +kernel) rfl (lv_at hl 1 rfl) ?_
  have hPc := hP.sub (ws' := [(k0, .inr (7, [.null, .null, .null, .null, .null, .null, .null, .null, .null, .int 0]))]) [6] rfl
  have hFc := va_free (wc := [(k0, .inr (7, [.null, .null, .null, .null, .null, .null, .null, .null, .null, .int 0]))]) hD hS hA [6] rfl
  refine va_callv (va_runI (As := [.ref r1]) (rest := [.ref k0, .ref h0]) ⟨hx, hb, hml, hown, hts⟩ (nX7 l dC dI cy k0 H.size r1) (cwI 1 hts (g_good ic_X7) rfl rfl rfl (hts _ iz_X7) (hts _ kn_X10_36) (hts _ ii_X7) rfl (by decide +kernel) ⟨Nat.le_of_ble_eq_true rfl, Nat.le_of_ble_eq_true rfl⟩) ⟨fun a' U g mk q => by obtain ⟨q0, q1, qP, qK⟩ := q; exact ⟨q0, q1, qP, va_K.moved (u := U) (U := U.calling g mk a') (Vm.Alike.refl U.vm) qK⟩, fun U hU hW => ⟨rfl, by rw [hU], by rw [hU]; exact hPc, va_K.moved hW.alike hK⟩⟩ rfl rfl hl.1 rfl (lv_room (Nat.le_of_ble_eq_true rfl)) (by show decode cX10_init 55 = .ok (.invokespecial 36, 3); decide +kernel) ⟨Nat.le_of_ble_eq_true rfl, Nat.le_of_ble_eq_true rfl⟩) hS (fun q _ h => hFc q h) hFc (fun u t H1 locs ht hvm hw hB hz1 hk1 hS => ?_)
  obtain ⟨k1, k2, k3, k4, k5, k6, k7, k8, g, hg1, hg2, hP1, hD1⟩ := hB
  rw [ht] at hP1
  obtain ⟨hP, hD⟩ := g_join (ws := [(h0, .inr (9, [.ref r1, .null, .ref q1, .ref q2, .ref q3, .ref q4, .ref q5, .int 0, .int 0])), (q1, .inl (cy 0, 8, .inl (fun _ => 0))), (q2, .inl (cy 0, 8, .inl (fun _ => 0))), (q3, .inl (cy 0, 8, .inl (fun _ => 0))), (q4, .inl (cy 1, 9, .inr (.inl (fun _ => 0)))), (q5, .inl (cy 1, 9, .inr (.inl (fun _ => 0))))]) hP hD hk1 hFc hP1 hD1
  generalize H1 = H at hP hS ⊢
  replace hP : va_P (dC, dI) vwCl [(h0, .inr (9, [.ref r1, .null, .ref q1, .ref q2, .ref q3, .ref q4, .ref q5, .int 0, .int 0])), (q1, .inl (cy 0, 8, .inl (fun _ => 0))), (q2, .inl (cy 0, 8, .inl (fun _ => 0))), (q3, .inl (cy 0, 8, .inl (fun _ => 0))), (q4, .inl (cy 1, 9, .inr (.inl (fun _ => 0)))), (q5, .inl (cy 1, 9, .inr (.inl (fun _ => 0)))), (k0, .inr (7, [.ref r1, .ref k1, .ref k2, .ref k3, .ref k4, .ref k5, .ref k6, .ref k7, .ref k8, .int 0])), (k1, .inl (cy 0, 20, .inl (fun _ => 0))), (k2, .inl (cy 0, 20, .inl (fun _ => 0))), (k3, .inl (cy 0, 20, .inl (fun _ => 0))), (k4, .inl (cy 0, 20, .inl (fun _ => 0))), (k5, .inl (cy 0, 20, .inl (fun _ => 0))), (k6, .inl (cy 0, 20, .inl g)), (k7, .inl (cy 0, 10, .inl (fun _ => 0))), (k8, .inl (cy 0, 21, .inl (upd (fun _ => 0) 0 1)))] H := hP
  replace hD : va_D A [(h0, .inr (9, [.ref r1, .null, .ref q1, .ref q2, .ref q3, .ref q4, .ref q5, .int 0, .int 0])), (q1, .inl (cy 0, 8, .inl (fun _ => 0))), (q2, .inl (cy 0, 8, .inl (fun _ => 0))), (q3, .inl (cy 0, 8, .inl (fun _ => 0))), (q4, .inl (cy 1, 9, .inr (.inl (fun _ => 0)))), (q5, .inl (cy 1, 9, .inr (.inl (fun _ => 0)))), (k0, .inr (7, [.ref r1, .ref k1, .ref k2, .ref k3, .ref k4, .ref k5, .ref k6, .ref k7, .ref k8, .int 0])), (k1, .inl (cy 0, 20, .inl (fun _ => 0))), (k2, .inl (cy 0, 20, .inl (fun _ => 0))), (k3, .inl (cy 0, 20, .inl (fun _ => 0))), (k4, .inl (cy 0, 20, .inl (fun _ => 0))), (k5, .inl (cy 0, 20, .inl (fun _ => 0))), (k6, .inl (cy 0, 20, .inl g)), (k7, .inl (cy 0, 10, .inl (fun _ => 0))), (k8, .inl (cy 0, 21, .inl (upd (fun _ => 0) 0 1)))] := hD
  refine g_pf C hlen hP hD hS (k := 1) (j := 39) (T := TX10) rfl (g_link flX10_ok (w := 0) rfl rfl) rfl rfl rfl rfl rfl (by decide +kernel) (fun H locs _ hP hD hS => ?_)
  replace hP : va_P (dC, dI) vwCl [(h0, .inr (9, [.ref r1, .ref k0, .ref q1, .ref q2, .ref q3, .ref q4, .ref q5, .int 0, .int 0])), (q1, .inl (cy 0, 8, .inl (fun _ => 0))), (q2, .inl (cy 0, 8, .inl (fun _ => 0))), (q3, .inl (cy 0, 8, .inl (fun _ => 0))), (q4, .inl (cy 1, 9, .inr (.inl (fun _ => 0)))), (q5, .inl (cy 1, 9, .inr (.inl (fun _ => 0)))), (k0, .inr (7, [.ref r1, .ref k1, .ref k2, .ref k3, .ref k4, .ref k5, .ref k6, .ref k7, .ref k8, .int 0])), (k1, .inl (cy 0, 20, .inl (fun _ => 0))), (k2, .inl (cy 0, 20, .inl (fun _ => 0))), (k3, .inl (cy 0, 20, .inl (fun _ => 0))), (k4, .inl (cy 0, 20, .inl (fun _ => 0))), (k5, .inl (cy 0, 20, .inl (fun _ => 0))), (k6, .inl (cy 0, 20, .inl g)), (k7, .inl (cy 0, 10, .inl (fun _ => 0))), (k8, .inl (cy 0, 21, .inl (upd (fun _ => 0) 0 1)))] H := hP
  replace hD : va_D A [(h0, .inr (9, [.ref r1, .ref k0, .ref q1, .ref q2, .ref q3, .ref q4, .ref q5, .int 0, .int 0])), (q1, .inl (cy 0, 8, .inl (fun _ => 0))), (q2, .inl (cy 0, 8, .inl (fun _ => 0))), (q3, .inl (cy 0, 8, .inl (fun _ => 0))), (q4, .inl (cy 1, 9, .inr (.inl (fun _ => 0)))), (q5, .inl (cy 1, 9, .inr (.inl (fun _ => 0)))), (k0, .inr (7, [.ref r1, .ref k1, .ref k2, .ref k3, .ref k4, .ref k5, .ref k6, .ref k7, .ref k8, .int 0])), (k1, .inl (cy 0, 20, .inl (fun _ => 0))), (k2, .inl (cy 0, 20, .inl (fun _ => 0))), (k3, .inl (cy 0, 20, .inl (fun _ => 0))), (k4, .inl (cy 0, 20, .inl (fun _ => 0))), (k5, .inl (cy 0, 20, .inl (fun _ => 0))), (k6, .inl (cy 0, 20, .inl g)), (k7, .inl (cy 0, 10, .inl (fun _ => 0))), (k8, .inl (cy 0, 21, .inl (upd (fun _ => 0) 0 1)))] := hD
  exact W.vret hx hb hr (fun t ht hW => ⟨⟨(), rfl, trivial, q1, q2, q3, q4, q5, k0, k1, k2, k3, k4, k5, k6, k7, k8, g, hg1, hg2, by rw [ht]; exact hP, hD⟩, hS.F ht⟩) hS.2.2 (by decide +kernel)
