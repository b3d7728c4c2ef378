/-! the constructors that lay arrays and references alone -/
def rmX9 : Room := { frames := 1, cells := 1, slots := 1600, locals := 12 }
set_option maxHeartbeats 40000000 in
set_option maxRecDepth 100000 in
theorem nX9 (l : Launch) (dC : Nat → ClassId) (dI : Nat → Nat → Nat) (cy : Nat → ClassId) (h0 sz : Nat) : Met l yX9_init (Cond.code yX9_init cX9_init 1 none :: fT) rmX9 (va_Pc [.ref h0] (fun U => U.heap.size = sz ∧ va_P (dC, dI) vwCl [(h0, .inr (8, [.null, .int 0, .int 0, .int 0, .long 0, .int 0]))] U.heap ∧ va_K (dC, dI) vwCl (f_tys cy) U))
    (va_Qv (fun _ : Unit => True) (fun _ t => ∃ q1 : Nat, va_P (dC, dI) vwCl [(h0, .inr (8, [.ref q1, .int 0, .int 0, .int 0, .long 0, .int 0])), (q1, .inl (cy 2, 1600, .inl (fun _ => 0)))] t.heap ∧ va_D (va_A [(h0, .inr (8, [.null, .int 0, .int 0, .int 0, .long 0, .int 0]))] sz) [(h0, .inr (8, [.ref q1, .int 0, .int 0, .int 0, .long 0, .int 0])), (q1, .inl (cy 2, 1600, .inl (fun _ => 0)))]) (va_A [(h0, .inr (8, [.null, .int 0, .int 0, .int 0, .long 0, .int 0]))] sz)) 1 1600 (va_A [(h0, .inr (8, [.null, .int 0, .int 0, .int 0, .long 0, .int 0]))] sz) := by
  refine Met.ofW (cc := cX9_init) (maxL := 1) (ret := none) (by decide) rfl ?_
  intro p e s m args below meth c s₁ B hml hv
  obtain ⟨rfl, hsz, hP, hK⟩ := hv
  have hx := B.exec
  have hb := B.bytes
  have hr := B.returns
  have hts0 := atoms_spec (ws := Cond.code yX9_init cX9_init 1 none :: fT) B.pre
  have hts : ∀ w ∈ fT, w.before _ s = true := fun w h => hts0 w (List.mem_cons_of_mem _ h)
  have hown : s.vm.findClass RX9 = some m.cls := findClass_of_methodNamed B.named
  have hlocks := B.notSynchronized
  have hin : meth.name = "<init>" := (name_of_methodNamed B.named B.method).1
  have C : g_Cx p s m [Value.ref h0].toArray meth c cy dC dI cX9_init RX9 := ⟨hx, hb, hown, hts, hin, hK⟩
  subst hsz
  have hD : va_D (va_A [(h0, .inr (8, [.null, .int 0, .int 0, .int 0, .long 0, .int 0]))] s.heap.size) [(h0, .inr (8, [.null, .int 0, .int 0, .int 0, .long 0, .int 0]))] := g_one
  generalize hAe : va_A [(h0, .inr (8, [.null, .int 0, .int 0, .int 0, .long 0, .int 0]))] s.heap.size = A at hD ⊢
  have hA : ∀ q : Nat, s.heap.size ≤ q → A q := fun q h => by rw [← hAe]; exact Or.inr h
  have hS : va_S A s.heap s.heap [] := va_S.rf
  have hl := lv_entry ([.ref h0]) (n := 1) (Nat.le_of_ble_eq_true rfl)
  rw [lg_entry_eq]
  generalize (lg_sl ([.ref h0]) ++ List.replicate (1 - (lg_sl ([.ref h0])).length) Slot.unset).toArray = ls at hl ⊢
  have hl : lv_has ls 1 [(0, .ref h0)] := hl
  refine lv_aload_n (k := 0) (i := 0) (x := h0) hx hb (by decide +kernel) rfl (lv_at hl 0 rfl) ?_
  refine W.objInit hx hb hown (hts _ oi_X9) (hts _ oi_im) (hts _ oi_co) rfl (by rw [hml]; exact hl.1) rfl (by show decode cX9_init 1 = .ok (.invokespecial 1, 3); decide +kernel) (Nat.le_of_ble_eq_true rfl) (Nat.le_of_ble_eq_true rfl) ?_
  refine W.eq (g2 := F0 m 4 ls []) rfl ?_
  have hlen : ([.null, .int 0, .int 0, .int 0, .long 0, .int 0] : List Value).length = 6 := rfl
  refine lv_aload_n (k := 0) (i := 0) (x := h0) hx hb (by decide +kernel) rfl (lv_at hl 0 rfl) ?_
  refine lv_sipush (v := 1600) hx hb (n := 1600) (by decide +kernel) rfl ?_
  refine g_na C hlen hP hD hS hA (atype := .byte) rfl 2 rfl ac_byte (N' := 1600) (a0 := (1600, .inl (fun _ => 0))) (fun _ => rfl) (by decide) (by decide) (by decide) (Nat.le_of_ble_eq_true rfl) (Nat.le_of_ble_eq_true rfl) (by decide +kernel) (k := 0) (j := 9) (T := TX9) rfl (g_link flX9_ok (w := 0) rfl rfl) rfl rfl rfl (fun _ => rfl) (fun _ => rfl) (by decide +kernel) (fun q1 H locs _ hP hD hS => ?_)
  replace hlen : ([.ref q1, .int 0, .int 0, .int 0, .long 0, .int 0] : List Value).length = 6 := rfl
  replace hP : va_P (dC, dI) vwCl [(h0, .inr (8, [.ref q1, .int 0, .int 0, .int 0, .long 0, .int 0])), (q1, .inl (cy 2, 1600, .inl (fun _ => 0)))] H := hP
  replace hD : va_D A [(h0, .inr (8, [.ref q1, .int 0, .int 0, .int 0, .long 0, .int 0])), (q1, .inl (cy 2, 1600, .inl (fun _ => 0)))] := hD
  exact W.vret hx hb hr (fun t ht hW => ⟨⟨(), rfl, trivial, q1, by rw [ht]; exact hP, hD⟩, hS.F ht⟩) hS.2.2 (by decide +kernel)
def rmX4 : Room := { frames := 1, cells := 1, slots := 8, locals := 12 }
set_option maxHeartbeats 40000000 in
set_option maxRecDepth 100000 in
theorem nX4 (l : Launch) (dC : Nat → ClassId) (dI : Nat → Nat → Nat) (cy : Nat → ClassId) (h0 sz r1 : Nat) : Met l yX4_init (Cond.code yX4_init cX4_init 2 none :: fT) rmX4 (va_Pc [.ref h0, .ref r1] (fun U => U.heap.size = sz ∧ va_P (dC, dI) vwCl [(h0, .inr (4, [.null, .null, .int 0, .int 0, .int 0]))] U.heap ∧ va_K (dC, dI) vwCl (f_tys cy) U))
    (va_Qv (fun _ : Unit => True) (fun _ t => ∃ q1 : Nat, va_P (dC, dI) vwCl [(h0, .inr (4, [.ref r1, .ref q1, .int 0, .int (-1), .int 0])), (q1, .inl (cy 0, 8, .inl (fun _ => 0)))] t.heap ∧ va_D (va_A [(h0, .inr (4, [.null, .null, .int 0, .int 0, .int 0]))] sz) [(h0, .inr (4, [.ref r1, .ref q1, .int 0, .int (-1), .int 0])), (q1, .inl (cy 0, 8, .inl (fun _ => 0)))]) (va_A [(h0, .inr (4, [.null, .null, .int 0, .int 0, .int 0]))] sz)) 1 8 (va_A [(h0, .inr (4, [.null, .null, .int 0, .int 0, .int 0]))] sz) := by
  refine Met.ofW (cc := cX4_init) (maxL := 2) (ret := none) (by decide) rfl ?_
  intro p e s m args below meth c s₁ B hml hv
  obtain ⟨rfl, hsz, hP, hK⟩ := hv
  have hx := B.exec
  have hb := B.bytes
  have hr := B.returns
  have hts0 := atoms_spec (ws := Cond.code yX4_init cX4_init 2 none :: fT) B.pre
  have hts : ∀ w ∈ fT, w.before _ s = true := fun w h => hts0 w (List.mem_cons_of_mem _ h)
  have hown : s.vm.findClass RX4 = some m.cls := findClass_of_methodNamed B.named
  have hlocks := B.notSynchronized
  have hin : meth.name = "<init>" := (name_of_methodNamed B.named B.method).1
  have C : g_Cx p s m [Value.ref h0, Value.ref r1].toArray meth c cy dC dI cX4_init RX4 := ⟨hx, hb, hown, hts, hin, hK⟩
  subst hsz
  have hD : va_D (va_A [(h0, .inr (4, [.null, .null, .int 0, .int 0, .int 0]))] s.heap.size) [(h0, .inr (4, [.null, .null, .int 0, .int 0, .int 0]))] := g_one
  generalize hAe : va_A [(h0, .inr (4, [.null, .null, .int 0, .int 0, .int 0]))] s.heap.size = A at hD ⊢
  have hA : ∀ q : Nat, s.heap.size ≤ q → A q := fun q h => by rw [← hAe]; exact Or.inr h
  have hS : va_S A s.heap s.heap [] := va_S.rf
  have hl := lv_entry ([.ref h0, .ref r1]) (n := 2) (Nat.le_of_ble_eq_true rfl)
  rw [lg_entry_eq]
  generalize (lg_sl ([.ref h0, .ref r1]) ++ List.replicate (2 - (lg_sl ([.ref h0, .ref r1])).length) Slot.unset).toArray = ls at hl ⊢
  have hl : lv_has ls 2 [(0, .ref h0), (1, .ref r1)] := hl
  refine lv_aload_n (k := 0) (i := 0) (x := h0) hx hb (by decide +kernel) rfl (lv_at hl 0 rfl) ?_
  refine W.objInit hx hb hown (hts _ oi_X4) (hts _ oi_im) (hts _ oi_co) rfl (by rw [hml]; exact hl.1) rfl (by show decode cX4_init 1 = .ok (.invokespecial 3, 3); decide +kernel) (Nat.le_of_ble_eq_true rfl) (Nat.le_of_ble_eq_true rfl) ?_
  refine W.eq (g2 := F0 m 4 ls []) rfl ?_
  have hlen : ([.null, .null, .int 0, .int 0, .int 0] : List Value).length = 5 := rfl
  refine lv_aload_n (k := 0) (i := 0) (x := h0) hx hb (by decide +kernel) rfl (lv_at hl 0 rfl) ?_
  refine lv_bipush (v := 8) hx hb (n := 8) (by decide +kernel) rfl ?_
  refine g_na C hlen hP hD hS hA (atype := .int) rfl 0 rfl ac_int (N' := 8) (a0 := (8, .inl (fun _ => 0))) (fun _ => rfl) (by decide) (by decide) (by decide) (Nat.le_of_ble_eq_true rfl) (Nat.le_of_ble_eq_true rfl) (by decide +kernel) (k := 1) (j := 11) (T := TX4) rfl (g_link flX4_ok (w := 0) rfl rfl) rfl rfl rfl (fun _ => rfl) (fun _ => rfl) (by decide +kernel) (fun q1 H locs _ hP hD hS => ?_)
  replace hlen : ([.null, .ref q1, .int 0, .int 0, .int 0] : List Value).length = 5 := rfl
  replace hP : va_P (dC, dI) vwCl [(h0, .inr (4, [.null, .ref q1, .int 0, .int 0, .int 0])), (q1, .inl (cy 0, 8, .inl (fun _ => 0)))] H := hP
  replace hD : va_D A [(h0, .inr (4, [.null, .ref q1, .int 0, .int 0, .int 0])), (q1, .inl (cy 0, 8, .inl (fun _ => 0)))] := hD
  refine lv_aload_n (k := 0) (i := 0) (x := h0) hx hb (by decide +kernel) rfl (lv_at hl 0 rfl) ?_
  refine lv_iconst (v := -1) hx hb (n := (-1)) (by decide +kernel) rfl ?_
  refine g_ph C hlen hP hD hS (k := 3) (j := 17) (T := TX4) rfl (g_link flX4_ok (w := 1) rfl rfl) rfl rfl rfl rfl (by decide +kernel) (fun H locs _ hP hD hS => ?_)
  replace hlen : ([.null, .ref q1, .int 0, .int (-1), .int 0] : List Value).length = 5 := rfl
  replace hP : va_P (dC, dI) vwCl [(h0, .inr (4, [.null, .ref q1, .int 0, .int (-1), .int 0])), (q1, .inl (cy 0, 8, .inl (fun _ => 0)))] H := hP
  replace hD : va_D A [(h0, .inr (4, [.null, .ref q1, .int 0, .int (-1), .int 0])), (q1, .inl (cy 0, 8, .inl (fun _ => 0)))] := hD
  refine lv_aload_n (k := 0) (i := 0) (x := h0) hx hb (by decide +kernel) rfl (lv_at hl 0 rfl) ?_
  refine lv_aload_n (k := 1) (i := 1) (x := r1) hx hb (by decide +kernel) rfl (lv_at hl 1 rfl) ?_
  refine g_pf C hlen hP hD hS (k := 0) (j := 21) (T := TX4) rfl (g_link flX4_ok (w := 0) rfl rfl) rfl rfl rfl rfl rfl (by decide +kernel) (fun H locs _ hP hD hS => ?_)
  replace hlen : ([.ref r1, .ref q1, .int 0, .int (-1), .int 0] : List Value).length = 5 := rfl
  replace hP : va_P (dC, dI) vwCl [(h0, .inr (4, [.ref r1, .ref q1, .int 0, .int (-1), .int 0])), (q1, .inl (cy 0, 8, .inl (fun _ => 0)))] H := hP
  replace hD : va_D A [(h0, .inr (4, [.ref r1, .ref q1, .int 0, .int (-1), .int 0])), (q1, .inl (cy 0, 8, .inl (fun _ => 0)))] := hD
  exact W.vret hx hb hr (fun t ht hW => ⟨⟨(), rfl, trivial, q1, by rw [ht]; exact hP, hD⟩, hS.F ht⟩) hS.2.2 (by decide +kernel)
def rmX1 : Room := { frames := 1, cells := 4, slots := 65, locals := 12 }
set_option maxHeartbeats 40000000 in
set_option maxRecDepth 100000 in
theorem nX1 (l : Launch) (dC : Nat → ClassId) (dI : Nat → Nat → Nat) (cy : Nat → ClassId) (h0 sz : Nat) : Met l yX1_init (Cond.code yX1_init cX1_init 1 none :: fT) rmX1 (va_Pc [.ref h0] (fun U => U.heap.size = sz ∧ va_P (dC, dI) vwCl [(h0, .inr (1, [.null, .null, .null, .null, .int 0, .int 0, .int 0]))] U.heap ∧ va_K (dC, dI) vwCl (f_tys cy) U))
    (va_Qv (fun _ : Unit => True) (fun _ t => ∃ q1 q2 q3 q4 : Nat, va_P (dC, dI) vwCl [(h0, .inr (1, [.ref q1, .ref q2, .ref q3, .ref q4, .int 0, .int 0, .int (-1)])), (q1, .inl (cy 1, 5, .inr (.inl (fun _ => 0)))), (q2, .inl (cy 1, 12, .inr (.inl (fun _ => 0)))), (q3, .inl (cy 0, 12, .inl (fun _ => 0))), (q4, .inl (cy 0, 36, .inl (fun _ => 0)))] t.heap ∧ va_D (va_A [(h0, .inr (1, [.null, .null, .null, .null, .int 0, .int 0, .int 0]))] sz) [(h0, .inr (1, [.ref q1, .ref q2, .ref q3, .ref q4, .int 0, .int 0, .int (-1)])), (q1, .inl (cy 1, 5, .inr (.inl (fun _ => 0)))), (q2, .inl (cy 1, 12, .inr (.inl (fun _ => 0)))), (q3, .inl (cy 0, 12, .inl (fun _ => 0))), (q4, .inl (cy 0, 36, .inl (fun _ => 0)))]) (va_A [(h0, .inr (1, [.null, .null, .null, .null, .int 0, .int 0, .int 0]))] sz)) 4 65 (va_A [(h0, .inr (1, [.null, .null, .null, .null, .int 0, .int 0, .int 0]))] sz) := by
  refine Met.ofW (cc := cX1_init) (maxL := 1) (ret := none) (by decide) rfl ?_
  intro p e s m args below meth c s₁ B hml hv
  obtain ⟨rfl, hsz, hP, hK⟩ := hv
  have hx := B.exec
  have hb := B.bytes
  have hr := B.returns
  have hts0 := atoms_spec (ws := Cond.code yX1_init cX1_init 1 none :: fT) B.pre
  have hts : ∀ w ∈ fT, w.before _ s = true := fun w h => hts0 w (List.mem_cons_of_mem _ h)
  have hown : s.vm.findClass RX1 = some m.cls := findClass_of_methodNamed B.named
  have hlocks := B.notSynchronized
  have hin : meth.name = "<init>" := (name_of_methodNamed B.named B.method).1
  have C : g_Cx p s m [Value.ref h0].toArray meth c cy dC dI cX1_init RX1 := ⟨hx, hb, hown, hts, hin, hK⟩
  subst hsz
  have hD : va_D (va_A [(h0, .inr (1, [.null, .null, .null, .null, .int 0, .int 0, .int 0]))] s.heap.size) [(h0, .inr (1, [.null, .null, .null, .null, .int 0, .int 0, .int 0]))] := g_one
  generalize hAe : va_A [(h0, .inr (1, [.null, .null, .null, .null, .int 0, .int 0, .int 0]))] s.heap.size = A at hD ⊢
  have hA : ∀ q : Nat, s.heap.size ≤ q → A q := fun q h => by rw [← hAe]; exact Or.inr h
  have hS : va_S A s.heap s.heap [] := va_S.rf
  have hl := lv_entry ([.ref h0]) (n := 1) (Nat.le_of_ble_eq_true rfl)
  rw [lg_entry_eq]
  generalize (lg_sl ([.ref h0]) ++ List.replicate (1 - (lg_sl ([.ref h0])).length) Slot.unset).toArray = ls at hl ⊢
  have hl : lv_has ls 1 [(0, .ref h0)] := hl
  refine lv_aload_n (k := 0) (i := 0) (x := h0) hx hb (by decide +kernel) rfl (lv_at hl 0 rfl) ?_
  refine W.objInit hx hb hown (hts _ oi_X1) (hts _ oi_im) (hts _ oi_co) rfl (by rw [hml]; exact hl.1) rfl (by show decode cX1_init 1 = .ok (.invokespecial 3, 3); decide +kernel) (Nat.le_of_ble_eq_true rfl) (Nat.le_of_ble_eq_true rfl) ?_
  refine W.eq (g2 := F0 m 4 ls []) rfl ?_
  have hlen : ([.null, .null, .null, .null, .int 0, .int 0, .int 0] : List Value).length = 7 := rfl
  refine lv_aload_n (k := 0) (i := 0) (x := h0) hx hb (by decide +kernel) rfl (lv_at hl 0 rfl) ?_
  refine lv_iconst (v := 5) hx hb (n := 5) (by decide +kernel) rfl ?_
  refine g_na C hlen hP hD hS hA (atype := .long) rfl 1 rfl ac_long (N' := 5) (a0 := (5, .inr (.inl (fun _ => 0)))) (fun _ => rfl) (by decide) (by decide) (by decide) (Nat.le_of_ble_eq_true rfl) (Nat.le_of_ble_eq_true rfl) (by decide +kernel) (k := 0) (j := 11) (T := TX1) rfl (g_link flX1_ok (w := 0) rfl rfl) rfl rfl rfl (fun _ => rfl) (fun _ => rfl) (by decide +kernel) (fun q1 H locs _ hP hD hS => ?_)
  replace hlen : ([.ref q1, .null, .null, .null, .int 0, .int 0, .int 0] : List Value).length = 7 := rfl
  replace hP : va_P (dC, dI) vwCl [(h0, .inr (1, [.ref q1, .null, .null, .null, .int 0, .int 0, .int 0])), (q1, .inl (cy 1, 5, .inr (.inl (fun _ => 0))))] H := hP
  replace hD : va_D A [(h0, .inr (1, [.ref q1, .null, .null, .null, .int 0, .int 0, .int 0])), (q1, .inl (cy 1, 5, .inr (.inl (fun _ => 0))))] := hD
  refine lv_aload_n (k := 0) (i := 0) (x := h0) hx hb (by decide +kernel) rfl (lv_at hl 0 rfl) ?_
  refine lv_bipush (v := 12) hx hb (n := 12) (by decide +kernel) rfl ?_
  refine g_na C hlen hP hD hS hA (atype := .long) rfl 1 rfl ac_long (N' := 12) (a0 := (12, .inr (.inl (fun _ => 0)))) (fun _ => rfl) (by decide) (by decide) (by decide) (Nat.le_of_ble_eq_true rfl) (Nat.le_of_ble_eq_true rfl) (by decide +kernel) (k := 1) (j := 15) (T := TX1) rfl (g_link flX1_ok (w := 0) rfl rfl) rfl rfl rfl (fun _ => rfl) (fun _ => rfl) (by decide +kernel) (fun q2 H locs _ hP hD hS => ?_)
  replace hlen : ([.ref q1, .ref q2, .null, .null, .int 0, .int 0, .int 0] : List Value).length = 7 := rfl
  replace hP : va_P (dC, dI) vwCl [(h0, .inr (1, [.ref q1, .ref q2, .null, .null, .int 0, .int 0, .int 0])), (q1, .inl (cy 1, 5, .inr (.inl (fun _ => 0)))), (q2, .inl (cy 1, 12, .inr (.inl (fun _ => 0))))] H := hP
  replace hD : va_D A [(h0, .inr (1, [.ref q1, .ref q2, .null, .null, .int 0, .int 0, .int 0])), (q1, .inl (cy 1, 5, .inr (.inl (fun _ => 0)))), (q2, .inl (cy 1, 12, .inr (.inl (fun _ => 0))))] := hD
  refine lv_aload_n (k := 0) (i := 0) (x := h0) hx hb (by decide +kernel) rfl (lv_at hl 0 rfl) ?_
  refine lv_bipush (v := 12) hx hb (n := 12) (by decide +kernel) rfl ?_
  refine g_na C hlen hP hD hS hA (atype := .int) rfl 0 rfl ac_int (N' := 12) (a0 := (12, .inl (fun _ => 0))) (fun _ => rfl) (by decide) (by decide) (by decide) (Nat.le_of_ble_eq_true rfl) (Nat.le_of_ble_eq_true rfl) (by decide +kernel) (k := 2) (j := 18) (T := TX1) rfl (g_link flX1_ok (w := 0) rfl rfl) rfl rfl rfl (fun _ => rfl) (fun _ => rfl) (by decide +kernel) (fun q3 H locs _ hP hD hS => ?_)
  replace hlen : ([.ref q1, .ref q2, .ref q3, .null, .int 0, .int 0, .int 0] : List Value).length = 7 := rfl
  replace hP : va_P (dC, dI) vwCl [(h0, .inr (1, [.ref q1, .ref q2, .ref q3, .null, .int 0, .int 0, .int 0])), (q1, .inl (cy 1, 5, .inr (.inl (fun _ => 0)))), (q2, .inl (cy 1, 12, .inr (.inl (fun _ => 0)))), (q3, .inl (cy 0, 12, .inl (fun _ => 0)))] H := hP
  replace hD : va_D A [(h0, .inr (1, [.ref q1, .ref q2, .ref q3, .null, .int 0, .int 0, .int 0])), (q1, .inl (cy 1, 5, .inr (.inl (fun _ => 0)))), (q2, .inl (cy 1, 12, .inr (.inl (fun _ => 0)))), (q3, .inl (cy 0, 12, .inl (fun _ => 0)))] := hD
  refine lv_aload_n (k := 0) (i := 0) (x := h0) hx hb (by decide +kernel) rfl (lv_at hl 0 rfl) ?_
  refine lv_bipush (v := 36) hx hb (n := 36) (by decide +kernel) rfl ?_
  refine g_na C hlen hP hD hS hA (atype := .int) rfl 0 rfl ac_int (N' := 36) (a0 := (36, .inl (fun _ => 0))) (fun _ => rfl) (by decide) (by decide) (by decide) (Nat.le_of_ble_eq_true rfl) (Nat.le_of_ble_eq_true rfl) (by decide +kernel) (k := 3) (j := 22) (T := TX1) rfl (g_link flX1_ok (w := 0) rfl rfl) rfl rfl rfl (fun _ => rfl) (fun _ => rfl) (by decide +kernel) (fun q4 H locs _ hP hD hS => ?_)
  replace hlen : ([.ref q1, .ref q2, .ref q3, .ref q4, .int 0, .int 0, .int 0] : List Value).length = 7 := rfl
  replace hP : va_P (dC, dI) vwCl [(h0, .inr (1, [.ref q1, .ref q2, .ref q3, .ref q4, .int 0, .int 0, .int 0])), (q1, .inl (cy 1, 5, .inr (.inl (fun _ => 0)))), (q2, .inl (cy 1, 12, .inr (.inl (fun _ => 0)))), (q3, .inl (cy 0, 12, .inl (fun _ => 0))), (q4, .inl (cy 0, 36, .inl (fun _ => 0)))] H := hP
  replace hD : va_D A [(h0, .inr (1, [.ref q1, .ref q2, .ref q3, .ref q4, .int 0, .int 0, .int 0])), (q1, .inl (cy 1, 5, .inr (.inl (fun _ => 0)))), (q2, .inl (cy 1, 12, .inr (.inl (fun _ => 0)))), (q3, .inl (cy 0, 12, .inl (fun _ => 0))), (q4, .inl (cy 0, 36, .inl (fun _ => 0)))] := hD
  refine lv_aload_n (k := 0) (i := 0) (x := h0) hx hb (by decide +kernel) rfl (lv_at hl 0 rfl) ?_
  refine lv_iconst (v := -1) hx hb (n := (-1)) (by decide +kernel) rfl ?_
  refine g_ph C hlen hP hD hS (k := 6) (j := 25) (T := TX1) rfl (g_link flX1_ok (w := 1) rfl rfl) rfl rfl rfl rfl (by decide +kernel) (fun H locs _ hP hD hS => ?_)
  replace hlen : ([.ref q1, .ref q2, .ref q3, .ref q4, .int 0, .int 0, .int (-1)] : List Value).length = 7 := rfl
  replace hP : va_P (dC, dI) vwCl [(h0, .inr (1, [.ref q1, .ref q2, .ref q3, .ref q4, .int 0, .int 0, .int (-1)])), (q1, .inl (cy 1, 5, .inr (.inl (fun _ => 0)))), (q2, .inl (cy 1, 12, .inr (.inl (fun _ => 0)))), (q3, .inl (cy 0, 12, .inl (fun _ => 0))), (q4, .inl (cy 0, 36, .inl (fun _ => 0)))] H := hP
  replace hD : va_D A [(h0, .inr (1, [.ref q1, .ref q2, .ref q3, .ref q4, .int 0, .int 0, .int (-1)])), (q1, .inl (cy 1, 5, .inr (.inl (fun _ => 0)))), (q2, .inl (cy 1, 12, .inr (.inl (fun _ => 0)))), (q3, .inl (cy 0, 12, .inl (fun _ => 0))), (q4, .inl (cy 0, 36, .inl (fun _ => 0)))] := hD
  exact W.vret hx hb hr (fun t ht hW => ⟨⟨(), rfl, trivial, q1, q2, q3, q4, by rw [ht]; exact hP, hD⟩, hS.F ht⟩) hS.2.2 (by decide +kernel)
def rmX3 : Room := { frames := 1, cells := 9, slots := 1072, locals := 12 }
set_option maxHeartbeats 40000000 in
set_option maxRecDepth 100000 in
theorem nX3 (l : Launch) (dC : Nat → ClassId) (dI : Nat → Nat → Nat) (cy : Nat → ClassId) (h0 sz : Nat) : Met l yX3_init (Cond.code yX3_init cX3_init 1 none :: fT) rmX3 (va_Pc [.ref h0] (fun U => U.heap.size = sz ∧ va_P (dC, dI) vwCl [(h0, .inr (3, [.null, .null, .null, .null, .null, .null, .null, .null, .null, .int 0, .int 0]))] U.heap ∧ va_K (dC, dI) vwCl (f_tys cy) U))
    (va_Qv (fun _ : Unit => True) (fun _ t => ∃ q1 q2 q3 q4 q5 q6 q7 q8 q9 : Nat, va_P (dC, dI) vwCl [(h0, .inr (3, [.ref q1, .ref q2, .ref q3, .ref q4, .ref q5, .ref q6, .ref q7, .ref q8, .ref q9, .int 0, .int 0])), (q1, .inl (cy 0, 53, .inl (fun _ => 0))), (q2, .inl (cy 1, 53, .inr (.inl (fun _ => 0)))), (q3, .inl (cy 1, 53, .inr (.inl (fun _ => 0)))), (q4, .inl (cy 1, 53, .inr (.inl (fun _ => 0)))), (q5, .inl (cy 0, 212, .inl (fun _ => 0))), (q6, .inl (cy 0, 212, .inl (fun _ => 0))), (q7, .inl (cy 0, 212, .inl (fun _ => 0))), (q8, .inl (cy 0, 212, .inl (fun _ => 0))), (q9, .inl (cy 0, 12, .inl (fun _ => 0)))] t.heap ∧ va_D (va_A [(h0, .inr (3, [.null, .null, .null, .null, .null, .null, .null, .null, .null, .int 0, .int 0]))] sz) [(h0, .inr (3, [.ref q1, .ref q2, .ref q3, .ref q4, .ref q5, .ref q6, .ref q7, .ref q8, .ref q9, .int 0, .int 0])), (q1, .inl (cy 0, 53, .inl (fun _ => 0))), (q2, .inl (cy 1, 53, .inr (.inl (fun _ => 0)))), (q3, .inl (cy 1, 53, .inr (.inl (fun _ => 0)))), (q4, .inl (cy 1, 53, .inr (.inl (fun _ => 0)))), (q5, .inl (cy 0, 212, .inl (fun _ => 0))), (q6, .inl (cy 0, 212, .inl (fun _ => 0))), (q7, .inl (cy 0, 212, .inl (fun _ => 0))), (q8, .inl (cy 0, 212, .inl (fun _ => 0))), (q9, .inl (cy 0, 12, .inl (fun _ => 0)))]) (va_A [(h0, .inr (3, [.null, .null, .null, .null, .null, .null, .null, .null, .null, .int 0, .int 0]))] sz)) 9 1072 (va_A [(h0, .inr (3, [.null, .null, .null, .null, .null, .null, .null, .null, .null, .int 0, .int 0]))] sz) := by
  refine Met.ofW (cc := cX3_init) (maxL := 1) (ret := none) (by decide) rfl ?_
  intro p e s m args below meth c s₁ B hml hv
  obtain ⟨rfl, hsz, hP, hK⟩ := hv
  have hx := B.exec
  have hb := B.bytes
  have hr := B.returns
  have hts0 := atoms_spec (ws := Cond.code yX3_init cX3_init 1 none :: fT) B.pre
  have hts : ∀ w ∈ fT, w.before _ s = true := fun w h => hts0 w (List.mem_cons_of_mem _ h)
  have hown : s.vm.findClass RX3 = some m.cls := findClass_of_methodNamed B.named
  have hlocks := B.notSynchronized
  have hin : meth.name = "<init>" := (name_of_methodNamed B.named B.method).1
  have C : g_Cx p s m [Value.ref h0].toArray meth c cy dC dI cX3_init RX3 := ⟨hx, hb, hown, hts, hin, hK⟩
  subst hsz
  have hD : va_D (va_A [(h0, .inr (3, [.null, .null, .null, .null, .null, .null, .null, .null, .null, .int 0, .int 0]))] s.heap.size) [(h0, .inr (3, [.null, .null, .null, .null, .null, .null, .null, .null, .null, .int 0, .int 0]))] := g_one
  generalize hAe : va_A [(h0, .inr (3, [.null, .null, .null, .null, .null, .null, .null, .null, .null, .int 0, .int 0]))] s.heap.size = A at hD ⊢
  have hA : ∀ q : Nat, s.heap.size ≤ q → A q := fun q h => by rw [← hAe]; exact Or.inr h
  have hS : va_S A s.heap s.heap [] := va_S.rf
  have hl := lv_entry ([.ref h0]) (n := 1) (Nat.le_of_ble_eq_true rfl)
  rw [lg_entry_eq]
  generalize (lg_sl ([.ref h0]) ++ List.replicate (1 - (lg_sl ([.ref h0])).length) Slot.unset).toArray = ls at hl ⊢
  have hl : lv_has ls 1 [(0, .ref h0)] := hl
  refine lv_aload_n (k := 0) (i := 0) (x := h0) hx hb (by decide +kernel) rfl (lv_at hl 0 rfl) ?_
  refine W.objInit hx hb hown (hts _ oi_X3) (hts _ oi_im) (hts _ oi_co) rfl (by rw [hml]; exact hl.1) rfl (by show decode cX3_init 1 = .ok (.invokespecial 7, 3); decide +kernel) (Nat.le_of_ble_eq_true rfl) (Nat.le_of_ble_eq_true rfl) ?_
  refine W.eq (g2 := F0 m 4 ls []) rfl ?_
  have hlen : ([.null, .null, .null, .null, .null, .null, .null, .null, .null, .int 0, .int 0] : List Value).length = 11 := rfl
  refine lv_aload_n (k := 0) (i := 0) (x := h0) hx hb (by decide +kernel) rfl (lv_at hl 0 rfl) ?_
  refine lv_bipush (v := 53) hx hb (n := 53) (by decide +kernel) rfl ?_
  refine g_na C hlen hP hD hS hA (atype := .int) rfl 0 rfl ac_int (N' := 53) (a0 := (53, .inl (fun _ => 0))) (fun _ => rfl) (by decide) (by decide) (by decide) (Nat.le_of_ble_eq_true rfl) (Nat.le_of_ble_eq_true rfl) (by decide +kernel) (k := 0) (j := 13) (T := TX3) rfl (g_link flX3_ok (w := 0) rfl rfl) rfl rfl rfl (fun _ => rfl) (fun _ => rfl) (by decide +kernel) (fun q1 H locs _ hP hD hS => ?_)
  replace hlen : ([.ref q1, .null, .null, .null, .null, .null, .null, .null, .null, .int 0, .int 0] : List Value).length = 11 := rfl
  replace hP : va_P (dC, dI) vwCl [(h0, .inr (3, [.ref q1, .null, .null, .null, .null, .null, .null, .null, .null, .int 0, .int 0])), (q1, .inl (cy 0, 53, .inl (fun _ => 0)))] H := hP
  replace hD : va_D A [(h0, .inr (3, [.ref q1, .null, .null, .null, .null, .null, .null, .null, .null, .int 0, .int 0])), (q1, .inl (cy 0, 53, .inl (fun _ => 0)))] := hD
  refine lv_aload_n (k := 0) (i := 0) (x := h0) hx hb (by decide +kernel) rfl (lv_at hl 0 rfl) ?_
  refine lv_bipush (v := 53) hx hb (n := 53) (by decide +kernel) rfl ?_
  refine g_na C hlen hP hD hS hA (atype := .long) rfl 1 rfl ac_long (N' := 53) (a0 := (53, .inr (.inl (fun _ => 0)))) (fun _ => rfl) (by decide) (by decide) (by decide) (Nat.le_of_ble_eq_true rfl) (Nat.le_of_ble_eq_true rfl) (by decide +kernel) (k := 1) (j := 17) (T := TX3) rfl (g_link flX3_ok (w := 0) rfl rfl) rfl rfl rfl (fun _ => rfl) (fun _ => rfl) (by decide +kernel) (fun q2 H locs _ hP hD hS => ?_)
  replace hlen : ([.ref q1, .ref q2, .null, .null, .null, .null, .null, .null, .null, .int 0, .int 0] : List Value).length = 11 := rfl
  replace hP : va_P (dC, dI) vwCl [(h0, .inr (3, [.ref q1, .ref q2, .null, .null, .null, .null, .null, .null, .null, .int 0, .int 0])), (q1, .inl (cy 0, 53, .inl (fun _ => 0))), (q2, .inl (cy 1, 53, .inr (.inl (fun _ => 0))))] H := hP
  replace hD : va_D A [(h0, .inr (3, [.ref q1, .ref q2, .null, .null, .null, .null, .null, .null, .null, .int 0, .int 0])), (q1, .inl (cy 0, 53, .inl (fun _ => 0))), (q2, .inl (cy 1, 53, .inr (.inl (fun _ => 0))))] := hD
  refine lv_aload_n (k := 0) (i := 0) (x := h0) hx hb (by decide +kernel) rfl (lv_at hl 0 rfl) ?_
  refine lv_bipush (v := 53) hx hb (n := 53) (by decide +kernel) rfl ?_
  refine g_na C hlen hP hD hS hA (atype := .long) rfl 1 rfl ac_long (N' := 53) (a0 := (53, .inr (.inl (fun _ => 0)))) (fun _ => rfl) (by decide) (by decide) (by decide) (Nat.le_of_ble_eq_true rfl) (Nat.le_of_ble_eq_true rfl) (by decide +kernel) (k := 2) (j := 21) (T := TX3) rfl (g_link flX3_ok (w := 0) rfl rfl) rfl rfl rfl (fun _ => rfl) (fun _ => rfl) (by decide +kernel) (fun q3 H locs _ hP hD hS => ?_)
  replace hlen : ([.ref q1, .ref q2, .ref q3, .null, .null, .null, .null, .null, .null, .int 0, .int 0] : List Value).length = 11 := rfl
  replace hP : va_P (dC, dI) vwCl [(h0, .inr (3, [.ref q1, .ref q2, .ref q3, .null, .null, .null, .null, .null, .null, .int 0, .int 0])), (q1, .inl (cy 0, 53, .inl (fun _ => 0))), (q2, .inl (cy 1, 53, .inr (.inl (fun _ => 0)))), (q3, .inl (cy 1, 53, .inr (.inl (fun _ => 0))))] H := hP
  replace hD : va_D A [(h0, .inr (3, [.ref q1, .ref q2, .ref q3, .null, .null, .null, .null, .null, .null, .int 0, .int 0])), (q1, .inl (cy 0, 53, .inl (fun _ => 0))), (q2, .inl (cy 1, 53, .inr (.inl (fun _ => 0)))), (q3, .inl (cy 1, 53, .inr (.inl (fun _ => 0))))] := hD
  refine lv_aload_n (k := 0) (i := 0) (x := h0) hx hb (by decide +kernel) rfl (lv_at hl 0 rfl) ?_
  refine lv_bipush (v := 53) hx hb (n := 53) (by decide +kernel) rfl ?_
  refine g_na C hlen hP hD hS hA (atype := .long) rfl 1 rfl ac_long (N' := 53) (a0 := (53, .inr (.inl (fun _ => 0)))) (fun _ => rfl) (by decide) (by decide) (by decide) (Nat.le_of_ble_eq_true rfl) (Nat.le_of_ble_eq_true rfl) (by decide +kernel) (k := 3) (j := 24) (T := TX3) rfl (g_link flX3_ok (w := 0) rfl rfl) rfl rfl rfl (fun _ => rfl) (fun _ => rfl) (by decide +kernel) (fun q4 H locs _ hP hD hS => ?_)
  replace hlen : ([.ref q1, .ref q2, .ref q3, .ref q4, .null, .null, .null, .null, .null, .int 0, .int 0] : List Value).length = 11 := rfl
  replace hP : va_P (dC, dI) vwCl [(h0, .inr (3, [.ref q1, .ref q2, .ref q3, .ref q4, .null, .null, .null, .null, .null, .int 0, .int 0])), (q1, .inl (cy 0, 53, .inl (fun _ => 0))), (q2, .inl (cy 1, 53, .inr (.inl (fun _ => 0)))), (q3, .inl (cy 1, 53, .inr (.inl (fun _ => 0)))), (q4, .inl (cy 1, 53, .inr (.inl (fun _ => 0))))] H := hP
  replace hD : va_D A [(h0, .inr (3, [.ref q1, .ref q2, .ref q3, .ref q4, .null, .null, .null, .null, .null, .int 0, .int 0])), (q1, .inl (cy 0, 53, .inl (fun _ => 0))), (q2, .inl (cy 1, 53, .inr (.inl (fun _ => 0)))), (q3, .inl (cy 1, 53, .inr (.inl (fun _ => 0)))), (q4, .inl (cy 1, 53, .inr (.inl (fun _ => 0))))] := hD
  refine lv_aload_n (k := 0) (i := 0) (x := h0) hx hb (by decide +kernel) rfl (lv_at hl 0 rfl) ?_
  refine lv_sipush (v := 212) hx hb (n := 212) (by decide +kernel) rfl ?_
  refine g_na C hlen hP hD hS hA (atype := .int) rfl 0 rfl ac_int (N' := 212) (a0 := (212, .inl (fun _ => 0))) (fun _ => rfl) (by decide) (by decide) (by decide) (Nat.le_of_ble_eq_true rfl) (Nat.le_of_ble_eq_true rfl) (by decide +kernel) (k := 4) (j := 27) (T := TX3) rfl (g_link flX3_ok (w := 0) rfl rfl) rfl rfl rfl (fun _ => rfl) (fun _ => rfl) (by decide +kernel) (fun q5 H locs _ hP hD hS => ?_)
  replace hlen : ([.ref q1, .ref q2, .ref q3, .ref q4, .ref q5, .null, .null, .null, .null, .int 0, .int 0] : List Value).length = 11 := rfl
  replace hP : va_P (dC, dI) vwCl [(h0, .inr (3, [.ref q1, .ref q2, .ref q3, .ref q4, .ref q5, .null, .null, .null, .null, .int 0, .int 0])), (q1, .inl (cy 0, 53, .inl (fun _ => 0))), (q2, .inl (cy 1, 53, .inr (.inl (fun _ => 0)))), (q3, .inl (cy 1, 53, .inr (.inl (fun _ => 0)))), (q4, .inl (cy 1, 53, .inr (.inl (fun _ => 0)))), (q5, .inl (cy 0, 212, .inl (fun _ => 0)))] H := hP
  replace hD : va_D A [(h0, .inr (3, [.ref q1, .ref q2, .ref q3, .ref q4, .ref q5, .null, .null, .null, .null, .int 0, .int 0])), (q1, .inl (cy 0, 53, .inl (fun _ => 0))), (q2, .inl (cy 1, 53, .inr (.inl (fun _ => 0)))), (q3, .inl (cy 1, 53, .inr (.inl (fun _ => 0)))), (q4, .inl (cy 1, 53, .inr (.inl (fun _ => 0)))), (q5, .inl (cy 0, 212, .inl (fun _ => 0)))] := hD
  refine lv_aload_n (k := 0) (i := 0) (x := h0) hx hb (by decide +kernel) rfl (lv_at hl 0 rfl) ?_
  refine lv_sipush (v := 212) hx hb (n := 212) (by decide +kernel) rfl ?_
  refine g_na C hlen hP hD hS hA (atype := .int) rfl 0 rfl ac_int (N' := 212) (a0 := (212, .inl (fun _ => 0))) (fun _ => rfl) (by decide) (by decide) (by decide) (Nat.le_of_ble_eq_true rfl) (Nat.le_of_ble_eq_true rfl) (by decide +kernel) (k := 5) (j := 30) (T := TX3) rfl (g_link flX3_ok (w := 0) rfl rfl) rfl rfl rfl (fun _ => rfl) (fun _ => rfl) (by decide +kernel) (fun q6 H locs _ hP hD hS => ?_)
  replace hlen : ([.ref q1, .ref q2, .ref q3, .ref q4, .ref q5, .ref q6, .null, .null, .null, .int 0, .int 0] : List Value).length = 11 := rfl
  replace hP : va_P (dC, dI) vwCl [(h0, .inr (3, [.ref q1, .ref q2, .ref q3, .ref q4, .ref q5, .ref q6, .null, .null, .null, .int 0, .int 0])), (q1, .inl (cy 0, 53, .inl (fun _ => 0))), (q2, .inl (cy 1, 53, .inr (.inl (fun _ => 0)))), (q3, .inl (cy 1, 53, .inr (.inl (fun _ => 0)))), (q4, .inl (cy 1, 53, .inr (.inl (fun _ => 0)))), (q5, .inl (cy 0, 212, .inl (fun _ => 0))), (q6, .inl (cy 0, 212, .inl (fun _ => 0)))] H := hP
  replace hD : va_D A [(h0, .inr (3, [.ref q1, .ref q2, .ref q3, .ref q4, .ref q5, .ref q6, .null, .null, .null, .int 0, .int 0])), (q1, .inl (cy 0, 53, .inl (fun _ => 0))), (q2, .inl (cy 1, 53, .inr (.inl (fun _ => 0)))), (q3, .inl (cy 1, 53, .inr (.inl (fun _ => 0)))), (q4, .inl (cy 1, 53, .inr (.inl (fun _ => 0)))), (q5, .inl (cy 0, 212, .inl (fun _ => 0))), (q6, .inl (cy 0, 212, .inl (fun _ => 0)))] := hD
  refine lv_aload_n (k := 0) (i := 0) (x := h0) hx hb (by decide +kernel) rfl (lv_at hl 0 rfl) ?_
  refine lv_sipush (v := 212) hx hb (n := 212) (by decide +kernel) rfl ?_
  refine g_na C hlen hP hD hS hA (atype := .int) rfl 0 rfl ac_int (N' := 212) (a0 := (212, .inl (fun _ => 0))) (fun _ => rfl) (by decide) (by decide) (by decide) (Nat.le_of_ble_eq_true rfl) (Nat.le_of_ble_eq_true rfl) (by decide +kernel) (k := 6) (j := 33) (T := TX3) rfl (g_link flX3_ok (w := 0) rfl rfl) rfl rfl rfl (fun _ => rfl) (fun _ => rfl) (by decide +kernel) (fun q7 H locs _ hP hD hS => ?_)
  replace hlen : ([.ref q1, .ref q2, .ref q3, .ref q4, .ref q5, .ref q6, .ref q7, .null, .null, .int 0, .int 0] : List Value).length = 11 := rfl
  replace hP : va_P (dC, dI) vwCl [(h0, .inr (3, [.ref q1, .ref q2, .ref q3, .ref q4, .ref q5, .ref q6, .ref q7, .null, .null, .int 0, .int 0])), (q1, .inl (cy 0, 53, .inl (fun _ => 0))), (q2, .inl (cy 1, 53, .inr (.inl (fun _ => 0)))), (q3, .inl (cy 1, 53, .inr (.inl (fun _ => 0)))), (q4, .inl (cy 1, 53, .inr (.inl (fun _ => 0)))), (q5, .inl (cy 0, 212, .inl (fun _ => 0))), (q6, .inl (cy 0, 212, .inl (fun _ => 0))), (q7, .inl (cy 0, 212, .inl (fun _ => 0)))] H := hP
  replace hD : va_D A [(h0, .inr (3, [.ref q1, .ref q2, .ref q3, .ref q4, .ref q5, .ref q6, .ref q7, .null, .null, .int 0, .int 0])), (q1, .inl (cy 0, 53, .inl (fun _ => 0))), (q2, .inl (cy 1, 53, .inr (.inl (fun _ => 0)))), (q3, .inl (cy 1, 53, .inr (.inl (fun _ => 0)))), (q4, .inl (cy 1, 53, .inr (.inl (fun _ => 0)))), (q5, .inl (cy 0, 212, .inl (fun _ => 0))), (q6, .inl (cy 0, 212, .inl (fun _ => 0))), (q7, .inl (cy 0, 212, .inl (fun _ => 0)))] := hD
  refine lv_aload_n (k := 0) (i := 0) (x := h0) hx hb (by decide +kernel) rfl (lv_at hl 0 rfl) ?_
  refine lv_sipush (v := 212) hx hb (n := 212) (by decide +kernel) rfl ?_
  refine g_na C hlen hP hD hS hA (atype := .int) rfl 0 rfl ac_int (N' := 212) (a0 := (212, .inl (fun _ => 0))) (fun _ => rfl) (by decide) (by decide) (by decide) (Nat.le_of_ble_eq_true rfl) (Nat.le_of_ble_eq_true rfl) (by decide +kernel) (k := 7) (j := 36) (T := TX3) rfl (g_link flX3_ok (w := 0) rfl rfl) rfl rfl rfl (fun _ => rfl) (fun _ => rfl) (by decide +kernel) (fun q8 H locs _ hP hD hS => ?_)
  replace hlen : ([.ref q1, .ref q2, .ref q3, .ref q4, .ref q5, .ref q6, .ref q7, .ref q8, .null, .int 0, .int 0] : List Value).length = 11 := rfl
  replace hP : va_P (dC, dI) vwCl [(h0, .inr (3, [.ref q1, .ref q2, .ref q3, .ref q4, .ref q5, .ref q6, .ref q7, .ref q8, .null, .int 0, .int 0])), (q1, .inl (cy 0, 53, .inl (fun _ => 0))), (q2, .inl (cy 1, 53, .inr (.inl (fun _ => 0)))), (q3, .inl (cy 1, 53, .inr (.inl (fun _ => 0)))), (q4, .inl (cy 1, 53, .inr (.inl (fun _ => 0)))), (q5, .inl (cy 0, 212, .inl (fun _ => 0))), (q6, .inl (cy 0, 212, .inl (fun _ => 0))), (q7, .inl (cy 0, 212, .inl (fun _ => 0))), (q8, .inl (cy 0, 212, .inl (fun _ => 0)))] H := hP
  replace hD : va_D A [(h0, .inr (3, [.ref q1, .ref q2, .ref q3, .ref q4, .ref q5, .ref q6, .ref q7, .ref q8, .null, .int 0, .int 0])), (q1, .inl (cy 0, 53, .inl (fun _ => 0))), (q2, .inl (cy 1, 53, .inr (.inl (fun _ => 0)))), (q3, .inl (cy 1, 53, .inr (.inl (fun _ => 0)))), (q4, .inl (cy 1, 53, .inr (.inl (fun _ => 0)))), (q5, .inl (cy 0, 212, .inl (fun _ => 0))), (q6, .inl (cy 0, 212, .inl (fun _ => 0))), (q7, .inl (cy 0, 212, .inl (fun _ => 0))), (q8, .inl (cy 0, 212, .inl (fun _ => 0)))] := hD
  refine lv_aload_n (k := 0) (i := 0) (x := h0) hx hb (by decide +kernel) rfl (lv_at hl 0 rfl) ?_
  refine lv_bipush (v := 12) hx hb (n := 12) (by decide +kernel) rfl ?_
  refine g_na C hlen hP hD hS hA (atype := .int) rfl 0 rfl ac_int (N' := 12) (a0 := (12, .inl (fun _ => 0))) (fun _ => rfl) (by decide) (by decide) (by decide) (Nat.le_of_ble_eq_true rfl) (Nat.le_of_ble_eq_true rfl) (by decide +kernel) (k := 8) (j := 39) (T := TX3) rfl (g_link flX3_ok (w := 0) rfl rfl) rfl rfl rfl (fun _ => rfl) (fun _ => rfl) (by decide +kernel) (fun q9 H locs _ hP hD hS => ?_)
  replace hlen : ([.ref q1, .ref q2, .ref q3, .ref q4, .ref q5, .ref q6, .ref q7, .ref q8, .ref q9, .int 0, .int 0] : List Value).length = 11 := rfl
  replace hP : va_P (dC, dI) vwCl [(h0, .inr (3, [.ref q1, .ref q2, .ref q3, .ref q4, .ref q5, .ref q6, .ref q7, .ref q8, .ref q9, .int 0, .int 0])), (q1, .inl (cy 0, 53, .inl (fun _ => 0))), (q2, .inl (cy 1, 53, .inr (.inl (fun _ => 0)))), (q3, .inl (cy 1, 53, .inr (.inl (fun _ => 0)))), (q4, .inl (cy 1, 53, .inr (.inl (fun _ => 0)))), (q5, .inl (cy 0, 212, .inl (fun _ => 0))), (q6, .inl (cy 0, 212, .inl (fun _ => 0))), (q7, .inl (cy 0, 212, .inl (fun _ => 0))), (q8, .inl (cy 0, 212, .inl (fun _ => 0))), (q9, .inl (cy 0, 12, .inl (fun _ => 0)))] H := hP
  replace hD : va_D A [(h0, .inr (3, [.ref q1, .ref q2, .ref q3, .ref q4, .ref q5, .ref q6, .ref q7, .ref q8, .ref q9, .int 0, .int 0])), (q1, .inl (cy 0, 53, .inl (fun _ => 0))), (q2, .inl (cy 1, 53, .inr (.inl (fun _ => 0)))), (q3, .inl (cy 1, 53, .inr (.inl (fun _ => 0)))), (q4, .inl (cy 1, 53, .inr (.inl (fun _ => 0)))), (q5, .inl (cy 0, 212, .inl (fun _ => 0))), (q6, .inl (cy 0, 212, .inl (fun _ => 0))), (q7, .inl (cy 0, 212, .inl (fun _ => 0))), (q8, .inl (cy 0, 212, .inl (fun _ => 0))), (q9, .inl (cy 0, 12, .inl (fun _ => 0)))] := hD
  exact W.vret hx hb hr (fun t ht hW => ⟨⟨(), rfl, trivial, q1, q2, q3, q4, q5, q6, q7, q8, q9, by rw [ht]; exact hP, hD⟩, hS.F ht⟩) hS.2.2 (by decide +kernel)
def rmX2 : Room := { frames := 1, cells := 6, slots := 128, locals := 12 }
set_option maxHeartbeats 40000000 in
set_option maxRecDepth 100000 in
theorem nX2 (l : Launch) (dC : Nat → ClassId) (dI : Nat → Nat → Nat) (cy : Nat → ClassId) (h0 sz : Nat) : Met l yX2_init (Cond.code yX2_init cX2_init 1 none :: fT) rmX2 (va_Pc [.ref h0] (fun U => U.heap.size = sz ∧ va_P (dC, dI) vwCl [(h0, .inr (2, [.null, .null, .null, .null, .null, .null, .int 0, .int 0, .int 0]))] U.heap ∧ va_K (dC, dI) vwCl (f_tys cy) U))
    (va_Qv (fun _ : Unit => True) (fun _ t => ∃ q1 q2 q3 q4 q5 q6 : Nat, va_P (dC, dI) vwCl [(h0, .inr (2, [.ref q1, .ref q2, .ref q3, .ref q4, .ref q5, .ref q6, .int 0, .int 0, .int 0])), (q1, .inl (cy 0, 8, .inl (fun _ => 0))), (q2, .inl (cy 0, 72, .inl (fun _ => 0))), (q3, .inl (cy 0, 12, .inl (fun _ => 0))), (q4, .inl (cy 0, 12, .inl (fun _ => 0))), (q5, .inl (cy 1, 12, .inr (.inl (fun _ => 0)))), (q6, .inl (cy 1, 12, .inr (.inl (fun _ => 0))))] t.heap ∧ va_D (va_A [(h0, .inr (2, [.null, .null, .null, .null, .null, .null, .int 0, .int 0, .int 0]))] sz) [(h0, .inr (2, [.ref q1, .ref q2, .ref q3, .ref q4, .ref q5, .ref q6, .int 0, .int 0, .int 0])), (q1, .inl (cy 0, 8, .inl (fun _ => 0))), (q2, .inl (cy 0, 72, .inl (fun _ => 0))), (q3, .inl (cy 0, 12, .inl (fun _ => 0))), (q4, .inl (cy 0, 12, .inl (fun _ => 0))), (q5, .inl (cy 1, 12, .inr (.inl (fun _ => 0)))), (q6, .inl (cy 1, 12, .inr (.inl (fun _ => 0))))]) (va_A [(h0, .inr (2, [.null, .null, .null, .null, .null, .null, .int 0, .int 0, .int 0]))] sz)) 6 128 (va_A [(h0, .inr (2, [.null, .null, .null, .null, .null, .null, .int 0, .int 0, .int 0]))] sz) := by
  refine Met.ofW (cc := cX2_init) (maxL := 1) (ret := none) (by decide) rfl ?_
  intro p e s m args below meth c s₁ B hml hv
  obtain ⟨rfl, hsz, hP, hK⟩ := hv
  have hx := B.exec
  have hb := B.bytes
  have hr := B.returns
  have hts0 := atoms_spec (ws := Cond.code yX2_init cX2_init 1 none :: fT) B.pre
  have hts : ∀ w ∈ fT, w.before _ s = true := fun w h => hts0 w (List.mem_cons_of_mem _ h)
  have hown : s.vm.findClass RX2 = some m.cls := findClass_of_methodNamed B.named
  have hlocks := B.notSynchronized
  have hin : meth.name = "<init>" := (name_of_methodNamed B.named B.method).1
  have C : g_Cx p s m [Value.ref h0].toArray meth c cy dC dI cX2_init RX2 := ⟨hx, hb, hown, hts, hin, hK⟩
  subst hsz
  have hD : va_D (va_A [(h0, .inr (2, [.null, .null, .null, .null, .null, .null, .int 0, .int 0, .int 0]))] s.heap.size) [(h0, .inr (2, [.null, .null, .null, .null, .null, .null, .int 0, .int 0, .int 0]))] := g_one
  generalize hAe : va_A [(h0, .inr (2, [.null, .null, .null, .null, .null, .null, .int 0, .int 0, .int 0]))] s.heap.size = A at hD ⊢
  have hA : ∀ q : Nat, s.heap.size ≤ q → A q := fun q h => by rw [← hAe]; exact Or.inr h
  have hS : va_S A s.heap s.heap [] := va_S.rf
  have hl := lv_entry ([.ref h0]) (n := 1) (Nat.le_of_ble_eq_true rfl)
  rw [lg_entry_eq]
  generalize (lg_sl ([.ref h0]) ++ List.replicate (1 - (lg_sl ([.ref h0])).length) Slot.unset).toArray = ls at hl ⊢
  have hl : lv_has ls 1 [(0, .ref h0)] := hl
  refine lv_aload_n (k := 0) (i := 0) (x := h0) hx hb (by decide +kernel) rfl (lv_at hl 0 rfl) ?_
  refine W.objInit hx hb hown (hts _ oi_X2) (hts _ oi_im) (hts _ oi_co) rfl (by rw [hml]; exact hl.1) rfl (by show decode cX2_init 1 = .ok (.invokespecial 3, 3); decide +kernel) (Nat.le_of_ble_eq_true rfl) (Nat.le_of_ble_eq_true rfl) ?_
  refine W.eq (g2 := F0 m 4 ls []) rfl ?_
  have hlen : ([.null, .null, .null, .null, .null, .null, .int 0, .int 0, .int 0] : List Value).length = 9 := rfl
  refine lv_aload_n (k := 0) (i := 0) (x := h0) hx hb (by decide +kernel) rfl (lv_at hl 0 rfl) ?_
  refine lv_bipush (v := 8) hx hb (n := 8) (by decide +kernel) rfl ?_
  refine g_na C hlen hP hD hS hA (atype := .int) rfl 0 rfl ac_int (N' := 8) (a0 := (8, .inl (fun _ => 0))) (fun _ => rfl) (by decide) (by decide) (by decide) (Nat.le_of_ble_eq_true rfl) (Nat.le_of_ble_eq_true rfl) (by decide +kernel) (k := 0) (j := 11) (T := TX2) rfl (g_link flX2_ok (w := 0) rfl rfl) rfl rfl rfl (fun _ => rfl) (fun _ => rfl) (by decide +kernel) (fun q1 H locs _ hP hD hS => ?_)
  replace hlen : ([.ref q1, .null, .null, .null, .null, .null, .int 0, .int 0, .int 0] : List Value).length = 9 := rfl
  replace hP : va_P (dC, dI) vwCl [(h0, .inr (2, [.ref q1, .null, .null, .null, .null, .null, .int 0, .int 0, .int 0])), (q1, .inl (cy 0, 8, .inl (fun _ => 0)))] H := hP
  replace hD : va_D A [(h0, .inr (2, [.ref q1, .null, .null, .null, .null, .null, .int 0, .int 0, .int 0])), (q1, .inl (cy 0, 8, .inl (fun _ => 0)))] := hD
  refine lv_aload_n (k := 0) (i := 0) (x := h0) hx hb (by decide +kernel) rfl (lv_at hl 0 rfl) ?_
  refine lv_bipush (v := 72) hx hb (n := 72) (by decide +kernel) rfl ?_
  refine g_na C hlen hP hD hS hA (atype := .int) rfl 0 rfl ac_int (N' := 72) (a0 := (72, .inl (fun _ => 0))) (fun _ => rfl) (by decide) (by decide) (by decide) (Nat.le_of_ble_eq_true rfl) (Nat.le_of_ble_eq_true rfl) (by decide +kernel) (k := 1) (j := 15) (T := TX2) rfl (g_link flX2_ok (w := 0) rfl rfl) rfl rfl rfl (fun _ => rfl) (fun _ => rfl) (by decide +kernel) (fun q2 H locs _ hP hD hS => ?_)
  replace hlen : ([.ref q1, .ref q2, .null, .null, .null, .null, .int 0, .int 0, .int 0] : List Value).length = 9 := rfl
  replace hP : va_P (dC, dI) vwCl [(h0, .inr (2, [.ref q1, .ref q2, .null, .null, .null, .null, .int 0, .int 0, .int 0])), (q1, .inl (cy 0, 8, .inl (fun _ => 0))), (q2, .inl (cy 0, 72, .inl (fun _ => 0)))] H := hP
  replace hD : va_D A [(h0, .inr (2, [.ref q1, .ref q2, .null, .null, .null, .null, .int 0, .int 0, .int 0])), (q1, .inl (cy 0, 8, .inl (fun _ => 0))), (q2, .inl (cy 0, 72, .inl (fun _ => 0)))] := hD
  refine lv_aload_n (k := 0) (i := 0) (x := h0) hx hb (by decide +kernel) rfl (lv_at hl 0 rfl) ?_
  refine lv_bipush (v := 12) hx hb (n := 12) (by decide +kernel) rfl ?_
  refine g_na C hlen hP hD hS hA (atype := .int) rfl 0 rfl ac_int (N' := 12) (a0 := (12, .inl (fun _ => 0))) (fun _ => rfl) (by decide) (by decide) (by decide) (Nat.le_of_ble_eq_true rfl) (Nat.le_of_ble_eq_true rfl) (by decide +kernel) (k := 2) (j := 18) (T := TX2) rfl (g_link flX2_ok (w := 0) rfl rfl) rfl rfl rfl (fun _ => rfl) (fun _ => rfl) (by decide +kernel) (fun q3 H locs _ hP hD hS => ?_)
  replace hlen : ([.ref q1, .ref q2, .ref q3, .null, .null, .null, .int 0, .int 0, .int 0] : List Value).length = 9 := rfl
  replace hP : va_P (dC, dI) vwCl [(h0, .inr (2, [.ref q1, .ref q2, .ref q3, .null, .null, .null, .int 0, .int 0, .int 0])), (q1, .inl (cy 0, 8, .inl (fun _ => 0))), (q2, .inl (cy 0, 72, .inl (fun _ => 0))), (q3, .inl (cy 0, 12, .inl (fun _ => 0)))] H := hP
  replace hD : va_D A [(h0, .inr (2, [.ref q1, .ref q2, .ref q3, .null, .null, .null, .int 0, .int 0, .int 0])), (q1, .inl (cy 0, 8, .inl (fun _ => 0))), (q2, .inl (cy 0, 72, .inl (fun _ => 0))), (q3, .inl (cy 0, 12, .inl (fun _ => 0)))] := hD
  refine lv_aload_n (k := 0) (i := 0) (x := h0) hx hb (by decide +kernel) rfl (lv_at hl 0 rfl) ?_
  refine lv_bipush (v := 12) hx hb (n := 12) (by decide +kernel) rfl ?_
  refine g_na C hlen hP hD hS hA (atype := .int) rfl 0 rfl ac_int (N' := 12) (a0 := (12, .inl (fun _ => 0))) (fun _ => rfl) (by decide) (by decide) (by decide) (Nat.le_of_ble_eq_true rfl) (Nat.le_of_ble_eq_true rfl) (by decide +kernel) (k := 3) (j := 21) (T := TX2) rfl (g_link flX2_ok (w := 0) rfl rfl) rfl rfl rfl (fun _ => rfl) (fun _ => rfl) (by decide +kernel) (fun q4 H locs _ hP hD hS => ?_)
  replace hlen : ([.ref q1, .ref q2, .ref q3, .ref q4, .null, .null, .int 0, .int 0, .int 0] : List Value).length = 9 := rfl
  replace hP : va_P (dC, dI) vwCl [(h0, .inr (2, [.ref q1, .ref q2, .ref q3, .ref q4, .null, .null, .int 0, .int 0, .int 0])), (q1, .inl (cy 0, 8, .inl (fun _ => 0))), (q2, .inl (cy 0, 72, .inl (fun _ => 0))), (q3, .inl (cy 0, 12, .inl (fun _ => 0))), (q4, .inl (cy 0, 12, .inl (fun _ => 0)))] H := hP
  replace hD : va_D A [(h0, .inr (2, [.ref q1, .ref q2, .ref q3, .ref q4, .null, .null, .int 0, .int 0, .int 0])), (q1, .inl (cy 0, 8, .inl (fun _ => 0))), (q2, .inl (cy 0, 72, .inl (fun _ => 0))), (q3, .inl (cy 0, 12, .inl (fun _ => 0))), (q4, .inl (cy 0, 12, .inl (fun _ => 0)))] := hD
  refine lv_aload_n (k := 0) (i := 0) (x := h0) hx hb (by decide +kernel) rfl (lv_at hl 0 rfl) ?_
  refine lv_bipush (v := 12) hx hb (n := 12) (by decide +kernel) rfl ?_
  refine g_na C hlen hP hD hS hA (atype := .long) rfl 1 rfl ac_long (N' := 12) (a0 := (12, .inr (.inl (fun _ => 0)))) (fun _ => rfl) (by decide) (by decide) (by decide) (Nat.le_of_ble_eq_true rfl) (Nat.le_of_ble_eq_true rfl) (by decide +kernel) (k := 4) (j := 24) (T := TX2) rfl (g_link flX2_ok (w := 0) rfl rfl) rfl rfl rfl (fun _ => rfl) (fun _ => rfl) (by decide +kernel) (fun q5 H locs _ hP hD hS => ?_)
  replace hlen : ([.ref q1, .ref q2, .ref q3, .ref q4, .ref q5, .null, .int 0, .int 0, .int 0] : List Value).length = 9 := rfl
  replace hP : va_P (dC, dI) vwCl [(h0, .inr (2, [.ref q1, .ref q2, .ref q3, .ref q4, .ref q5, .null, .int 0, .int 0, .int 0])), (q1, .inl (cy 0, 8, .inl (fun _ => 0))), (q2, .inl (cy 0, 72, .inl (fun _ => 0))), (q3, .inl (cy 0, 12, .inl (fun _ => 0))), (q4, .inl (cy 0, 12, .inl (fun _ => 0))), (q5, .inl (cy 1, 12, .inr (.inl (fun _ => 0))))] H := hP
  replace hD : va_D A [(h0, .inr (2, [.ref q1, .ref q2, .ref q3, .ref q4, .ref q5, .null, .int 0, .int 0, .int 0])), (q1, .inl (cy 0, 8, .inl (fun _ => 0))), (q2, .inl (cy 0, 72, .inl (fun _ => 0))), (q3, .inl (cy 0, 12, .inl (fun _ => 0))), (q4, .inl (cy 0, 12, .inl (fun _ => 0))), (q5, .inl (cy 1, 12, .inr (.inl (fun _ => 0))))] := hD
  refine lv_aload_n (k := 0) (i := 0) (x := h0) hx hb (by decide +kernel) rfl (lv_at hl 0 rfl) ?_
  refine lv_bipush (v := 12) hx hb (n := 12) (by decide +kernel) rfl ?_
  refine g_na C hlen hP hD hS hA (atype := .long) rfl 1 rfl ac_long (N' := 12) (a0 := (12, .inr (.inl (fun _ => 0)))) (fun _ => rfl) (by decide) (by decide) (by decide) (Nat.le_of_ble_eq_true rfl) (Nat.le_of_ble_eq_true rfl) (by decide +kernel) (k := 5) (j := 28) (T := TX2) rfl (g_link flX2_ok (w := 0) rfl rfl) rfl rfl rfl (fun _ => rfl) (fun _ => rfl) (by decide +kernel) (fun q6 H locs _ hP hD hS => ?_)
  replace hlen : ([.ref q1, .ref q2, .ref q3, .ref q4, .ref q5, .ref q6, .int 0, .int 0, .int 0] : List Value).length = 9 := rfl
  replace hP : va_P (dC, dI) vwCl [(h0, .inr (2, [.ref q1, .ref q2, .ref q3, .ref q4, .ref q5, .ref q6, .int 0, .int 0, .int 0])), (q1, .inl (cy 0, 8, .inl (fun _ => 0))), (q2, .inl (cy 0, 72, .inl (fun _ => 0))), (q3, .inl (cy 0, 12, .inl (fun _ => 0))), (q4, .inl (cy 0, 12, .inl (fun _ => 0))), (q5, .inl (cy 1, 12, .inr (.inl (fun _ => 0)))), (q6, .inl (cy 1, 12, .inr (.inl (fun _ => 0))))] H := hP
  replace hD : va_D A [(h0, .inr (2, [.ref q1, .ref q2, .ref q3, .ref q4, .ref q5, .ref q6, .int 0, .int 0, .int 0])), (q1, .inl (cy 0, 8, .inl (fun _ => 0))), (q2, .inl (cy 0, 72, .inl (fun _ => 0))), (q3, .inl (cy 0, 12, .inl (fun _ => 0))), (q4, .inl (cy 0, 12, .inl (fun _ => 0))), (q5, .inl (cy 1, 12, .inr (.inl (fun _ => 0)))), (q6, .inl (cy 1, 12, .inr (.inl (fun _ => 0))))] := hD
  exact W.vret hx hb hr (fun t ht hW => ⟨⟨(), rfl, trivial, q1, q2, q3, q4, q5, q6, by rw [ht]; exact hP, hD⟩, hS.F ht⟩) hS.2.2 (by decide +kernel)
def rmX0 : Room := { frames := 1, cells := 1, slots := 4, locals := 12 }
set_option maxHeartbeats 40000000 in
set_option maxRecDepth 100000 in
theorem nX0 (l : Launch) (dC : Nat → ClassId) (dI : Nat → Nat → Nat) (cy : Nat → ClassId) (h0 sz r1 r2 r3 : Nat) : Met l yX0_init (Cond.code yX0_init cX0_init 4 none :: fT) rmX0 (va_Pc [.ref h0, .ref r1, .ref r2, .ref r3] (fun U => U.heap.size = sz ∧ va_P (dC, dI) vwCl [(h0, .inr (0, [.null, .null, .null, .null, .int 0, .int 0, .int 0, .int 0]))] U.heap ∧ va_K (dC, dI) vwCl (f_tys cy) U))
    (va_Qv (fun _ : Unit => True) (fun _ t => ∃ q1 : Nat, va_P (dC, dI) vwCl [(h0, .inr (0, [.ref r1, .ref r2, .ref r3, .ref q1, .int 0, .int 0, .int 0, .int 0])), (q1, .inl (cy 0, 4, .inl (fun _ => 0)))] t.heap ∧ va_D (va_A [(h0, .inr (0, [.null, .null, .null, .null, .int 0, .int 0, .int 0, .int 0]))] sz) [(h0, .inr (0, [.ref r1, .ref r2, .ref r3, .ref q1, .int 0, .int 0, .int 0, .int 0])), (q1, .inl (cy 0, 4, .inl (fun _ => 0)))]) (va_A [(h0, .inr (0, [.null, .null, .null, .null, .int 0, .int 0, .int 0, .int 0]))] sz)) 1 4 (va_A [(h0, .inr (0, [.null, .null, .null, .null, .int 0, .int 0, .int 0, .int 0]))] sz) := by
  refine Met.ofW (cc := cX0_init) (maxL := 4) (ret := none) (by decide) rfl ?_
  intro p e s m args below meth c s₁ B hml hv
  obtain ⟨rfl, hsz, hP, hK⟩ := hv
  have hx := B.exec
  have hb := B.bytes
  have hr := B.returns
  have hts0 := atoms_spec (ws := Cond.code yX0_init cX0_init 4 none :: fT) B.pre
  have hts : ∀ w ∈ fT, w.before _ s = true := fun w h => hts0 w (List.mem_cons_of_mem _ h)
  have hown : s.vm.findClass RX0 = some m.cls := findClass_of_methodNamed B.named
  have hlocks := B.notSynchronized
  have hin : meth.name = "<init>" := (name_of_methodNamed B.named B.method).1
  have C : g_Cx p s m [Value.ref h0, Value.ref r1, Value.ref r2, Value.ref r3].toArray meth c cy dC dI cX0_init RX0 := ⟨hx, hb, hown, hts, hin, hK⟩
  subst hsz
  have hD : va_D (va_A [(h0, .inr (0, [.null, .null, .null, .null, .int 0, .int 0, .int 0, .int 0]))] s.heap.size) [(h0, .inr (0, [.null, .null, .null, .null, .int 0, .int 0, .int 0, .int 0]))] := g_one
  generalize hAe : va_A [(h0, .inr (0, [.null, .null, .null, .null, .int 0, .int 0, .int 0, .int 0]))] s.heap.size = A at hD ⊢
  have hA : ∀ q : Nat, s.heap.size ≤ q → A q := fun q h => by rw [← hAe]; exact Or.inr h
  have hS : va_S A s.heap s.heap [] := va_S.rf
  have hl := lv_entry ([.ref h0, .ref r1, .ref r2, .ref r3]) (n := 4) (Nat.le_of_ble_eq_true rfl)
  rw [lg_entry_eq]
  generalize (lg_sl ([.ref h0, .ref r1, .ref r2, .ref r3]) ++ List.replicate (4 - (lg_sl ([.ref h0, .ref r1, .ref r2, .ref r3])).length) Slot.unset).toArray = ls at hl ⊢
  have hl : lv_has ls 4 [(0, .ref h0), (1, .ref r1), (2, .ref r2), (3, .ref r3)] := hl
  refine lv_aload_n (k := 0) (i := 0) (x := h0) hx hb (by decide +kernel) rfl (lv_at hl 0 rfl) ?_
  refine W.objInit hx hb hown (hts _ oi_X0) (hts _ oi_im) (hts _ oi_co) rfl (by rw [hml]; exact hl.1) rfl (by show decode cX0_init 1 = .ok (.invokespecial 1, 3); decide +kernel) (Nat.le_of_ble_eq_true rfl) (Nat.le_of_ble_eq_true rfl) ?_
  refine W.eq (g2 := F0 m 4 ls []) rfl ?_
  have hlen : ([.null, .null, .null, .null, .int 0, .int 0, .int 0, .int 0] : List Value).length = 8 := rfl
  refine lv_aload_n (k := 0) (i := 0) (x := h0) hx hb (by decide +kernel) rfl (lv_at hl 0 rfl) ?_
  refine lv_iconst (v := 4) hx hb (n := 4) (by decide +kernel) rfl ?_
  refine g_na C hlen hP hD hS hA (atype := .int) rfl 0 rfl ac_int (N' := 4) (a0 := (4, .inl (fun _ => 0))) (fun _ => rfl) (by decide) (by decide) (by decide) (Nat.le_of_ble_eq_true rfl) (Nat.le_of_ble_eq_true rfl) (by decide +kernel) (k := 3) (j := 9) (T := TX0) rfl (g_link flX0_ok (w := 0) rfl rfl) rfl rfl rfl (fun _ => rfl) (fun _ => rfl) (by decide +kernel) (fun q1 H locs _ hP hD hS => ?_)
  replace hlen : ([.null, .null, .null, .ref q1, .int 0, .int 0, .int 0, .int 0] : List Value).length = 8 := rfl
  replace hP : va_P (dC, dI) vwCl [(h0, .inr (0, [.null, .null, .null, .ref q1, .int 0, .int 0, .int 0, .int 0])), (q1, .inl (cy 0, 4, .inl (fun _ => 0)))] H := hP
  replace hD : va_D A [(h0, .inr (0, [.null, .null, .null, .ref q1, .int 0, .int 0, .int 0, .int 0])), (q1, .inl (cy 0, 4, .inl (fun _ => 0)))] := hD
  refine lv_aload_n (k := 0) (i := 0) (x := h0) hx hb (by decide +kernel) rfl (lv_at hl 0 rfl) ?_
  refine lv_aload_n (k := 1) (i := 1) (x := r1) hx hb (by decide +kernel) rfl (lv_at hl 1 rfl) ?_
  refine g_pf C hlen hP hD hS (k := 0) (j := 13) (T := TX0) rfl (g_link flX0_ok (w := 0) rfl rfl) rfl rfl rfl rfl rfl (by decide +kernel) (fun H locs _ hP hD hS => ?_)
  replace hlen : ([.ref r1, .null, .null, .ref q1, .int 0, .int 0, .int 0, .int 0] : List Value).length = 8 := rfl
  replace hP : va_P (dC, dI) vwCl [(h0, .inr (0, [.ref r1, .null, .null, .ref q1, .int 0, .int 0, .int 0, .int 0])), (q1, .inl (cy 0, 4, .inl (fun _ => 0)))] H := hP
  replace hD : va_D A [(h0, .inr (0, [.ref r1, .null, .null, .ref q1, .int 0, .int 0, .int 0, .int 0])), (q1, .inl (cy 0, 4, .inl (fun _ => 0)))] := hD
  refine lv_aload_n (k := 0) (i := 0) (x := h0) hx hb (by decide +kernel) rfl (lv_at hl 0 rfl) ?_
  refine lv_aload_n (k := 2) (i := 2) (x := r2) hx hb (by decide +kernel) rfl (lv_at hl 2 rfl) ?_
  refine g_pf C hlen hP hD hS (k := 1) (j := 17) (T := TX0) rfl (g_link flX0_ok (w := 0) rfl rfl) rfl rfl rfl rfl rfl (by decide +kernel) (fun H locs _ hP hD hS => ?_)
  replace hlen : ([.ref r1, .ref r2, .null, .ref q1, .int 0, .int 0, .int 0, .int 0] : List Value).length = 8 := rfl
  replace hP : va_P (dC, dI) vwCl [(h0, .inr (0, [.ref r1, .ref r2, .null, .ref q1, .int 0, .int 0, .int 0, .int 0])), (q1, .inl (cy 0, 4, .inl (fun _ => 0)))] H := hP
  replace hD : va_D A [(h0, .inr (0, [.ref r1, .ref r2, .null, .ref q1, .int 0, .int 0, .int 0, .int 0])), (q1, .inl (cy 0, 4, .inl (fun _ => 0)))] := hD
  refine lv_aload_n (k := 0) (i := 0) (x := h0) hx hb (by decide +kernel) rfl (lv_at hl 0 rfl) ?_
  refine lv_aload_n (k := 3) (i := 3) (x := r3) hx hb (by decide +kernel) rfl (lv_at hl 3 rfl) ?_
  refine g_pf C hlen hP hD hS (k := 2) (j := 21) (T := TX0) rfl (g_link flX0_ok (w := 0) rfl rfl) rfl rfl rfl rfl rfl (by decide +kernel) (fun H locs _ hP hD hS => ?_)
  replace hlen : ([.ref r1, .ref r2, .ref r3, .ref q1, .int 0, .int 0, .int 0, .int 0] : List Value).length = 8 := rfl
  replace hP : va_P (dC, dI) vwCl [(h0, .inr (0, [.ref r1, .ref r2, .ref r3, .ref q1, .int 0, .int 0, .int 0, .int 0])), (q1, .inl (cy 0, 4, .inl (fun _ => 0)))] H := hP
  replace hD : va_D A [(h0, .inr (0, [.ref r1, .ref r2, .ref r3, .ref q1, .int 0, .int 0, .int 0, .int 0])), (q1, .inl (cy 0, 4, .inl (fun _ => 0)))] := hD
  exact W.vret hx hb hr (fun t ht hW => ⟨⟨(), rfl, trivial, q1, by rw [ht]; exact hP, hD⟩, hS.F ht⟩) hS.2.2 (by decide +kernel)
