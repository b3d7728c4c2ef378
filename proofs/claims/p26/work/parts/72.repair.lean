/-! Repair and Readings are made -/
set_option maxHeartbeats 40000000 in
set_option maxRecDepth 100000 in
theorem nF6 (l : Launch) (dC : Nat → ClassId) (dI : Nat → Nat → Nat) (cy : Nat → ClassId) (h0 sz r1 r2 r3 q1 q2 q3 q4 q5 : Nat) : Met l yX6_forget (Cond.code yX6_forget cX6_forget 1 none :: fT) { frames := 1, cells := 0, slots := 0, locals := 23 } (va_Pc [.ref h0] (fun U => U.heap.size = sz ∧ va_P (dC, dI) vwCl [(h0, .inr (6, [.ref r1, .ref r2, .ref r3, .ref q1, .ref q2, .ref q3, .ref q4, .ref q5, .int 0, .int 0, .int 0])), (q1, .inl (cy 0, 6, .inl (fun _ => 0))), (q2, .inl (cy 0, 5, .inl (fun _ => 0))), (q3, .inl (cy 0, 144, .inl (fun _ => 0))), (q4, .inl (cy 0, 24, .inl (fun _ => 0))), (q5, .inl (cy 0, 24, .inl (fun _ => 0)))] U.heap ∧ va_K (dC, dI) vwCl (f_tys cy) U ∧ va_D (fun _ => True) [(h0, .inr (6, [.ref r1, .ref r2, .ref r3, .ref q1, .ref q2, .ref q3, .ref q4, .ref q5, .int 0, .int 0, .int 0])), (q1, .inl (cy 0, 6, .inl (fun _ => 0))), (q2, .inl (cy 0, 5, .inl (fun _ => 0))), (q3, .inl (cy 0, 144, .inl (fun _ => 0))), (q4, .inl (cy 0, 24, .inl (fun _ => 0))), (q5, .inl (cy 0, 24, .inl (fun _ => 0)))]))
    (va_Qv (fun _ : Unit => True) (fun _ t => ∃ g : Nat → Int32, (∀ j : Nat, j < 24 → g j = -2) ∧ (∀ j : Nat, 24 ≤ j → g j = 0) ∧ va_P (dC, dI) vwCl [(h0, .inr (6, [.ref r1, .ref r2, .ref r3, .ref q1, .ref q2, .ref q3, .ref q4, .ref q5, .int (-2), .int (-2), .int 0])), (q1, .inl (cy 0, 6, .inl (fun _ => 0))), (q2, .inl (cy 0, 5, .inl (upd (fun _ => 0) 0 (-2)))), (q3, .inl (cy 0, 144, .inl (fun _ => 0))), (q4, .inl (cy 0, 24, .inl g)), (q5, .inl (cy 0, 24, .inl (fun _ => 0)))] t.heap) (va_A [(h0, .inr (6, [.ref r1, .ref r2, .ref r3, .ref q1, .ref q2, .ref q3, .ref q4, .ref q5, .int 0, .int 0, .int 0])), (q1, .inl (cy 0, 6, .inl (fun _ => 0))), (q2, .inl (cy 0, 5, .inl (fun _ => 0))), (q3, .inl (cy 0, 144, .inl (fun _ => 0))), (q4, .inl (cy 0, 24, .inl (fun _ => 0))), (q5, .inl (cy 0, 24, .inl (fun _ => 0)))] sz)) 0 0 (va_A [(h0, .inr (6, [.ref r1, .ref r2, .ref r3, .ref q1, .ref q2, .ref q3, .ref q4, .ref q5, .int 0, .int 0, .int 0])), (q1, .inl (cy 0, 6, .inl (fun _ => 0))), (q2, .inl (cy 0, 5, .inl (fun _ => 0))), (q3, .inl (cy 0, 144, .inl (fun _ => 0))), (q4, .inl (cy 0, 24, .inl (fun _ => 0))), (q5, .inl (cy 0, 24, .inl (fun _ => 0)))] sz) := by
  refine Met.ofW (cc := cX6_forget) (maxL := 1) (ret := none) (by decide) rfl ?_
  intro p e s m args below meth c s₁ B hml hv
  obtain ⟨rfl, hsz, hP, hK, hD0⟩ := hv
  have hx := B.exec
  have hb := B.bytes
  have hr := B.returns
  have hts0 := atoms_spec (ws := Cond.code yX6_forget cX6_forget 1 none :: fT) B.pre
  have hts : ∀ w ∈ fT, w.before _ s = true := fun w h => hts0 w (List.mem_cons_of_mem _ h)
  have hown : s.vm.findClass RX6 = some m.cls := findClass_of_methodNamed B.named
  have hlocks := B.notSynchronized
  subst hsz
  have hD : va_D (va_A [(h0, .inr (6, [.ref r1, .ref r2, .ref r3, .ref q1, .ref q2, .ref q3, .ref q4, .ref q5, .int 0, .int 0, .int 0])), (q1, .inl (cy 0, 6, .inl (fun _ => 0))), (q2, .inl (cy 0, 5, .inl (fun _ => 0))), (q3, .inl (cy 0, 144, .inl (fun _ => 0))), (q4, .inl (cy 0, 24, .inl (fun _ => 0))), (q5, .inl (cy 0, 24, .inl (fun _ => 0)))] s.heap.size) [(h0, .inr (6, [.ref r1, .ref r2, .ref r3, .ref q1, .ref q2, .ref q3, .ref q4, .ref q5, .int 0, .int 0, .int 0])), (q1, .inl (cy 0, 6, .inl (fun _ => 0))), (q2, .inl (cy 0, 5, .inl (fun _ => 0))), (q3, .inl (cy 0, 144, .inl (fun _ => 0))), (q4, .inl (cy 0, 24, .inl (fun _ => 0))), (q5, .inl (cy 0, 24, .inl (fun _ => 0)))] := hD0.self
  generalize hAe : va_A [(h0, .inr (6, [.ref r1, .ref r2, .ref r3, .ref q1, .ref q2, .ref q3, .ref q4, .ref q5, .int 0, .int 0, .int 0])), (q1, .inl (cy 0, 6, .inl (fun _ => 0))), (q2, .inl (cy 0, 5, .inl (fun _ => 0))), (q3, .inl (cy 0, 144, .inl (fun _ => 0))), (q4, .inl (cy 0, 24, .inl (fun _ => 0))), (q5, .inl (cy 0, 24, .inl (fun _ => 0)))] s.heap.size = A at hD ⊢
  have hS : va_S A s.heap s.heap [] := va_S.rf
  have hl := lv_entry ([.ref h0]) (n := 1) (Nat.le_of_ble_eq_true rfl)
  rw [lg_entry_eq]
  generalize (lg_sl ([.ref h0]) ++ List.replicate (1 - (lg_sl ([.ref h0])).length) Slot.unset).toArray = ls at hl ⊢
  have hl : lv_has ls 1 [(0, .ref h0)] := hl
  refine lv_aload_n (k := 0) (i := 0) (x := h0) hx hb (by decide +kernel) rfl (lv_at hl 0 rfl) ?_
  refine lv_bipush (v := -2) hx hb (n := (-2)) (by decide +kernel) rfl ?_
  refine va_put hx hb hts fwX6 tyX6 tyX6_ok nmX6 hown hK hP hD hS 0 rfl rfl 8 (by show 8 < 11; decide) (hts _ (g_link flX6_ok (j := 46) (w := 1) rfl (T := TX6) rfl).2) (fun _ h9 => h9) rfl rfl rfl rfl (by show 8 < 11; decide) (by decide +kernel) (fun H locs hP hD hS => ?_)
  replace hP : va_P (dC, dI) vwCl [(h0, .inr (6, [.ref r1, .ref r2, .ref r3, .ref q1, .ref q2, .ref q3, .ref q4, .ref q5, .int (-2), .int 0, .int 0])), (q1, .inl (cy 0, 6, .inl (fun _ => 0))), (q2, .inl (cy 0, 5, .inl (fun _ => 0))), (q3, .inl (cy 0, 144, .inl (fun _ => 0))), (q4, .inl (cy 0, 24, .inl (fun _ => 0))), (q5, .inl (cy 0, 24, .inl (fun _ => 0)))] H := hP
  replace hD : va_D A [(h0, .inr (6, [.ref r1, .ref r2, .ref r3, .ref q1, .ref q2, .ref q3, .ref q4, .ref q5, .int (-2), .int 0, .int 0])), (q1, .inl (cy 0, 6, .inl (fun _ => 0))), (q2, .inl (cy 0, 5, .inl (fun _ => 0))), (q3, .inl (cy 0, 144, .inl (fun _ => 0))), (q4, .inl (cy 0, 24, .inl (fun _ => 0))), (q5, .inl (cy 0, 24, .inl (fun _ => 0)))] := hD
  refine lv_aload_n (k := 0) (i := 0) (x := h0) hx hb (by decide +kernel) rfl (lv_at hl 0 rfl) ?_
  refine lv_bipush (v := -2) hx hb (n := (-2)) (by decide +kernel) rfl ?_
  refine va_put hx hb hts fwX6 tyX6 tyX6_ok nmX6 hown hK hP hD hS 0 rfl rfl 9 (by show 9 < 11; decide) (hts _ (g_link flX6_ok (j := 50) (w := 1) rfl (T := TX6) rfl).2) (fun _ h9 => h9) rfl rfl rfl rfl (by show 9 < 11; decide) (by decide +kernel) (fun H locs hP hD hS => ?_)
  replace hP : va_P (dC, dI) vwCl [(h0, .inr (6, [.ref r1, .ref r2, .ref r3, .ref q1, .ref q2, .ref q3, .ref q4, .ref q5, .int (-2), .int (-2), .int 0])), (q1, .inl (cy 0, 6, .inl (fun _ => 0))), (q2, .inl (cy 0, 5, .inl (fun _ => 0))), (q3, .inl (cy 0, 144, .inl (fun _ => 0))), (q4, .inl (cy 0, 24, .inl (fun _ => 0))), (q5, .inl (cy 0, 24, .inl (fun _ => 0)))] H := hP
  replace hD : va_D A [(h0, .inr (6, [.ref r1, .ref r2, .ref r3, .ref q1, .ref q2, .ref q3, .ref q4, .ref q5, .int (-2), .int (-2), .int 0])), (q1, .inl (cy 0, 6, .inl (fun _ => 0))), (q2, .inl (cy 0, 5, .inl (fun _ => 0))), (q3, .inl (cy 0, 144, .inl (fun _ => 0))), (q4, .inl (cy 0, 24, .inl (fun _ => 0))), (q5, .inl (cy 0, 24, .inl (fun _ => 0)))] := hD
  refine lv_aload_n (k := 0) (i := 0) (x := h0) hx hb (by decide +kernel) rfl (lv_at hl 0 rfl) ?_
  refine va_get hx hb hts (f_cl 6 _ _ _ rfl).1 hown hK hP 0 rfl rfl 4 (by decide) (hts _ (g_link flX6_ok (j := 15) (w := 0) rfl (T := TX6) rfl).2) (fun _ h9 => h9) rfl (by decide +kernel) ?_
  refine lv_iconst (v := 0) hx hb (n := 0) (by decide +kernel) rfl ?_
  refine lv_bipush (v := -2) hx hb (n := (-2)) (by decide +kernel) rfl ?_
  refine va_iast hx hb hK hP hD hS 2 0 rfl rfl (f_in_vp ⟨by decide, by decide⟩) (by decide +kernel) (fun H locs hP hD hS => ?_)
  replace hP : va_P (dC, dI) vwCl [(h0, .inr (6, [.ref r1, .ref r2, .ref r3, .ref q1, .ref q2, .ref q3, .ref q4, .ref q5, .int (-2), .int (-2), .int 0])), (q1, .inl (cy 0, 6, .inl (fun _ => 0))), (q2, .inl (cy 0, 5, .inl (upd (fun _ => 0) 0 (-2)))), (q3, .inl (cy 0, 144, .inl (fun _ => 0))), (q4, .inl (cy 0, 24, .inl (fun _ => 0))), (q5, .inl (cy 0, 24, .inl (fun _ => 0)))] H := hP
  replace hD : va_D A [(h0, .inr (6, [.ref r1, .ref r2, .ref r3, .ref q1, .ref q2, .ref q3, .ref q4, .ref q5, .int (-2), .int (-2), .int 0])), (q1, .inl (cy 0, 6, .inl (fun _ => 0))), (q2, .inl (cy 0, 5, .inl (upd (fun _ => 0) 0 (-2)))), (q3, .inl (cy 0, 144, .inl (fun _ => 0))), (q4, .inl (cy 0, 24, .inl (fun _ => 0))), (q5, .inl (cy 0, 24, .inl (fun _ => 0)))] := hD
  refine lv_aload_n (k := 0) (i := 0) (x := h0) hx hb (by decide +kernel) rfl (lv_at hl 0 rfl) ?_
  refine va_get hx hb hts (f_cl 6 _ _ _ rfl).1 hown hK hP 0 rfl rfl 6 (by decide) (hts _ (g_link flX6_ok (j := 25) (w := 0) rfl (T := TX6) rfl).2) (fun _ h9 => h9) rfl (by decide +kernel) ?_
  refine lv_bipush (v := -2) hx hb (n := (-2)) (by decide +kernel) rfl ?_
  refine g_fill (q0 := 4) ⟨hx, hb, hml, hown, hts⟩ (mlX6_ok _ (List.mem_of_getElem? (i := 1) rfl)) (by decide) ⟨Nat.le_of_ble_eq_true rfl, Nat.le_of_ble_eq_true rfl⟩ ⟨Nat.le_of_ble_eq_true rfl, Nat.le_of_ble_eq_true rfl⟩ hK hP hD hS rfl hl.1 (by decide) (by decide +kernel) (fun g H locs hg1 hg2 hP hD hS => ?_)
  exact W.vret hx hb hr (fun t ht hW => ⟨⟨(), rfl, trivial, g, hg1, hg2, by rw [ht]; exact hP⟩, hS.F ht⟩) hS.2.2 (by decide +kernel)
def rmX6 : Room := { frames := 2, cells := 5, slots := 203, locals := 60 }
set_option maxHeartbeats 40000000 in
set_option maxRecDepth 100000 in
theorem nX6 (l : Launch) (dC : Nat → ClassId) (dI : Nat → Nat → Nat) (cy : Nat → ClassId) (h0 sz r1 r2 r3 : Nat) : Met l yX6_init (Cond.code yX6_init cX6_init 4 none :: fT) rmX6 (va_Pc [.ref h0, .ref r1, .ref r2, .ref r3] (fun U => U.heap.size = sz ∧ va_P (dC, dI) vwCl [(h0, .inr (6, [.null, .null, .null, .null, .null, .null, .null, .null, .int 0, .int 0, .int 0]))] U.heap ∧ va_K (dC, dI) vwCl (f_tys cy) U))
    (va_Qv (fun _ : Unit => True) (fun _ t => ∃ (q1 q2 q3 q4 q5 : Nat) (g : Nat → Int32), (∀ j : Nat, j < 24 → g j = -2) ∧ (∀ j : Nat, 24 ≤ j → g j = 0) ∧ va_P (dC, dI) vwCl [(h0, .inr (6, [.ref r1, .ref r2, .ref r3, .ref q1, .ref q2, .ref q3, .ref q4, .ref q5, .int (-2), .int (-2), .int 0])), (q1, .inl (cy 0, 6, .inl (fun _ => 0))), (q2, .inl (cy 0, 5, .inl (upd (fun _ => 0) 0 (-2)))), (q3, .inl (cy 0, 144, .inl (fun _ => 0))), (q4, .inl (cy 0, 24, .inl g)), (q5, .inl (cy 0, 24, .inl (fun _ => 0)))] t.heap ∧ va_D (va_A [(h0, .inr (6, [.null, .null, .null, .null, .null, .null, .null, .null, .int 0, .int 0, .int 0]))] sz) [(h0, .inr (6, [.ref r1, .ref r2, .ref r3, .ref q1, .ref q2, .ref q3, .ref q4, .ref q5, .int (-2), .int (-2), .int 0])), (q1, .inl (cy 0, 6, .inl (fun _ => 0))), (q2, .inl (cy 0, 5, .inl (upd (fun _ => 0) 0 (-2)))), (q3, .inl (cy 0, 144, .inl (fun _ => 0))), (q4, .inl (cy 0, 24, .inl g)), (q5, .inl (cy 0, 24, .inl (fun _ => 0)))]) (va_A [(h0, .inr (6, [.null, .null, .null, .null, .null, .null, .null, .null, .int 0, .int 0, .int 0]))] sz)) 5 203 (va_A [(h0, .inr (6, [.null, .null, .null, .null, .null, .null, .null, .null, .int 0, .int 0, .int 0]))] sz) := by
  refine Met.ofW (cc := cX6_init) (maxL := 4) (ret := none) (by decide) rfl ?_
  intro p e s m args below meth c s₁ B hml hv
  obtain ⟨rfl, hsz, hP, hK⟩ := hv
  have hx := B.exec
  have hb := B.bytes
  have hr := B.returns
  have hts0 := atoms_spec (ws := Cond.code yX6_init cX6_init 4 none :: fT) B.pre
  have hts : ∀ w ∈ fT, w.before _ s = true := fun w h => hts0 w (List.mem_cons_of_mem _ h)
  have hown : s.vm.findClass RX6 = some m.cls := findClass_of_methodNamed B.named
  have hlocks := B.notSynchronized
  have hin : meth.name = "<init>" := (name_of_methodNamed B.named B.method).1
  have C : g_Cx p s m [Value.ref h0, Value.ref r1, Value.ref r2, Value.ref r3].toArray meth c cy dC dI cX6_init RX6 := ⟨hx, hb, hown, hts, hin, hK⟩
  subst hsz
  have hD : va_D (va_A [(h0, .inr (6, [.null, .null, .null, .null, .null, .null, .null, .null, .int 0, .int 0, .int 0]))] s.heap.size) [(h0, .inr (6, [.null, .null, .null, .null, .null, .null, .null, .null, .int 0, .int 0, .int 0]))] := g_one
  generalize hAe : va_A [(h0, .inr (6, [.null, .null, .null, .null, .null, .null, .null, .null, .int 0, .int 0, .int 0]))] s.heap.size = A at hD ⊢
  have hA : ∀ q : Nat, s.heap.size ≤ q → A q := fun q h => by rw [← hAe]; exact Or.inr h
  have hS : va_S A s.heap s.heap [] := va_S.rf
  have hl := lv_entry ([.ref h0, .ref r1, .ref r2, .ref r3]) (n := 4) (Nat.le_of_ble_eq_true rfl)
  rw [lg_entry_eq]
  generalize (lg_sl ([.ref h0, .ref r1, .ref r2, .ref r3]) ++ List.replicate (4 - (lg_sl ([.ref h0, .ref r1, .ref r2, .ref r3])).length) Slot.unset).toArray = ls at hl ⊢
  have hl : lv_has ls 4 [(0, .ref h0), (1, .ref r1), (2, .ref r2), (3, .ref r3)] := hl
  refine lv_aload_n (k := 0) (i := 0) (x := h0) hx hb (by decide +kernel) rfl (lv_at hl 0 rfl) ?_
  refine W.objInit hx hb hown (hts _ oi_X6) (hts _ oi_im) (hts _ oi_co) rfl (by rw [hml]; exact hl.1) rfl (by show decode cX6_init 1 = .ok (.invokespecial 3, 3); decide +kernel) (Nat.le_of_ble_eq_true rfl) (Nat.le_of_ble_eq_true rfl) ?_
  refine W.eq (g2 := F0 m 4 ls []) rfl ?_
  have hlen : ([.null, .null, .null, .null, .null, .null, .null, .null, .int 0, .int 0, .int 0] : List Value).length = 11 := rfl
  refine lv_aload_n (k := 0) (i := 0) (x := h0) hx hb (by decide +kernel) rfl (lv_at hl 0 rfl) ?_
  refine lv_bipush (v := 6) hx hb (n := 6) (by decide +kernel) rfl ?_
  refine g_na C hlen hP hD hS hA (atype := .int) rfl 0 rfl ac_int (N' := 6) (a0 := (6, .inl (fun _ => 0))) (fun _ => rfl) (by decide) (by decide) (by decide) (Nat.le_of_ble_eq_true rfl) (Nat.le_of_ble_eq_true rfl) (by decide +kernel) (k := 3) (j := 11) (T := TX6) rfl (g_link flX6_ok (w := 0) rfl rfl) rfl rfl rfl (fun _ => rfl) (fun _ => rfl) (by decide +kernel) (fun q1 H locs _ hP hD hS => ?_)
  replace hlen : ([.null, .null, .null, .ref q1, .null, .null, .null, .null, .int 0, .int 0, .int 0] : List Value).length = 11 := rfl
  replace hP : va_P (dC, dI) vwCl [(h0, .inr (6, [.null, .null, .null, .ref q1, .null, .null, .null, .null, .int 0, .int 0, .int 0])), (q1, .inl (cy 0, 6, .inl (fun _ => 0)))] H := hP
  replace hD : va_D A [(h0, .inr (6, [.null, .null, .null, .ref q1, .null, .null, .null, .null, .int 0, .int 0, .int 0])), (q1, .inl (cy 0, 6, .inl (fun _ => 0)))] := hD
  refine lv_aload_n (k := 0) (i := 0) (x := h0) hx hb (by decide +kernel) rfl (lv_at hl 0 rfl) ?_
  refine lv_iconst (v := 5) hx hb (n := 5) (by decide +kernel) rfl ?_
  refine g_na C hlen hP hD hS hA (atype := .int) rfl 0 rfl ac_int (N' := 5) (a0 := (5, .inl (fun _ => 0))) (fun _ => rfl) (by decide) (by decide) (by decide) (Nat.le_of_ble_eq_true rfl) (Nat.le_of_ble_eq_true rfl) (by decide +kernel) (k := 4) (j := 15) (T := TX6) rfl (g_link flX6_ok (w := 0) rfl rfl) rfl rfl rfl (fun _ => rfl) (fun _ => rfl) (by decide +kernel) (fun q2 H locs _ hP hD hS => ?_)
  replace hlen : ([.null, .null, .null, .ref q1, .ref q2, .null, .null, .null, .int 0, .int 0, .int 0] : List Value).length = 11 := rfl
  replace hP : va_P (dC, dI) vwCl [(h0, .inr (6, [.null, .null, .null, .ref q1, .ref q2, .null, .null, .null, .int 0, .int 0, .int 0])), (q1, .inl (cy 0, 6, .inl (fun _ => 0))), (q2, .inl (cy 0, 5, .inl (fun _ => 0)))] H := hP
  replace hD : va_D A [(h0, .inr (6, [.null, .null, .null, .ref q1, .ref q2, .null, .null, .null, .int 0, .int 0, .int 0])), (q1, .inl (cy 0, 6, .inl (fun _ => 0))), (q2, .inl (cy 0, 5, .inl (fun _ => 0)))] := hD
  refine lv_aload_n (k := 0) (i := 0) (x := h0) hx hb (by decide +kernel) rfl (lv_at hl 0 rfl) ?_
  refine lv_sipush (v := 144) hx hb (n := 144) (by decide +kernel) rfl ?_
  refine g_na C hlen hP hD hS hA (atype := .int) rfl 0 rfl ac_int (N' := 144) (a0 := (144, .inl (fun _ => 0))) (fun _ => rfl) (by decide) (by decide) (by decide) (Nat.le_of_ble_eq_true rfl) (Nat.le_of_ble_eq_true rfl) (by decide +kernel) (k := 5) (j := 20) (T := TX6) rfl (g_link flX6_ok (w := 0) rfl rfl) rfl rfl rfl (fun _ => rfl) (fun _ => rfl) (by decide +kernel) (fun q3 H locs _ hP hD hS => ?_)
  replace hlen : ([.null, .null, .null, .ref q1, .ref q2, .ref q3, .null, .null, .int 0, .int 0, .int 0] : List Value).length = 11 := rfl
  replace hP : va_P (dC, dI) vwCl [(h0, .inr (6, [.null, .null, .null, .ref q1, .ref q2, .ref q3, .null, .null, .int 0, .int 0, .int 0])), (q1, .inl (cy 0, 6, .inl (fun _ => 0))), (q2, .inl (cy 0, 5, .inl (fun _ => 0))), (q3, .inl (cy 0, 144, .inl (fun _ => 0)))] H := hP
  replace hD : va_D A [(h0, .inr (6, [.null, .null, .null, .ref q1, .ref q2, .ref q3, .null, .null, .int 0, .int 0, .int 0])), (q1, .inl (cy 0, 6, .inl (fun _ => 0))), (q2, .inl (cy 0, 5, .inl (fun _ => 0))), (q3, .inl (cy 0, 144, .inl (fun _ => 0)))] := hD
  refine lv_aload_n (k := 0) (i := 0) (x := h0) hx hb (by decide +kernel) rfl (lv_at hl 0 rfl) ?_
  refine lv_bipush (v := 24) hx hb (n := 24) (by decide +kernel) rfl ?_
  refine g_na C hlen hP hD hS hA (atype := .int) rfl 0 rfl ac_int (N' := 24) (a0 := (24, .inl (fun _ => 0))) (fun _ => rfl) (by decide) (by decide) (by decide) (Nat.le_of_ble_eq_true rfl) (Nat.le_of_ble_eq_true rfl) (by decide +kernel) (k := 6) (j := 25) (T := TX6) rfl (g_link flX6_ok (w := 0) rfl rfl) rfl rfl rfl (fun _ => rfl) (fun _ => rfl) (by decide +kernel) (fun q4 H locs _ hP hD hS => ?_)
  replace hlen : ([.null, .null, .null, .ref q1, .ref q2, .ref q3, .ref q4, .null, .int 0, .int 0, .int 0] : List Value).length = 11 := rfl
  replace hP : va_P (dC, dI) vwCl [(h0, .inr (6, [.null, .null, .null, .ref q1, .ref q2, .ref q3, .ref q4, .null, .int 0, .int 0, .int 0])), (q1, .inl (cy 0, 6, .inl (fun _ => 0))), (q2, .inl (cy 0, 5, .inl (fun _ => 0))), (q3, .inl (cy 0, 144, .inl (fun _ => 0))), (q4, .inl (cy 0, 24, .inl (fun _ => 0)))] H := hP
  replace hD : va_D A [(h0, .inr (6, [.null, .null, .null, .ref q1, .ref q2, .ref q3, .ref q4, .null, .int 0, .int 0, .int 0])), (q1, .inl (cy 0, 6, .inl (fun _ => 0))), (q2, .inl (cy 0, 5, .inl (fun _ => 0))), (q3, .inl (cy 0, 144, .inl (fun _ => 0))), (q4, .inl (cy 0, 24, .inl (fun _ => 0)))] := hD
  refine lv_aload_n (k := 0) (i := 0) (x := h0) hx hb (by decide +kernel) rfl (lv_at hl 0 rfl) ?_
  refine lv_bipush (v := 24) hx hb (n := 24) (by decide +kernel) rfl ?_
  refine g_na C hlen hP hD hS hA (atype := .int) rfl 0 rfl ac_int (N' := 24) (a0 := (24, .inl (fun _ => 0))) (fun _ => rfl) (by decide) (by decide) (by decide) (Nat.le_of_ble_eq_true rfl) (Nat.le_of_ble_eq_true rfl) (by decide +kernel) (k := 7) (j := 28) (T := TX6) rfl (g_link flX6_ok (w := 0) rfl rfl) rfl rfl rfl (fun _ => rfl) (fun _ => rfl) (by decide +kernel) (fun q5 H locs _ hP hD hS => ?_)
  replace hlen : ([.null, .null, .null, .ref q1, .ref q2, .ref q3, .ref q4, .ref q5, .int 0, .int 0, .int 0] : List Value).length = 11 := rfl
  replace hP : va_P (dC, dI) vwCl [(h0, .inr (6, [.null, .null, .null, .ref q1, .ref q2, .ref q3, .ref q4, .ref q5, .int 0, .int 0, .int 0])), (q1, .inl (cy 0, 6, .inl (fun _ => 0))), (q2, .inl (cy 0, 5, .inl (fun _ => 0))), (q3, .inl (cy 0, 144, .inl (fun _ => 0))), (q4, .inl (cy 0, 24, .inl (fun _ => 0))), (q5, .inl (cy 0, 24, .inl (fun _ => 0)))] H := hP
  replace hD : va_D A [(h0, .inr (6, [.null, .null, .null, .ref q1, .ref q2, .ref q3, .ref q4, .ref q5, .int 0, .int 0, .int 0])), (q1, .inl (cy 0, 6, .inl (fun _ => 0))), (q2, .inl (cy 0, 5, .inl (fun _ => 0))), (q3, .inl (cy 0, 144, .inl (fun _ => 0))), (q4, .inl (cy 0, 24, .inl (fun _ => 0))), (q5, .inl (cy 0, 24, .inl (fun _ => 0)))] := hD
  refine lv_aload_n (k := 0) (i := 0) (x := h0) hx hb (by decide +kernel) rfl (lv_at hl 0 rfl) ?_
  refine lv_aload_n (k := 1) (i := 1) (x := r1) hx hb (by decide +kernel) rfl (lv_at hl 1 rfl) ?_
  refine g_pf C hlen hP hD hS (k := 0) (j := 31) (T := TX6) rfl (g_link flX6_ok (w := 0) rfl rfl) rfl rfl rfl rfl rfl (by decide +kernel) (fun H locs _ hP hD hS => ?_)
  replace hlen : ([.ref r1, .null, .null, .ref q1, .ref q2, .ref q3, .ref q4, .ref q5, .int 0, .int 0, .int 0] : List Value).length = 11 := rfl
  replace hP : va_P (dC, dI) vwCl [(h0, .inr (6, [.ref r1, .null, .null, .ref q1, .ref q2, .ref q3, .ref q4, .ref q5, .int 0, .int 0, .int 0])), (q1, .inl (cy 0, 6, .inl (fun _ => 0))), (q2, .inl (cy 0, 5, .inl (fun _ => 0))), (q3, .inl (cy 0, 144, .inl (fun _ => 0))), (q4, .inl (cy 0, 24, .inl (fun _ => 0))), (q5, .inl (cy 0, 24, .inl (fun _ => 0)))] H := hP
  replace hD : va_D A [(h0, .inr (6, [.ref r1, .null, .null, .ref q1, .ref q2, .ref q3, .ref q4, .ref q5, .int 0, .int 0, .int 0])), (q1, .inl (cy 0, 6, .inl (fun _ => 0))), (q2, .inl (cy 0, 5, .inl (fun _ => 0))), (q3, .inl (cy 0, 144, .inl (fun _ => 0))), (q4, .inl (cy 0, 24, .inl (fun _ => 0))), (q5, .inl (cy 0, 24, .inl (fun _ => 0)))] := hD
  refine lv_aload_n (k := 0) (i := 0) (x := h0) hx hb (by decide +kernel) rfl (lv_at hl 0 rfl) ?_
  refine lv_aload_n (k := 2) (i := 2) (x := r2) hx hb (by decide +kernel) rfl (lv_at hl 2 rfl) ?_
  refine g_pf C hlen hP hD hS (k := 1) (j := 35) (T := TX6) rfl (g_link flX6_ok (w := 0) rfl rfl) rfl rfl rfl rfl rfl (by decide +kernel) (fun H locs _ hP hD hS => ?_)
  replace hlen : ([.ref r1, .ref r2, .null, .ref q1, .ref q2, .ref q3, .ref q4, .ref q5, .int 0, .int 0, .int 0] : List Value).length = 11 := rfl
  replace hP : va_P (dC, dI) vwCl [(h0, .inr (6, [.ref r1, .ref r2, .null, .ref q1, .ref q2, .ref q3, .ref q4, .ref q5, .int 0, .int 0, .int 0])), (q1, .inl (cy 0, 6, .inl (fun _ => 0))), (q2, .inl (cy 0, 5, .inl (fun _ => 0))), (q3, .inl (cy 0, 144, .inl (fun _ => 0))), (q4, .inl (cy 0, 24, .inl (fun _ => 0))), (q5, .inl (cy 0, 24, .inl (fun _ => 0)))] H := hP
  replace hD : va_D A [(h0, .inr (6, [.ref r1, .ref r2, .null, .ref q1, .ref q2, .ref q3, .ref q4, .ref q5, .int 0, .int 0, .int 0])), (q1, .inl (cy 0, 6, .inl (fun _ => 0))), (q2, .inl (cy 0, 5, .inl (fun _ => 0))), (q3, .inl (cy 0, 144, .inl (fun _ => 0))), (q4, .inl (cy 0, 24, .inl (fun _ => 0))), (q5, .inl (cy 0, 24, .inl (fun _ => 0)))] := hD
  refine lv_aload_n (k := 0) (i := 0) (x := h0) hx hb (by decide +kernel) rfl (lv_at hl 0 rfl) ?_
  refine lv_aload_n (k := 3) (i := 3) (x := r3) hx hb (by decide +kernel) rfl (lv_at hl 3 rfl) ?_
  refine g_pf C hlen hP hD hS (k := 2) (j := 39) (T := TX6) rfl (g_link flX6_ok (w := 0) rfl rfl) rfl rfl rfl rfl rfl (by decide +kernel) (fun H locs _ hP hD hS => ?_)
  replace hlen : ([.ref r1, .ref r2, .ref r3, .ref q1, .ref q2, .ref q3, .ref q4, .ref q5, .int 0, .int 0, .int 0] : List Value).length = 11 := rfl
  replace hP : va_P (dC, dI) vwCl [(h0, .inr (6, [.ref r1, .ref r2, .ref r3, .ref q1, .ref q2, .ref q3, .ref q4, .ref q5, .int 0, .int 0, .int 0])), (q1, .inl (cy 0, 6, .inl (fun _ => 0))), (q2, .inl (cy 0, 5, .inl (fun _ => 0))), (q3, .inl (cy 0, 144, .inl (fun _ => 0))), (q4, .inl (cy 0, 24, .inl (fun _ => 0))), (q5, .inl (cy 0, 24, .inl (fun _ => 0)))] H := hP
  replace hD : va_D A [(h0, .inr (6, [.ref r1, .ref r2, .ref r3, .ref q1, .ref q2, .ref q3, .ref q4, .ref q5, .int 0, .int 0, .int 0])), (q1, .inl (cy 0, 6, .inl (fun _ => 0))), (q2, .inl (cy 0, 5, .inl (fun _ => 0))), (q3, .inl (cy 0, 144, .inl (fun _ => 0))), (q4, .inl (cy 0, 24, .inl (fun _ => 0))), (q5, .inl (cy 0, 24, .inl (fun _ => 0)))] := hD
  refine lv_aload_n (k := 0) (i := 0) (x := h0) hx hb (by decide +kernel) rfl (lv_at hl 0 rfl) ?_
  have hFc := va_free (wc := [(h0, .inr (6, [.ref r1, .ref r2, .ref r3, .ref q1, .ref q2, .ref q3, .ref q4, .ref q5, .int 0, .int 0, .int 0])), (q1, .inl (cy 0, 6, .inl (fun _ => 0))), (q2, .inl (cy 0, 5, .inl (fun _ => 0))), (q3, .inl (cy 0, 144, .inl (fun _ => 0))), (q4, .inl (cy 0, 24, .inl (fun _ => 0))), (q5, .inl (cy 0, 24, .inl (fun _ => 0)))]) hD hS hA [0, 1, 2, 3, 4, 5] rfl
  refine va_callv (va_runV (As := []) (rest := []) ⟨hx, hb, hml, hown, hts⟩ (nF6 l dC dI cy h0 H.size r1 r2 r3 q1 q2 q3 q4 q5) (cwV 0 hts (f_goodV (List.forall_mem_cons.mpr ⟨(mlX6_ok _ (List.mem_of_getElem? (i := 0) rfl)), kc_X6_forget⟩)) rfl rfl rfl (by decide +kernel) ⟨Nat.le_of_ble_eq_true rfl, Nat.le_of_ble_eq_true rfl⟩) ⟨fun a' U g mk q => by obtain ⟨q0, q1, qP, qK, qD⟩ := q; exact ⟨q0, q1, qP, va_K.moved (u := U) (U := U.calling g mk a') (Vm.Alike.refl U.vm) qK, qD⟩, va_recv hK hP (ci := 6) (q0 := 0) rfl rfl, fun U hU hW => ⟨rfl, by rw [hU], by rw [hU]; exact hP, va_K.moved hW.alike hK, hD.weaken (fun _ _ _ _ => trivial)⟩⟩ rfl rfl hl.1 rfl (lv_room (Nat.le_of_ble_eq_true rfl)) (by show decode cX6_init 60 = .ok (.invokevirtual 43, 3); decide +kernel) ⟨Nat.le_of_ble_eq_true rfl, Nat.le_of_ble_eq_true rfl⟩) hS (fun q _ h => hFc q h) hFc (fun u t H1 locs ht hvm hw hB hz1 hk1 hS => ?_)
  obtain ⟨g, hg1, hg2, hP1⟩ := hB
  rw [ht] at hP1
  have hD1 : va_D A [(h0, .inr (6, [.ref r1, .ref r2, .ref r3, .ref q1, .ref q2, .ref q3, .ref q4, .ref q5, .int (-2), .int (-2), .int 0])), (q1, .inl (cy 0, 6, .inl (fun _ => 0))), (q2, .inl (cy 0, 5, .inl (upd (fun _ => 0) 0 (-2)))), (q3, .inl (cy 0, 144, .inl (fun _ => 0))), (q4, .inl (cy 0, 24, .inl g)), (q5, .inl (cy 0, 24, .inl (fun _ => 0)))] := ((hD.set (p := 0) (e := .inr (6, [.ref r1, .ref r2, .ref r3, .ref q1, .ref q2, .ref q3, .ref q4, .ref q5, .int (-2), .int (-2), .int 0])) rfl).set (p := 2) (e := .inl (cy 0, 5, .inl (upd (fun _ => 0) 0 (-2)))) rfl).set (p := 4) (e := .inl (cy 0, 24, .inl g)) rfl
  exact W.vret hx hb hr (fun t ht hW => ⟨⟨(), rfl, trivial, q1, q2, q3, q4, q5, g, hg1, hg2, by rw [ht]; exact hP1, hD1⟩, hS.F ht⟩) hS.2.2 (by decide +kernel)
def rmX5 : Room := { frames := 1, cells := 2, slots := 2420, locals := 12 }
set_option maxHeartbeats 40000000 in
set_option maxRecDepth 100000 in
theorem nX5 (l : Launch) (dC : Nat → ClassId) (dI : Nat → Nat → Nat) (cy : Nat → ClassId) (h0 sz r1 r2 : Nat) (rs : Nat) (fT1 : List Value) (hfT : fT1[1]? = some (.ref rs)) : Met l yX5_init (Cond.code yX5_init cX5_init 3 none :: fT) rmX5 (va_Pc [.ref h0, .ref r1, .ref r2] (fun U => U.heap.size = sz ∧ va_P (dC, dI) vwCl [(h0, .inr (5, [.null, .null, .null, .null, .null, .int 0, .int 0, .int 0, .int 0, .int 0, .int 0])), (r1, .inr (9, fT1))] U.heap ∧ va_K (dC, dI) vwCl (f_tys cy) U ∧ va_D (fun _ => True) [(h0, .inr (5, [.null, .null, .null, .null, .null, .int 0, .int 0, .int 0, .int 0, .int 0, .int 0])), (r1, .inr (9, fT1))]))
    (va_Qv (fun _ : Unit => True) (fun _ t => ∃ q1 q2 : Nat, va_P (dC, dI) vwCl [(h0, .inr (5, [.ref r1, .ref rs, .ref r2, .ref q1, .ref q2, .int 0, .int 0, .int 0, .int 0, .int 0, .int 0])), (r1, .inr (9, fT1)), (q1, .inl (cy 1, 2400, .inr (.inl (fun _ => 0)))), (q2, .inl (cy 0, 20, .inl (fun _ => 0)))] t.heap ∧ va_D (va_A [(h0, .inr (5, [.null, .null, .null, .null, .null, .int 0, .int 0, .int 0, .int 0, .int 0, .int 0])), (r1, .inr (9, fT1))] sz) [(h0, .inr (5, [.ref r1, .ref rs, .ref r2, .ref q1, .ref q2, .int 0, .int 0, .int 0, .int 0, .int 0, .int 0])), (r1, .inr (9, fT1)), (q1, .inl (cy 1, 2400, .inr (.inl (fun _ => 0)))), (q2, .inl (cy 0, 20, .inl (fun _ => 0)))]) (va_A [(h0, .inr (5, [.null, .null, .null, .null, .null, .int 0, .int 0, .int 0, .int 0, .int 0, .int 0])), (r1, .inr (9, fT1))] sz)) 2 2420 (va_A [(h0, .inr (5, [.null, .null, .null, .null, .null, .int 0, .int 0, .int 0, .int 0, .int 0, .int 0])), (r1, .inr (9, fT1))] sz) := by
  refine Met.ofW (cc := cX5_init) (maxL := 3) (ret := none) (by decide) rfl ?_
  intro p e s m args below meth c s₁ B hml hv
  obtain ⟨rfl, hsz, hP, hK, hD0⟩ := hv
  have hx := B.exec
  have hb := B.bytes
  have hr := B.returns
  have hts0 := atoms_spec (ws := Cond.code yX5_init cX5_init 3 none :: fT) B.pre
  have hts : ∀ w ∈ fT, w.before _ s = true := fun w h => hts0 w (List.mem_cons_of_mem _ h)
  have hown : s.vm.findClass RX5 = some m.cls := findClass_of_methodNamed B.named
  have hlocks := B.notSynchronized
  have hin : meth.name = "<init>" := (name_of_methodNamed B.named B.method).1
  have C : g_Cx p s m [Value.ref h0, Value.ref r1, Value.ref r2].toArray meth c cy dC dI cX5_init RX5 := ⟨hx, hb, hown, hts, hin, hK⟩
  subst hsz
  have hD : va_D (va_A [(h0, .inr (5, [.null, .null, .null, .null, .null, .int 0, .int 0, .int 0, .int 0, .int 0, .int 0])), (r1, .inr (9, fT1))] s.heap.size) [(h0, .inr (5, [.null, .null, .null, .null, .null, .int 0, .int 0, .int 0, .int 0, .int 0, .int 0])), (r1, .inr (9, fT1))] := hD0.self
  generalize hAe : va_A [(h0, .inr (5, [.null, .null, .null, .null, .null, .int 0, .int 0, .int 0, .int 0, .int 0, .int 0])), (r1, .inr (9, fT1))] s.heap.size = A at hD ⊢
  have hA : ∀ q : Nat, s.heap.size ≤ q → A q := fun q h => by rw [← hAe]; exact Or.inr h
  have hS : va_S A s.heap s.heap [] := va_S.rf
  have hl := lv_entry ([.ref h0, .ref r1, .ref r2]) (n := 3) (Nat.le_of_ble_eq_true rfl)
  rw [lg_entry_eq]
  generalize (lg_sl ([.ref h0, .ref r1, .ref r2]) ++ List.replicate (3 - (lg_sl ([.ref h0, .ref r1, .ref r2])).length) Slot.unset).toArray = ls at hl ⊢
  have hl : lv_has ls 3 [(0, .ref h0), (1, .ref r1), (2, .ref r2)] := hl
  refine lv_aload_n (k := 0) (i := 0) (x := h0) hx hb (by decide +kernel) rfl (lv_at hl 0 rfl) ?_
  refine W.objInit hx hb hown (hts _ oi_X5) (hts _ oi_im) (hts _ oi_co) rfl (by rw [hml]; exact hl.1) rfl (by show decode cX5_init 1 = .ok (.invokespecial 3, 3); decide +kernel) (Nat.le_of_ble_eq_true rfl) (Nat.le_of_ble_eq_true rfl) ?_
  refine W.eq (g2 := F0 m 4 ls []) rfl ?_
  have hlen : ([.null, .null, .null, .null, .null, .int 0, .int 0, .int 0, .int 0, .int 0, .int 0] : List Value).length = 11 := rfl
  refine lv_aload_n (k := 0) (i := 0) (x := h0) hx hb (by decide +kernel) rfl (lv_at hl 0 rfl) ?_
  refine lv_sipush (v := 2400) hx hb (n := 2400) (by decide +kernel) rfl ?_
  refine g_na C hlen hP hD hS hA (atype := .long) rfl 1 rfl ac_long (N' := 2400) (a0 := (2400, .inr (.inl (fun _ => 0)))) (fun _ => rfl) (by decide) (by decide) (by decide) (Nat.le_of_ble_eq_true rfl) (Nat.le_of_ble_eq_true rfl) (by decide +kernel) (k := 3) (j := 11) (T := TX5) rfl (g_link flX5_ok (w := 0) rfl rfl) rfl rfl rfl (fun _ => rfl) (fun _ => rfl) (by decide +kernel) (fun q1 H locs _ hP hD hS => ?_)
  replace hlen : ([.null, .null, .null, .ref q1, .null, .int 0, .int 0, .int 0, .int 0, .int 0, .int 0] : List Value).length = 11 := rfl
  replace hP : va_P (dC, dI) vwCl [(h0, .inr (5, [.null, .null, .null, .ref q1, .null, .int 0, .int 0, .int 0, .int 0, .int 0, .int 0])), (r1, .inr (9, fT1)), (q1, .inl (cy 1, 2400, .inr (.inl (fun _ => 0))))] H := hP
  replace hD : va_D A [(h0, .inr (5, [.null, .null, .null, .ref q1, .null, .int 0, .int 0, .int 0, .int 0, .int 0, .int 0])), (r1, .inr (9, fT1)), (q1, .inl (cy 1, 2400, .inr (.inl (fun _ => 0))))] := hD
  refine lv_aload_n (k := 0) (i := 0) (x := h0) hx hb (by decide +kernel) rfl (lv_at hl 0 rfl) ?_
  refine lv_bipush (v := 20) hx hb (n := 20) (by decide +kernel) rfl ?_
  refine g_na C hlen hP hD hS hA (atype := .int) rfl 0 rfl ac_int (N' := 20) (a0 := (20, .inl (fun _ => 0))) (fun _ => rfl) (by decide) (by decide) (by decide) (Nat.le_of_ble_eq_true rfl) (Nat.le_of_ble_eq_true rfl) (by decide +kernel) (k := 4) (j := 17) (T := TX5) rfl (g_link flX5_ok (w := 0) rfl rfl) rfl rfl rfl (fun _ => rfl) (fun _ => rfl) (by decide +kernel) (fun q2 H locs _ hP hD hS => ?_)
  replace hlen : ([.null, .null, .null, .ref q1, .ref q2, .int 0, .int 0, .int 0, .int 0, .int 0, .int 0] : List Value).length = 11 := rfl
  replace hP : va_P (dC, dI) vwCl [(h0, .inr (5, [.null, .null, .null, .ref q1, .ref q2, .int 0, .int 0, .int 0, .int 0, .int 0, .int 0])), (r1, .inr (9, fT1)), (q1, .inl (cy 1, 2400, .inr (.inl (fun _ => 0)))), (q2, .inl (cy 0, 20, .inl (fun _ => 0)))] H := hP
  replace hD : va_D A [(h0, .inr (5, [.null, .null, .null, .ref q1, .ref q2, .int 0, .int 0, .int 0, .int 0, .int 0, .int 0])), (r1, .inr (9, fT1)), (q1, .inl (cy 1, 2400, .inr (.inl (fun _ => 0)))), (q2, .inl (cy 0, 20, .inl (fun _ => 0)))] := hD
  refine lv_aload_n (k := 0) (i := 0) (x := h0) hx hb (by decide +kernel) rfl (lv_at hl 0 rfl) ?_
  refine lv_aload_n (k := 1) (i := 1) (x := r1) hx hb (by decide +kernel) rfl (lv_at hl 1 rfl) ?_
  refine g_pf C hlen hP hD hS (k := 0) (j := 21) (T := TX5) rfl (g_link flX5_ok (w := 0) rfl rfl) rfl rfl rfl rfl rfl (by decide +kernel) (fun H locs _ hP hD hS => ?_)
  replace hlen : ([.ref r1, .null, .null, .ref q1, .ref q2, .int 0, .int 0, .int 0, .int 0, .int 0, .int 0] : List Value).length = 11 := rfl
  replace hP : va_P (dC, dI) vwCl [(h0, .inr (5, [.ref r1, .null, .null, .ref q1, .ref q2, .int 0, .int 0, .int 0, .int 0, .int 0, .int 0])), (r1, .inr (9, fT1)), (q1, .inl (cy 1, 2400, .inr (.inl (fun _ => 0)))), (q2, .inl (cy 0, 20, .inl (fun _ => 0)))] H := hP
  replace hD : va_D A [(h0, .inr (5, [.ref r1, .null, .null, .ref q1, .ref q2, .int 0, .int 0, .int 0, .int 0, .int 0, .int 0])), (r1, .inr (9, fT1)), (q1, .inl (cy 1, 2400, .inr (.inl (fun _ => 0)))), (q2, .inl (cy 0, 20, .inl (fun _ => 0)))] := hD
  refine lv_aload_n (k := 0) (i := 0) (x := h0) hx hb (by decide +kernel) rfl (lv_at hl 0 rfl) ?_
  refine lv_aload_n (k := 1) (i := 1) (x := r1) hx hb (by decide +kernel) rfl (lv_at hl 1 rfl) ?_
  refine va_get hx hb hts (f_cl 9 _ _ _ rfl).1 hown hK hP 1 rfl rfl 1 (by decide) (hts _ (g_link flX5_ok (j := 25) (w := 0) rfl (T := TX10) rfl).2) (fun _ h9 => h9) hfT (by decide +kernel) ?_
  refine g_pf C hlen hP hD hS (k := 1) (j := 31) (T := TX5) rfl (g_link flX5_ok (w := 0) rfl rfl) rfl rfl rfl rfl rfl (by decide +kernel) (fun H locs _ hP hD hS => ?_)
  replace hlen : ([.ref r1, .ref rs, .null, .ref q1, .ref q2, .int 0, .int 0, .int 0, .int 0, .int 0, .int 0] : List Value).length = 11 := rfl
  replace hP : va_P (dC, dI) vwCl [(h0, .inr (5, [.ref r1, .ref rs, .null, .ref q1, .ref q2, .int 0, .int 0, .int 0, .int 0, .int 0, .int 0])), (r1, .inr (9, fT1)), (q1, .inl (cy 1, 2400, .inr (.inl (fun _ => 0)))), (q2, .inl (cy 0, 20, .inl (fun _ => 0)))] H := hP
  replace hD : va_D A [(h0, .inr (5, [.ref r1, .ref rs, .null, .ref q1, .ref q2, .int 0, .int 0, .int 0, .int 0, .int 0, .int 0])), (r1, .inr (9, fT1)), (q1, .inl (cy 1, 2400, .inr (.inl (fun _ => 0)))), (q2, .inl (cy 0, 20, .inl (fun _ => 0)))] := hD
  refine lv_aload_n (k := 0) (i := 0) (x := h0) hx hb (by decide +kernel) rfl (lv_at hl 0 rfl) ?_
  refine lv_aload_n (k := 2) (i := 2) (x := r2) hx hb (by decide +kernel) rfl (lv_at hl 2 rfl) ?_
  refine g_pf C hlen hP hD hS (k := 2) (j := 32) (T := TX5) rfl (g_link flX5_ok (w := 0) rfl rfl) rfl rfl rfl rfl rfl (by decide +kernel) (fun H locs _ hP hD hS => ?_)
  replace hP : va_P (dC, dI) vwCl [(h0, .inr (5, [.ref r1, .ref rs, .ref r2, .ref q1, .ref q2, .int 0, .int 0, .int 0, .int 0, .int 0, .int 0])), (r1, .inr (9, fT1)), (q1, .inl (cy 1, 2400, .inr (.inl (fun _ => 0)))), (q2, .inl (cy 0, 20, .inl (fun _ => 0)))] H := hP
  replace hD : va_D A [(h0, .inr (5, [.ref r1, .ref rs, .ref r2, .ref q1, .ref q2, .int 0, .int 0, .int 0, .int 0, .int 0, .int 0])), (r1, .inr (9, fT1)), (q1, .inl (cy 1, 2400, .inr (.inl (fun _ => 0)))), (q2, .inl (cy 0, 20, .inl (fun _ => 0)))] := hD
  exact W.vret hx hb hr (fun t ht hW => ⟨⟨(), rfl, trivial, q1, q2, by rw [ht]; exact hP, hD⟩, hS.F ht⟩) hS.2.2 (by decide +kernel)
