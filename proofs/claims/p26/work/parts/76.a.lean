/-! the law, from its entry -/
theorem lt_mem {w : Cond} (i : Nat) (h : tables_1[i]? = some w) : w ∈ lw_tbl := List.mem_append.mpr (Or.inr (List.mem_of_getElem? h))
theorem kl_L_7 : Cond.classLink R_law 7 RX11 ∈ fT := f_pos (ws := [Cond.classLink R_law 7 RX11]) [23] (by decide +kernel) (by decide +kernel) _ List.mem_cons_self
theorem kl_L_10 : Cond.classLink R_law 10 RX12 ∈ fT := f_pos (ws := [Cond.classLink R_law 10 RX12]) [1199] (by decide +kernel) (by decide +kernel) _ List.mem_cons_self
theorem kn_L_9 : Cond.methodLink R_law 9 yX11_init ∈ fT := f_pos (ws := [Cond.methodLink R_law 9 yX11_init]) [25] (by decide +kernel) (by decide +kernel) _ List.mem_cons_self
theorem kn_L_12 : Cond.methodLink R_law 12 yX12_init ∈ fT := f_pos (ws := [Cond.methodLink R_law 12 yX12_init]) [1201] (by decide +kernel) (by decide +kernel) _ List.mem_cons_self
theorem g_last {D : va_G} {cl : List vw_C} {ws : va_W} {x : Nat × va_E} {H : Heap} (h : va_P D cl (ws ++ [x]) H) : va_P D cl [x] H := by
  intro k q hq
  have hk : k = 0 := by
    have := (List.getElem?_eq_some_iff.mp hq).1
    simp at this
    exact this
  subst hk
  exact h ws.length q (by rw [List.getElem?_append_right (Nat.le_refl _), Nat.sub_self]; exact hq)
theorem g_lastF {A : Nat → Prop} {ws : va_W} {x : Nat × va_E} {H0 H : Heap} {locs : List Loc} (hD : va_D A (ws ++ [x])) (hS : va_S A H0 H locs) (hA : ∀ q, H0.size ≤ q → A q) : ∀ q, va_A [x] H.size q → A q := by
  intro q h
  rcases h with ⟨k, e, h⟩ | h
  · have hk : k = 0 := by
      have := (List.getElem?_eq_some_iff.mp h).1
      simp at this
      exact this
    subst hk
    exact hD.2 ws.length (q, e) (by rw [List.getElem?_append_right (Nat.le_refl _), Nat.sub_self]; exact h)
  · exact hA q (Nat.le_trans hS.1 h)
theorem f_w_len {Y : fY} {NC : Nat} {a : Nat → Nat} {cy : Nat → ClassId} {I : fM} {L : fN} : (f_w Y NC a cy I L).length = NC := by
  simp [f_w]
theorem g_part {D : va_G} {A : Nat → Prop} {Y1 Y2 : fY} {N1 N2 : Nat} {a d : Nat → Nat} {cy : Nat → ClassId} {I J : fM} {M N : fN} {H : Heap} (hP : va_P D vwCl (f_w Y1 N1 a cy I M ++ f_w Y2 N2 d cy J N) H) (hD : va_D A (f_w Y1 N1 a cy I M ++ f_w Y2 N2 d cy J N)) : va_P D vwCl (f_w Y1 N1 a cy I M) H ∧ va_P D vwCl (f_w Y2 N2 d cy J N) H ∧ va_D A (f_w Y1 N1 a cy I M) ∧ va_D A (f_w Y2 N2 d cy J N) ∧ ∀ q, f_A N1 a q → ¬ f_A N2 d q := by
  have l1 : ∀ (k : Nat) (q : Nat × va_E), (f_w Y1 N1 a cy I M)[k]? = some q → (f_w Y1 N1 a cy I M ++ f_w Y2 N2 d cy J N)[k]? = some q := fun k q hq => by
    rw [List.getElem?_append_left (List.getElem?_eq_some_iff.mp hq).1]; exact hq
  have l2 : ∀ (k : Nat) (q : Nat × va_E), (f_w Y2 N2 d cy J N)[k]? = some q → (f_w Y1 N1 a cy I M ++ f_w Y2 N2 d cy J N)[N1 + k]? = some q := fun k q hq => by
    rw [List.getElem?_append_right (by rw [f_w_len]; omega), f_w_len, Nat.add_sub_cancel_left]; exact hq
  refine ⟨fun k q hq => hP k q (l1 k q hq), fun k q hq => hP _ q (l2 k q hq), ⟨fun i j x y hx hy e => hD.1 i j x y (l1 i x hx) (l1 j y hy) e, fun k q hq => hD.2 k q (l1 k q hq)⟩, ⟨fun i j x y hx hy e => by have := hD.1 _ _ x y (l2 i x hx) (l2 j y hy) e; omega, fun k q hq => hD.2 _ q (l2 k q hq)⟩, fun q h1 h2 => ?_⟩
  obtain ⟨i, hi, e1⟩ := h1
  obtain ⟨j, hj, e2⟩ := h2
  have := hD.1 i (N1 + j) _ _ (l1 i _ (f_w_at Y1 a cy I M hi)) (l2 j _ (f_w_at Y2 d cy J N hj)) (e1.trans e2.symm)
  omega
theorem g_tys {s : State} {args : Array Value} (hts : ∀ w ∈ fT, w.before args s = true) (hAO : va_AO RX2 s) : ∃ cy : Nat → ClassId, ∀ (k : Nat) (q : ClassId × FieldType), (f_tys cy)[k]? = some q → ArrOfT s q.1 q.2 ∧ va_RA s q.1 q.2 := by
  obtain ⟨c0, k0, m0, f0, g0, e0⟩ := Cond.arrayClass_spec (hts _ ac_int)
  obtain ⟨c1, k1, m1, f1, g1, e1⟩ := Cond.arrayClass_spec (hts _ ac_long)
  obtain ⟨c2, k2, m2, f2, g2, e2⟩ := Cond.arrayClass_spec (hts _ ac_byte)
  obtain ⟨c3, k3, m3, f3, g3, e3⟩ := Cond.arrayClass_spec (hts _ ac_boolean)
  obtain ⟨m4, c4, k4, h41, h42, h43, h44, h45⟩ := Cond.arrayOver_spec hAO
  refine ⟨fun k => match k with | 0 => c0 | 1 => c1 | 2 => c2 | 3 => c3 | _ => c4, fun k q hq => ?_⟩
  match k, hq with
  | 0, hq => cases hq; exact ⟨fun N z => ⟨(fun k h => by cases h), k0, g0, m0, e0⟩, f0⟩
  | 1, hq => cases hq; exact ⟨fun N z => ⟨(fun k h => by cases h), k1, g1, m1, e1⟩, f1⟩
  | 2, hq => cases hq; exact ⟨fun N z => ⟨(fun k h => by cases h), k2, g2, m2, e2⟩, f2⟩
  | 3, hq => cases hq; exact ⟨fun N z => ⟨(fun k h => by cases h), k3, g3, m3, e3⟩, f3⟩
  | 4, hq => cases hq; exact ⟨fun N z => ⟨(fun k h => by cases h), k4, h43, m4, h44⟩, k4, m4, h43, h44, h41, h45⟩
  | k + 5, hq => simp [f_tys] at hq
theorem g_cls12 {s : State} {args : Array Value} (hts : ∀ w ∈ fT, w.before args s = true) : ∃ (dC : Nat → ClassId) (dI : Nat → Nat → Nat), ∀ (k : Nat) (q : vw_C), vwCl[k]? = some q → u_Kn s q.1 q.2.1 q.2.2 (dC k) (dI k) := by
  obtain ⟨c0, i0, h0⟩ := u_known (C := RX0) (T := TX0) (N := 8) (n := 8) hts fwX0 (hts _ it_X0)
  obtain ⟨c1, i1, h1⟩ := u_known (C := RX1) (T := TX1) (N := 7) (n := 7) hts fwX1 (hts _ it_X1)
  obtain ⟨c2, i2, h2⟩ := u_known (C := RX2) (T := TX2) (N := 9) (n := 9) hts fwX2 (hts _ it_X2)
  obtain ⟨c3, i3, h3⟩ := u_known (C := RX3) (T := TX3) (N := 11) (n := 11) hts fwX3 (hts _ it_X3)
  obtain ⟨c4, i4, h4⟩ := u_known (C := RX4) (T := TX4) (N := 5) (n := 5) hts fwX4 (hts _ it_X4)
  obtain ⟨c5, i5, h5⟩ := u_known (C := RX5) (T := TX5) (N := 11) (n := 11) hts fwX5 (hts _ it_X5)
  obtain ⟨c6, i6, h6⟩ := u_known (C := RX6) (T := TX6) (N := 11) (n := 11) hts fwX6 (hts _ it_X6)
  obtain ⟨c7, i7, h7⟩ := u_known (C := RX7) (T := TX7) (N := 10) (n := 10) hts fwX7 (hts _ it_X7)
  obtain ⟨c8, i8, h8⟩ := u_known (C := RX9) (T := TX9) (N := 6) (n := 6) hts fwX9 (hts _ it_X9)
  obtain ⟨c9, i9, h9⟩ := u_known (C := RX10) (T := TX10) (N := 9) (n := 9) hts fwX10 (hts _ it_X10)
  obtain ⟨c10, i10, h10⟩ := u_known (C := RX11) (T := TX11) (N := 12) (n := 12) hts fwX11 (hts _ it_X11)
  obtain ⟨c11, i11, h11⟩ := u_known (C := RX12) (T := TX12) (N := 95) (n := 95) hts fwX12 (hts _ it_X12)
  refine ⟨fun k => match k with | 0 => c0 | 1 => c1 | 2 => c2 | 3 => c3 | 4 => c4 | 5 => c5 | 6 => c6 | 7 => c7 | 8 => c8 | 9 => c9 | 10 => c10 | _ => c11, fun k => match k with | 0 => i0 | 1 => i1 | 2 => i2 | 3 => i3 | 4 => i4 | 5 => i5 | 6 => i6 | 7 => i7 | 8 => i8 | 9 => i9 | 10 => i10 | _ => i11, ?_⟩
  intro k q hq
  match k, hq with
  | 0, hq => cases hq; exact h0
  | 1, hq => cases hq; exact h1
  | 2, hq => cases hq; exact h2
  | 3, hq => cases hq; exact h3
  | 4, hq => cases hq; exact h4
  | 5, hq => cases hq; exact h5
  | 6, hq => cases hq; exact h6
  | 7, hq => cases hq; exact h7
  | 8, hq => cases hq; exact h8
  | 9, hq => cases hq; exact h9
  | 10, hq => cases hq; exact h10
  | 11, hq => cases hq; exact h11
  | k + 12, hq => simp [vwCl] at hq
