/-! the law, from its entry -/
theorem lt_mem {w : Cond} (i : Nat) (h : tables_1[i]? = some w) : w ∈ lw_tbl := List.mem_append.mpr (Or.inr (List.mem_of_getElem? h))
theorem kl_L_7 : Cond.classLink R_law 7 RX11 ∈ fT := f_pos (ws := [Cond.classLink R_law 7 RX11]) [23] (by decide +kernel) (by decide +kernel) _ List.mem_cons_self
theorem kl_L_10 : Cond.classLink R_law 10 RX12 ∈ fT := f_pos (ws := [Cond.classLink R_law 10 RX12]) [1199] (by decide +kernel) (by decide +kernel) _ List.mem_cons_self
theorem kn_L_9 : Cond.methodLink R_law 9 yX11_init ∈ fT := f_pos (ws := [Cond.methodLink R_law 9 yX11_init]) [25] (by decide +kernel) (by decide +kernel) _ List.mem_cons_self
theorem kn_L_12 : Cond.methodLink R_law 12 yX12_init ∈ fT := f_pos (ws := [Cond.methodLink R_law 12 yX12_init]) [1201] (by decide +kernel) (by decide +kernel) _ List.mem_cons_self
theorem g_last {D : va_G} {cl : List vw_C} {ws : va_W} {x : Nat × va_E} {H : Heap} (h : va_P D cl (ws ++ [x]) H) : va_P D cl [x] H := by
  intro k q hq
  have hk : k = 0 := by
    have := (List.getElem?_eq_some_iff.mp hq).1
    simp at this
    exact this
  subst hk
  exact h ws.length q (by rw [List.getElem?_append_right (Nat.le_refl _), Nat.sub_self]; exact hq)
theorem g_lastF {A : Nat → Prop} {ws : va_W} {x : Nat × va_E} {H0 H : Heap} {locs : List Loc} (hD : va_D A (ws ++ [x])) (hS : va_S A H0 H locs) (hA : ∀ q, H0.size ≤ q → A q) : ∀ q, va_A [x] H.size q → A q := by
  intro q h
  rcases h with ⟨k, e, h⟩ | h
  · have hk : k = 0 := by
      have := (List.getElem?_eq_some_iff.mp h).1
      simp at this
      exact this
    subst hk
    exact hD.2 ws.length (q, e) (by rw [List.getElem?_append_right (Nat.le_refl _), Nat.sub_self]; exact h)
  · exact hA q (Nat.le_trans hS.1 h)
theorem f_w_len {Y : fY} {NC : Nat} {a : Nat → Nat} {cy : Nat → ClassId} {I : fM} {L : fN} : (f_w Y NC a cy I L).length = NC := by
  simp [f_w]
theorem g_part {D : va_G} {A : Nat → Prop} {Y1 Y2 : fY} {N1 N2 : Nat} {a d : Nat → Nat} {cy : Nat → ClassId} {I J : fM} {M N : fN} {H : Heap} (hP : va_P D vwCl (f_w Y1 N1 a cy I M ++ f_w Y2 N2 d cy J N) H) (hD : va_D A (f_w Y1 N1 a cy I M ++ f_w Y2 N2 d cy J N)) : va_P D vwCl (f_w Y1 N1 a cy I M) H ∧ va_P D vwCl (f_w Y2 N2 d cy J N) H ∧ va_D A (f_w Y1 N1 a cy I M) ∧ va_D A (f_w Y2 N2 d cy J N) ∧ ∀ q, f_A N1 a q → ¬ f_A N2 d q := by
  have l1 : ∀ (k : Nat) (q : Nat × va_E), (f_w Y1 N1 a cy I M)[k]? = some q → (f_w Y1 N1 a cy I M ++ f_w Y2 N2 d cy J N)[k]? = some q := fun k q hq => by
    rw [List.getElem?_append_left (List.getElem?_eq_some_iff.mp hq).1]; exact hq
  have l2 : ∀ (k : Nat) (q : Nat × va_E), (f_w Y2 N2 d cy J N)[k]? = some q → (f_w Y1 N1 a cy I M ++ f_w Y2 N2 d cy J N)[N1 + k]? = some q := fun k q hq => by
    rw [List.getElem?_append_right (by rw [f_w_len]; omega), f_w_len, Nat.add_sub_cancel_left]; exact hq
  refine ⟨fun k q hq => hP k q (l1 k q hq), fun k q hq => hP _ q (l2 k q hq), ⟨fun i j x y hx hy e => hD.1 i j x y (l1 i x hx) (l1 j y hy) e, fun k q hq => hD.2 k q (l1 k q hq)⟩, ⟨fun i j x y hx hy e => by have := hD.1 _ _ x y (l2 i x hx) (l2 j y hy) e; omega, fun k q hq => hD.2 _ q (l2 k q hq)⟩, fun q h1 h2 => ?_⟩
  obtain ⟨i, hi, e1⟩ := h1
  obtain ⟨j, hj, e2⟩ := h2
  have := hD.1 i (N1 + j) _ _ (l1 i _ (f_w_at Y1 a cy I M hi)) (l2 j _ (f_w_at Y2 d cy J N hj)) (e1.trans e2.symm)
  omega
theorem g_tys {s : State} {args : Array Value} (hts : ∀ w ∈ fT, w.before args s = true) (hAO : va_AO RX2 s) : ∃ cy : Nat → ClassId, ∀ (k : Nat) (q : ClassId × FieldType), (f_tys cy)[k]? = some q → ArrOfT s q.1 q.2 ∧ va_RA s q.1 q.2 := by
  obtain ⟨c0, k0, m0, f0, g0, e0⟩ := Cond.arrayClass_spec (hts _ ac_int)
  obtain ⟨c1, k1, m1, f1, g1, e1⟩ := Cond.arrayClass_spec (hts _ ac_long)
  obtain ⟨c2, k2, m2, f2, g2, e2⟩ := Cond.arrayClass_spec (hts _ ac_byte)
  obtain ⟨c3, k3, m3, f3, g3, e3⟩ := Cond.arrayClass_spec (hts _ ac_boolean)
  obtain ⟨m4, c4, k4, h41, h42, h43, h44, h45⟩ := Cond.arrayOver_spec hAO
  refine ⟨fun k => match k with | 0 => c0 | 1 => c1 | 2 => c2 | 3 => c3 | _ => c4, fun k q hq => ?_⟩
  match k, hq with
  | 0, hq => cases hq; exact ⟨fun N z => ⟨(fun k h => by cases h), k0, g0, m0, e0⟩, f0⟩
  | 1, hq => cases hq; exact ⟨fun N z => ⟨(fun k h => by cases h), k1, g1, m1, e1⟩, f1⟩
  | 2, hq => cases hq; exact ⟨fun N z => ⟨(fun k h => by cases h), k2, g2, m2, e2⟩, f2⟩
  | 3, hq => cases hq; exact ⟨fun N z => ⟨(fun k h => by cases h), k3, g3, m3, e3⟩, f3⟩
  | 4, hq => cases hq; exact ⟨fun N z => ⟨(fun k h => by cases h), k4, h43, m4, h44⟩, k4, m4, h43, h44, h41, h45⟩
  | k + 5, hq => simp [f_tys] at hq
theorem g_cls12 {s : State} {args : Array Value} (hts : ∀ w ∈ fT, w.before args s = true) : ∃ (dC : Nat → ClassId) (dI : Nat → Nat → Nat), ∀ (k : Nat) (q : vw_C), vwCl[k]? = some q → u_Kn s q.1 q.2.1 q.2.2 (dC k) (dI k) := by
  obtain ⟨c0, i0, h0⟩ := u_known (C := RX0) (T := TX0) (N := 8) (n := 8) hts fwX0 (hts _ it_X0)
  obtain ⟨c1, i1, h1⟩ := u_known (C := RX1) (T := TX1) (N := 7) (n := 7) hts fwX1 (hts _ it_X1)
  obtain ⟨c2, i2, h2⟩ := u_known (C := RX2) (T := TX2) (N := 9) (n := 9) hts fwX2 (hts _ it_X2)
  obtain ⟨c3, i3, h3⟩ := u_known (C := RX3) (T := TX3) (N := 11) (n := 11) hts fwX3 (hts _ it_X3)
  obtain ⟨c4, i4, h4⟩ := u_known (C := RX4) (T := TX4) (N := 5) (n := 5) hts fwX4 (hts _ it_X4)
  obtain ⟨c5, i5, h5⟩ := u_known (C := RX5) (T := TX5) (N := 11) (n := 11) hts fwX5 (hts _ it_X5)
  obtain ⟨c6, i6, h6⟩ := u_known (C := RX6) (T := TX6) (N := 11) (n := 11) hts fwX6 (hts _ it_X6)
  obtain ⟨c7, i7, h7⟩ := u_known (C := RX7) (T := TX7) (N := 10) (n := 10) hts fwX7 (hts _ it_X7)
  obtain ⟨c8, i8, h8⟩ := u_known (C := RX9) (T := TX9) (N := 6) (n := 6) hts fwX9 (hts _ it_X9)
  obtain ⟨c9, i9, h9⟩ := u_known (C := RX10) (T := TX10) (N := 9) (n := 9) hts fwX10 (hts _ it_X10)
  obtain ⟨c10, i10, h10⟩ := u_known (C := RX11) (T := TX11) (N := 12) (n := 12) hts fwX11 (hts _ it_X11)
  obtain ⟨c11, i11, h11⟩ := u_known (C := RX12) (T := TX12) (N := 95) (n := 95) hts fwX12 (hts _ it_X12)
  refine ⟨fun k => match k with | 0 => c0 | 1 => c1 | 2 => c2 | 3 => c3 | 4 => c4 | 5 => c5 | 6 => c6 | 7 => c7 | 8 => c8 | 9 => c9 | 10 => c10 | _ => c11, fun k => match k with | 0 => i0 | 1 => i1 | 2 => i2 | 3 => i3 | 4 => i4 | 5 => i5 | 6 => i6 | 7 => i7 | 8 => i8 | 9 => i9 | 10 => i10 | _ => i11, ?_⟩
  intro k q hq
  match k, hq with
  | 0, hq => cases hq; exact h0
  | 1, hq => cases hq; exact h1
  | 2, hq => cases hq; exact h2
  | 3, hq => cases hq; exact h3
  | 4, hq => cases hq; exact h4
  | 5, hq => cases hq; exact h5
  | 6, hq => cases hq; exact h6
  | 7, hq => cases hq; exact h7
  | 8, hq => cases hq; exact h8
  | 9, hq => cases hq; exact h9
  | 10, hq => cases hq; exact h10
  | 11, hq => cases hq; exact h11
  | k + 12, hq => simp at hq
theorem g_text {s : State} {args : Array Value} (hs : ∀ w ∈ flat (Jvm.Cond.and given_1 narrow_1), w.before args s = true) : ∃ aK aV : Nat, vk_S 1 [5] [[59, 40, 41, 47, 92]] (fun _ => aK) (fun _ => aV) (fun q : Nat => s.heap.size ≤ q) s s.heap ∧ (Term.string RX9 37).eval args s none [] s = some (.ref aK) := by
  obtain ⟨adK, adV, h1, h2⟩ := vk_Sof (args := args) (s := s) (N := 1) (tm := fun _ => Term.string RX9 37) (len := [5]) (byt := [[59, 40, 41, 47, 92]]) (A := fun q : Nat => s.heap.size ≤ q) (fun i hi => by have e : i = 0 := by omega
                                                                                                                                                                                                                    subst e; decide)
    (fun i hi => hs _ (by decide +kernel)) (fun i hi => hs _ (by decide +kernel)) (fun i hi => hs _ (by decide +kernel))
    (fun i hi => by
      have e : i = 0 := by omega
      subst e
      exact hs _ (by decide +kernel))
    (fun i hi j hj => by
      have e : i = 0 := by omega
      subst e
      have hj : j < 5 := hj
      rcases (show j = 0 ∨ j = 1 ∨ j = 2 ∨ j = 3 ∨ j = 4 by omega) with rfl | rfl | rfl | rfl | rfl <;> exact hs _ (by decide +kernel))
    (fun i j hi hj h => absurd (by omega) h) (fun a h => Nat.not_le.mpr h)
  refine ⟨adK 0, adV 0, ⟨fun i hi => ?_, fun i j hi hj _ => by omega⟩, h2 0 (by omega)⟩
  have e : i = 0 := by omega
  subst e
  exact h1.1 0 hi
theorem df12_ok : ∀ j, j < 95 → defaultValue (tyX12 j) = vp_V df12 j := by
  intro j hj
  match j, hj with
  | 0, _ => rfl
  | 1, _ => rfl
  | 2, _ => rfl
  | 3, _ => rfl
  | 4, _ => rfl
  | 5, _ => rfl
  | 6, _ => rfl
  | 7, _ => rfl
  | 8, _ => rfl
  | 9, _ => rfl
  | 10, _ => rfl
  | 11, _ => rfl
  | 12, _ => rfl
  | 13, _ => rfl
  | 14, _ => rfl
  | 15, _ => rfl
  | 16, _ => rfl
  | 17, _ => rfl
  | 18, _ => rfl
  | 19, _ => rfl
  | 20, _ => rfl
  | 21, _ => rfl
  | 22, _ => rfl
  | 23, _ => rfl
  | 24, _ => rfl
  | 25, _ => rfl
  | 26, _ => rfl
  | 27, _ => rfl
  | 28, _ => rfl
  | 29, _ => rfl
  | 30, _ => rfl
  | 31, _ => rfl
  | 32, _ => rfl
  | 33, _ => rfl
  | 34, _ => rfl
  | 35, _ => rfl
  | 36, _ => rfl
  | 37, _ => rfl
  | 38, _ => rfl
  | 39, _ => rfl
  | 40, _ => rfl
  | 41, _ => rfl
  | 42, _ => rfl
  | 43, _ => rfl
  | 44, _ => rfl
  | 45, _ => rfl
  | 46, _ => rfl
  | 47, _ => rfl
  | 48, _ => rfl
  | 49, _ => rfl
  | 50, _ => rfl
  | 51, _ => rfl
  | 52, _ => rfl
  | 53, _ => rfl
  | 54, _ => rfl
  | 55, _ => rfl
  | 56, _ => rfl
  | 57, _ => rfl
  | 58, _ => rfl
  | 59, _ => rfl
  | 60, _ => rfl
  | 61, _ => rfl
  | 62, _ => rfl
  | 63, _ => rfl
  | 64, _ => rfl
  | 65, _ => rfl
  | 66, _ => rfl
  | 67, _ => rfl
  | 68, _ => rfl
  | 69, _ => rfl
  | 70, _ => rfl
  | 71, _ => rfl
  | 72, _ => rfl
  | 73, _ => rfl
  | 74, _ => rfl
  | 75, _ => rfl
  | 76, _ => rfl
  | 77, _ => rfl
  | 78, _ => rfl
  | 79, _ => rfl
  | 80, _ => rfl
  | 81, _ => rfl
  | 82, _ => rfl
  | 83, _ => rfl
  | 84, _ => rfl
  | 85, _ => rfl
  | 86, _ => rfl
  | 87, _ => rfl
  | 88, _ => rfl
  | 89, _ => rfl
  | 90, _ => rfl
  | 91, _ => rfl
  | 92, _ => rfl
  | 93, _ => rfl
  | 94, _ => rfl
  | n + 95, h => exact absurd h (by omega)
set_option maxHeartbeats 40000000 in
set_option maxRecDepth 100000 in
theorem whole_start {p : Program} {e : Env} {s : State} {m : MethodId} {below : List Frame} {meth : Method} {c : Code} (l : Launch) {b L : Nat} {xs : Nat → Int32} (hL : L ≤ 384) (C0 : lw_At p s m meth c b L xs) : W p l e room_1 s m #[Value.ref b] below meth c s.heap [] 0 0 (lw_Z below #[Value.ref b] s) (entryFrame m ([Value.ref b] : List Value).toArray 4) := by
  obtain ⟨hx, hb, hr, hml, hown, hts0, hX, hbl, hlocks, hgv⟩ := id C0
  have hts : ∀ w ∈ fT, w.before #[Value.ref b] s = true := fun w h => hts0 w (List.mem_filter.mp h).1
  have hA : ∀ q : Nat, s.heap.size ≤ q → (fun q : Nat => s.heap.size ≤ q) q := fun _ h => h
  have hAO : va_AO RX2 s := va_AO.of (hts0 _ (lt_mem 312 (by decide +kernel)))
  have hN9 : va_Nw (.methodLinkNest RX11 9 yX9_init RX11) s := va_Nw.of rfl (hts0 _ (lt_mem 33 (by decide +kernel)))
  have hN27 : va_Nw (.methodLinkNest RX11 27 yX1_init RX11) s := va_Nw.of rfl (hts0 _ (lt_mem 88 (by decide +kernel)))
  have hN37 : va_Nw (.methodLinkNest RX11 37 yX3_init RX11) s := va_Nw.of rfl (hts0 _ (lt_mem 127 (by decide +kernel)))
  have hN53 : va_Nw (.methodLinkNest RX11 53 yX2_init RX11) s := va_Nw.of rfl (hts0 _ (lt_mem 270 (by decide +kernel)))
  obtain ⟨aK, aV, hVS, hVT⟩ := g_text (flat_of_before _ hgv)
  have hVR : vk_R RX9 37 ";()/\\" aK s := vk_R.of (hts0 _ (lt_mem 516 (by decide +kernel))) hVT
  have hVZ : va_Z "java/lang/String" "COMPACT_STRINGS" "Z" (.int 1) (fun q : Nat => s.heap.size ≤ q) s s.heap := va_Zof (hts0 _ (lt_mem 530 (by decide +kernel))) (hts0 _ (lt_mem 14 (by decide +kernel))) (va_eqt (flat_of_before _ hgv _ (by decide +kernel))) (fun a h => Nat.not_le.mpr h)
  obtain ⟨dC, dI, hKc⟩ := g_cls12 hts
  obtain ⟨cy, hKt⟩ := g_tys hts hAO
  have hK : va_K (dC, dI) vwCl (f_tys cy) s := ⟨hKc, hKt⟩
  have hS : va_S (fun q : Nat => s.heap.size ≤ q) s.heap s.heap [] := va_S.rf
  have hP : va_P (dC, dI) vwCl [] s.heap := fun k q h => by simp at h
  have hD : va_D (fun q : Nat => s.heap.size ≤ q) [] := ⟨fun i j p q h => by simp at h, fun k q h => by simp at h⟩
  have hl := lv_entry ([.ref b]) (n := 4) (Nat.le_of_ble_eq_true rfl)
  rw [lg_entry_eq]
  generalize (lg_sl ([.ref b]) ++ List.replicate (4 - (lg_sl ([.ref b])).length) Slot.unset).toArray = ls at hl ⊢
  have hl : lv_has ls 4 [(0, .ref b)] := hl
  refine va_new (ci := 10) (fs := [.null, .null, .null, .null, .null, .null, .null, .null, .null, .null, .null, .int 0]) (C := RX11) (T := TX11) (N := 12) hx hb hts fwX11 tyX11 tyX11_ok hown (hts _ kl_L_7) (hts _ it_X11) (hts _ iz_X11) hK hP hD hS hA rfl (fun j hj => by rcases (show j = 0 ∨ j = 1 ∨ j = 2 ∨ j = 3 ∨ j = 4 ∨ j = 5 ∨ j = 6 ∨ j = 7 ∨ j = 8 ∨ j = 9 ∨ j = 10 ∨ j = 11 by omega) with rfl | rfl | rfl | rfl | rfl | rfl | rfl | rfl | rfl | rfl | rfl | rfl <;> rfl) (Nat.le_of_ble_eq_true rfl) (Nat.le_of_ble_eq_true rfl) (by decide +kernel) (fun q0 H hP hD hS => ?_)
  refine lv_dup hx hb (by decide +kernel) rfl ?_
  have hPc := g_last hP
  have hFc := g_lastF hD hS hA
  refine va_callv (va_runI (As := []) (rest := [.ref q0]) ⟨hx, hb, hml, hown, hts⟩ (nX11 l dC dI cy q0 H.size (fun k => if k = 1000 then aK else if k = 1001 then aV else 0)) (cwI 0 hts (g_good ic_X11) rfl rfl rfl (hts _ iz_X11) (hts _ kn_L_9) (hts _ ii_X11) rfl (by decide +kernel) ⟨Nat.le_of_ble_eq_true rfl, Nat.le_of_ble_eq_true rfl⟩) ⟨fun a' U g mk q => by obtain ⟨q0, q1, qP, qK, n1, n2, n3, n4, ao⟩ := q; exact ⟨q0, q1, qP, va_K.moved (u := U) (U := U.calling g mk a') (Vm.Alike.refl U.vm) qK, va_Nw.same (u := U) (U := U.calling g mk a') rfl rfl n1, va_Nw.same (u := U) (U := U.calling g mk a') rfl rfl n2, va_Nw.same (u := U) (U := U.calling g mk a') rfl rfl n3, va_Nw.same (u := U) (U := U.calling g mk a') rfl rfl n4, va_AO.moved (u := U) (U := U.calling g mk a') (Vm.Alike.refl U.vm) ao⟩, fun U hU hW => ⟨rfl, by rw [hU], by rw [hU]; exact hPc, va_K.moved hW.alike hK, va_Nw.warmM hW hN9, va_Nw.warmM hW hN27, va_Nw.warmM hW hN37, va_Nw.warmM hW hN53, va_AO.moved hW.alike hAO⟩⟩ rfl rfl hl.1 rfl (lv_room (Nat.le_of_ble_eq_true rfl)) (by show decode code 4 = .ok (.invokespecial 9, 3); decide +kernel) ⟨Nat.le_of_ble_eq_true rfl, Nat.le_of_ble_eq_true rfl⟩) hS (fun q _ h => hFc q h) hFc (fun u t H1 locs ht hvm hw hB hz1 hk1 hS => ?_)
  obtain ⟨a, I, M, ha0, hsa, hI, hT1, _, hP1, hD1⟩ := hB
  rw [ht] at hP1
  obtain ⟨hP, hD⟩ := g_join (ws := []) hP hD hk1 hFc hP1 hD1
  replace hP : va_P (dC, dI) vwCl (f_w xY 80 a cy I M) H1 := hP
  replace hD : va_D (fun q : Nat => s.heap.size ≤ q) (f_w xY 80 a cy I M) := hD
  subst ha0
  clear hk1 hFc hPc hP1 hD1 ht hz1 hB
  refine lv_astore_n (k := 1) (i := 1) (lv' := [(1, .ref (a 0)), (0, .ref b)]) hx hb (by decide +kernel) rfl hl (by decide) rfl (fun ls hl => ?_)
  refine va_new (ci := 11) (fs := df12) (C := RX12) (T := TX12) (N := 95) hx hb hts fwX12 tyX12 tyX12_ok hown (hts _ kl_L_10) (hts _ it_X12) (hts _ iz_X12) hK hP hD hS hA rfl df12_ok (Nat.le_of_ble_eq_true rfl) (Nat.le_of_ble_eq_true rfl) (by decide +kernel) (fun q2 H hP hD hS => ?_)
  refine lv_dup hx hb (by decide +kernel) rfl ?_
  have hPc := g_last hP
  have hFc := g_lastF hD hS hA
  refine va_callv (va_runI (As := []) (rest := [.ref q2]) ⟨hx, hb, hml, hown, hts⟩ (nX12 l dC dI cy q2 H.size) (cwI 0 hts (g_good ic_X12) rfl rfl rfl (hts _ iz_X12) (hts _ kn_L_12) (hts _ ii_X12) rfl (by decide +kernel) ⟨Nat.le_of_ble_eq_true rfl, Nat.le_of_ble_eq_true rfl⟩) ⟨fun a' U g mk q => by obtain ⟨q0, q1, qP, qK⟩ := q; exact ⟨q0, q1, qP, va_K.moved (u := U) (U := U.calling g mk a') (Vm.Alike.refl U.vm) qK⟩, fun U hU hW => ⟨rfl, by rw [hU], by rw [hU]; exact hPc, va_K.moved hW.alike hK⟩⟩ rfl rfl hl.1 rfl (lv_room (Nat.le_of_ble_eq_true rfl)) (by show decode code 12 = .ok (.invokespecial 12, 3); decide +kernel) ⟨Nat.le_of_ble_eq_true rfl, Nat.le_of_ble_eq_true rfl⟩) hS (fun q _ h => hFc q h) hFc (fun u t H1 locs ht hvm hw hB hz1 hk1 hS => ?_)
  obtain ⟨d, J, N, hd0, hJ, hT2, _, hP1, hD1⟩ := hB
  rw [ht] at hP1
  obtain ⟨hP, hD⟩ := g_join hP hD hk1 hFc hP1 hD1
  subst hd0
  obtain ⟨hPx, hPm, hDx, hDm, hdis⟩ := g_part hP hD
  obtain ⟨hix, hFx⟩ := g_inj hDx
  obtain ⟨him, hFm⟩ := g_inj hDm
  refine lv_astore_n (k := 2) (i := 2) (lv' := [(2, .ref (d 0)), (1, .ref (a 0)), (0, .ref b)]) hx hb (by decide +kernel) rfl hl (by decide) rfl (fun ls hl => ?_)
  refine lv_iconst (v := 0) hx hb (n := 0) (by decide +kernel) rfl ?_
  refine lv_istore_n (k := 3) (i := 3) (lv' := [(3, .int 0), (2, .ref (d 0)), (1, .ref (a 0)), (0, .ref b)]) hx hb (by decide +kernel) rfl hl (by decide) rfl (fun ls hl => ?_)
  have eK : a 1000 = aK := (hsa 1000 (by omega)).trans rfl
  have eV : a 1001 = aV := (hsa 1001 (by omega)).trans rfl
  have F : gFx s cy dC dI a d := ⟨hK, hix, him, hFx, hFm, hdis, by rw [eK, eV]; exact hVS, by rw [eK]; exact hVR, hVZ⟩
  refine W.eq (g2 := F0 m 18 ls []) rfl ?_
  exact law_loop hL C0 F ⟨Nat.le_of_ble_eq_true rfl, Nat.le_of_ble_eq_true rfl⟩ (L + 1) 0 0 (Nat.zero_le L) (by omega) nI_0.symm _ _ ls ⟨I, M, J, N, hI, hJ, by rw [hT1, hT2], hPx, hPm, hS⟩ (lv_sub hl [3, 2, 1, 0] rfl)
