/-! from the entry -/
set_option maxHeartbeats 40000000 in
set_option maxRecDepth 100000 in
theorem whole_start {p : Program} {e : Env} {s : State} {m : MethodId} {below : List Frame} {meth : Method} {c : Code} (l : Launch) {b L : Nat} {xs : Nat → Int32} (hL : L ≤ 384) (C0 : lw_At p s m meth c b L xs) : W p l e room_1 s m #[Value.ref b] below meth c s.heap [] 0 0 (lw_Z below #[Value.ref b] s) (entryFrame m ([Value.ref b] : List Value).toArray 4) := by
  obtain ⟨hx, hb, hr, hml, hown, hts0, hX, hbl, hlocks, hgv⟩ := id C0
  have hts : ∀ w ∈ fT, w.before #[Value.ref b] s = true := fun w h => hts0 w (List.mem_filter.mp h).1
  have hA : ∀ q : Nat, s.heap.size ≤ q → (fun q : Nat => s.heap.size ≤ q) q := fun _ h => h
  have hAO : va_AO RX2 s := va_AO.of (hts0 _ (lt_mem 312 (by decide +kernel)))
  have hN9 : va_Nw (.methodLinkNest RX11 9 yX9_init RX11) s := va_Nw.of rfl (hts0 _ (lt_mem 33 (by decide +kernel)))
  have hN27 : va_Nw (.methodLinkNest RX11 27 yX1_init RX11) s := va_Nw.of rfl (hts0 _ (lt_mem 88 (by decide +kernel)))
  have hN37 : va_Nw (.methodLinkNest RX11 37 yX3_init RX11) s := va_Nw.of rfl (hts0 _ (lt_mem 127 (by decide +kernel)))
  have hN53 : va_Nw (.methodLinkNest RX11 53 yX2_init RX11) s := va_Nw.of rfl (hts0 _ (lt_mem 270 (by decide +kernel)))
  obtain ⟨aK, aV, hVS, hVT⟩ := g_text (flat_of_before _ hgv)
  have hVR : vk_R RX9 37 ";()/\\" aK s := vk_R.of (hts0 _ (lt_mem 516 (by decide +kernel))) hVT
  have hVZ : va_Z "java/lang/String" "COMPACT_STRINGS" "Z" (.int 1) (fun q : Nat => s.heap.size ≤ q) s s.heap := va_Zof (hts0 _ (lt_mem 530 (by decide +kernel))) (hts0 _ (lt_mem 14 (by decide +kernel))) (va_eqt (flat_of_before _ hgv _ (by decide +kernel))) (fun a h => Nat.not_le.mpr h)
  obtain ⟨dC, dI, hKc⟩ := g_cls12 hts
  obtain ⟨cy, hKt⟩ := g_tys hts hAO
  have hK : va_K (dC, dI) vwCl (f_tys cy) s := ⟨hKc, hKt⟩
  have hS : va_S (fun q : Nat => s.heap.size ≤ q) s.heap s.heap [] := va_S.rf
  have hP : va_P (dC, dI) vwCl [] s.heap := fun k q h => by simp at h
  have hD : va_D (fun q : Nat => s.heap.size ≤ q) [] := ⟨fun i j p q h => by simp at h, fun k q h => by simp at h⟩
  have hl := lv_entry ([.ref b]) (n := 4) (Nat.le_of_ble_eq_true rfl)
  rw [lg_entry_eq]
  generalize (lg_sl ([.ref b]) ++ List.replicate (4 - (lg_sl ([.ref b])).length) Slot.unset).toArray = ls at hl ⊢
  have hl : lv_has ls 4 [(0, .ref b)] := hl
  refine va_new (ci := 10) (fs := [.null, .null, .null, .null, .null, .null, .null, .null, .null, .null, .null, .int 0]) (C := RX11) (T := TX11) (N := 12) hx hb hts fwX11 tyX11 tyX11_ok hown (hts _ kl_L_7) (hts _ it_X11) (hts _ iz_X11) hK hP hD hS hA rfl (fun j hj => by rcases (show j = 0 ∨ j = 1 ∨ j = 2 ∨ j = 3 ∨ j = 4 ∨ j = 5 ∨ j = 6 ∨ j = 7 ∨ j = 8 ∨ j = 9 ∨ j = 10 ∨ j = 11 by omega) with rfl | rfl | rfl | rfl | rfl | rfl | rfl | rfl | rfl | rfl | rfl | rfl <;> rfl) (Nat.le_of_ble_eq_true rfl) (Nat.le_of_ble_eq_true rfl) (by decide +kernel) (fun q0 H hP hD hS => ?_)
  refine lv_dup hx hb (by decide +kernel) rfl ?_
  have hPc := g_last hP
  have hFc := g_lastF hD hS hA
  refine va_callv (va_runI (As := []) (rest := [.ref q0]) ⟨hx, hb, hml, hown, hts⟩ (nX11 l dC dI cy q0 H.size (fun k => if k = 1000 then aK else if k = 1001 then aV else 0)) (cwI 0 hts (g_good ic_X11) rfl rfl rfl (hts _ iz_X11) (hts _ kn_L_9) (hts _ ii_X11) rfl (by decide +kernel) ⟨Nat.le_of_ble_eq_true rfl, Nat.le_of_ble_eq_true rfl⟩) ⟨fun a' U g mk q => by obtain ⟨q0, q1, qP, qK, n1, n2, n3, n4, ao⟩ := q; exact ⟨q0, q1, qP, va_K.moved (u := U) (U := U.calling g mk a') (Vm.Alike.refl U.vm) qK, va_Nw.same (u := U) (U := U.calling g mk a') rfl rfl n1, va_Nw.same (u := U) (U := U.calling g mk a') rfl rfl n2, va_Nw.same (u := U) (U := U.calling g mk a') rfl rfl n3, va_Nw.same (u := U) (U := U.calling g mk a') rfl rfl n4, va_AO.moved (u := U) (U := U.calling g mk a') (Vm.Alike.refl U.vm) ao⟩, fun U hU hW => ⟨rfl, by rw [hU], by rw [hU]; exact hPc, va_K.moved hW.alike hK, va_Nw.warmM hW hN9, va_Nw.warmM hW hN27, va_Nw.warmM hW hN37, va_Nw.warmM hW hN53, va_AO.moved hW.alike hAO⟩⟩ rfl rfl hl.1 rfl (lv_room (Nat.le_of_ble_eq_true rfl)) (by show decode code 4 = .ok (.invokespecial 9, 3); decide +kernel) ⟨Nat.le_of_ble_eq_true rfl, Nat.le_of_ble_eq_true rfl⟩) hS (fun q _ h => hFc q h) hFc (fun u t H1 locs ht hvm hw hB hz1 hk1 hS => ?_)
  obtain ⟨a, I, M, ha0, hsa, hI, _, hT1, hP1, hD1⟩ := hB
  rw [ht] at hP1
  obtain ⟨hPn, hDn⟩ := g_join (ws := []) hP hD hk1 hFc hP1 hD1
  replace hPn : va_P (dC, dI) vwCl (f_w xY 80 a cy I M) H1 := hPn
  replace hDn : va_D (fun q : Nat => s.heap.size ≤ q) (f_w xY 80 a cy I M) := hDn
  have hSn := hS
  subst ha0
  have hP := hPn
  have hD := hDn
  have hS := hSn
  refine lv_astore_n (k := 1) (i := 1) (lv' := [(1, .ref (a 0)), (0, .ref b)]) hx hb (by decide +kernel) rfl hl (by decide) rfl (fun ls hl => ?_)
  refine va_new (ci := 11) (fs := df12) (C := RX12) (T := TX12) (N := 95) hx hb hts fwX12 tyX12 tyX12_ok hown (hts _ kl_L_10) (hts _ it_X12) (hts _ iz_X12) hK hP hD hS hA rfl df12_ok (Nat.le_of_ble_eq_true rfl) (Nat.le_of_ble_eq_true rfl) (by decide +kernel) (fun q2 H hP hD hS => ?_)
  refine lv_dup hx hb (by decide +kernel) rfl ?_
  have hPc := g_last hP
  have hFc := g_lastF hD hS hA
  refine va_callv (va_runI (As := []) (rest := [.ref q2]) ⟨hx, hb, hml, hown, hts⟩ (nX12 l dC dI cy q2 H.size) (cwI 0 hts (g_good ic_X12) rfl rfl rfl (hts _ iz_X12) (hts _ kn_L_12) (hts _ ii_X12) rfl (by decide +kernel) ⟨Nat.le_of_ble_eq_true rfl, Nat.le_of_ble_eq_true rfl⟩) ⟨fun a' U g mk q => by obtain ⟨q0, q1, qP, qK⟩ := q; exact ⟨q0, q1, qP, va_K.moved (u := U) (U := U.calling g mk a') (Vm.Alike.refl U.vm) qK⟩, fun U hU hW => ⟨rfl, by rw [hU], by rw [hU]; exact hPc, va_K.moved hW.alike hK⟩⟩ rfl rfl hl.1 rfl (lv_room (Nat.le_of_ble_eq_true rfl)) (by show decode code 12 = .ok (.invokespecial 12, 3); decide +kernel) ⟨Nat.le_of_ble_eq_true rfl, Nat.le_of_ble_eq_true rfl⟩) hS (fun q _ h => hFc q h) hFc (fun u t H1 locs ht hvm hw hB hz1 hk1 hS => ?_)
  obtain ⟨d, J, N, hd0, hJ, _, hT2, hP1, hD1⟩ := hB
  rw [ht] at hP1
  obtain ⟨hPn, hDn⟩ := g_join hP hD hk1 hFc hP1 hD1
  have hSn := hS
  subst hd0
  have hS := hSn
  obtain ⟨hPx, hPm, hDx, hDm, hdis⟩ := g_part hPn hDn
  obtain ⟨hix, hFx⟩ := g_inj hDx
  obtain ⟨him, hFm⟩ := g_inj hDm
  refine lv_astore_n (k := 2) (i := 2) (lv' := [(2, .ref (d 0)), (1, .ref (a 0)), (0, .ref b)]) hx hb (by decide +kernel) rfl hl (by decide) rfl (fun ls hl => ?_)
  refine lv_iconst (v := 0) hx hb (n := 0) (by decide +kernel) rfl ?_
  refine lv_istore_n (k := 3) (i := 3) (lv' := [(3, .int 0), (2, .ref (d 0)), (1, .ref (a 0)), (0, .ref b)]) hx hb (by decide +kernel) rfl hl (by decide) rfl (fun ls hl => ?_)
  have eK : a 1000 = aK := (hsa 1000 (by omega)).trans rfl
  have eV : a 1001 = aV := (hsa 1001 (by omega)).trans rfl
  have F : gFx s cy dC dI a d := ⟨hK, hix, him, hFx, hFm, hdis, by rw [eK, eV]; exact hVS, by rw [eK]; exact hVR, hVZ⟩
  refine W.eq (g2 := F0 m 18 ls []) rfl ?_
  exact law_loop hL C0 F ⟨Nat.le_of_ble_eq_true rfl, Nat.le_of_ble_eq_true rfl⟩ (L + 1) 0 0 (Nat.zero_le L) (by omega) nI_0.symm _ _ ls ⟨I, M, J, N, hI, hJ, by rw [hT1, hT2], hPx, hPm, hS⟩ (lv_sub hl [3, 2, 1, 0] rfl)
