/-! the law: its cases -/
/-- what does not change while the law runs -/
def gFx (s : State) (cy dC : Nat → ClassId) (dI : Nat → Nat → Nat) (a d : Nat → Nat) : Prop :=
  va_K (dC, dI) vwCl (f_tys cy) s ∧ (∀ i j, i < 80 → j < 80 → a i = a j → i = j) ∧ (∀ i j, i < 71 → j < 71 → d i = d j → i = j) ∧ (∀ q, f_A 80 a q → s.heap.size ≤ q) ∧ (∀ q, f_A 71 d q → s.heap.size ≤ q) ∧ (∀ q, f_A 80 a q → ¬ f_A 71 d q) ∧ (vk_S 1 [5] [[59, 40, 41, 47, 92]] (fun _ => a 1000) (fun _ => a 1001) (fun q : Nat => s.heap.size ≤ q) s s.heap ∧ vk_R RX9 37 ";()/\\" (a 1000) s ∧ va_Z "java/lang/String" "COMPACT_STRINGS" "Z" (.int 1) (fun q : Nat => s.heap.size ≤ q) s s.heap)
/-- both worlds between two calls -/
def g2 (s : State) (cy dC : Nat → ClassId) (dI : Nat → Nat → Nat) (a d : Nat → Nat) (H : Heap) (locs : List Loc) : Prop :=
  ∃ (I : fM) (M : fN) (J : fM) (N : fN), xAll I ∧ mG J ∧ (I 0 11).toInt = (J 0 84).toInt ∧ va_P (dC, dI) vwCl (f_w xY 80 a cy I M) H ∧ va_P (dC, dI) vwCl (f_w mY 71 d cy J N) H ∧ va_S (fun q : Nat => s.heap.size ≤ q) s.heap H locs
theorem gE {s : State} {a : Nat → Nat} {H : Heap} {locs : List Loc} (h : vk_S 1 [5] [[59, 40, 41, 47, 92]] (fun _ => a 1000) (fun _ => a 1001) (fun q : Nat => s.heap.size ≤ q) s s.heap ∧ vk_R RX9 37 ";()/\\" (a 1000) s ∧ va_Z "java/lang/String" "COMPACT_STRINGS" "Z" (.int 1) (fun q : Nat => s.heap.size ≤ q) s s.heap) (hF : ∀ q, f_A 80 a q → s.heap.size ≤ q) (hS : va_S (fun q : Nat => s.heap.size ≤ q) s.heap H locs) (U : State) (hU : U.heap = H) (hW : s.WarmedH U.vm) : xE a U := by
  obtain ⟨h1, h2, h3⟩ := h
  refine ⟨?_, vk_R.warm hW h2, ?_⟩
  · rw [hU]; exact (vk_S.moved hW.alike (vk_S.kept h1 hS.2.1)).narrow hF
  · rw [hU]; exact (va_Z.moved hW.alike (h3.kept hS.2.1)).narrow hF
theorem g_keepP {D : va_G} {Yd : fY} {NC NC' : Nat} {d a : Nat → Nat} {cy : Nat → ClassId} {J : fM} {N : fN} {H H1 : Heap} (hP : va_P D vwCl (f_w Yd NC d cy J N) H) (hk : ∀ q : Nat, q < H.size → ¬ f_A NC' a q → H1[q]? = H[q]?) (hdis : ∀ q, f_A NC d q → ¬ f_A NC' a q) : va_P D vwCl (f_w Yd NC d cy J N) H1 :=
  hP.kept (fun k q hq => hk q.1 ((hP k q hq).lt) (hdis q.1 ⟨k, (f_w_inv hq).1, (f_w_inv hq).2.symm⟩))
theorem la_arg {p : Program} {l : Launch} {e : Env} {R : Room} {s : State} {m : MethodId} {args : Array Value} {below : List Frame} {meth : Method} {c : Code} {H : Heap} {locs : List Loc} {cells slots : Nat} {Q : State → Prop} {ls : Array Slot} {rest : List Value} {b L i j pc q1 q2 : Nat} {xs : Nat → Int32} {x3 : Int32} {jz : Int} (hx : p.tables.exec = Jvm.exec) (hb : c.code = code) (hX : va_X b L xs s s.heap) (hbl : b < s.heap.size) (hS : va_S (fun q : Nat => s.heap.size ≤ q) s.heap H locs) (hl : lv_has ls 4 [(0, .ref b), (1, .ref q1), (2, .ref q2), (3, .int x3)]) (h3 : x3 = nI i) (hi : i + 6 ≤ L) (hL : L ≤ 384) (hj : j < 6) (hjz : Int32.ofInt jz = nI j)
    (hd0 : decode code pc = .ok (.aload_n 0, 1)) (hd1 : decode code (pc + 1) = .ok (.iload_n 3, 1)) (hd2 : decode code (pc + 2) = .ok (.iconst jz, 1)) (hd3 : decode code (pc + 3) = .ok (.iadd, 1)) (hd4 : decode code (pc + 4) = .ok (.iaload, 1)) (kk : W p l e R s m args below meth c H locs cells slots Q (F0 m (pc + 5) ls (.int (xs (i + j)) :: rest))) : W p l e R s m args below meth c H locs cells slots Q (F0 m pc ls rest) := by
  refine lv_aload_n (k := 0) (i := 0) (x := b) hx hb hd0 rfl (lv_at hl 0 rfl) ?_
  refine lv_iload_n (k := 3) (i := 3) (x := x3) hx hb hd1 rfl (lv_at hl 3 rfl) ?_
  refine lv_iconst (v := nI j) hx hb (n := jz) hd2 hjz ?_
  refine lv_iadd hx hb hd3 ?_
  rw [show x3 + nI j = nI (i + j) by rw [h3]; exact nI_add i j]
  refine va_sld hx hb hX hbl (Nat.not_le.mpr hbl) hS (vp_in_nI (by omega) (by omega)) hd4 ?_
  rw [nI_clamp (by omega)]
  exact kk
theorem kL_X11_feed : ∀ w ∈ ([.methodLink R_law 13 yX11_feed, .instanceMethod yX11_feed, .selects yX11_feed.cls yX11_feed yX11_feed, .initialized yX11_feed.cls, .code yX11_feed cX11_feed 6 (f_rt 1)] : List Cond), w ∈ fT := f_pos [474, 475, 476, 1, 477] (by decide +kernel) (by decide +kernel)
theorem kL_X12_feed : ∀ w ∈ ([.methodLink R_law 17 yX12_feed, .instanceMethod yX12_feed, .selects yX12_feed.cls yX12_feed yX12_feed, .initialized yX12_feed.cls, .code yX12_feed cX12_feed 8 (f_rt 1)] : List Cond), w ∈ fT := f_pos [1877, 1878, 1879, 13, 1880] (by decide +kernel) (by decide +kernel)
set_option maxHeartbeats 40000000 in
set_option maxRecDepth 100000 in
theorem lc_0 {p : Program} {l : Launch} {e : Env} {s : State} {m : MethodId} {below : List Frame} {meth : Method} {c : Code} {H : Heap} {locs : List Loc} {cells slots : Nat} {Q : State → Prop} {cy dC : Nat → ClassId} {dI : Nat → Nat → Nat} {a d : Nat → Nat} {ls : Array Slot} {b L i : Nat} {xs : Nat → Int32} {x3 : Int32} (C0 : lw_At p s m meth c b L xs) (F : gFx s cy dC dI a d) (hcs : cells ≤ room_1.cells ∧ slots ≤ room_1.slots) (hL : L ≤ 384) (hi : i + 6 ≤ L) (h3 : x3 = nI i) (hl : lv_has ls 4 [(0, .ref b), (1, .ref (a 0)), (2, .ref (d 0)), (3, .int x3)]) (G : g2 s cy dC dI a d H locs) (kk : ∀ (H1 : Heap) (locs1 : List Loc), g2 s cy dC dI a d H1 locs1 → W p l e room_1 s m #[Value.ref b] below meth c H1 locs1 cells slots Q (F0 m 964 ls [])) : W p l e room_1 s m #[Value.ref b] below meth c H locs cells slots Q (F0 m 168 ls []) := by
  obtain ⟨hx, hb, hr, hml, hown, hts0, hX, hbl, hlocks, hgv⟩ := C0
  obtain ⟨hK, hia, hid, hFa, hFd, hdis, hE⟩ := F
  obtain ⟨I, M, J, N, hI, hJ, hT, hP, hR, hS⟩ := G
  have Sf : CallFix p m c code 4 s #[Value.ref b] fT R_law := ⟨hx, hb, hml, hown, fun w h => hts0 w (List.mem_filter.mp h).1⟩
  refine lv_aload_n (k := 1) (i := 1) (x := a 0) hx hb (by decide +kernel) rfl (lv_at hl 1 rfl) ?_
  refine la_arg (j := 1) (jz := 1) hx hb hX hbl hS hl h3 hi hL (by decide) (by decide +kernel) (by decide +kernel) (by decide +kernel) (by decide +kernel) (by decide +kernel) (by decide +kernel) ?_
  refine la_arg (j := 2) (jz := 2) hx hb hX hbl hS hl h3 hi hL (by decide) (by decide +kernel) (by decide +kernel) (by decide +kernel) (by decide +kernel) (by decide +kernel) (by decide +kernel) ?_
  refine la_arg (j := 3) (jz := 3) hx hb hX hbl hS hl h3 hi hL (by decide) (by decide +kernel) (by decide +kernel) (by decide +kernel) (by decide +kernel) (by decide +kernel) (by decide +kernel) ?_
  refine la_arg (j := 4) (jz := 4) hx hb hX hbl hS hl h3 hi hL (by decide) (by decide +kernel) (by decide +kernel) (by decide +kernel) (by decide +kernel) (by decide +kernel) (by decide +kernel) ?_
  refine la_arg (j := 5) (jz := 5) hx hb hX hbl hS hl h3 hi hL (by decide) (by decide +kernel) (by decide +kernel) (by decide +kernel) (by decide +kernel) (by decide +kernel) (by decide +kernel) ?_
  refine g_call (k := 0) (vs := [.int (xs (i + 1)), .int (xs (i + 2)), .int (xs (i + 3)), .int (xs (i + 4)), .int (xs (i + 5))]) (rest := []) (n := 5) (ci := 10) Sf (mX11_feed hia) rfl kL_X11_feed (by decide +kernel) ⟨Nat.le_of_ble_eq_true rfl, Nat.le_of_ble_eq_true rfl⟩ hcs rfl (by decide) rfl hI (gE hE hFa hS) (fun U g mk a' h => (xE_c a).2 U g mk a' h) hP hK hS hFa hl.1 (Nat.le_of_ble_eq_true rfl) (by show decode code 194 = .ok (.invokevirtual 13, 3); decide +kernel) (fun r I1 M1 H1 locs hq hN hz hk hS => ?_)
  have hR := g_keepP hR hk (fun q h1 h2 => hdis q h2 h1)
  have hP := hN
  obtain ⟨x, rfl, hq⟩ : ∃ x : Int32, r = some (.int x) ∧ qX11_feed [.ref 0, .int (xs (i + 1)), .int (xs (i + 2)), .int (xs (i + 3)), .int (xs (i + 4)), .int (xs (i + 5))] I M (.int x) I1 M1 := by
    cases r with
    | none => exact False.elim hq
    | some v => cases v with
      | int x => exact ⟨x, rfl, hq⟩
      | _ => exact False.elim hq
  obtain ⟨zR, zO, zT, zS, zL, zf, zl, zc⟩ := hq
  have hI1 : xAll I1 := ⟨zR, zO, zT, zS, zL⟩
  have hT1 : (I1 0 11).toInt = (I 0 11).toInt := congrArg Int32.toInt (congrFun (zf 0 rfl) 11)
  refine W.eq (g2 := F0 m 197 ls [.int x]) rfl ?_
  refine lv_pop hx hb (by decide +kernel) rfl ?_
  refine lv_aload_n (k := 2) (i := 2) (x := d 0) hx hb (by decide +kernel) rfl (lv_at hl 2 rfl) ?_
  refine la_arg (j := 1) (jz := 1) hx hb hX hbl hS hl h3 hi hL (by decide) (by decide +kernel) (by decide +kernel) (by decide +kernel) (by decide +kernel) (by decide +kernel) (by decide +kernel) ?_
  refine la_arg (j := 2) (jz := 2) hx hb hX hbl hS hl h3 hi hL (by decide) (by decide +kernel) (by decide +kernel) (by decide +kernel) (by decide +kernel) (by decide +kernel) (by decide +kernel) ?_
  refine la_arg (j := 3) (jz := 3) hx hb hX hbl hS hl h3 hi hL (by decide) (by decide +kernel) (by decide +kernel) (by decide +kernel) (by decide +kernel) (by decide +kernel) (by decide +kernel) ?_
  refine la_arg (j := 4) (jz := 4) hx hb hX hbl hS hl h3 hi hL (by decide) (by decide +kernel) (by decide +kernel) (by decide +kernel) (by decide +kernel) (by decide +kernel) (by decide +kernel) ?_
  refine la_arg (j := 5) (jz := 5) hx hb hX hbl hS hl h3 hi hL (by decide) (by decide +kernel) (by decide +kernel) (by decide +kernel) (by decide +kernel) (by decide +kernel) (by decide +kernel) ?_
  refine g_call (k := 0) (vs := [.int (xs (i + 1)), .int (xs (i + 2)), .int (xs (i + 3)), .int (xs (i + 4)), .int (xs (i + 5))]) (rest := []) (n := 5) (ci := 11) Sf (mX12_feed hid) rfl kL_X12_feed (by decide +kernel) ⟨Nat.le_of_ble_eq_true rfl, Nat.le_of_ble_eq_true rfl⟩ hcs rfl (by decide) rfl hJ.1 (fun _ _ _ => trivial) (fun _ _ _ _ _ => trivial) hR hK hS hFd hl.1 (Nat.le_of_ble_eq_true rfl) (by show decode code 224 = .ok (.invokevirtual 17, 3); decide +kernel) (fun r J1 N1 H1 locs hq hN hz hk hS => ?_)
  have hP := g_keepP hP hk hdis
  have hR := hN
  obtain ⟨y, rfl, hq⟩ : ∃ x : Int32, r = some (.int x) ∧ qX12_feed [.ref 0, .int (xs (i + 1)), .int (xs (i + 2)), .int (xs (i + 3)), .int (xs (i + 4)), .int (xs (i + 5))] J N (.int x) J1 N1 := by
    cases r with
    | none => exact False.elim hq
    | some v => cases v with
      | int x => exact ⟨x, rfl, hq⟩
      | _ => exact False.elim hq
  obtain ⟨zR, zo, zf, zl, zc⟩ := hq
  have hJ1 : mG J1 := ⟨zR, (f_depo_fo mL_dep hJ.2.1 zf zo (by decide) (by decide)), (f_depo_fo mK_dep hJ.2.2.1 zf zo (by decide) (by decide)), (f_depo_fo mW_dep hJ.2.2.2 zf zo (by decide) (by decide))⟩
  have hT2 : (J1 0 84).toInt = (J 0 84).toInt := congrArg Int32.toInt (zo 84 rfl)
  refine W.eq (g2 := F0 m 227 ls [.int y]) rfl ?_
  refine lv_pop hx hb (by decide +kernel) rfl ?_
  refine lv_goto (off := 736) (tgt := 964) hx hb (by decide +kernel) (by decide) ?_
  exact kk _ _ ⟨I1, M1, J1, N1, hI1, hJ1, by omega, hP, hR, hS⟩
theorem kL_X11_end : ∀ w ∈ ([.methodLink R_law 18 yX11_end, .instanceMethod yX11_end, .selects yX11_end.cls yX11_end yX11_end, .initialized yX11_end.cls, .code yX11_end cX11_end 2 (f_rt 1)] : List Cond), w ∈ fT := f_pos [486, 487, 488, 1, 489] (by decide +kernel) (by decide +kernel)
theorem kL_X12_end : ∀ w ∈ ([.methodLink R_law 22 yX12_end, .instanceMethod yX12_end, .selects yX12_end.cls yX12_end yX12_end, .initialized yX12_end.cls, .code yX12_end cX12_end 2 (f_rt 1)] : List Cond), w ∈ fT := f_pos [1881, 1882, 1883, 13, 1884] (by decide +kernel) (by decide +kernel)
set_option maxHeartbeats 40000000 in
set_option maxRecDepth 100000 in
theorem lc_1 {p : Program} {l : Launch} {e : Env} {s : State} {m : MethodId} {below : List Frame} {meth : Method} {c : Code} {H : Heap} {locs : List Loc} {cells slots : Nat} {Q : State → Prop} {cy dC : Nat → ClassId} {dI : Nat → Nat → Nat} {a d : Nat → Nat} {ls : Array Slot} {b L i : Nat} {xs : Nat → Int32} {x3 : Int32} (C0 : lw_At p s m meth c b L xs) (F : gFx s cy dC dI a d) (hcs : cells ≤ room_1.cells ∧ slots ≤ room_1.slots) (hL : L ≤ 384) (hi : i + 6 ≤ L) (h3 : x3 = nI i) (hl : lv_has ls 4 [(0, .ref b), (1, .ref (a 0)), (2, .ref (d 0)), (3, .int x3)]) (G : g2 s cy dC dI a d H locs) (kk : ∀ (H1 : Heap) (locs1 : List Loc), g2 s cy dC dI a d H1 locs1 → W p l e room_1 s m #[Value.ref b] below meth c H1 locs1 cells slots Q (F0 m 964 ls [])) : W p l e room_1 s m #[Value.ref b] below meth c H locs cells slots Q (F0 m 231 ls []) := by
  obtain ⟨hx, hb, hr, hml, hown, hts0, hX, hbl, hlocks, hgv⟩ := C0
  obtain ⟨hK, hia, hid, hFa, hFd, hdis, hE⟩ := F
  obtain ⟨I, M, J, N, hI, hJ, hT, hP, hR, hS⟩ := G
  have Sf : CallFix p m c code 4 s #[Value.ref b] fT R_law := ⟨hx, hb, hml, hown, fun w h => hts0 w (List.mem_filter.mp h).1⟩
  refine lv_aload_n (k := 1) (i := 1) (x := a 0) hx hb (by decide +kernel) rfl (lv_at hl 1 rfl) ?_
  refine la_arg (j := 1) (jz := 1) hx hb hX hbl hS hl h3 hi hL (by decide) (by decide +kernel) (by decide +kernel) (by decide +kernel) (by decide +kernel) (by decide +kernel) (by decide +kernel) ?_
  refine g_call (k := 0) (vs := [.int (xs (i + 1))]) (rest := []) (n := 1) (ci := 10) Sf (mX11_end hia) rfl kL_X11_end (by decide +kernel) ⟨Nat.le_of_ble_eq_true rfl, Nat.le_of_ble_eq_true rfl⟩ hcs rfl (by decide) rfl hI (gE hE hFa hS) (fun U g mk a' h => (xE_c a).2 U g mk a' h) hP hK hS hFa hl.1 (Nat.le_of_ble_eq_true rfl) (by show decode code 237 = .ok (.invokevirtual 18, 3); decide +kernel) (fun r I1 M1 H1 locs hq hN hz hk hS => ?_)
  have hR := g_keepP hR hk (fun q h1 h2 => hdis q h2 h1)
  have hP := hN
  obtain ⟨x, rfl, hq⟩ : ∃ x : Int32, r = some (.int x) ∧ qX11_end [.ref 0, .int (xs (i + 1))] I M (.int x) I1 M1 := by
    cases r with
    | none => exact False.elim hq
    | some v => cases v with
      | int x => exact ⟨x, rfl, hq⟩
      | _ => exact False.elim hq
  obtain ⟨zR, zO, zT, zS, zL, zf, zl, zc⟩ := hq
  have hI1 : xAll I1 := ⟨zR, zO, zT, zS, zL⟩
  have hT1 : (I1 0 11).toInt = (I 0 11).toInt := congrArg Int32.toInt (congrFun (zf 0 rfl) 11)
  refine W.eq (g2 := F0 m 240 ls [.int x]) rfl ?_
  refine lv_pop hx hb (by decide +kernel) rfl ?_
  refine lv_aload_n (k := 2) (i := 2) (x := d 0) hx hb (by decide +kernel) rfl (lv_at hl 2 rfl) ?_
  refine la_arg (j := 1) (jz := 1) hx hb hX hbl hS hl h3 hi hL (by decide) (by decide +kernel) (by decide +kernel) (by decide +kernel) (by decide +kernel) (by decide +kernel) (by decide +kernel) ?_
  refine g_call (k := 0) (vs := [.int (xs (i + 1))]) (rest := []) (n := 1) (ci := 11) Sf (mX12_end hid) rfl kL_X12_end (by decide +kernel) ⟨Nat.le_of_ble_eq_true rfl, Nat.le_of_ble_eq_true rfl⟩ hcs rfl (by decide) rfl hJ.1 (fun _ _ _ => trivial) (fun _ _ _ _ _ => trivial) hR hK hS hFd hl.1 (Nat.le_of_ble_eq_true rfl) (by show decode code 247 = .ok (.invokevirtual 22, 3); decide +kernel) (fun r J1 N1 H1 locs hq hN hz hk hS => ?_)
  have hP := g_keepP hP hk hdis
  have hR := hN
  obtain ⟨y, rfl, hq⟩ : ∃ x : Int32, r = some (.int x) ∧ qX12_end [.ref 0, .int (xs (i + 1))] J N (.int x) J1 N1 := by
    cases r with
    | none => exact False.elim hq
    | some v => cases v with
      | int x => exact ⟨x, rfl, hq⟩
      | _ => exact False.elim hq
  obtain ⟨zR, zo, zf, zl, zc⟩ := hq
  have hJ1 : mG J1 := ⟨zR, (f_depo_fo mL_dep hJ.2.1 zf zo (by decide) (by decide)), (f_depo_fo mK_dep hJ.2.2.1 zf zo (by decide) (by decide)), (f_depo_fo mW_dep hJ.2.2.2 zf zo (by decide) (by decide))⟩
  have hT2 : (J1 0 84).toInt = (J 0 84).toInt := congrArg Int32.toInt (zo 84 rfl)
  refine W.eq (g2 := F0 m 250 ls [.int y]) rfl ?_
  refine lv_pop hx hb (by decide +kernel) rfl ?_
  refine lv_goto (off := 713) (tgt := 964) hx hb (by decide +kernel) (by decide) ?_
  exact kk _ _ ⟨I1, M1, J1, N1, hI1, hJ1, by omega, hP, hR, hS⟩
theorem kL_X11_lexicon : ∀ w ∈ ([.methodLink R_law 23 yX11_lexicon, .instanceMethod yX11_lexicon, .selects yX11_lexicon.cls yX11_lexicon yX11_lexicon, .initialized yX11_lexicon.cls, .code yX11_lexicon cX11_lexicon 4 (f_rt 1)] : List Cond), w ∈ fT := f_pos [494, 495, 496, 1, 497] (by decide +kernel) (by decide +kernel)
theorem kL_X12_lexicon : ∀ w ∈ ([.methodLink R_law 27 yX12_lexicon, .instanceMethod yX12_lexicon, .selects yX12_lexicon.cls yX12_lexicon yX12_lexicon, .initialized yX12_lexicon.cls, .code yX12_lexicon cX12_lexicon 2 (f_rt 1)] : List Cond), w ∈ fT := f_pos [1508, 1509, 1510, 13, 1511] (by decide +kernel) (by decide +kernel)
set_option maxHeartbeats 40000000 in
set_option maxRecDepth 100000 in
theorem lc_2 {p : Program} {l : Launch} {e : Env} {s : State} {m : MethodId} {below : List Frame} {meth : Method} {c : Code} {H : Heap} {locs : List Loc} {cells slots : Nat} {Q : State → Prop} {cy dC : Nat → ClassId} {dI : Nat → Nat → Nat} {a d : Nat → Nat} {ls : Array Slot} {b L i : Nat} {xs : Nat → Int32} {x3 : Int32} (C0 : lw_At p s m meth c b L xs) (F : gFx s cy dC dI a d) (hcs : cells ≤ room_1.cells ∧ slots ≤ room_1.slots) (hL : L ≤ 384) (hi : i + 6 ≤ L) (h3 : x3 = nI i) (hl : lv_has ls 4 [(0, .ref b), (1, .ref (a 0)), (2, .ref (d 0)), (3, .int x3)]) (G : g2 s cy dC dI a d H locs) (kk : ∀ (H1 : Heap) (locs1 : List Loc), g2 s cy dC dI a d H1 locs1 → W p l e room_1 s m #[Value.ref b] below meth c H1 locs1 cells slots Q (F0 m 964 ls [])) : W p l e room_1 s m #[Value.ref b] below meth c H locs cells slots Q (F0 m 254 ls []) := by
  obtain ⟨hx, hb, hr, hml, hown, hts0, hX, hbl, hlocks, hgv⟩ := C0
  obtain ⟨hK, hia, hid, hFa, hFd, hdis, hE⟩ := F
  obtain ⟨I, M, J, N, hI, hJ, hT, hP, hR, hS⟩ := G
  have Sf : CallFix p m c code 4 s #[Value.ref b] fT R_law := ⟨hx, hb, hml, hown, fun w h => hts0 w (List.mem_filter.mp h).1⟩
  refine lv_aload_n (k := 1) (i := 1) (x := a 0) hx hb (by decide +kernel) rfl (lv_at hl 1 rfl) ?_
  refine g_call (k := 0) (vs := []) (rest := []) (n := 0) (ci := 10) Sf (mX11_lexicon hia) rfl kL_X11_lexicon (by decide +kernel) ⟨Nat.le_of_ble_eq_true rfl, Nat.le_of_ble_eq_true rfl⟩ hcs rfl (by decide) rfl hI (gE hE hFa hS) (fun U g mk a' h => (xE_c a).2 U g mk a' h) hP hK hS hFa hl.1 (Nat.le_of_ble_eq_true rfl) (by show decode code 255 = .ok (.invokevirtual 23, 3); decide +kernel) (fun r I1 M1 H1 locs hq hN hz hk hS => ?_)
  have hR := g_keepP hR hk (fun q h1 h2 => hdis q h2 h1)
  have hP := hN
  obtain ⟨x, rfl, hq⟩ : ∃ x : Int32, r = some (.int x) ∧ qX11_lexicon [.ref 0] I M (.int x) I1 M1 := by
    cases r with
    | none => exact False.elim hq
    | some v => cases v with
      | int x => exact ⟨x, rfl, hq⟩
      | _ => exact False.elim hq
  obtain ⟨zR, zO, zT, zS, zL, zf, zl, z0, zt⟩ := hq
  have hI1 : xAll I1 := ⟨zR, zO, zT, zS, zL⟩
  have hT1 : (I1 0 11).toInt = (I 0 11).toInt := zt
  refine W.eq (g2 := F0 m 258 ls [.int x]) rfl ?_
  refine lv_pop hx hb (by decide +kernel) rfl ?_
  refine lv_aload_n (k := 2) (i := 2) (x := d 0) hx hb (by decide +kernel) rfl (lv_at hl 2 rfl) ?_
  refine g_call (k := 0) (vs := []) (rest := []) (n := 0) (ci := 11) Sf (mX12_lexicon hid) rfl kL_X12_lexicon (by decide +kernel) ⟨Nat.le_of_ble_eq_true rfl, Nat.le_of_ble_eq_true rfl⟩ hcs rfl (by decide) rfl ⟨hJ.1, hJ.2.1, hJ.2.2.2⟩ (fun _ _ _ => trivial) (fun _ _ _ _ _ => trivial) hR hK hS hFd hl.1 (Nat.le_of_ble_eq_true rfl) (by show decode code 260 = .ok (.invokevirtual 27, 3); decide +kernel) (fun r J1 N1 H1 locs hq hN hz hk hS => ?_)
  have hP := g_keepP hP hk hdis
  have hR := hN
  obtain ⟨y, rfl, hq⟩ : ∃ x : Int32, r = some (.int x) ∧ qX12_lexicon [.ref 0] J N (.int x) J1 N1 := by
    cases r with
    | none => exact False.elim hq
    | some v => cases v with
      | int x => exact ⟨x, rfl, hq⟩
      | _ => exact False.elim hq
  obtain ⟨zR, zL, zW, zo, zf, zl, z0⟩ := hq
  have hJ1 : mG J1 := ⟨zR, zL, (f_depo_fo mK_dep hJ.2.2.1 zf zo (by decide) (by decide)), zW⟩
  have hT2 : (J1 0 84).toInt = (J 0 84).toInt := congrArg Int32.toInt (zo 84 rfl)
  refine W.eq (g2 := F0 m 263 ls [.int y]) rfl ?_
  refine lv_pop hx hb (by decide +kernel) rfl ?_
  refine lv_goto (off := 700) (tgt := 964) hx hb (by decide +kernel) (by decide) ?_
  exact kk _ _ ⟨I1, M1, J1, N1, hI1, hJ1, by omega, hP, hR, hS⟩
theorem kL_X11_row : ∀ w ∈ ([.methodLink R_law 28 yX11_row, .instanceMethod yX11_row, .selects yX11_row.cls yX11_row yX11_row, .initialized yX11_row.cls, .code yX11_row cX11_row 2 (f_rt 1)] : List Cond), w ∈ fT := f_pos [764, 765, 766, 1, 767] (by decide +kernel) (by decide +kernel)
theorem kL_X12_row : ∀ w ∈ ([.methodLink R_law 31 yX12_row, .instanceMethod yX12_row, .selects yX12_row.cls yX12_row yX12_row, .initialized yX12_row.cls, .code yX12_row cX12_row 3 (f_rt 1)] : List Cond), w ∈ fT := f_pos [1629, 1630, 1631, 13, 1632] (by decide +kernel) (by decide +kernel)
set_option maxHeartbeats 40000000 in
set_option maxRecDepth 100000 in
theorem lc_3 {p : Program} {l : Launch} {e : Env} {s : State} {m : MethodId} {below : List Frame} {meth : Method} {c : Code} {H : Heap} {locs : List Loc} {cells slots : Nat} {Q : State → Prop} {cy dC : Nat → ClassId} {dI : Nat → Nat → Nat} {a d : Nat → Nat} {ls : Array Slot} {b L i : Nat} {xs : Nat → Int32} {x3 : Int32} (C0 : lw_At p s m meth c b L xs) (F : gFx s cy dC dI a d) (hcs : cells ≤ room_1.cells ∧ slots ≤ room_1.slots) (hL : L ≤ 384) (hi : i + 6 ≤ L) (h3 : x3 = nI i) (hl : lv_has ls 4 [(0, .ref b), (1, .ref (a 0)), (2, .ref (d 0)), (3, .int x3)]) (G : g2 s cy dC dI a d H locs) (kk : ∀ (H1 : Heap) (locs1 : List Loc), g2 s cy dC dI a d H1 locs1 → W p l e room_1 s m #[Value.ref b] below meth c H1 locs1 cells slots Q (F0 m 964 ls [])) : W p l e room_1 s m #[Value.ref b] below meth c H locs cells slots Q (F0 m 267 ls []) := by
  obtain ⟨hx, hb, hr, hml, hown, hts0, hX, hbl, hlocks, hgv⟩ := C0
  obtain ⟨hK, hia, hid, hFa, hFd, hdis, hE⟩ := F
  obtain ⟨I, M, J, N, hI, hJ, hT, hP, hR, hS⟩ := G
  have Sf : CallFix p m c code 4 s #[Value.ref b] fT R_law := ⟨hx, hb, hml, hown, fun w h => hts0 w (List.mem_filter.mp h).1⟩
  refine lv_aload_n (k := 1) (i := 1) (x := a 0) hx hb (by decide +kernel) rfl (lv_at hl 1 rfl) ?_
  refine g_call (k := 0) (vs := []) (rest := []) (n := 0) (ci := 10) Sf (mX11_row hia) rfl kL_X11_row (by decide +kernel) ⟨Nat.le_of_ble_eq_true rfl, Nat.le_of_ble_eq_true rfl⟩ hcs rfl (by decide) rfl hI (gE hE hFa hS) (fun U g mk a' h => (xE_c a).2 U g mk a' h) hP hK hS hFa hl.1 (Nat.le_of_ble_eq_true rfl) (by show decode code 268 = .ok (.invokevirtual 28, 3); decide +kernel) (fun r I1 M1 H1 locs hq hN hz hk hS => ?_)
  have hR := g_keepP hR hk (fun q h1 h2 => hdis q h2 h1)
  have hP := hN
  obtain ⟨x, rfl, hq⟩ : ∃ x : Int32, r = some (.int x) ∧ qX11_row [.ref 0] I M (.int x) I1 M1 := by
    cases r with
    | none => exact False.elim hq
    | some v => cases v with
      | int x => exact ⟨x, rfl, hq⟩
      | _ => exact False.elim hq
  obtain ⟨zR, zO, zT, zS, zL, zf, zl, z0⟩ := hq
  have hI1 : xAll I1 := ⟨zR, zO, zT, zS, zL⟩
  have hT1 : (I1 0 11).toInt = (I 0 11).toInt := congrArg Int32.toInt (congrFun (zf 0 rfl) 11)
  refine W.eq (g2 := F0 m 271 ls [.int x]) rfl ?_
  refine lv_pop hx hb (by decide +kernel) rfl ?_
  refine lv_aload_n (k := 2) (i := 2) (x := d 0) hx hb (by decide +kernel) rfl (lv_at hl 2 rfl) ?_
  refine g_call (k := 0) (vs := []) (rest := []) (n := 0) (ci := 11) Sf (mX12_row hid) rfl kL_X12_row (by decide +kernel) ⟨Nat.le_of_ble_eq_true rfl, Nat.le_of_ble_eq_true rfl⟩ hcs rfl (by decide) rfl ⟨hJ.1, hJ.2.1, hJ.2.2.2⟩ (fun _ _ _ => trivial) (fun _ _ _ _ _ => trivial) hR hK hS hFd hl.1 (Nat.le_of_ble_eq_true rfl) (by show decode code 273 = .ok (.invokevirtual 31, 3); decide +kernel) (fun r J1 N1 H1 locs hq hN hz hk hS => ?_)
  have hP := g_keepP hP hk hdis
  have hR := hN
  obtain ⟨y, rfl, hq⟩ : ∃ x : Int32, r = some (.int x) ∧ qX12_row [.ref 0] J N (.int x) J1 N1 := by
    cases r with
    | none => exact False.elim hq
    | some v => cases v with
      | int x => exact ⟨x, rfl, hq⟩
      | _ => exact False.elim hq
  obtain ⟨zR, zL, zW, zo, zf, zl, z0⟩ := hq
  have hJ1 : mG J1 := ⟨zR, zL, (f_depo_fo mK_dep hJ.2.2.1 zf zo (by decide) (by decide)), zW⟩
  have hT2 : (J1 0 84).toInt = (J 0 84).toInt := congrArg Int32.toInt (zo 84 rfl)
  refine W.eq (g2 := F0 m 276 ls [.int y]) rfl ?_
  refine lv_pop hx hb (by decide +kernel) rfl ?_
  refine lv_goto (off := 687) (tgt := 964) hx hb (by decide +kernel) (by decide) ?_
  exact kk _ _ ⟨I1, M1, J1, N1, hI1, hJ1, by omega, hP, hR, hS⟩
theorem kL_X11_fault : ∀ w ∈ ([.methodLink R_law 32 yX11_fault, .instanceMethod yX11_fault, .selects yX11_fault.cls yX11_fault yX11_fault, .initialized yX11_fault.cls, .code yX11_fault cX11_fault 2 (f_rt 1)] : List Cond), w ∈ fT := f_pos [780, 781, 782, 1, 783] (by decide +kernel) (by decide +kernel)
theorem kL_X12_fault : ∀ w ∈ ([.methodLink R_law 35 yX12_fault, .instanceMethod yX12_fault, .selects yX12_fault.cls yX12_fault yX12_fault, .initialized yX12_fault.cls, .code yX12_fault cX12_fault 2 (f_rt 1)] : List Cond), w ∈ fT := f_pos [1602, 1603, 1604, 13, 1605] (by decide +kernel) (by decide +kernel)
set_option maxHeartbeats 40000000 in
set_option maxRecDepth 100000 in
theorem lc_4 {p : Program} {l : Launch} {e : Env} {s : State} {m : MethodId} {below : List Frame} {meth : Method} {c : Code} {H : Heap} {locs : List Loc} {cells slots : Nat} {Q : State → Prop} {cy dC : Nat → ClassId} {dI : Nat → Nat → Nat} {a d : Nat → Nat} {ls : Array Slot} {b L i : Nat} {xs : Nat → Int32} {x3 : Int32} (C0 : lw_At p s m meth c b L xs) (F : gFx s cy dC dI a d) (hcs : cells ≤ room_1.cells ∧ slots ≤ room_1.slots) (hL : L ≤ 384) (hi : i + 6 ≤ L) (h3 : x3 = nI i) (hl : lv_has ls 4 [(0, .ref b), (1, .ref (a 0)), (2, .ref (d 0)), (3, .int x3)]) (G : g2 s cy dC dI a d H locs) (kk : ∀ (H1 : Heap) (locs1 : List Loc), g2 s cy dC dI a d H1 locs1 → W p l e room_1 s m #[Value.ref b] below meth c H1 locs1 cells slots Q (F0 m 964 ls [])) : W p l e room_1 s m #[Value.ref b] below meth c H locs cells slots Q (F0 m 280 ls []) := by
  obtain ⟨hx, hb, hr, hml, hown, hts0, hX, hbl, hlocks, hgv⟩ := C0
  obtain ⟨hK, hia, hid, hFa, hFd, hdis, hE⟩ := F
  obtain ⟨I, M, J, N, hI, hJ, hT, hP, hR, hS⟩ := G
  have Sf : CallFix p m c code 4 s #[Value.ref b] fT R_law := ⟨hx, hb, hml, hown, fun w h => hts0 w (List.mem_filter.mp h).1⟩
  refine lv_aload_n (k := 1) (i := 1) (x := a 0) hx hb (by decide +kernel) rfl (lv_at hl 1 rfl) ?_
  refine la_arg (j := 1) (jz := 1) hx hb hX hbl hS hl h3 hi hL (by decide) (by decide +kernel) (by decide +kernel) (by decide +kernel) (by decide +kernel) (by decide +kernel) (by decide +kernel) ?_
  refine g_call (k := 0) (vs := [.int (xs (i + 1))]) (rest := []) (n := 1) (ci := 10) Sf (mX11_fault hia) rfl kL_X11_fault (by decide +kernel) ⟨Nat.le_of_ble_eq_true rfl, Nat.le_of_ble_eq_true rfl⟩ hcs rfl (by decide) rfl trivial (gE hE hFa hS) (fun U g mk a' h => (xE_c a).2 U g mk a' h) hP hK hS hFa hl.1 (Nat.le_of_ble_eq_true rfl) (by show decode code 286 = .ok (.invokevirtual 32, 3); decide +kernel) (fun r I1 M1 H1 locs hq hN hz hk hS => ?_)
  have hR := g_keepP hR hk (fun q h1 h2 => hdis q h2 h1)
  have hP := hN
  obtain ⟨x, rfl, hq⟩ : ∃ x : Int32, r = some (.int x) ∧ qX11_fault [.ref 0, .int (xs (i + 1))] I M (.int x) I1 M1 := by
    cases r with
    | none => exact False.elim hq
    | some v => cases v with
      | int x => exact ⟨x, rfl, hq⟩
      | _ => exact False.elim hq
  obtain ⟨ze, zl⟩ := hq
  have hI1 : xAll I1 := by rw [ze]; exact hI
  have hT1 : (I1 0 11).toInt = (I 0 11).toInt := by rw [ze]
  refine W.eq (g2 := F0 m 289 ls [.int x]) rfl ?_
  refine lv_pop hx hb (by decide +kernel) rfl ?_
  refine lv_aload_n (k := 2) (i := 2) (x := d 0) hx hb (by decide +kernel) rfl (lv_at hl 2 rfl) ?_
  refine la_arg (j := 1) (jz := 1) hx hb hX hbl hS hl h3 hi hL (by decide) (by decide +kernel) (by decide +kernel) (by decide +kernel) (by decide +kernel) (by decide +kernel) (by decide +kernel) ?_
  refine g_call (k := 0) (vs := [.int (xs (i + 1))]) (rest := []) (n := 1) (ci := 11) Sf (mX12_fault hid) rfl kL_X12_fault (by decide +kernel) ⟨Nat.le_of_ble_eq_true rfl, Nat.le_of_ble_eq_true rfl⟩ hcs rfl (by decide) rfl trivial (fun _ _ _ => trivial) (fun _ _ _ _ _ => trivial) hR hK hS hFd hl.1 (Nat.le_of_ble_eq_true rfl) (by show decode code 296 = .ok (.invokevirtual 35, 3); decide +kernel) (fun r J1 N1 H1 locs hq hN hz hk hS => ?_)
  have hP := g_keepP hP hk hdis
  have hR := hN
  obtain ⟨y, rfl, hq⟩ : ∃ x : Int32, r = some (.int x) ∧ qX12_fault [.ref 0, .int (xs (i + 1))] J N (.int x) J1 N1 := by
    cases r with
    | none => exact False.elim hq
    | some v => cases v with
      | int x => exact ⟨x, rfl, hq⟩
      | _ => exact False.elim hq
  obtain ⟨ze, zl⟩ := hq
  have hJ1 : mG J1 := by rw [ze]; exact hJ
  have hT2 : (J1 0 84).toInt = (J 0 84).toInt := by rw [ze]
  refine W.eq (g2 := F0 m 299 ls [.int y]) rfl ?_
  refine lv_pop hx hb (by decide +kernel) rfl ?_
  refine lv_goto (off := 664) (tgt := 964) hx hb (by decide +kernel) (by decide) ?_
  exact kk _ _ ⟨I1, M1, J1, N1, hI1, hJ1, by omega, hP, hR, hS⟩
theorem kL_X11_tags : ∀ w ∈ ([.methodLink R_law 36 yX11_tags, .instanceMethod yX11_tags, .selects yX11_tags.cls yX11_tags yX11_tags, .initialized yX11_tags.cls, .code yX11_tags cX11_tags 2 (f_rt 1)] : List Cond), w ∈ fT := f_pos [784, 785, 786, 1, 787] (by decide +kernel) (by decide +kernel)
theorem kL_X12_tags : ∀ w ∈ ([.methodLink R_law 39 yX12_tags, .instanceMethod yX12_tags, .selects yX12_tags.cls yX12_tags yX12_tags, .initialized yX12_tags.cls, .code yX12_tags cX12_tags 2 (f_rt 1)] : List Cond), w ∈ fT := f_pos [1606, 1607, 1608, 13, 1609] (by decide +kernel) (by decide +kernel)
set_option maxHeartbeats 40000000 in
set_option maxRecDepth 100000 in
theorem lc_5 {p : Program} {l : Launch} {e : Env} {s : State} {m : MethodId} {below : List Frame} {meth : Method} {c : Code} {H : Heap} {locs : List Loc} {cells slots : Nat} {Q : State → Prop} {cy dC : Nat → ClassId} {dI : Nat → Nat → Nat} {a d : Nat → Nat} {ls : Array Slot} {b L i : Nat} {xs : Nat → Int32} {x3 : Int32} (C0 : lw_At p s m meth c b L xs) (F : gFx s cy dC dI a d) (hcs : cells ≤ room_1.cells ∧ slots ≤ room_1.slots) (hL : L ≤ 384) (hi : i + 6 ≤ L) (h3 : x3 = nI i) (hl : lv_has ls 4 [(0, .ref b), (1, .ref (a 0)), (2, .ref (d 0)), (3, .int x3)]) (G : g2 s cy dC dI a d H locs) (kk : ∀ (H1 : Heap) (locs1 : List Loc), g2 s cy dC dI a d H1 locs1 → W p l e room_1 s m #[Value.ref b] below meth c H1 locs1 cells slots Q (F0 m 964 ls [])) : W p l e room_1 s m #[Value.ref b] below meth c H locs cells slots Q (F0 m 303 ls []) := by
  obtain ⟨hx, hb, hr, hml, hown, hts0, hX, hbl, hlocks, hgv⟩ := C0
  obtain ⟨hK, hia, hid, hFa, hFd, hdis, hE⟩ := F
  obtain ⟨I, M, J, N, hI, hJ, hT, hP, hR, hS⟩ := G
  have Sf : CallFix p m c code 4 s #[Value.ref b] fT R_law := ⟨hx, hb, hml, hown, fun w h => hts0 w (List.mem_filter.mp h).1⟩
  refine lv_aload_n (k := 1) (i := 1) (x := a 0) hx hb (by decide +kernel) rfl (lv_at hl 1 rfl) ?_
  refine la_arg (j := 1) (jz := 1) hx hb hX hbl hS hl h3 hi hL (by decide) (by decide +kernel) (by decide +kernel) (by decide +kernel) (by decide +kernel) (by decide +kernel) (by decide +kernel) ?_
  refine g_call (k := 0) (vs := [.int (xs (i + 1))]) (rest := []) (n := 1) (ci := 10) Sf (mX11_tags hia) rfl kL_X11_tags (by decide +kernel) ⟨Nat.le_of_ble_eq_true rfl, Nat.le_of_ble_eq_true rfl⟩ hcs rfl (by decide) rfl ⟨hI.1, hI.2.2.2.2⟩ (gE hE hFa hS) (fun U g mk a' h => (xE_c a).2 U g mk a' h) hP hK hS hFa hl.1 (Nat.le_of_ble_eq_true rfl) (by show decode code 309 = .ok (.invokevirtual 36, 3); decide +kernel) (fun r I1 M1 H1 locs hq hN hz hk hS => ?_)
  have hR := g_keepP hR hk (fun q h1 h2 => hdis q h2 h1)
  have hP := hN
  obtain ⟨x, rfl, hq⟩ : ∃ x : Int32, r = some (.int x) ∧ qX11_tags [.ref 0, .int (xs (i + 1))] I M (.int x) I1 M1 := by
    cases r with
    | none => exact False.elim hq
    | some v => cases v with
      | int x => exact ⟨x, rfl, hq⟩
      | _ => exact False.elim hq
  obtain ⟨ze, zl⟩ := hq
  have hI1 : xAll I1 := by rw [ze]; exact hI
  have hT1 : (I1 0 11).toInt = (I 0 11).toInt := by rw [ze]
  refine W.eq (g2 := F0 m 312 ls [.int x]) rfl ?_
  refine lv_pop hx hb (by decide +kernel) rfl ?_
  refine lv_aload_n (k := 2) (i := 2) (x := d 0) hx hb (by decide +kernel) rfl (lv_at hl 2 rfl) ?_
  refine la_arg (j := 1) (jz := 1) hx hb hX hbl hS hl h3 hi hL (by decide) (by decide +kernel) (by decide +kernel) (by decide +kernel) (by decide +kernel) (by decide +kernel) (by decide +kernel) ?_
  refine g_call (k := 0) (vs := [.int (xs (i + 1))]) (rest := []) (n := 1) (ci := 11) Sf (mX12_tags hid) rfl kL_X12_tags (by decide +kernel) ⟨Nat.le_of_ble_eq_true rfl, Nat.le_of_ble_eq_true rfl⟩ hcs rfl (by decide) rfl hJ.1 (fun _ _ _ => trivial) (fun _ _ _ _ _ => trivial) hR hK hS hFd hl.1 (Nat.le_of_ble_eq_true rfl) (by show decode code 319 = .ok (.invokevirtual 39, 3); decide +kernel) (fun r J1 N1 H1 locs hq hN hz hk hS => ?_)
  have hP := g_keepP hP hk hdis
  have hR := hN
  obtain ⟨y, rfl, hq⟩ : ∃ x : Int32, r = some (.int x) ∧ qX12_tags [.ref 0, .int (xs (i + 1))] J N (.int x) J1 N1 := by
    cases r with
    | none => exact False.elim hq
    | some v => cases v with
      | int x => exact ⟨x, rfl, hq⟩
      | _ => exact False.elim hq
  obtain ⟨ze, zl⟩ := hq
  have hJ1 : mG J1 := by rw [ze]; exact hJ
  have hT2 : (J1 0 84).toInt = (J 0 84).toInt := by rw [ze]
  refine W.eq (g2 := F0 m 322 ls [.int y]) rfl ?_
  refine lv_pop hx hb (by decide +kernel) rfl ?_
  refine lv_goto (off := 641) (tgt := 964) hx hb (by decide +kernel) (by decide) ?_
  exact kk _ _ ⟨I1, M1, J1, N1, hI1, hJ1, by omega, hP, hR, hS⟩
theorem kL_X11_number : ∀ w ∈ ([.methodLink R_law 40 yX11_number, .instanceMethod yX11_number, .selects yX11_number.cls yX11_number yX11_number, .initialized yX11_number.cls, .code yX11_number cX11_number 3 (f_rt 1)] : List Cond), w ∈ fT := f_pos [792, 793, 794, 1, 795] (by decide +kernel) (by decide +kernel)
theorem kL_X12_number : ∀ w ∈ ([.methodLink R_law 44 yX12_number, .instanceMethod yX12_number, .selects yX12_number.cls yX12_number yX12_number, .initialized yX12_number.cls, .code yX12_number cX12_number 3 (f_rt 1)] : List Cond), w ∈ fT := f_pos [1617, 1618, 1619, 13, 1620] (by decide +kernel) (by decide +kernel)
set_option maxHeartbeats 40000000 in
set_option maxRecDepth 100000 in
theorem lc_6 {p : Program} {l : Launch} {e : Env} {s : State} {m : MethodId} {below : List Frame} {meth : Method} {c : Code} {H : Heap} {locs : List Loc} {cells slots : Nat} {Q : State → Prop} {cy dC : Nat → ClassId} {dI : Nat → Nat → Nat} {a d : Nat → Nat} {ls : Array Slot} {b L i : Nat} {xs : Nat → Int32} {x3 : Int32} (C0 : lw_At p s m meth c b L xs) (F : gFx s cy dC dI a d) (hcs : cells ≤ room_1.cells ∧ slots ≤ room_1.slots) (hL : L ≤ 384) (hi : i + 6 ≤ L) (h3 : x3 = nI i) (hl : lv_has ls 4 [(0, .ref b), (1, .ref (a 0)), (2, .ref (d 0)), (3, .int x3)]) (G : g2 s cy dC dI a d H locs) (kk : ∀ (H1 : Heap) (locs1 : List Loc), g2 s cy dC dI a d H1 locs1 → W p l e room_1 s m #[Value.ref b] below meth c H1 locs1 cells slots Q (F0 m 964 ls [])) : W p l e room_1 s m #[Value.ref b] below meth c H locs cells slots Q (F0 m 326 ls []) := by
  obtain ⟨hx, hb, hr, hml, hown, hts0, hX, hbl, hlocks, hgv⟩ := C0
  obtain ⟨hK, hia, hid, hFa, hFd, hdis, hE⟩ := F
  obtain ⟨I, M, J, N, hI, hJ, hT, hP, hR, hS⟩ := G
  have Sf : CallFix p m c code 4 s #[Value.ref b] fT R_law := ⟨hx, hb, hml, hown, fun w h => hts0 w (List.mem_filter.mp h).1⟩
  refine lv_aload_n (k := 1) (i := 1) (x := a 0) hx hb (by decide +kernel) rfl (lv_at hl 1 rfl) ?_
  refine la_arg (j := 1) (jz := 1) hx hb hX hbl hS hl h3 hi hL (by decide) (by decide +kernel) (by decide +kernel) (by decide +kernel) (by decide +kernel) (by decide +kernel) (by decide +kernel) ?_
  refine la_arg (j := 2) (jz := 2) hx hb hX hbl hS hl h3 hi hL (by decide) (by decide +kernel) (by decide +kernel) (by decide +kernel) (by decide +kernel) (by decide +kernel) (by decide +kernel) ?_
  refine g_call (k := 0) (vs := [.int (xs (i + 1)), .int (xs (i + 2))]) (rest := []) (n := 2) (ci := 10) Sf (mX11_number hia) rfl kL_X11_number (by decide +kernel) ⟨Nat.le_of_ble_eq_true rfl, Nat.le_of_ble_eq_true rfl⟩ hcs rfl (by decide) rfl ⟨hI.1, hI.2.2.2.2⟩ (gE hE hFa hS) (fun U g mk a' h => (xE_c a).2 U g mk a' h) hP hK hS hFa hl.1 (Nat.le_of_ble_eq_true rfl) (by show decode code 337 = .ok (.invokevirtual 40, 3); decide +kernel) (fun r I1 M1 H1 locs hq hN hz hk hS => ?_)
  have hR := g_keepP hR hk (fun q h1 h2 => hdis q h2 h1)
  have hP := hN
  obtain ⟨x, rfl, hq⟩ : ∃ x : Int32, r = some (.int x) ∧ qX11_number [.ref 0, .int (xs (i + 1)), .int (xs (i + 2))] I M (.int x) I1 M1 := by
    cases r with
    | none => exact False.elim hq
    | some v => cases v with
      | int x => exact ⟨x, rfl, hq⟩
      | _ => exact False.elim hq
  obtain ⟨ze, zl⟩ := hq
  have hI1 : xAll I1 := by rw [ze]; exact hI
  have hT1 : (I1 0 11).toInt = (I 0 11).toInt := by rw [ze]
  refine W.eq (g2 := F0 m 340 ls [.int x]) rfl ?_
  refine lv_pop hx hb (by decide +kernel) rfl ?_
  refine lv_aload_n (k := 2) (i := 2) (x := d 0) hx hb (by decide +kernel) rfl (lv_at hl 2 rfl) ?_
  refine la_arg (j := 1) (jz := 1) hx hb hX hbl hS hl h3 hi hL (by decide) (by decide +kernel) (by decide +kernel) (by decide +kernel) (by decide +kernel) (by decide +kernel) (by decide +kernel) ?_
  refine la_arg (j := 2) (jz := 2) hx hb hX hbl hS hl h3 hi hL (by decide) (by decide +kernel) (by decide +kernel) (by decide +kernel) (by decide +kernel) (by decide +kernel) (by decide +kernel) ?_
  refine g_call (k := 0) (vs := [.int (xs (i + 1)), .int (xs (i + 2))]) (rest := []) (n := 2) (ci := 11) Sf (mX12_number hid) rfl kL_X12_number (by decide +kernel) ⟨Nat.le_of_ble_eq_true rfl, Nat.le_of_ble_eq_true rfl⟩ hcs rfl (by decide) rfl ⟨hJ.1, hJ.2.1⟩ (fun _ _ _ => trivial) (fun _ _ _ _ _ => trivial) hR hK hS hFd hl.1 (Nat.le_of_ble_eq_true rfl) (by show decode code 352 = .ok (.invokevirtual 44, 3); decide +kernel) (fun r J1 N1 H1 locs hq hN hz hk hS => ?_)
  have hP := g_keepP hP hk hdis
  have hR := hN
  obtain ⟨y, rfl, hq⟩ : ∃ x : Int32, r = some (.int x) ∧ qX12_number [.ref 0, .int (xs (i + 1)), .int (xs (i + 2))] J N (.int x) J1 N1 := by
    cases r with
    | none => exact False.elim hq
    | some v => cases v with
      | int x => exact ⟨x, rfl, hq⟩
      | _ => exact False.elim hq
  obtain ⟨ze, zl⟩ := hq
  have hJ1 : mG J1 := by rw [ze]; exact hJ
  have hT2 : (J1 0 84).toInt = (J 0 84).toInt := by rw [ze]
  refine W.eq (g2 := F0 m 355 ls [.int y]) rfl ?_
  refine lv_pop hx hb (by decide +kernel) rfl ?_
  refine lv_goto (off := 608) (tgt := 964) hx hb (by decide +kernel) (by decide) ?_
  exact kk _ _ ⟨I1, M1, J1, N1, hI1, hJ1, by omega, hP, hR, hS⟩
theorem kL_X11_at : ∀ w ∈ ([.methodLink R_law 45 yX11_at, .instanceMethod yX11_at, .selects yX11_at.cls yX11_at yX11_at, .initialized yX11_at.cls, .code yX11_at cX11_at 2 (f_rt 1)] : List Cond), w ∈ fT := f_pos [803, 804, 805, 1, 806] (by decide +kernel) (by decide +kernel)
theorem kL_X12_at : ∀ w ∈ ([.methodLink R_law 48 yX12_at, .instanceMethod yX12_at, .selects yX12_at.cls yX12_at yX12_at, .initialized yX12_at.cls, .code yX12_at cX12_at 2 (f_rt 1)] : List Cond), w ∈ fT := f_pos [1633, 1634, 1635, 13, 1636] (by decide +kernel) (by decide +kernel)
set_option maxHeartbeats 40000000 in
set_option maxRecDepth 100000 in
theorem lc_7 {p : Program} {l : Launch} {e : Env} {s : State} {m : MethodId} {below : List Frame} {meth : Method} {c : Code} {H : Heap} {locs : List Loc} {cells slots : Nat} {Q : State → Prop} {cy dC : Nat → ClassId} {dI : Nat → Nat → Nat} {a d : Nat → Nat} {ls : Array Slot} {b L i : Nat} {xs : Nat → Int32} {x3 : Int32} (C0 : lw_At p s m meth c b L xs) (F : gFx s cy dC dI a d) (hcs : cells ≤ room_1.cells ∧ slots ≤ room_1.slots) (hL : L ≤ 384) (hi : i + 6 ≤ L) (h3 : x3 = nI i) (hl : lv_has ls 4 [(0, .ref b), (1, .ref (a 0)), (2, .ref (d 0)), (3, .int x3)]) (G : g2 s cy dC dI a d H locs) (kk : ∀ (H1 : Heap) (locs1 : List Loc), g2 s cy dC dI a d H1 locs1 → W p l e room_1 s m #[Value.ref b] below meth c H1 locs1 cells slots Q (F0 m 964 ls [])) : W p l e room_1 s m #[Value.ref b] below meth c H locs cells slots Q (F0 m 359 ls []) := by
  obtain ⟨hx, hb, hr, hml, hown, hts0, hX, hbl, hlocks, hgv⟩ := C0
  obtain ⟨hK, hia, hid, hFa, hFd, hdis, hE⟩ := F
  obtain ⟨I, M, J, N, hI, hJ, hT, hP, hR, hS⟩ := G
  have Sf : CallFix p m c code 4 s #[Value.ref b] fT R_law := ⟨hx, hb, hml, hown, fun w h => hts0 w (List.mem_filter.mp h).1⟩
  refine lv_aload_n (k := 1) (i := 1) (x := a 0) hx hb (by decide +kernel) rfl (lv_at hl 1 rfl) ?_
  refine la_arg (j := 1) (jz := 1) hx hb hX hbl hS hl h3 hi hL (by decide) (by decide +kernel) (by decide +kernel) (by decide +kernel) (by decide +kernel) (by decide +kernel) (by decide +kernel) ?_
  refine g_call (k := 0) (vs := [.int (xs (i + 1))]) (rest := []) (n := 1) (ci := 10) Sf (mX11_at hia) rfl kL_X11_at (by decide +kernel) ⟨Nat.le_of_ble_eq_true rfl, Nat.le_of_ble_eq_true rfl⟩ hcs rfl (by decide) rfl hI.1 (gE hE hFa hS) (fun U g mk a' h => (xE_c a).2 U g mk a' h) hP hK hS hFa hl.1 (Nat.le_of_ble_eq_true rfl) (by show decode code 365 = .ok (.invokevirtual 45, 3); decide +kernel) (fun r I1 M1 H1 locs hq hN hz hk hS => ?_)
  have hR := g_keepP hR hk (fun q h1 h2 => hdis q h2 h1)
  have hP := hN
  obtain ⟨x, rfl, hq⟩ : ∃ x : Int32, r = some (.int x) ∧ qX11_at [.ref 0, .int (xs (i + 1))] I M (.int x) I1 M1 := by
    cases r with
    | none => exact False.elim hq
    | some v => cases v with
      | int x => exact ⟨x, rfl, hq⟩
      | _ => exact False.elim hq
  obtain ⟨ze, zl⟩ := hq
  have hI1 : xAll I1 := by rw [ze]; exact hI
  have hT1 : (I1 0 11).toInt = (I 0 11).toInt := by rw [ze]
  refine W.eq (g2 := F0 m 368 ls [.int x]) rfl ?_
  refine lv_pop hx hb (by decide +kernel) rfl ?_
  refine lv_aload_n (k := 2) (i := 2) (x := d 0) hx hb (by decide +kernel) rfl (lv_at hl 2 rfl) ?_
  refine la_arg (j := 1) (jz := 1) hx hb hX hbl hS hl h3 hi hL (by decide) (by decide +kernel) (by decide +kernel) (by decide +kernel) (by decide +kernel) (by decide +kernel) (by decide +kernel) ?_
  refine g_call (k := 0) (vs := [.int (xs (i + 1))]) (rest := []) (n := 1) (ci := 11) Sf (mX12_at hid) rfl kL_X12_at (by decide +kernel) ⟨Nat.le_of_ble_eq_true rfl, Nat.le_of_ble_eq_true rfl⟩ hcs rfl (by decide) rfl hJ.1 (fun _ _ _ => trivial) (fun _ _ _ _ _ => trivial) hR hK hS hFd hl.1 (Nat.le_of_ble_eq_true rfl) (by show decode code 375 = .ok (.invokevirtual 48, 3); decide +kernel) (fun r J1 N1 H1 locs hq hN hz hk hS => ?_)
  have hP := g_keepP hP hk hdis
  have hR := hN
  obtain ⟨y, rfl, hq⟩ : ∃ x : Int32, r = some (.int x) ∧ qX12_at [.ref 0, .int (xs (i + 1))] J N (.int x) J1 N1 := by
    cases r with
    | none => exact False.elim hq
    | some v => cases v with
      | int x => exact ⟨x, rfl, hq⟩
      | _ => exact False.elim hq
  obtain ⟨ze, zl⟩ := hq
  have hJ1 : mG J1 := by rw [ze]; exact hJ
  have hT2 : (J1 0 84).toInt = (J 0 84).toInt := by rw [ze]
  refine W.eq (g2 := F0 m 378 ls [.int y]) rfl ?_
  refine lv_pop hx hb (by decide +kernel) rfl ?_
  refine lv_goto (off := 585) (tgt := 964) hx hb (by decide +kernel) (by decide) ?_
  exact kk _ _ ⟨I1, M1, J1, N1, hI1, hJ1, by omega, hP, hR, hS⟩
theorem kL_X11_readings : ∀ w ∈ ([.methodLink R_law 49 yX11_readings, .instanceMethod yX11_readings, .selects yX11_readings.cls yX11_readings yX11_readings, .initialized yX11_readings.cls, .code yX11_readings cX11_readings 1 (f_rt 1)] : List Cond), w ∈ fT := f_pos [811, 812, 813, 1, 814] (by decide +kernel) (by decide +kernel)
theorem kL_X12_readings : ∀ w ∈ ([.methodLink R_law 52 yX12_readings, .instanceMethod yX12_readings, .selects yX12_readings.cls yX12_readings yX12_readings, .initialized yX12_readings.cls, .code yX12_readings cX12_readings 1 (f_rt 1)] : List Cond), w ∈ fT := f_pos [1637, 1638, 1639, 13, 1640] (by decide +kernel) (by decide +kernel)
set_option maxHeartbeats 40000000 in
set_option maxRecDepth 100000 in
theorem lc_8 {p : Program} {l : Launch} {e : Env} {s : State} {m : MethodId} {below : List Frame} {meth : Method} {c : Code} {H : Heap} {locs : List Loc} {cells slots : Nat} {Q : State → Prop} {cy dC : Nat → ClassId} {dI : Nat → Nat → Nat} {a d : Nat → Nat} {ls : Array Slot} {b L i : Nat} {xs : Nat → Int32} {x3 : Int32} (C0 : lw_At p s m meth c b L xs) (F : gFx s cy dC dI a d) (hcs : cells ≤ room_1.cells ∧ slots ≤ room_1.slots) (hL : L ≤ 384) (hi : i + 6 ≤ L) (h3 : x3 = nI i) (hl : lv_has ls 4 [(0, .ref b), (1, .ref (a 0)), (2, .ref (d 0)), (3, .int x3)]) (G : g2 s cy dC dI a d H locs) (kk : ∀ (H1 : Heap) (locs1 : List Loc), g2 s cy dC dI a d H1 locs1 → W p l e room_1 s m #[Value.ref b] below meth c H1 locs1 cells slots Q (F0 m 964 ls [])) : W p l e room_1 s m #[Value.ref b] below meth c H locs cells slots Q (F0 m 382 ls []) := by
  obtain ⟨hx, hb, hr, hml, hown, hts0, hX, hbl, hlocks, hgv⟩ := C0
  obtain ⟨hK, hia, hid, hFa, hFd, hdis, hE⟩ := F
  obtain ⟨I, M, J, N, hI, hJ, hT, hP, hR, hS⟩ := G
  have Sf : CallFix p m c code 4 s #[Value.ref b] fT R_law := ⟨hx, hb, hml, hown, fun w h => hts0 w (List.mem_filter.mp h).1⟩
  refine lv_aload_n (k := 1) (i := 1) (x := a 0) hx hb (by decide +kernel) rfl (lv_at hl 1 rfl) ?_
  refine g_call (k := 0) (vs := []) (rest := []) (n := 0) (ci := 10) Sf (mX11_readings hia) rfl kL_X11_readings (by decide +kernel) ⟨Nat.le_of_ble_eq_true rfl, Nat.le_of_ble_eq_true rfl⟩ hcs rfl (by decide) rfl hI (gE hE hFa hS) (fun U g mk a' h => (xE_c a).2 U g mk a' h) hP hK hS hFa hl.1 (Nat.le_of_ble_eq_true rfl) (by show decode code 383 = .ok (.invokevirtual 49, 3); decide +kernel) (fun r I1 M1 H1 locs hq hN hz hk hS => ?_)
  have hR := g_keepP hR hk (fun q h1 h2 => hdis q h2 h1)
  have hP := hN
  obtain ⟨x, rfl, hq⟩ : ∃ x : Int32, r = some (.int x) ∧ qX11_readings [.ref 0] I M (.int x) I1 M1 := by
    cases r with
    | none => exact False.elim hq
    | some v => cases v with
      | int x => exact ⟨x, rfl, hq⟩
      | _ => exact False.elim hq
  obtain ⟨zR, zO, zT, zS, zL, zf, zl⟩ := hq
  have hI1 : xAll I1 := ⟨zR, zO, zT, zS, zL⟩
  have hT1 : (I1 0 11).toInt = (I 0 11).toInt := congrArg Int32.toInt (congrFun (zf 0 rfl) 11)
  refine W.eq (g2 := F0 m 386 ls [.int x]) rfl ?_
  refine lv_pop hx hb (by decide +kernel) rfl ?_
  refine lv_aload_n (k := 2) (i := 2) (x := d 0) hx hb (by decide +kernel) rfl (lv_at hl 2 rfl) ?_
  refine g_call (k := 0) (vs := []) (rest := []) (n := 0) (ci := 11) Sf (mX12_readings hid) rfl kL_X12_readings (by decide +kernel) ⟨Nat.le_of_ble_eq_true rfl, Nat.le_of_ble_eq_true rfl⟩ hcs rfl (by decide) rfl hJ (fun _ _ _ => trivial) (fun _ _ _ _ _ => trivial) hR hK hS hFd hl.1 (Nat.le_of_ble_eq_true rfl) (by show decode code 388 = .ok (.invokevirtual 52, 3); decide +kernel) (fun r J1 N1 H1 locs hq hN hz hk hS => ?_)
  have hP := g_keepP hP hk hdis
  have hR := hN
  obtain ⟨y, rfl, hq⟩ : ∃ x : Int32, r = some (.int x) ∧ qX12_readings [.ref 0] J N (.int x) J1 N1 := by
    cases r with
    | none => exact False.elim hq
    | some v => cases v with
      | int x => exact ⟨x, rfl, hq⟩
      | _ => exact False.elim hq
  obtain ⟨zR, zL, zK, zW, zo, zf, zl⟩ := hq
  have hJ1 : mG J1 := ⟨zR, zL, zK, zW⟩
  have hT2 : (J1 0 84).toInt = (J 0 84).toInt := congrArg Int32.toInt (zo 84 rfl)
  refine W.eq (g2 := F0 m 391 ls [.int y]) rfl ?_
  refine lv_pop hx hb (by decide +kernel) rfl ?_
  refine lv_goto (off := 572) (tgt := 964) hx hb (by decide +kernel) (by decide) ?_
  exact kk _ _ ⟨I1, M1, J1, N1, hI1, hJ1, by omega, hP, hR, hS⟩
theorem kL_X11_chosen : ∀ w ∈ ([.methodLink R_law 53 yX11_chosen, .instanceMethod yX11_chosen, .selects yX11_chosen.cls yX11_chosen yX11_chosen, .initialized yX11_chosen.cls, .code yX11_chosen cX11_chosen 3 (f_rt 1)] : List Cond), w ∈ fT := f_pos [926, 927, 928, 1, 929] (by decide +kernel) (by decide +kernel)
theorem kL_X12_chosen : ∀ w ∈ ([.methodLink R_law 56 yX12_chosen, .instanceMethod yX12_chosen, .selects yX12_chosen.cls yX12_chosen yX12_chosen, .initialized yX12_chosen.cls, .code yX12_chosen cX12_chosen 3 (f_rt 1)] : List Cond), w ∈ fT := f_pos [1737, 1738, 1739, 13, 1740] (by decide +kernel) (by decide +kernel)
set_option maxHeartbeats 40000000 in
set_option maxRecDepth 100000 in
theorem lc_9 {p : Program} {l : Launch} {e : Env} {s : State} {m : MethodId} {below : List Frame} {meth : Method} {c : Code} {H : Heap} {locs : List Loc} {cells slots : Nat} {Q : State → Prop} {cy dC : Nat → ClassId} {dI : Nat → Nat → Nat} {a d : Nat → Nat} {ls : Array Slot} {b L i : Nat} {xs : Nat → Int32} {x3 : Int32} (C0 : lw_At p s m meth c b L xs) (F : gFx s cy dC dI a d) (hcs : cells ≤ room_1.cells ∧ slots ≤ room_1.slots) (hL : L ≤ 384) (hi : i + 6 ≤ L) (h3 : x3 = nI i) (hl : lv_has ls 4 [(0, .ref b), (1, .ref (a 0)), (2, .ref (d 0)), (3, .int x3)]) (G : g2 s cy dC dI a d H locs) (kk : ∀ (H1 : Heap) (locs1 : List Loc), g2 s cy dC dI a d H1 locs1 → W p l e room_1 s m #[Value.ref b] below meth c H1 locs1 cells slots Q (F0 m 964 ls [])) : W p l e room_1 s m #[Value.ref b] below meth c H locs cells slots Q (F0 m 395 ls []) := by
  obtain ⟨hx, hb, hr, hml, hown, hts0, hX, hbl, hlocks, hgv⟩ := C0
  obtain ⟨hK, hia, hid, hFa, hFd, hdis, hE⟩ := F
  obtain ⟨I, M, J, N, hI, hJ, hT, hP, hR, hS⟩ := G
  have Sf : CallFix p m c code 4 s #[Value.ref b] fT R_law := ⟨hx, hb, hml, hown, fun w h => hts0 w (List.mem_filter.mp h).1⟩
  refine lv_aload_n (k := 1) (i := 1) (x := a 0) hx hb (by decide +kernel) rfl (lv_at hl 1 rfl) ?_
  refine la_arg (j := 1) (jz := 1) hx hb hX hbl hS hl h3 hi hL (by decide) (by decide +kernel) (by decide +kernel) (by decide +kernel) (by decide +kernel) (by decide +kernel) (by decide +kernel) ?_
  refine la_arg (j := 2) (jz := 2) hx hb hX hbl hS hl h3 hi hL (by decide) (by decide +kernel) (by decide +kernel) (by decide +kernel) (by decide +kernel) (by decide +kernel) (by decide +kernel) ?_
  refine g_call (k := 0) (vs := [.int (xs (i + 1)), .int (xs (i + 2))]) (rest := []) (n := 2) (ci := 10) Sf (mX11_chosen hia) rfl kL_X11_chosen (by decide +kernel) ⟨Nat.le_of_ble_eq_true rfl, Nat.le_of_ble_eq_true rfl⟩ hcs rfl (by decide) rfl hI (gE hE hFa hS) (fun U g mk a' h => (xE_c a).2 U g mk a' h) hP hK hS hFa hl.1 (Nat.le_of_ble_eq_true rfl) (by show decode code 406 = .ok (.invokevirtual 53, 3); decide +kernel) (fun r I1 M1 H1 locs hq hN hz hk hS => ?_)
  have hR := g_keepP hR hk (fun q h1 h2 => hdis q h2 h1)
  have hP := hN
  obtain ⟨x, rfl, hq⟩ : ∃ x : Int32, r = some (.int x) ∧ qX11_chosen [.ref 0, .int (xs (i + 1)), .int (xs (i + 2))] I M (.int x) I1 M1 := by
    cases r with
    | none => exact False.elim hq
    | some v => cases v with
      | int x => exact ⟨x, rfl, hq⟩
      | _ => exact False.elim hq
  obtain ⟨zR, zO, zT, zS, zL, zf, zl⟩ := hq
  have hI1 : xAll I1 := ⟨zR, zO, zT, zS, zL⟩
  have hT1 : (I1 0 11).toInt = (I 0 11).toInt := congrArg Int32.toInt (congrFun (zf 0 rfl) 11)
  refine W.eq (g2 := F0 m 409 ls [.int x]) rfl ?_
  refine lv_pop hx hb (by decide +kernel) rfl ?_
  refine lv_aload_n (k := 2) (i := 2) (x := d 0) hx hb (by decide +kernel) rfl (lv_at hl 2 rfl) ?_
  refine la_arg (j := 1) (jz := 1) hx hb hX hbl hS hl h3 hi hL (by decide) (by decide +kernel) (by decide +kernel) (by decide +kernel) (by decide +kernel) (by decide +kernel) (by decide +kernel) ?_
  refine la_arg (j := 2) (jz := 2) hx hb hX hbl hS hl h3 hi hL (by decide) (by decide +kernel) (by decide +kernel) (by decide +kernel) (by decide +kernel) (by decide +kernel) (by decide +kernel) ?_
  refine g_call (k := 0) (vs := [.int (xs (i + 1)), .int (xs (i + 2))]) (rest := []) (n := 2) (ci := 11) Sf (mX12_chosen hid) rfl kL_X12_chosen (by decide +kernel) ⟨Nat.le_of_ble_eq_true rfl, Nat.le_of_ble_eq_true rfl⟩ hcs rfl (by decide) rfl hJ (fun _ _ _ => trivial) (fun _ _ _ _ _ => trivial) hR hK hS hFd hl.1 (Nat.le_of_ble_eq_true rfl) (by show decode code 421 = .ok (.invokevirtual 56, 3); decide +kernel) (fun r J1 N1 H1 locs hq hN hz hk hS => ?_)
  have hP := g_keepP hP hk hdis
  have hR := hN
  obtain ⟨y, rfl, hq⟩ : ∃ x : Int32, r = some (.int x) ∧ qX12_chosen [.ref 0, .int (xs (i + 1)), .int (xs (i + 2))] J N (.int x) J1 N1 := by
    cases r with
    | none => exact False.elim hq
    | some v => cases v with
      | int x => exact ⟨x, rfl, hq⟩
      | _ => exact False.elim hq
  obtain ⟨zR, zL, zK, zW, zo, zf, zl⟩ := hq
  have hJ1 : mG J1 := ⟨zR, zL, zK, zW⟩
  have hT2 : (J1 0 84).toInt = (J 0 84).toInt := congrArg Int32.toInt (zo 84 rfl)
  refine W.eq (g2 := F0 m 424 ls [.int y]) rfl ?_
  refine lv_pop hx hb (by decide +kernel) rfl ?_
  refine lv_goto (off := 539) (tgt := 964) hx hb (by decide +kernel) (by decide) ?_
  exact kk _ _ ⟨I1, M1, J1, N1, hI1, hJ1, by omega, hP, hR, hS⟩
theorem kL_X11_tied : ∀ w ∈ ([.methodLink R_law 57 yX11_tied, .instanceMethod yX11_tied, .selects yX11_tied.cls yX11_tied yX11_tied, .initialized yX11_tied.cls, .code yX11_tied cX11_tied 4 (f_rt 1)] : List Cond), w ∈ fT := f_pos [935, 936, 937, 1, 938] (by decide +kernel) (by decide +kernel)
theorem kL_X12_tied : ∀ w ∈ ([.methodLink R_law 60 yX12_tied, .instanceMethod yX12_tied, .selects yX12_tied.cls yX12_tied yX12_tied, .initialized yX12_tied.cls, .code yX12_tied cX12_tied 3 (f_rt 1)] : List Cond), w ∈ fT := f_pos [1745, 1746, 1747, 13, 1748] (by decide +kernel) (by decide +kernel)
set_option maxHeartbeats 40000000 in
set_option maxRecDepth 100000 in
theorem lc_10 {p : Program} {l : Launch} {e : Env} {s : State} {m : MethodId} {below : List Frame} {meth : Method} {c : Code} {H : Heap} {locs : List Loc} {cells slots : Nat} {Q : State → Prop} {cy dC : Nat → ClassId} {dI : Nat → Nat → Nat} {a d : Nat → Nat} {ls : Array Slot} {b L i : Nat} {xs : Nat → Int32} {x3 : Int32} (C0 : lw_At p s m meth c b L xs) (F : gFx s cy dC dI a d) (hcs : cells ≤ room_1.cells ∧ slots ≤ room_1.slots) (hL : L ≤ 384) (hi : i + 6 ≤ L) (h3 : x3 = nI i) (hl : lv_has ls 4 [(0, .ref b), (1, .ref (a 0)), (2, .ref (d 0)), (3, .int x3)]) (G : g2 s cy dC dI a d H locs) (kk : ∀ (H1 : Heap) (locs1 : List Loc), g2 s cy dC dI a d H1 locs1 → W p l e room_1 s m #[Value.ref b] below meth c H1 locs1 cells slots Q (F0 m 964 ls [])) : W p l e room_1 s m #[Value.ref b] below meth c H locs cells slots Q (F0 m 428 ls []) := by
  obtain ⟨hx, hb, hr, hml, hown, hts0, hX, hbl, hlocks, hgv⟩ := C0
  obtain ⟨hK, hia, hid, hFa, hFd, hdis, hE⟩ := F
  obtain ⟨I, M, J, N, hI, hJ, hT, hP, hR, hS⟩ := G
  have Sf : CallFix p m c code 4 s #[Value.ref b] fT R_law := ⟨hx, hb, hml, hown, fun w h => hts0 w (List.mem_filter.mp h).1⟩
  refine lv_aload_n (k := 1) (i := 1) (x := a 0) hx hb (by decide +kernel) rfl (lv_at hl 1 rfl) ?_
  refine la_arg (j := 1) (jz := 1) hx hb hX hbl hS hl h3 hi hL (by decide) (by decide +kernel) (by decide +kernel) (by decide +kernel) (by decide +kernel) (by decide +kernel) (by decide +kernel) ?_
  refine la_arg (j := 2) (jz := 2) hx hb hX hbl hS hl h3 hi hL (by decide) (by decide +kernel) (by decide +kernel) (by decide +kernel) (by decide +kernel) (by decide +kernel) (by decide +kernel) ?_
  refine g_call (k := 0) (vs := [.int (xs (i + 1)), .int (xs (i + 2))]) (rest := []) (n := 2) (ci := 10) Sf (mX11_tied hia) rfl kL_X11_tied (by decide +kernel) ⟨Nat.le_of_ble_eq_true rfl, Nat.le_of_ble_eq_true rfl⟩ hcs rfl (by decide) rfl hI (gE hE hFa hS) (fun U g mk a' h => (xE_c a).2 U g mk a' h) hP hK hS hFa hl.1 (Nat.le_of_ble_eq_true rfl) (by show decode code 439 = .ok (.invokevirtual 57, 3); decide +kernel) (fun r I1 M1 H1 locs hq hN hz hk hS => ?_)
  have hR := g_keepP hR hk (fun q h1 h2 => hdis q h2 h1)
  have hP := hN
  obtain ⟨x, rfl, hq⟩ : ∃ x : Int32, r = some (.int x) ∧ qX11_tied [.ref 0, .int (xs (i + 1)), .int (xs (i + 2))] I M (.int x) I1 M1 := by
    cases r with
    | none => exact False.elim hq
    | some v => cases v with
      | int x => exact ⟨x, rfl, hq⟩
      | _ => exact False.elim hq
  obtain ⟨zR, zO, zT, zS, zL, zf, zl⟩ := hq
  have hI1 : xAll I1 := ⟨zR, zO, zT, zS, zL⟩
  have hT1 : (I1 0 11).toInt = (I 0 11).toInt := congrArg Int32.toInt (congrFun (zf 0 rfl) 11)
  refine W.eq (g2 := F0 m 442 ls [.int x]) rfl ?_
  refine lv_pop hx hb (by decide +kernel) rfl ?_
  refine lv_aload_n (k := 2) (i := 2) (x := d 0) hx hb (by decide +kernel) rfl (lv_at hl 2 rfl) ?_
  refine la_arg (j := 1) (jz := 1) hx hb hX hbl hS hl h3 hi hL (by decide) (by decide +kernel) (by decide +kernel) (by decide +kernel) (by decide +kernel) (by decide +kernel) (by decide +kernel) ?_
  refine la_arg (j := 2) (jz := 2) hx hb hX hbl hS hl h3 hi hL (by decide) (by decide +kernel) (by decide +kernel) (by decide +kernel) (by decide +kernel) (by decide +kernel) (by decide +kernel) ?_
  refine g_call (k := 0) (vs := [.int (xs (i + 1)), .int (xs (i + 2))]) (rest := []) (n := 2) (ci := 11) Sf (mX12_tied hid) rfl kL_X12_tied (by decide +kernel) ⟨Nat.le_of_ble_eq_true rfl, Nat.le_of_ble_eq_true rfl⟩ hcs rfl (by decide) rfl hJ (fun _ _ _ => trivial) (fun _ _ _ _ _ => trivial) hR hK hS hFd hl.1 (Nat.le_of_ble_eq_true rfl) (by show decode code 454 = .ok (.invokevirtual 60, 3); decide +kernel) (fun r J1 N1 H1 locs hq hN hz hk hS => ?_)
  have hP := g_keepP hP hk hdis
  have hR := hN
  obtain ⟨y, rfl, hq⟩ : ∃ x : Int32, r = some (.int x) ∧ qX12_tied [.ref 0, .int (xs (i + 1)), .int (xs (i + 2))] J N (.int x) J1 N1 := by
    cases r with
    | none => exact False.elim hq
    | some v => cases v with
      | int x => exact ⟨x, rfl, hq⟩
      | _ => exact False.elim hq
  obtain ⟨zR, zL, zK, zW, zo, zf, zl⟩ := hq
  have hJ1 : mG J1 := ⟨zR, zL, zK, zW⟩
  have hT2 : (J1 0 84).toInt = (J 0 84).toInt := congrArg Int32.toInt (zo 84 rfl)
  refine W.eq (g2 := F0 m 457 ls [.int y]) rfl ?_
  refine lv_pop hx hb (by decide +kernel) rfl ?_
  refine lv_goto (off := 506) (tgt := 964) hx hb (by decide +kernel) (by decide) ?_
  exact kk _ _ ⟨I1, M1, J1, N1, hI1, hJ1, by omega, hP, hR, hS⟩
theorem kL_X11_meaning : ∀ w ∈ ([.methodLink R_law 61 yX11_meaning, .instanceMethod yX11_meaning, .selects yX11_meaning.cls yX11_meaning yX11_meaning, .initialized yX11_meaning.cls, .code yX11_meaning cX11_meaning 4 (f_rt 1)] : List Cond), w ∈ fT := f_pos [939, 940, 941, 1, 942] (by decide +kernel) (by decide +kernel)
theorem kL_X12_meaning : ∀ w ∈ ([.methodLink R_law 64 yX12_meaning, .instanceMethod yX12_meaning, .selects yX12_meaning.cls yX12_meaning yX12_meaning, .initialized yX12_meaning.cls, .code yX12_meaning cX12_meaning 3 (f_rt 1)] : List Cond), w ∈ fT := f_pos [1749, 1750, 1751, 13, 1752] (by decide +kernel) (by decide +kernel)
set_option maxHeartbeats 40000000 in
set_option maxRecDepth 100000 in
theorem lc_11 {p : Program} {l : Launch} {e : Env} {s : State} {m : MethodId} {below : List Frame} {meth : Method} {c : Code} {H : Heap} {locs : List Loc} {cells slots : Nat} {Q : State → Prop} {cy dC : Nat → ClassId} {dI : Nat → Nat → Nat} {a d : Nat → Nat} {ls : Array Slot} {b L i : Nat} {xs : Nat → Int32} {x3 : Int32} (C0 : lw_At p s m meth c b L xs) (F : gFx s cy dC dI a d) (hcs : cells ≤ room_1.cells ∧ slots ≤ room_1.slots) (hL : L ≤ 384) (hi : i + 6 ≤ L) (h3 : x3 = nI i) (hl : lv_has ls 4 [(0, .ref b), (1, .ref (a 0)), (2, .ref (d 0)), (3, .int x3)]) (G : g2 s cy dC dI a d H locs) (kk : ∀ (H1 : Heap) (locs1 : List Loc), g2 s cy dC dI a d H1 locs1 → W p l e room_1 s m #[Value.ref b] below meth c H1 locs1 cells slots Q (F0 m 964 ls [])) : W p l e room_1 s m #[Value.ref b] below meth c H locs cells slots Q (F0 m 461 ls []) := by
  obtain ⟨hx, hb, hr, hml, hown, hts0, hX, hbl, hlocks, hgv⟩ := C0
  obtain ⟨hK, hia, hid, hFa, hFd, hdis, hE⟩ := F
  obtain ⟨I, M, J, N, hI, hJ, hT, hP, hR, hS⟩ := G
  have Sf : CallFix p m c code 4 s #[Value.ref b] fT R_law := ⟨hx, hb, hml, hown, fun w h => hts0 w (List.mem_filter.mp h).1⟩
  refine lv_aload_n (k := 1) (i := 1) (x := a 0) hx hb (by decide +kernel) rfl (lv_at hl 1 rfl) ?_
  refine la_arg (j := 1) (jz := 1) hx hb hX hbl hS hl h3 hi hL (by decide) (by decide +kernel) (by decide +kernel) (by decide +kernel) (by decide +kernel) (by decide +kernel) (by decide +kernel) ?_
  refine la_arg (j := 2) (jz := 2) hx hb hX hbl hS hl h3 hi hL (by decide) (by decide +kernel) (by decide +kernel) (by decide +kernel) (by decide +kernel) (by decide +kernel) (by decide +kernel) ?_
  refine g_call (k := 0) (vs := [.int (xs (i + 1)), .int (xs (i + 2))]) (rest := []) (n := 2) (ci := 10) Sf (mX11_meaning hia) rfl kL_X11_meaning (by decide +kernel) ⟨Nat.le_of_ble_eq_true rfl, Nat.le_of_ble_eq_true rfl⟩ hcs rfl (by decide) rfl hI (gE hE hFa hS) (fun U g mk a' h => (xE_c a).2 U g mk a' h) hP hK hS hFa hl.1 (Nat.le_of_ble_eq_true rfl) (by show decode code 472 = .ok (.invokevirtual 61, 3); decide +kernel) (fun r I1 M1 H1 locs hq hN hz hk hS => ?_)
  have hR := g_keepP hR hk (fun q h1 h2 => hdis q h2 h1)
  have hP := hN
  obtain ⟨x, rfl, hq⟩ : ∃ x : Int32, r = some (.int x) ∧ qX11_meaning [.ref 0, .int (xs (i + 1)), .int (xs (i + 2))] I M (.int x) I1 M1 := by
    cases r with
    | none => exact False.elim hq
    | some v => cases v with
      | int x => exact ⟨x, rfl, hq⟩
      | _ => exact False.elim hq
  obtain ⟨zR, zO, zT, zS, zL, zf, zl⟩ := hq
  have hI1 : xAll I1 := ⟨zR, zO, zT, zS, zL⟩
  have hT1 : (I1 0 11).toInt = (I 0 11).toInt := congrArg Int32.toInt (congrFun (zf 0 rfl) 11)
  refine W.eq (g2 := F0 m 475 ls [.int x]) rfl ?_
  refine lv_pop hx hb (by decide +kernel) rfl ?_
  refine lv_aload_n (k := 2) (i := 2) (x := d 0) hx hb (by decide +kernel) rfl (lv_at hl 2 rfl) ?_
  refine la_arg (j := 1) (jz := 1) hx hb hX hbl hS hl h3 hi hL (by decide) (by decide +kernel) (by decide +kernel) (by decide +kernel) (by decide +kernel) (by decide +kernel) (by decide +kernel) ?_
  refine la_arg (j := 2) (jz := 2) hx hb hX hbl hS hl h3 hi hL (by decide) (by decide +kernel) (by decide +kernel) (by decide +kernel) (by decide +kernel) (by decide +kernel) (by decide +kernel) ?_
  refine g_call (k := 0) (vs := [.int (xs (i + 1)), .int (xs (i + 2))]) (rest := []) (n := 2) (ci := 11) Sf (mX12_meaning hid) rfl kL_X12_meaning (by decide +kernel) ⟨Nat.le_of_ble_eq_true rfl, Nat.le_of_ble_eq_true rfl⟩ hcs rfl (by decide) rfl hJ (fun _ _ _ => trivial) (fun _ _ _ _ _ => trivial) hR hK hS hFd hl.1 (Nat.le_of_ble_eq_true rfl) (by show decode code 487 = .ok (.invokevirtual 64, 3); decide +kernel) (fun r J1 N1 H1 locs hq hN hz hk hS => ?_)
  have hP := g_keepP hP hk hdis
  have hR := hN
  obtain ⟨y, rfl, hq⟩ : ∃ x : Int32, r = some (.int x) ∧ qX12_meaning [.ref 0, .int (xs (i + 1)), .int (xs (i + 2))] J N (.int x) J1 N1 := by
    cases r with
    | none => exact False.elim hq
    | some v => cases v with
      | int x => exact ⟨x, rfl, hq⟩
      | _ => exact False.elim hq
  obtain ⟨zR, zL, zK, zW, zo, zf, zl⟩ := hq
  have hJ1 : mG J1 := ⟨zR, zL, zK, zW⟩
  have hT2 : (J1 0 84).toInt = (J 0 84).toInt := congrArg Int32.toInt (zo 84 rfl)
  refine W.eq (g2 := F0 m 490 ls [.int y]) rfl ?_
  refine lv_pop hx hb (by decide +kernel) rfl ?_
  refine lv_goto (off := 473) (tgt := 964) hx hb (by decide +kernel) (by decide) ?_
  exact kk _ _ ⟨I1, M1, J1, N1, hI1, hJ1, by omega, hP, hR, hS⟩
theorem kL_X11_same : ∀ w ∈ ([.methodLink R_law 65 yX11_same, .instanceMethod yX11_same, .selects yX11_same.cls yX11_same yX11_same, .initialized yX11_same.cls, .code yX11_same cX11_same 2 (f_rt 1)] : List Cond), w ∈ fT := f_pos [943, 944, 945, 1, 946] (by decide +kernel) (by decide +kernel)
theorem kL_X12_same : ∀ w ∈ ([.methodLink R_law 68 yX12_same, .instanceMethod yX12_same, .selects yX12_same.cls yX12_same yX12_same, .initialized yX12_same.cls, .code yX12_same cX12_same 3 (f_rt 1)] : List Cond), w ∈ fT := f_pos [1753, 1754, 1755, 13, 1756] (by decide +kernel) (by decide +kernel)
set_option maxHeartbeats 40000000 in
set_option maxRecDepth 100000 in
theorem lc_12 {p : Program} {l : Launch} {e : Env} {s : State} {m : MethodId} {below : List Frame} {meth : Method} {c : Code} {H : Heap} {locs : List Loc} {cells slots : Nat} {Q : State → Prop} {cy dC : Nat → ClassId} {dI : Nat → Nat → Nat} {a d : Nat → Nat} {ls : Array Slot} {b L i : Nat} {xs : Nat → Int32} {x3 : Int32} (C0 : lw_At p s m meth c b L xs) (F : gFx s cy dC dI a d) (hcs : cells ≤ room_1.cells ∧ slots ≤ room_1.slots) (hL : L ≤ 384) (hi : i + 6 ≤ L) (h3 : x3 = nI i) (hl : lv_has ls 4 [(0, .ref b), (1, .ref (a 0)), (2, .ref (d 0)), (3, .int x3)]) (G : g2 s cy dC dI a d H locs) (kk : ∀ (H1 : Heap) (locs1 : List Loc), g2 s cy dC dI a d H1 locs1 → W p l e room_1 s m #[Value.ref b] below meth c H1 locs1 cells slots Q (F0 m 964 ls [])) : W p l e room_1 s m #[Value.ref b] below meth c H locs cells slots Q (F0 m 494 ls []) := by
  obtain ⟨hx, hb, hr, hml, hown, hts0, hX, hbl, hlocks, hgv⟩ := C0
  obtain ⟨hK, hia, hid, hFa, hFd, hdis, hE⟩ := F
  obtain ⟨I, M, J, N, hI, hJ, hT, hP, hR, hS⟩ := G
  have Sf : CallFix p m c code 4 s #[Value.ref b] fT R_law := ⟨hx, hb, hml, hown, fun w h => hts0 w (List.mem_filter.mp h).1⟩
  refine lv_aload_n (k := 1) (i := 1) (x := a 0) hx hb (by decide +kernel) rfl (lv_at hl 1 rfl) ?_
  refine la_arg (j := 1) (jz := 1) hx hb hX hbl hS hl h3 hi hL (by decide) (by decide +kernel) (by decide +kernel) (by decide +kernel) (by decide +kernel) (by decide +kernel) (by decide +kernel) ?_
  refine g_call (k := 0) (vs := [.int (xs (i + 1))]) (rest := []) (n := 1) (ci := 10) Sf (mX11_same hia) rfl kL_X11_same (by decide +kernel) ⟨Nat.le_of_ble_eq_true rfl, Nat.le_of_ble_eq_true rfl⟩ hcs rfl (by decide) rfl hI (gE hE hFa hS) (fun U g mk a' h => (xE_c a).2 U g mk a' h) hP hK hS hFa hl.1 (Nat.le_of_ble_eq_true rfl) (by show decode code 500 = .ok (.invokevirtual 65, 3); decide +kernel) (fun r I1 M1 H1 locs hq hN hz hk hS => ?_)
  have hR := g_keepP hR hk (fun q h1 h2 => hdis q h2 h1)
  have hP := hN
  obtain ⟨x, rfl, hq⟩ : ∃ x : Int32, r = some (.int x) ∧ qX11_same [.ref 0, .int (xs (i + 1))] I M (.int x) I1 M1 := by
    cases r with
    | none => exact False.elim hq
    | some v => cases v with
      | int x => exact ⟨x, rfl, hq⟩
      | _ => exact False.elim hq
  obtain ⟨zR, zO, zT, zS, zL, zf, zl⟩ := hq
  have hI1 : xAll I1 := ⟨zR, zO, zT, zS, zL⟩
  have hT1 : (I1 0 11).toInt = (I 0 11).toInt := congrArg Int32.toInt (congrFun (zf 0 rfl) 11)
  refine W.eq (g2 := F0 m 503 ls [.int x]) rfl ?_
  refine lv_pop hx hb (by decide +kernel) rfl ?_
  refine lv_aload_n (k := 2) (i := 2) (x := d 0) hx hb (by decide +kernel) rfl (lv_at hl 2 rfl) ?_
  refine la_arg (j := 1) (jz := 1) hx hb hX hbl hS hl h3 hi hL (by decide) (by decide +kernel) (by decide +kernel) (by decide +kernel) (by decide +kernel) (by decide +kernel) (by decide +kernel) ?_
  refine g_call (k := 0) (vs := [.int (xs (i + 1))]) (rest := []) (n := 1) (ci := 11) Sf (mX12_same hid) rfl kL_X12_same (by decide +kernel) ⟨Nat.le_of_ble_eq_true rfl, Nat.le_of_ble_eq_true rfl⟩ hcs rfl (by decide) rfl hJ (fun _ _ _ => trivial) (fun _ _ _ _ _ => trivial) hR hK hS hFd hl.1 (Nat.le_of_ble_eq_true rfl) (by show decode code 510 = .ok (.invokevirtual 68, 3); decide +kernel) (fun r J1 N1 H1 locs hq hN hz hk hS => ?_)
  have hP := g_keepP hP hk hdis
  have hR := hN
  obtain ⟨y, rfl, hq⟩ : ∃ x : Int32, r = some (.int x) ∧ qX12_same [.ref 0, .int (xs (i + 1))] J N (.int x) J1 N1 := by
    cases r with
    | none => exact False.elim hq
    | some v => cases v with
      | int x => exact ⟨x, rfl, hq⟩
      | _ => exact False.elim hq
  obtain ⟨zR, zL, zK, zW, zo, zf, zl⟩ := hq
  have hJ1 : mG J1 := ⟨zR, zL, zK, zW⟩
  have hT2 : (J1 0 84).toInt = (J 0 84).toInt := congrArg Int32.toInt (zo 84 rfl)
  refine W.eq (g2 := F0 m 513 ls [.int y]) rfl ?_
  refine lv_pop hx hb (by decide +kernel) rfl ?_
  refine lv_goto (off := 450) (tgt := 964) hx hb (by decide +kernel) (by decide) ?_
  exact kk _ _ ⟨I1, M1, J1, N1, hI1, hJ1, by omega, hP, hR, hS⟩
theorem kL_X11_even : ∀ w ∈ ([.methodLink R_law 69 yX11_even, .instanceMethod yX11_even, .selects yX11_even.cls yX11_even yX11_even, .initialized yX11_even.cls, .code yX11_even cX11_even 1 (f_rt 1)] : List Cond), w ∈ fT := f_pos [955, 956, 957, 1, 958] (by decide +kernel) (by decide +kernel)
theorem kL_X12_even : ∀ w ∈ ([.methodLink R_law 72 yX12_even, .instanceMethod yX12_even, .selects yX12_even.cls yX12_even yX12_even, .initialized yX12_even.cls, .code yX12_even cX12_even 3 (f_rt 1)] : List Cond), w ∈ fT := f_pos [1765, 1766, 1767, 13, 1768] (by decide +kernel) (by decide +kernel)
set_option maxHeartbeats 40000000 in
set_option maxRecDepth 100000 in
theorem lc_13 {p : Program} {l : Launch} {e : Env} {s : State} {m : MethodId} {below : List Frame} {meth : Method} {c : Code} {H : Heap} {locs : List Loc} {cells slots : Nat} {Q : State → Prop} {cy dC : Nat → ClassId} {dI : Nat → Nat → Nat} {a d : Nat → Nat} {ls : Array Slot} {b L i : Nat} {xs : Nat → Int32} {x3 : Int32} (C0 : lw_At p s m meth c b L xs) (F : gFx s cy dC dI a d) (hcs : cells ≤ room_1.cells ∧ slots ≤ room_1.slots) (hL : L ≤ 384) (hi : i + 6 ≤ L) (h3 : x3 = nI i) (hl : lv_has ls 4 [(0, .ref b), (1, .ref (a 0)), (2, .ref (d 0)), (3, .int x3)]) (G : g2 s cy dC dI a d H locs) (kk : ∀ (H1 : Heap) (locs1 : List Loc), g2 s cy dC dI a d H1 locs1 → W p l e room_1 s m #[Value.ref b] below meth c H1 locs1 cells slots Q (F0 m 964 ls [])) : W p l e room_1 s m #[Value.ref b] below meth c H locs cells slots Q (F0 m 517 ls []) := by
  obtain ⟨hx, hb, hr, hml, hown, hts0, hX, hbl, hlocks, hgv⟩ := C0
  obtain ⟨hK, hia, hid, hFa, hFd, hdis, hE⟩ := F
  obtain ⟨I, M, J, N, hI, hJ, hT, hP, hR, hS⟩ := G
  have Sf : CallFix p m c code 4 s #[Value.ref b] fT R_law := ⟨hx, hb, hml, hown, fun w h => hts0 w (List.mem_filter.mp h).1⟩
  refine lv_aload_n (k := 1) (i := 1) (x := a 0) hx hb (by decide +kernel) rfl (lv_at hl 1 rfl) ?_
  refine g_call (k := 0) (vs := []) (rest := []) (n := 0) (ci := 10) Sf (mX11_even hia) rfl kL_X11_even (by decide +kernel) ⟨Nat.le_of_ble_eq_true rfl, Nat.le_of_ble_eq_true rfl⟩ hcs rfl (by decide) rfl hI (gE hE hFa hS) (fun U g mk a' h => (xE_c a).2 U g mk a' h) hP hK hS hFa hl.1 (Nat.le_of_ble_eq_true rfl) (by show decode code 518 = .ok (.invokevirtual 69, 3); decide +kernel) (fun r I1 M1 H1 locs hq hN hz hk hS => ?_)
  have hR := g_keepP hR hk (fun q h1 h2 => hdis q h2 h1)
  have hP := hN
  obtain ⟨x, rfl, hq⟩ : ∃ x : Int32, r = some (.int x) ∧ qX11_even [.ref 0] I M (.int x) I1 M1 := by
    cases r with
    | none => exact False.elim hq
    | some v => cases v with
      | int x => exact ⟨x, rfl, hq⟩
      | _ => exact False.elim hq
  obtain ⟨zR, zO, zT, zS, zL, zf, zl⟩ := hq
  have hI1 : xAll I1 := ⟨zR, zO, zT, zS, zL⟩
  have hT1 : (I1 0 11).toInt = (I 0 11).toInt := congrArg Int32.toInt (congrFun (zf 0 rfl) 11)
  refine W.eq (g2 := F0 m 521 ls [.int x]) rfl ?_
  refine lv_pop hx hb (by decide +kernel) rfl ?_
  refine lv_aload_n (k := 2) (i := 2) (x := d 0) hx hb (by decide +kernel) rfl (lv_at hl 2 rfl) ?_
  refine g_call (k := 0) (vs := []) (rest := []) (n := 0) (ci := 11) Sf (mX12_even hid) rfl kL_X12_even (by decide +kernel) ⟨Nat.le_of_ble_eq_true rfl, Nat.le_of_ble_eq_true rfl⟩ hcs rfl (by decide) rfl hJ (fun _ _ _ => trivial) (fun _ _ _ _ _ => trivial) hR hK hS hFd hl.1 (Nat.le_of_ble_eq_true rfl) (by show decode code 523 = .ok (.invokevirtual 72, 3); decide +kernel) (fun r J1 N1 H1 locs hq hN hz hk hS => ?_)
  have hP := g_keepP hP hk hdis
  have hR := hN
  obtain ⟨y, rfl, hq⟩ : ∃ x : Int32, r = some (.int x) ∧ qX12_even [.ref 0] J N (.int x) J1 N1 := by
    cases r with
    | none => exact False.elim hq
    | some v => cases v with
      | int x => exact ⟨x, rfl, hq⟩
      | _ => exact False.elim hq
  obtain ⟨zR, zL, zK, zW, zo, zf, zl⟩ := hq
  have hJ1 : mG J1 := ⟨zR, zL, zK, zW⟩
  have hT2 : (J1 0 84).toInt = (J 0 84).toInt := congrArg Int32.toInt (zo 84 rfl)
  refine W.eq (g2 := F0 m 526 ls [.int y]) rfl ?_
  refine lv_pop hx hb (by decide +kernel) rfl ?_
  refine lv_goto (off := 437) (tgt := 964) hx hb (by decide +kernel) (by decide) ?_
  exact kk _ _ ⟨I1, M1, J1, N1, hI1, hJ1, by omega, hP, hR, hS⟩
theorem kL_X11_lost : ∀ w ∈ ([.methodLink R_law 73 yX11_lost, .instanceMethod yX11_lost, .selects yX11_lost.cls yX11_lost yX11_lost, .initialized yX11_lost.cls, .code yX11_lost cX11_lost 1 (f_rt 1)] : List Cond), w ∈ fT := f_pos [968, 969, 970, 1, 971] (by decide +kernel) (by decide +kernel)
theorem kL_X12_lost : ∀ w ∈ ([.methodLink R_law 76 yX12_lost, .instanceMethod yX12_lost, .selects yX12_lost.cls yX12_lost yX12_lost, .initialized yX12_lost.cls, .code yX12_lost cX12_lost 4 (f_rt 1)] : List Cond), w ∈ fT := f_pos [1773, 1774, 1775, 13, 1776] (by decide +kernel) (by decide +kernel)
set_option maxHeartbeats 40000000 in
set_option maxRecDepth 100000 in
theorem lc_14 {p : Program} {l : Launch} {e : Env} {s : State} {m : MethodId} {below : List Frame} {meth : Method} {c : Code} {H : Heap} {locs : List Loc} {cells slots : Nat} {Q : State → Prop} {cy dC : Nat → ClassId} {dI : Nat → Nat → Nat} {a d : Nat → Nat} {ls : Array Slot} {b L i : Nat} {xs : Nat → Int32} {x3 : Int32} (C0 : lw_At p s m meth c b L xs) (F : gFx s cy dC dI a d) (hcs : cells ≤ room_1.cells ∧ slots ≤ room_1.slots) (hL : L ≤ 384) (hi : i + 6 ≤ L) (h3 : x3 = nI i) (hl : lv_has ls 4 [(0, .ref b), (1, .ref (a 0)), (2, .ref (d 0)), (3, .int x3)]) (G : g2 s cy dC dI a d H locs) (kk : ∀ (H1 : Heap) (locs1 : List Loc), g2 s cy dC dI a d H1 locs1 → W p l e room_1 s m #[Value.ref b] below meth c H1 locs1 cells slots Q (F0 m 964 ls [])) : W p l e room_1 s m #[Value.ref b] below meth c H locs cells slots Q (F0 m 530 ls []) := by
  obtain ⟨hx, hb, hr, hml, hown, hts0, hX, hbl, hlocks, hgv⟩ := C0
  obtain ⟨hK, hia, hid, hFa, hFd, hdis, hE⟩ := F
  obtain ⟨I, M, J, N, hI, hJ, hT, hP, hR, hS⟩ := G
  have Sf : CallFix p m c code 4 s #[Value.ref b] fT R_law := ⟨hx, hb, hml, hown, fun w h => hts0 w (List.mem_filter.mp h).1⟩
  refine lv_aload_n (k := 1) (i := 1) (x := a 0) hx hb (by decide +kernel) rfl (lv_at hl 1 rfl) ?_
  refine g_call (k := 0) (vs := []) (rest := []) (n := 0) (ci := 10) Sf (mX11_lost hia) rfl kL_X11_lost (by decide +kernel) ⟨Nat.le_of_ble_eq_true rfl, Nat.le_of_ble_eq_true rfl⟩ hcs rfl (by decide) rfl hI (gE hE hFa hS) (fun U g mk a' h => (xE_c a).2 U g mk a' h) hP hK hS hFa hl.1 (Nat.le_of_ble_eq_true rfl) (by show decode code 531 = .ok (.invokevirtual 73, 3); decide +kernel) (fun r I1 M1 H1 locs hq hN hz hk hS => ?_)
  have hR := g_keepP hR hk (fun q h1 h2 => hdis q h2 h1)
  have hP := hN
  obtain ⟨x, rfl, hq⟩ : ∃ x : Int32, r = some (.int x) ∧ qX11_lost [.ref 0] I M (.int x) I1 M1 := by
    cases r with
    | none => exact False.elim hq
    | some v => cases v with
      | int x => exact ⟨x, rfl, hq⟩
      | _ => exact False.elim hq
  obtain ⟨zR, zO, zT, zS, zL, zf, zl⟩ := hq
  have hI1 : xAll I1 := ⟨zR, zO, zT, zS, zL⟩
  have hT1 : (I1 0 11).toInt = (I 0 11).toInt := congrArg Int32.toInt (congrFun (zf 0 rfl) 11)
  refine W.eq (g2 := F0 m 534 ls [.int x]) rfl ?_
  refine lv_pop hx hb (by decide +kernel) rfl ?_
  refine lv_aload_n (k := 2) (i := 2) (x := d 0) hx hb (by decide +kernel) rfl (lv_at hl 2 rfl) ?_
  refine g_call (k := 0) (vs := []) (rest := []) (n := 0) (ci := 11) Sf (mX12_lost hid) rfl kL_X12_lost (by decide +kernel) ⟨Nat.le_of_ble_eq_true rfl, Nat.le_of_ble_eq_true rfl⟩ hcs rfl (by decide) rfl hJ (fun _ _ _ => trivial) (fun _ _ _ _ _ => trivial) hR hK hS hFd hl.1 (Nat.le_of_ble_eq_true rfl) (by show decode code 536 = .ok (.invokevirtual 76, 3); decide +kernel) (fun r J1 N1 H1 locs hq hN hz hk hS => ?_)
  have hP := g_keepP hP hk hdis
  have hR := hN
  obtain ⟨y, rfl, hq⟩ : ∃ x : Int32, r = some (.int x) ∧ qX12_lost [.ref 0] J N (.int x) J1 N1 := by
    cases r with
    | none => exact False.elim hq
    | some v => cases v with
      | int x => exact ⟨x, rfl, hq⟩
      | _ => exact False.elim hq
  obtain ⟨zR, zL, zK, zW, zo, zf, zl⟩ := hq
  have hJ1 : mG J1 := ⟨zR, zL, zK, zW⟩
  have hT2 : (J1 0 84).toInt = (J 0 84).toInt := congrArg Int32.toInt (zo 84 rfl)
  refine W.eq (g2 := F0 m 539 ls [.int y]) rfl ?_
  refine lv_pop hx hb (by decide +kernel) rfl ?_
  refine lv_goto (off := 424) (tgt := 964) hx hb (by decide +kernel) (by decide) ?_
  exact kk _ _ ⟨I1, M1, J1, N1, hI1, hJ1, by omega, hP, hR, hS⟩
theorem kL_X11_mended : ∀ w ∈ ([.methodLink R_law 77 yX11_mended, .instanceMethod yX11_mended, .selects yX11_mended.cls yX11_mended yX11_mended, .initialized yX11_mended.cls, .code yX11_mended cX11_mended 2 (f_rt 1)] : List Cond), w ∈ fT := f_pos [993, 994, 995, 1, 996] (by decide +kernel) (by decide +kernel)
theorem kL_X12_mended : ∀ w ∈ ([.methodLink R_law 80 yX12_mended, .instanceMethod yX12_mended, .selects yX12_mended.cls yX12_mended yX12_mended, .initialized yX12_mended.cls, .code yX12_mended cX12_mended 6 (f_rt 1)] : List Cond), w ∈ fT := f_pos [1784, 1785, 1786, 13, 1787] (by decide +kernel) (by decide +kernel)
set_option maxHeartbeats 40000000 in
set_option maxRecDepth 100000 in
theorem lc_15 {p : Program} {l : Launch} {e : Env} {s : State} {m : MethodId} {below : List Frame} {meth : Method} {c : Code} {H : Heap} {locs : List Loc} {cells slots : Nat} {Q : State → Prop} {cy dC : Nat → ClassId} {dI : Nat → Nat → Nat} {a d : Nat → Nat} {ls : Array Slot} {b L i : Nat} {xs : Nat → Int32} {x3 : Int32} (C0 : lw_At p s m meth c b L xs) (F : gFx s cy dC dI a d) (hcs : cells ≤ room_1.cells ∧ slots ≤ room_1.slots) (hL : L ≤ 384) (hi : i + 6 ≤ L) (h3 : x3 = nI i) (hl : lv_has ls 4 [(0, .ref b), (1, .ref (a 0)), (2, .ref (d 0)), (3, .int x3)]) (G : g2 s cy dC dI a d H locs) (kk : ∀ (H1 : Heap) (locs1 : List Loc), g2 s cy dC dI a d H1 locs1 → W p l e room_1 s m #[Value.ref b] below meth c H1 locs1 cells slots Q (F0 m 964 ls [])) : W p l e room_1 s m #[Value.ref b] below meth c H locs cells slots Q (F0 m 543 ls []) := by
  obtain ⟨hx, hb, hr, hml, hown, hts0, hX, hbl, hlocks, hgv⟩ := C0
  obtain ⟨hK, hia, hid, hFa, hFd, hdis, hE⟩ := F
  obtain ⟨I, M, J, N, hI, hJ, hT, hP, hR, hS⟩ := G
  have Sf : CallFix p m c code 4 s #[Value.ref b] fT R_law := ⟨hx, hb, hml, hown, fun w h => hts0 w (List.mem_filter.mp h).1⟩
  refine lv_aload_n (k := 1) (i := 1) (x := a 0) hx hb (by decide +kernel) rfl (lv_at hl 1 rfl) ?_
  refine la_arg (j := 1) (jz := 1) hx hb hX hbl hS hl h3 hi hL (by decide) (by decide +kernel) (by decide +kernel) (by decide +kernel) (by decide +kernel) (by decide +kernel) (by decide +kernel) ?_
  refine g_call (k := 0) (vs := [.int (xs (i + 1))]) (rest := []) (n := 1) (ci := 10) Sf (mX11_mended hia) rfl kL_X11_mended (by decide +kernel) ⟨Nat.le_of_ble_eq_true rfl, Nat.le_of_ble_eq_true rfl⟩ hcs rfl (by decide) rfl hI (gE hE hFa hS) (fun U g mk a' h => (xE_c a).2 U g mk a' h) hP hK hS hFa hl.1 (Nat.le_of_ble_eq_true rfl) (by show decode code 549 = .ok (.invokevirtual 77, 3); decide +kernel) (fun r I1 M1 H1 locs hq hN hz hk hS => ?_)
  have hR := g_keepP hR hk (fun q h1 h2 => hdis q h2 h1)
  have hP := hN
  obtain ⟨x, rfl, hq⟩ : ∃ x : Int32, r = some (.int x) ∧ qX11_mended [.ref 0, .int (xs (i + 1))] I M (.int x) I1 M1 := by
    cases r with
    | none => exact False.elim hq
    | some v => cases v with
      | int x => exact ⟨x, rfl, hq⟩
      | _ => exact False.elim hq
  obtain ⟨zR, zO, zT, zS, zL, zf, zl⟩ := hq
  have hI1 : xAll I1 := ⟨zR, zO, zT, zS, zL⟩
  have hT1 : (I1 0 11).toInt = (I 0 11).toInt := congrArg Int32.toInt (congrFun (zf 0 rfl) 11)
  refine W.eq (g2 := F0 m 552 ls [.int x]) rfl ?_
  refine lv_pop hx hb (by decide +kernel) rfl ?_
  refine lv_aload_n (k := 2) (i := 2) (x := d 0) hx hb (by decide +kernel) rfl (lv_at hl 2 rfl) ?_
  refine la_arg (j := 1) (jz := 1) hx hb hX hbl hS hl h3 hi hL (by decide) (by decide +kernel) (by decide +kernel) (by decide +kernel) (by decide +kernel) (by decide +kernel) (by decide +kernel) ?_
  refine g_call (k := 0) (vs := [.int (xs (i + 1))]) (rest := []) (n := 1) (ci := 11) Sf (mX12_mended hid) rfl kL_X12_mended (by decide +kernel) ⟨Nat.le_of_ble_eq_true rfl, Nat.le_of_ble_eq_true rfl⟩ hcs rfl (by decide) rfl hJ (fun _ _ _ => trivial) (fun _ _ _ _ _ => trivial) hR hK hS hFd hl.1 (Nat.le_of_ble_eq_true rfl) (by show decode code 559 = .ok (.invokevirtual 80, 3); decide +kernel) (fun r J1 N1 H1 locs hq hN hz hk hS => ?_)
  have hP := g_keepP hP hk hdis
  have hR := hN
  obtain ⟨y, rfl, hq⟩ : ∃ x : Int32, r = some (.int x) ∧ qX12_mended [.ref 0, .int (xs (i + 1))] J N (.int x) J1 N1 := by
    cases r with
    | none => exact False.elim hq
    | some v => cases v with
      | int x => exact ⟨x, rfl, hq⟩
      | _ => exact False.elim hq
  obtain ⟨zR, zL, zK, zW, zo, zf, zl⟩ := hq
  have hJ1 : mG J1 := ⟨zR, zL, zK, zW⟩
  have hT2 : (J1 0 84).toInt = (J 0 84).toInt := congrArg Int32.toInt (zo 84 rfl)
  refine W.eq (g2 := F0 m 562 ls [.int y]) rfl ?_
  refine lv_pop hx hb (by decide +kernel) rfl ?_
  refine lv_goto (off := 401) (tgt := 964) hx hb (by decide +kernel) (by decide) ?_
  exact kk _ _ ⟨I1, M1, J1, N1, hI1, hJ1, by omega, hP, hR, hS⟩
theorem kL_X11_could : ∀ w ∈ ([.methodLink R_law 81 yX11_could, .instanceMethod yX11_could, .selects yX11_could.cls yX11_could yX11_could, .initialized yX11_could.cls, .code yX11_could cX11_could 4 (f_rt 1)] : List Cond), w ∈ fT := f_pos [1015, 1016, 1017, 1, 1018] (by decide +kernel) (by decide +kernel)
theorem kL_X12_could : ∀ w ∈ ([.methodLink R_law 85 yX12_could, .instanceMethod yX12_could, .selects yX12_could.cls yX12_could yX12_could, .initialized yX12_could.cls, .code yX12_could cX12_could 7 (f_rt 1)] : List Cond), w ∈ fT := f_pos [1796, 1797, 1798, 13, 1799] (by decide +kernel) (by decide +kernel)
set_option maxHeartbeats 40000000 in
set_option maxRecDepth 100000 in
theorem lc_16 {p : Program} {l : Launch} {e : Env} {s : State} {m : MethodId} {below : List Frame} {meth : Method} {c : Code} {H : Heap} {locs : List Loc} {cells slots : Nat} {Q : State → Prop} {cy dC : Nat → ClassId} {dI : Nat → Nat → Nat} {a d : Nat → Nat} {ls : Array Slot} {b L i : Nat} {xs : Nat → Int32} {x3 : Int32} (C0 : lw_At p s m meth c b L xs) (F : gFx s cy dC dI a d) (hcs : cells ≤ room_1.cells ∧ slots ≤ room_1.slots) (hL : L ≤ 384) (hi : i + 6 ≤ L) (h3 : x3 = nI i) (hl : lv_has ls 4 [(0, .ref b), (1, .ref (a 0)), (2, .ref (d 0)), (3, .int x3)]) (G : g2 s cy dC dI a d H locs) (kk : ∀ (H1 : Heap) (locs1 : List Loc), g2 s cy dC dI a d H1 locs1 → W p l e room_1 s m #[Value.ref b] below meth c H1 locs1 cells slots Q (F0 m 964 ls [])) : W p l e room_1 s m #[Value.ref b] below meth c H locs cells slots Q (F0 m 566 ls []) := by
  obtain ⟨hx, hb, hr, hml, hown, hts0, hX, hbl, hlocks, hgv⟩ := C0
  obtain ⟨hK, hia, hid, hFa, hFd, hdis, hE⟩ := F
  obtain ⟨I, M, J, N, hI, hJ, hT, hP, hR, hS⟩ := G
  have Sf : CallFix p m c code 4 s #[Value.ref b] fT R_law := ⟨hx, hb, hml, hown, fun w h => hts0 w (List.mem_filter.mp h).1⟩
  refine lv_aload_n (k := 1) (i := 1) (x := a 0) hx hb (by decide +kernel) rfl (lv_at hl 1 rfl) ?_
  refine la_arg (j := 1) (jz := 1) hx hb hX hbl hS hl h3 hi hL (by decide) (by decide +kernel) (by decide +kernel) (by decide +kernel) (by decide +kernel) (by decide +kernel) (by decide +kernel) ?_
  refine la_arg (j := 2) (jz := 2) hx hb hX hbl hS hl h3 hi hL (by decide) (by decide +kernel) (by decide +kernel) (by decide +kernel) (by decide +kernel) (by decide +kernel) (by decide +kernel) ?_
  refine la_arg (j := 3) (jz := 3) hx hb hX hbl hS hl h3 hi hL (by decide) (by decide +kernel) (by decide +kernel) (by decide +kernel) (by decide +kernel) (by decide +kernel) (by decide +kernel) ?_
  refine g_call (k := 0) (vs := [.int (xs (i + 1)), .int (xs (i + 2)), .int (xs (i + 3))]) (rest := []) (n := 3) (ci := 10) Sf (mX11_could hia) rfl kL_X11_could (by decide +kernel) ⟨Nat.le_of_ble_eq_true rfl, Nat.le_of_ble_eq_true rfl⟩ hcs rfl (by decide) rfl hI (gE hE hFa hS) (fun U g mk a' h => (xE_c a).2 U g mk a' h) hP hK hS hFa hl.1 (Nat.le_of_ble_eq_true rfl) (by show decode code 582 = .ok (.invokevirtual 81, 3); decide +kernel) (fun r I1 M1 H1 locs hq hN hz hk hS => ?_)
  have hR := g_keepP hR hk (fun q h1 h2 => hdis q h2 h1)
  have hP := hN
  obtain ⟨x, rfl, hq⟩ : ∃ x : Int32, r = some (.int x) ∧ qX11_could [.ref 0, .int (xs (i + 1)), .int (xs (i + 2)), .int (xs (i + 3))] I M (.int x) I1 M1 := by
    cases r with
    | none => exact False.elim hq
    | some v => cases v with
      | int x => exact ⟨x, rfl, hq⟩
      | _ => exact False.elim hq
  obtain ⟨zR, zO, zT, zS, zL, zf, zl⟩ := hq
  have hI1 : xAll I1 := ⟨zR, zO, zT, zS, zL⟩
  have hT1 : (I1 0 11).toInt = (I 0 11).toInt := congrArg Int32.toInt (congrFun (zf 0 rfl) 11)
  refine W.eq (g2 := F0 m 585 ls [.int x]) rfl ?_
  refine lv_pop hx hb (by decide +kernel) rfl ?_
  refine lv_aload_n (k := 2) (i := 2) (x := d 0) hx hb (by decide +kernel) rfl (lv_at hl 2 rfl) ?_
  refine la_arg (j := 1) (jz := 1) hx hb hX hbl hS hl h3 hi hL (by decide) (by decide +kernel) (by decide +kernel) (by decide +kernel) (by decide +kernel) (by decide +kernel) (by decide +kernel) ?_
  refine la_arg (j := 2) (jz := 2) hx hb hX hbl hS hl h3 hi hL (by decide) (by decide +kernel) (by decide +kernel) (by decide +kernel) (by decide +kernel) (by decide +kernel) (by decide +kernel) ?_
  refine la_arg (j := 3) (jz := 3) hx hb hX hbl hS hl h3 hi hL (by decide) (by decide +kernel) (by decide +kernel) (by decide +kernel) (by decide +kernel) (by decide +kernel) (by decide +kernel) ?_
  refine g_call (k := 0) (vs := [.int (xs (i + 1)), .int (xs (i + 2)), .int (xs (i + 3))]) (rest := []) (n := 3) (ci := 11) Sf (mX12_could hid) rfl kL_X12_could (by decide +kernel) ⟨Nat.le_of_ble_eq_true rfl, Nat.le_of_ble_eq_true rfl⟩ hcs rfl (by decide) rfl hJ (fun _ _ _ => trivial) (fun _ _ _ _ _ => trivial) hR hK hS hFd hl.1 (Nat.le_of_ble_eq_true rfl) (by show decode code 602 = .ok (.invokevirtual 85, 3); decide +kernel) (fun r J1 N1 H1 locs hq hN hz hk hS => ?_)
  have hP := g_keepP hP hk hdis
  have hR := hN
  obtain ⟨y, rfl, hq⟩ : ∃ x : Int32, r = some (.int x) ∧ qX12_could [.ref 0, .int (xs (i + 1)), .int (xs (i + 2)), .int (xs (i + 3))] J N (.int x) J1 N1 := by
    cases r with
    | none => exact False.elim hq
    | some v => cases v with
      | int x => exact ⟨x, rfl, hq⟩
      | _ => exact False.elim hq
  obtain ⟨zR, zL, zK, zW, zo, zf, zl⟩ := hq
  have hJ1 : mG J1 := ⟨zR, zL, zK, zW⟩
  have hT2 : (J1 0 84).toInt = (J 0 84).toInt := congrArg Int32.toInt (zo 84 rfl)
  refine W.eq (g2 := F0 m 605 ls [.int y]) rfl ?_
  refine lv_pop hx hb (by decide +kernel) rfl ?_
  refine lv_goto (off := 358) (tgt := 964) hx hb (by decide +kernel) (by decide) ?_
  exact kk _ _ ⟨I1, M1, J1, N1, hI1, hJ1, by omega, hP, hR, hS⟩
theorem kL_X11_span : ∀ w ∈ ([.methodLink R_law 86 yX11_span, .instanceMethod yX11_span, .selects yX11_span.cls yX11_span yX11_span, .initialized yX11_span.cls, .code yX11_span cX11_span 4 (f_rt 1)] : List Cond), w ∈ fT := f_pos [1039, 1040, 1041, 1, 1042] (by decide +kernel) (by decide +kernel)
theorem kL_X12_span : ∀ w ∈ ([.methodLink R_law 89 yX12_span, .instanceMethod yX12_span, .selects yX12_span.cls yX12_span yX12_span, .initialized yX12_span.cls, .code yX12_span cX12_span 5 (f_rt 1)] : List Cond), w ∈ fT := f_pos [1804, 1805, 1806, 13, 1807] (by decide +kernel) (by decide +kernel)
set_option maxHeartbeats 40000000 in
set_option maxRecDepth 100000 in
theorem lc_17 {p : Program} {l : Launch} {e : Env} {s : State} {m : MethodId} {below : List Frame} {meth : Method} {c : Code} {H : Heap} {locs : List Loc} {cells slots : Nat} {Q : State → Prop} {cy dC : Nat → ClassId} {dI : Nat → Nat → Nat} {a d : Nat → Nat} {ls : Array Slot} {b L i : Nat} {xs : Nat → Int32} {x3 : Int32} (C0 : lw_At p s m meth c b L xs) (F : gFx s cy dC dI a d) (hcs : cells ≤ room_1.cells ∧ slots ≤ room_1.slots) (hL : L ≤ 384) (hi : i + 6 ≤ L) (h3 : x3 = nI i) (hl : lv_has ls 4 [(0, .ref b), (1, .ref (a 0)), (2, .ref (d 0)), (3, .int x3)]) (G : g2 s cy dC dI a d H locs) (kk : ∀ (H1 : Heap) (locs1 : List Loc), g2 s cy dC dI a d H1 locs1 → W p l e room_1 s m #[Value.ref b] below meth c H1 locs1 cells slots Q (F0 m 964 ls [])) : W p l e room_1 s m #[Value.ref b] below meth c H locs cells slots Q (F0 m 609 ls []) := by
  obtain ⟨hx, hb, hr, hml, hown, hts0, hX, hbl, hlocks, hgv⟩ := C0
  obtain ⟨hK, hia, hid, hFa, hFd, hdis, hE⟩ := F
  obtain ⟨I, M, J, N, hI, hJ, hT, hP, hR, hS⟩ := G
  have Sf : CallFix p m c code 4 s #[Value.ref b] fT R_law := ⟨hx, hb, hml, hown, fun w h => hts0 w (List.mem_filter.mp h).1⟩
  refine lv_aload_n (k := 1) (i := 1) (x := a 0) hx hb (by decide +kernel) rfl (lv_at hl 1 rfl) ?_
  refine la_arg (j := 1) (jz := 1) hx hb hX hbl hS hl h3 hi hL (by decide) (by decide +kernel) (by decide +kernel) (by decide +kernel) (by decide +kernel) (by decide +kernel) (by decide +kernel) ?_
  refine la_arg (j := 2) (jz := 2) hx hb hX hbl hS hl h3 hi hL (by decide) (by decide +kernel) (by decide +kernel) (by decide +kernel) (by decide +kernel) (by decide +kernel) (by decide +kernel) ?_
  refine la_arg (j := 3) (jz := 3) hx hb hX hbl hS hl h3 hi hL (by decide) (by decide +kernel) (by decide +kernel) (by decide +kernel) (by decide +kernel) (by decide +kernel) (by decide +kernel) ?_
  refine g_call (k := 0) (vs := [.int (xs (i + 1)), .int (xs (i + 2)), .int (xs (i + 3))]) (rest := []) (n := 3) (ci := 10) Sf (mX11_span hia) rfl kL_X11_span (by decide +kernel) ⟨Nat.le_of_ble_eq_true rfl, Nat.le_of_ble_eq_true rfl⟩ hcs rfl (by decide) rfl hI (gE hE hFa hS) (fun U g mk a' h => (xE_c a).2 U g mk a' h) hP hK hS hFa hl.1 (Nat.le_of_ble_eq_true rfl) (by show decode code 625 = .ok (.invokevirtual 86, 3); decide +kernel) (fun r I1 M1 H1 locs hq hN hz hk hS => ?_)
  have hR := g_keepP hR hk (fun q h1 h2 => hdis q h2 h1)
  have hP := hN
  obtain ⟨x, rfl, hq⟩ : ∃ x : Int32, r = some (.int x) ∧ qX11_span [.ref 0, .int (xs (i + 1)), .int (xs (i + 2)), .int (xs (i + 3))] I M (.int x) I1 M1 := by
    cases r with
    | none => exact False.elim hq
    | some v => cases v with
      | int x => exact ⟨x, rfl, hq⟩
      | _ => exact False.elim hq
  obtain ⟨zR, zO, zT, zS, zL, zf, zl⟩ := hq
  have hI1 : xAll I1 := ⟨zR, zO, zT, zS, zL⟩
  have hT1 : (I1 0 11).toInt = (I 0 11).toInt := congrArg Int32.toInt (congrFun (zf 0 rfl) 11)
  refine W.eq (g2 := F0 m 628 ls [.int x]) rfl ?_
  refine lv_pop hx hb (by decide +kernel) rfl ?_
  refine lv_aload_n (k := 2) (i := 2) (x := d 0) hx hb (by decide +kernel) rfl (lv_at hl 2 rfl) ?_
  refine la_arg (j := 1) (jz := 1) hx hb hX hbl hS hl h3 hi hL (by decide) (by decide +kernel) (by decide +kernel) (by decide +kernel) (by decide +kernel) (by decide +kernel) (by decide +kernel) ?_
  refine la_arg (j := 2) (jz := 2) hx hb hX hbl hS hl h3 hi hL (by decide) (by decide +kernel) (by decide +kernel) (by decide +kernel) (by decide +kernel) (by decide +kernel) (by decide +kernel) ?_
  refine la_arg (j := 3) (jz := 3) hx hb hX hbl hS hl h3 hi hL (by decide) (by decide +kernel) (by decide +kernel) (by decide +kernel) (by decide +kernel) (by decide +kernel) (by decide +kernel) ?_
  refine g_call (k := 0) (vs := [.int (xs (i + 1)), .int (xs (i + 2)), .int (xs (i + 3))]) (rest := []) (n := 3) (ci := 11) Sf (mX12_span hid) rfl kL_X12_span (by decide +kernel) ⟨Nat.le_of_ble_eq_true rfl, Nat.le_of_ble_eq_true rfl⟩ hcs rfl (by decide) rfl hJ (fun _ _ _ => trivial) (fun _ _ _ _ _ => trivial) hR hK hS hFd hl.1 (Nat.le_of_ble_eq_true rfl) (by show decode code 645 = .ok (.invokevirtual 89, 3); decide +kernel) (fun r J1 N1 H1 locs hq hN hz hk hS => ?_)
  have hP := g_keepP hP hk hdis
  have hR := hN
  obtain ⟨y, rfl, hq⟩ : ∃ x : Int32, r = some (.int x) ∧ qX12_span [.ref 0, .int (xs (i + 1)), .int (xs (i + 2)), .int (xs (i + 3))] J N (.int x) J1 N1 := by
    cases r with
    | none => exact False.elim hq
    | some v => cases v with
      | int x => exact ⟨x, rfl, hq⟩
      | _ => exact False.elim hq
  obtain ⟨zR, zL, zK, zW, zo, zf, zl⟩ := hq
  have hJ1 : mG J1 := ⟨zR, zL, zK, zW⟩
  have hT2 : (J1 0 84).toInt = (J 0 84).toInt := congrArg Int32.toInt (zo 84 rfl)
  refine W.eq (g2 := F0 m 648 ls [.int y]) rfl ?_
  refine lv_pop hx hb (by decide +kernel) rfl ?_
  refine lv_goto (off := 315) (tgt := 964) hx hb (by decide +kernel) (by decide) ?_
  exact kk _ _ ⟨I1, M1, J1, N1, hI1, hJ1, by omega, hP, hR, hS⟩
theorem kL_X11_added : ∀ w ∈ ([.methodLink R_law 90 yX11_added, .instanceMethod yX11_added, .selects yX11_added.cls yX11_added yX11_added, .initialized yX11_added.cls, .code yX11_added cX11_added 2 (f_rt 1)] : List Cond), w ∈ fT := f_pos [1047, 1048, 1049, 1, 1050] (by decide +kernel) (by decide +kernel)
theorem kL_X12_added : ∀ w ∈ ([.methodLink R_law 93 yX12_added, .instanceMethod yX12_added, .selects yX12_added.cls yX12_added yX12_added, .initialized yX12_added.cls, .code yX12_added cX12_added 4 (f_rt 1)] : List Cond), w ∈ fT := f_pos [1812, 1813, 1814, 13, 1815] (by decide +kernel) (by decide +kernel)
set_option maxHeartbeats 40000000 in
set_option maxRecDepth 100000 in
theorem lc_18 {p : Program} {l : Launch} {e : Env} {s : State} {m : MethodId} {below : List Frame} {meth : Method} {c : Code} {H : Heap} {locs : List Loc} {cells slots : Nat} {Q : State → Prop} {cy dC : Nat → ClassId} {dI : Nat → Nat → Nat} {a d : Nat → Nat} {ls : Array Slot} {b L i : Nat} {xs : Nat → Int32} {x3 : Int32} (C0 : lw_At p s m meth c b L xs) (F : gFx s cy dC dI a d) (hcs : cells ≤ room_1.cells ∧ slots ≤ room_1.slots) (hL : L ≤ 384) (hi : i + 6 ≤ L) (h3 : x3 = nI i) (hl : lv_has ls 4 [(0, .ref b), (1, .ref (a 0)), (2, .ref (d 0)), (3, .int x3)]) (G : g2 s cy dC dI a d H locs) (kk : ∀ (H1 : Heap) (locs1 : List Loc), g2 s cy dC dI a d H1 locs1 → W p l e room_1 s m #[Value.ref b] below meth c H1 locs1 cells slots Q (F0 m 964 ls [])) : W p l e room_1 s m #[Value.ref b] below meth c H locs cells slots Q (F0 m 652 ls []) := by
  obtain ⟨hx, hb, hr, hml, hown, hts0, hX, hbl, hlocks, hgv⟩ := C0
  obtain ⟨hK, hia, hid, hFa, hFd, hdis, hE⟩ := F
  obtain ⟨I, M, J, N, hI, hJ, hT, hP, hR, hS⟩ := G
  have Sf : CallFix p m c code 4 s #[Value.ref b] fT R_law := ⟨hx, hb, hml, hown, fun w h => hts0 w (List.mem_filter.mp h).1⟩
  refine lv_aload_n (k := 1) (i := 1) (x := a 0) hx hb (by decide +kernel) rfl (lv_at hl 1 rfl) ?_
  refine la_arg (j := 1) (jz := 1) hx hb hX hbl hS hl h3 hi hL (by decide) (by decide +kernel) (by decide +kernel) (by decide +kernel) (by decide +kernel) (by decide +kernel) (by decide +kernel) ?_
  refine g_call (k := 0) (vs := [.int (xs (i + 1))]) (rest := []) (n := 1) (ci := 10) Sf (mX11_added hia) rfl kL_X11_added (by decide +kernel) ⟨Nat.le_of_ble_eq_true rfl, Nat.le_of_ble_eq_true rfl⟩ hcs rfl (by decide) rfl hI (gE hE hFa hS) (fun U g mk a' h => (xE_c a).2 U g mk a' h) hP hK hS hFa hl.1 (Nat.le_of_ble_eq_true rfl) (by show decode code 658 = .ok (.invokevirtual 90, 3); decide +kernel) (fun r I1 M1 H1 locs hq hN hz hk hS => ?_)
  have hR := g_keepP hR hk (fun q h1 h2 => hdis q h2 h1)
  have hP := hN
  obtain ⟨x, rfl, hq⟩ : ∃ x : Int32, r = some (.int x) ∧ qX11_added [.ref 0, .int (xs (i + 1))] I M (.int x) I1 M1 := by
    cases r with
    | none => exact False.elim hq
    | some v => cases v with
      | int x => exact ⟨x, rfl, hq⟩
      | _ => exact False.elim hq
  obtain ⟨zR, zO, zT, zS, zL, zf, zl⟩ := hq
  have hI1 : xAll I1 := ⟨zR, zO, zT, zS, zL⟩
  have hT1 : (I1 0 11).toInt = (I 0 11).toInt := congrArg Int32.toInt (congrFun (zf 0 rfl) 11)
  refine W.eq (g2 := F0 m 661 ls [.int x]) rfl ?_
  refine lv_pop hx hb (by decide +kernel) rfl ?_
  refine lv_aload_n (k := 2) (i := 2) (x := d 0) hx hb (by decide +kernel) rfl (lv_at hl 2 rfl) ?_
  refine la_arg (j := 1) (jz := 1) hx hb hX hbl hS hl h3 hi hL (by decide) (by decide +kernel) (by decide +kernel) (by decide +kernel) (by decide +kernel) (by decide +kernel) (by decide +kernel) ?_
  refine g_call (k := 0) (vs := [.int (xs (i + 1))]) (rest := []) (n := 1) (ci := 11) Sf (mX12_added hid) rfl kL_X12_added (by decide +kernel) ⟨Nat.le_of_ble_eq_true rfl, Nat.le_of_ble_eq_true rfl⟩ hcs rfl (by decide) rfl hJ (fun _ _ _ => trivial) (fun _ _ _ _ _ => trivial) hR hK hS hFd hl.1 (Nat.le_of_ble_eq_true rfl) (by show decode code 668 = .ok (.invokevirtual 93, 3); decide +kernel) (fun r J1 N1 H1 locs hq hN hz hk hS => ?_)
  have hP := g_keepP hP hk hdis
  have hR := hN
  obtain ⟨y, rfl, hq⟩ : ∃ x : Int32, r = some (.int x) ∧ qX12_added [.ref 0, .int (xs (i + 1))] J N (.int x) J1 N1 := by
    cases r with
    | none => exact False.elim hq
    | some v => cases v with
      | int x => exact ⟨x, rfl, hq⟩
      | _ => exact False.elim hq
  obtain ⟨zR, zL, zK, zW, zo, zf, zl⟩ := hq
  have hJ1 : mG J1 := ⟨zR, zL, zK, zW⟩
  have hT2 : (J1 0 84).toInt = (J 0 84).toInt := congrArg Int32.toInt (zo 84 rfl)
  refine W.eq (g2 := F0 m 671 ls [.int y]) rfl ?_
  refine lv_pop hx hb (by decide +kernel) rfl ?_
  refine lv_goto (off := 292) (tgt := 964) hx hb (by decide +kernel) (by decide) ?_
  exact kk _ _ ⟨I1, M1, J1, N1, hI1, hJ1, by omega, hP, hR, hS⟩
theorem kL_X11_inPlace : ∀ w ∈ ([.methodLink R_law 94 yX11_inPlace, .instanceMethod yX11_inPlace, .selects yX11_inPlace.cls yX11_inPlace yX11_inPlace, .initialized yX11_inPlace.cls, .code yX11_inPlace cX11_inPlace 2 (f_rt 1)] : List Cond), w ∈ fT := f_pos [1085, 1086, 1087, 1, 1088] (by decide +kernel) (by decide +kernel)
theorem kL_X12_inPlace : ∀ w ∈ ([.methodLink R_law 97 yX12_inPlace, .instanceMethod yX12_inPlace, .selects yX12_inPlace.cls yX12_inPlace yX12_inPlace, .initialized yX12_inPlace.cls, .code yX12_inPlace cX12_inPlace 4 (f_rt 1)] : List Cond), w ∈ fT := f_pos [1808, 1809, 1810, 13, 1811] (by decide +kernel) (by decide +kernel)
set_option maxHeartbeats 40000000 in
set_option maxRecDepth 100000 in
theorem lc_19 {p : Program} {l : Launch} {e : Env} {s : State} {m : MethodId} {below : List Frame} {meth : Method} {c : Code} {H : Heap} {locs : List Loc} {cells slots : Nat} {Q : State → Prop} {cy dC : Nat → ClassId} {dI : Nat → Nat → Nat} {a d : Nat → Nat} {ls : Array Slot} {b L i : Nat} {xs : Nat → Int32} {x3 : Int32} (C0 : lw_At p s m meth c b L xs) (F : gFx s cy dC dI a d) (hcs : cells ≤ room_1.cells ∧ slots ≤ room_1.slots) (hL : L ≤ 384) (hi : i + 6 ≤ L) (h3 : x3 = nI i) (hl : lv_has ls 4 [(0, .ref b), (1, .ref (a 0)), (2, .ref (d 0)), (3, .int x3)]) (G : g2 s cy dC dI a d H locs) (kk : ∀ (H1 : Heap) (locs1 : List Loc), g2 s cy dC dI a d H1 locs1 → W p l e room_1 s m #[Value.ref b] below meth c H1 locs1 cells slots Q (F0 m 964 ls [])) : W p l e room_1 s m #[Value.ref b] below meth c H locs cells slots Q (F0 m 675 ls []) := by
  obtain ⟨hx, hb, hr, hml, hown, hts0, hX, hbl, hlocks, hgv⟩ := C0
  obtain ⟨hK, hia, hid, hFa, hFd, hdis, hE⟩ := F
  obtain ⟨I, M, J, N, hI, hJ, hT, hP, hR, hS⟩ := G
  have Sf : CallFix p m c code 4 s #[Value.ref b] fT R_law := ⟨hx, hb, hml, hown, fun w h => hts0 w (List.mem_filter.mp h).1⟩
  refine lv_aload_n (k := 1) (i := 1) (x := a 0) hx hb (by decide +kernel) rfl (lv_at hl 1 rfl) ?_
  refine la_arg (j := 1) (jz := 1) hx hb hX hbl hS hl h3 hi hL (by decide) (by decide +kernel) (by decide +kernel) (by decide +kernel) (by decide +kernel) (by decide +kernel) (by decide +kernel) ?_
  refine g_call (k := 0) (vs := [.int (xs (i + 1))]) (rest := []) (n := 1) (ci := 10) Sf (mX11_inPlace hia) rfl kL_X11_inPlace (by decide +kernel) ⟨Nat.le_of_ble_eq_true rfl, Nat.le_of_ble_eq_true rfl⟩ hcs rfl (by decide) rfl hI (gE hE hFa hS) (fun U g mk a' h => (xE_c a).2 U g mk a' h) hP hK hS hFa hl.1 (Nat.le_of_ble_eq_true rfl) (by show decode code 681 = .ok (.invokevirtual 94, 3); decide +kernel) (fun r I1 M1 H1 locs hq hN hz hk hS => ?_)
  have hR := g_keepP hR hk (fun q h1 h2 => hdis q h2 h1)
  have hP := hN
  obtain ⟨x, rfl, hq⟩ : ∃ x : Int32, r = some (.int x) ∧ qX11_inPlace [.ref 0, .int (xs (i + 1))] I M (.int x) I1 M1 := by
    cases r with
    | none => exact False.elim hq
    | some v => cases v with
      | int x => exact ⟨x, rfl, hq⟩
      | _ => exact False.elim hq
  obtain ⟨zR, zO, zT, zS, zL, zf, zl⟩ := hq
  have hI1 : xAll I1 := ⟨zR, zO, zT, zS, zL⟩
  have hT1 : (I1 0 11).toInt = (I 0 11).toInt := congrArg Int32.toInt (congrFun (zf 0 rfl) 11)
  refine W.eq (g2 := F0 m 684 ls [.int x]) rfl ?_
  refine lv_pop hx hb (by decide +kernel) rfl ?_
  refine lv_aload_n (k := 2) (i := 2) (x := d 0) hx hb (by decide +kernel) rfl (lv_at hl 2 rfl) ?_
  refine la_arg (j := 1) (jz := 1) hx hb hX hbl hS hl h3 hi hL (by decide) (by decide +kernel) (by decide +kernel) (by decide +kernel) (by decide +kernel) (by decide +kernel) (by decide +kernel) ?_
  refine g_call (k := 0) (vs := [.int (xs (i + 1))]) (rest := []) (n := 1) (ci := 11) Sf (mX12_inPlace hid) rfl kL_X12_inPlace (by decide +kernel) ⟨Nat.le_of_ble_eq_true rfl, Nat.le_of_ble_eq_true rfl⟩ hcs rfl (by decide) rfl hJ (fun _ _ _ => trivial) (fun _ _ _ _ _ => trivial) hR hK hS hFd hl.1 (Nat.le_of_ble_eq_true rfl) (by show decode code 691 = .ok (.invokevirtual 97, 3); decide +kernel) (fun r J1 N1 H1 locs hq hN hz hk hS => ?_)
  have hP := g_keepP hP hk hdis
  have hR := hN
  obtain ⟨y, rfl, hq⟩ : ∃ x : Int32, r = some (.int x) ∧ qX12_inPlace [.ref 0, .int (xs (i + 1))] J N (.int x) J1 N1 := by
    cases r with
    | none => exact False.elim hq
    | some v => cases v with
      | int x => exact ⟨x, rfl, hq⟩
      | _ => exact False.elim hq
  obtain ⟨zR, zL, zK, zW, zo, zf, zl⟩ := hq
  have hJ1 : mG J1 := ⟨zR, zL, zK, zW⟩
  have hT2 : (J1 0 84).toInt = (J 0 84).toInt := congrArg Int32.toInt (zo 84 rfl)
  refine W.eq (g2 := F0 m 694 ls [.int y]) rfl ?_
  refine lv_pop hx hb (by decide +kernel) rfl ?_
  refine lv_goto (off := 269) (tgt := 964) hx hb (by decide +kernel) (by decide) ?_
  exact kk _ _ ⟨I1, M1, J1, N1, hI1, hJ1, by omega, hP, hR, hS⟩
theorem kL_X11_lacks : ∀ w ∈ ([.methodLink R_law 98 yX11_lacks, .instanceMethod yX11_lacks, .selects yX11_lacks.cls yX11_lacks yX11_lacks, .initialized yX11_lacks.cls, .code yX11_lacks cX11_lacks 5 (f_rt 1)] : List Cond), w ∈ fT := f_pos [1094, 1095, 1096, 1, 1097] (by decide +kernel) (by decide +kernel)
theorem kL_X12_lacks : ∀ w ∈ ([.methodLink R_law 101 yX12_lacks, .instanceMethod yX12_lacks, .selects yX12_lacks.cls yX12_lacks yX12_lacks, .initialized yX12_lacks.cls, .code yX12_lacks cX12_lacks 7 (f_rt 1)] : List Cond), w ∈ fT := f_pos [1769, 1770, 1771, 13, 1772] (by decide +kernel) (by decide +kernel)
set_option maxHeartbeats 40000000 in
set_option maxRecDepth 100000 in
theorem lc_20 {p : Program} {l : Launch} {e : Env} {s : State} {m : MethodId} {below : List Frame} {meth : Method} {c : Code} {H : Heap} {locs : List Loc} {cells slots : Nat} {Q : State → Prop} {cy dC : Nat → ClassId} {dI : Nat → Nat → Nat} {a d : Nat → Nat} {ls : Array Slot} {b L i : Nat} {xs : Nat → Int32} {x3 : Int32} (C0 : lw_At p s m meth c b L xs) (F : gFx s cy dC dI a d) (hcs : cells ≤ room_1.cells ∧ slots ≤ room_1.slots) (hL : L ≤ 384) (hi : i + 6 ≤ L) (h3 : x3 = nI i) (hl : lv_has ls 4 [(0, .ref b), (1, .ref (a 0)), (2, .ref (d 0)), (3, .int x3)]) (G : g2 s cy dC dI a d H locs) (kk : ∀ (H1 : Heap) (locs1 : List Loc), g2 s cy dC dI a d H1 locs1 → W p l e room_1 s m #[Value.ref b] below meth c H1 locs1 cells slots Q (F0 m 964 ls [])) : W p l e room_1 s m #[Value.ref b] below meth c H locs cells slots Q (F0 m 698 ls []) := by
  obtain ⟨hx, hb, hr, hml, hown, hts0, hX, hbl, hlocks, hgv⟩ := C0
  obtain ⟨hK, hia, hid, hFa, hFd, hdis, hE⟩ := F
  obtain ⟨I, M, J, N, hI, hJ, hT, hP, hR, hS⟩ := G
  have Sf : CallFix p m c code 4 s #[Value.ref b] fT R_law := ⟨hx, hb, hml, hown, fun w h => hts0 w (List.mem_filter.mp h).1⟩
  refine lv_aload_n (k := 1) (i := 1) (x := a 0) hx hb (by decide +kernel) rfl (lv_at hl 1 rfl) ?_
  refine la_arg (j := 1) (jz := 1) hx hb hX hbl hS hl h3 hi hL (by decide) (by decide +kernel) (by decide +kernel) (by decide +kernel) (by decide +kernel) (by decide +kernel) (by decide +kernel) ?_
  refine g_call (k := 0) (vs := [.int (xs (i + 1))]) (rest := []) (n := 1) (ci := 10) Sf (mX11_lacks hia) rfl kL_X11_lacks (by decide +kernel) ⟨Nat.le_of_ble_eq_true rfl, Nat.le_of_ble_eq_true rfl⟩ hcs rfl (by decide) rfl ⟨hI.1, hI.2.2.2.2⟩ (gE hE hFa hS) (fun U g mk a' h => (xE_c a).2 U g mk a' h) hP hK hS hFa hl.1 (Nat.le_of_ble_eq_true rfl) (by show decode code 704 = .ok (.invokevirtual 98, 3); decide +kernel) (fun r I1 M1 H1 locs hq hN hz hk hS => ?_)
  have hR := g_keepP hR hk (fun q h1 h2 => hdis q h2 h1)
  have hP := hN
  obtain ⟨x, rfl, hq⟩ : ∃ x : Int32, r = some (.int x) ∧ qX11_lacks [.ref 0, .int (xs (i + 1))] I M (.int x) I1 M1 := by
    cases r with
    | none => exact False.elim hq
    | some v => cases v with
      | int x => exact ⟨x, rfl, hq⟩
      | _ => exact False.elim hq
  obtain ⟨ze, zl⟩ := hq
  have hI1 : xAll I1 := by rw [ze]; exact hI
  have hT1 : (I1 0 11).toInt = (I 0 11).toInt := by rw [ze]
  refine W.eq (g2 := F0 m 707 ls [.int x]) rfl ?_
  refine lv_pop hx hb (by decide +kernel) rfl ?_
  refine lv_aload_n (k := 2) (i := 2) (x := d 0) hx hb (by decide +kernel) rfl (lv_at hl 2 rfl) ?_
  refine la_arg (j := 1) (jz := 1) hx hb hX hbl hS hl h3 hi hL (by decide) (by decide +kernel) (by decide +kernel) (by decide +kernel) (by decide +kernel) (by decide +kernel) (by decide +kernel) ?_
  refine g_call (k := 0) (vs := [.int (xs (i + 1))]) (rest := []) (n := 1) (ci := 11) Sf (mX12_lacks hid) rfl kL_X12_lacks (by decide +kernel) ⟨Nat.le_of_ble_eq_true rfl, Nat.le_of_ble_eq_true rfl⟩ hcs rfl (by decide) rfl hJ (fun _ _ _ => trivial) (fun _ _ _ _ _ => trivial) hR hK hS hFd hl.1 (Nat.le_of_ble_eq_true rfl) (by show decode code 714 = .ok (.invokevirtual 101, 3); decide +kernel) (fun r J1 N1 H1 locs hq hN hz hk hS => ?_)
  have hP := g_keepP hP hk hdis
  have hR := hN
  obtain ⟨y, rfl, hq⟩ : ∃ x : Int32, r = some (.int x) ∧ qX12_lacks [.ref 0, .int (xs (i + 1))] J N (.int x) J1 N1 := by
    cases r with
    | none => exact False.elim hq
    | some v => cases v with
      | int x => exact ⟨x, rfl, hq⟩
      | _ => exact False.elim hq
  obtain ⟨zR, zL, zK, zW, zo, zf, zl⟩ := hq
  have hJ1 : mG J1 := ⟨zR, zL, zK, zW⟩
  have hT2 : (J1 0 84).toInt = (J 0 84).toInt := congrArg Int32.toInt (zo 84 rfl)
  refine W.eq (g2 := F0 m 717 ls [.int y]) rfl ?_
  refine lv_pop hx hb (by decide +kernel) rfl ?_
  refine lv_goto (off := 246) (tgt := 964) hx hb (by decide +kernel) (by decide) ?_
  exact kk _ _ ⟨I1, M1, J1, N1, hI1, hJ1, by omega, hP, hR, hS⟩
theorem kL_X11_over : ∀ w ∈ ([.methodLink R_law 102 yX11_over, .instanceMethod yX11_over, .selects yX11_over.cls yX11_over yX11_over, .initialized yX11_over.cls, .code yX11_over cX11_over 3 (f_rt 1)] : List Cond), w ∈ fT := f_pos [1100, 1101, 1102, 1, 1103] (by decide +kernel) (by decide +kernel)
theorem kL_X12_over : ∀ w ∈ ([.methodLink R_law 105 yX12_over, .instanceMethod yX12_over, .selects yX12_over.cls yX12_over yX12_over, .initialized yX12_over.cls, .code yX12_over cX12_over 3 (f_rt 1)] : List Cond), w ∈ fT := f_pos [1761, 1762, 1763, 13, 1764] (by decide +kernel) (by decide +kernel)
set_option maxHeartbeats 40000000 in
set_option maxRecDepth 100000 in
theorem lc_21 {p : Program} {l : Launch} {e : Env} {s : State} {m : MethodId} {below : List Frame} {meth : Method} {c : Code} {H : Heap} {locs : List Loc} {cells slots : Nat} {Q : State → Prop} {cy dC : Nat → ClassId} {dI : Nat → Nat → Nat} {a d : Nat → Nat} {ls : Array Slot} {b L i : Nat} {xs : Nat → Int32} {x3 : Int32} (C0 : lw_At p s m meth c b L xs) (F : gFx s cy dC dI a d) (hcs : cells ≤ room_1.cells ∧ slots ≤ room_1.slots) (hL : L ≤ 384) (hi : i + 6 ≤ L) (h3 : x3 = nI i) (hl : lv_has ls 4 [(0, .ref b), (1, .ref (a 0)), (2, .ref (d 0)), (3, .int x3)]) (G : g2 s cy dC dI a d H locs) (kk : ∀ (H1 : Heap) (locs1 : List Loc), g2 s cy dC dI a d H1 locs1 → W p l e room_1 s m #[Value.ref b] below meth c H1 locs1 cells slots Q (F0 m 964 ls [])) : W p l e room_1 s m #[Value.ref b] below meth c H locs cells slots Q (F0 m 721 ls []) := by
  obtain ⟨hx, hb, hr, hml, hown, hts0, hX, hbl, hlocks, hgv⟩ := C0
  obtain ⟨hK, hia, hid, hFa, hFd, hdis, hE⟩ := F
  obtain ⟨I, M, J, N, hI, hJ, hT, hP, hR, hS⟩ := G
  have Sf : CallFix p m c code 4 s #[Value.ref b] fT R_law := ⟨hx, hb, hml, hown, fun w h => hts0 w (List.mem_filter.mp h).1⟩
  refine lv_aload_n (k := 1) (i := 1) (x := a 0) hx hb (by decide +kernel) rfl (lv_at hl 1 rfl) ?_
  refine la_arg (j := 1) (jz := 1) hx hb hX hbl hS hl h3 hi hL (by decide) (by decide +kernel) (by decide +kernel) (by decide +kernel) (by decide +kernel) (by decide +kernel) (by decide +kernel) ?_
  refine la_arg (j := 2) (jz := 2) hx hb hX hbl hS hl h3 hi hL (by decide) (by decide +kernel) (by decide +kernel) (by decide +kernel) (by decide +kernel) (by decide +kernel) (by decide +kernel) ?_
  refine g_call (k := 0) (vs := [.int (xs (i + 1)), .int (xs (i + 2))]) (rest := []) (n := 2) (ci := 10) Sf (mX11_over hia) rfl kL_X11_over (by decide +kernel) ⟨Nat.le_of_ble_eq_true rfl, Nat.le_of_ble_eq_true rfl⟩ hcs rfl (by decide) rfl hI (gE hE hFa hS) (fun U g mk a' h => (xE_c a).2 U g mk a' h) hP hK hS hFa hl.1 (Nat.le_of_ble_eq_true rfl) (by show decode code 732 = .ok (.invokevirtual 102, 3); decide +kernel) (fun r I1 M1 H1 locs hq hN hz hk hS => ?_)
  have hR := g_keepP hR hk (fun q h1 h2 => hdis q h2 h1)
  have hP := hN
  obtain ⟨x, rfl, hq⟩ : ∃ x : Int32, r = some (.int x) ∧ qX11_over [.ref 0, .int (xs (i + 1)), .int (xs (i + 2))] I M (.int x) I1 M1 := by
    cases r with
    | none => exact False.elim hq
    | some v => cases v with
      | int x => exact ⟨x, rfl, hq⟩
      | _ => exact False.elim hq
  obtain ⟨zR, zO, zT, zS, zL, zf, zl⟩ := hq
  have hI1 : xAll I1 := ⟨zR, zO, zT, zS, zL⟩
  have hT1 : (I1 0 11).toInt = (I 0 11).toInt := congrArg Int32.toInt (congrFun (zf 0 rfl) 11)
  refine W.eq (g2 := F0 m 735 ls [.int x]) rfl ?_
  refine lv_pop hx hb (by decide +kernel) rfl ?_
  refine lv_aload_n (k := 2) (i := 2) (x := d 0) hx hb (by decide +kernel) rfl (lv_at hl 2 rfl) ?_
  refine la_arg (j := 1) (jz := 1) hx hb hX hbl hS hl h3 hi hL (by decide) (by decide +kernel) (by decide +kernel) (by decide +kernel) (by decide +kernel) (by decide +kernel) (by decide +kernel) ?_
  refine la_arg (j := 2) (jz := 2) hx hb hX hbl hS hl h3 hi hL (by decide) (by decide +kernel) (by decide +kernel) (by decide +kernel) (by decide +kernel) (by decide +kernel) (by decide +kernel) ?_
  refine g_call (k := 0) (vs := [.int (xs (i + 1)), .int (xs (i + 2))]) (rest := []) (n := 2) (ci := 11) Sf (mX12_over hid) rfl kL_X12_over (by decide +kernel) ⟨Nat.le_of_ble_eq_true rfl, Nat.le_of_ble_eq_true rfl⟩ hcs rfl (by decide) rfl hJ (fun _ _ _ => trivial) (fun _ _ _ _ _ => trivial) hR hK hS hFd hl.1 (Nat.le_of_ble_eq_true rfl) (by show decode code 747 = .ok (.invokevirtual 105, 3); decide +kernel) (fun r J1 N1 H1 locs hq hN hz hk hS => ?_)
  have hP := g_keepP hP hk hdis
  have hR := hN
  obtain ⟨y, rfl, hq⟩ : ∃ x : Int32, r = some (.int x) ∧ qX12_over [.ref 0, .int (xs (i + 1)), .int (xs (i + 2))] J N (.int x) J1 N1 := by
    cases r with
    | none => exact False.elim hq
    | some v => cases v with
      | int x => exact ⟨x, rfl, hq⟩
      | _ => exact False.elim hq
  obtain ⟨zR, zL, zK, zW, zo, zf, zl⟩ := hq
  have hJ1 : mG J1 := ⟨zR, zL, zK, zW⟩
  have hT2 : (J1 0 84).toInt = (J 0 84).toInt := congrArg Int32.toInt (zo 84 rfl)
  refine W.eq (g2 := F0 m 750 ls [.int y]) rfl ?_
  refine lv_pop hx hb (by decide +kernel) rfl ?_
  refine lv_goto (off := 213) (tgt := 964) hx hb (by decide +kernel) (by decide) ?_
  exact kk _ _ ⟨I1, M1, J1, N1, hI1, hJ1, by omega, hP, hR, hS⟩
theorem kL_X11_example : ∀ w ∈ ([.methodLink R_law 106 yX11_example, .instanceMethod yX11_example, .selects yX11_example.cls yX11_example yX11_example, .initialized yX11_example.cls, .code yX11_example cX11_example 2 (f_rt 1)] : List Cond), w ∈ fT := f_pos [1104, 1105, 1106, 1, 1107] (by decide +kernel) (by decide +kernel)
theorem kL_X12_example : ∀ w ∈ ([.methodLink R_law 110 yX12_example, .instanceMethod yX12_example, .selects yX12_example.cls yX12_example yX12_example, .initialized yX12_example.cls, .code yX12_example cX12_example 3 (f_rt 1)] : List Cond), w ∈ fT := f_pos [1836, 1837, 1838, 13, 1839] (by decide +kernel) (by decide +kernel)
set_option maxHeartbeats 40000000 in
set_option maxRecDepth 100000 in
theorem lc_22 {p : Program} {l : Launch} {e : Env} {s : State} {m : MethodId} {below : List Frame} {meth : Method} {c : Code} {H : Heap} {locs : List Loc} {cells slots : Nat} {Q : State → Prop} {cy dC : Nat → ClassId} {dI : Nat → Nat → Nat} {a d : Nat → Nat} {ls : Array Slot} {b L i : Nat} {xs : Nat → Int32} {x3 : Int32} (C0 : lw_At p s m meth c b L xs) (F : gFx s cy dC dI a d) (hcs : cells ≤ room_1.cells ∧ slots ≤ room_1.slots) (hL : L ≤ 384) (hi : i + 6 ≤ L) (h3 : x3 = nI i) (hl : lv_has ls 4 [(0, .ref b), (1, .ref (a 0)), (2, .ref (d 0)), (3, .int x3)]) (G : g2 s cy dC dI a d H locs) (kk : ∀ (H1 : Heap) (locs1 : List Loc), g2 s cy dC dI a d H1 locs1 → W p l e room_1 s m #[Value.ref b] below meth c H1 locs1 cells slots Q (F0 m 964 ls [])) : W p l e room_1 s m #[Value.ref b] below meth c H locs cells slots Q (F0 m 754 ls []) := by
  obtain ⟨hx, hb, hr, hml, hown, hts0, hX, hbl, hlocks, hgv⟩ := C0
  obtain ⟨hK, hia, hid, hFa, hFd, hdis, hE⟩ := F
  obtain ⟨I, M, J, N, hI, hJ, hT, hP, hR, hS⟩ := G
  have Sf : CallFix p m c code 4 s #[Value.ref b] fT R_law := ⟨hx, hb, hml, hown, fun w h => hts0 w (List.mem_filter.mp h).1⟩
  refine lv_aload_n (k := 1) (i := 1) (x := a 0) hx hb (by decide +kernel) rfl (lv_at hl 1 rfl) ?_
  refine la_arg (j := 1) (jz := 1) hx hb hX hbl hS hl h3 hi hL (by decide) (by decide +kernel) (by decide +kernel) (by decide +kernel) (by decide +kernel) (by decide +kernel) (by decide +kernel) ?_
  refine lv_if_eq (off := 7) (tgt := 767) hx hb (by decide +kernel) (by decide) (fun _ => ?_) (fun _ => ?_)
  · skip
    refine lv_iconst (v := 0) hx hb (n := 0) (by decide +kernel) rfl ?_
    refine g_call (k := 0) (vs := [.int 0]) (rest := []) (n := 1) (ci := 10) Sf (mX11_example hia) rfl kL_X11_example (by decide +kernel) ⟨Nat.le_of_ble_eq_true rfl, Nat.le_of_ble_eq_true rfl⟩ hcs rfl (by decide) rfl hI (gE hE hFa hS) (fun U g mk a' h => (xE_c a).2 U g mk a' h) hP hK hS hFa hl.1 (Nat.le_of_ble_eq_true rfl) (by show decode code 768 = .ok (.invokevirtual 106, 3); decide +kernel) (fun r I1 M1 H1 locs hq hN hz hk hS => ?_)
    have hR := g_keepP hR hk (fun q h1 h2 => hdis q h2 h1)
    have hP := hN
    obtain ⟨x, rfl, hq⟩ : ∃ x : Int32, r = some (.int x) ∧ qX11_example [.ref 0, .int 0] I M (.int x) I1 M1 := by
      cases r with
      | none => exact False.elim hq
      | some v => cases v with
        | int x => exact ⟨x, rfl, hq⟩
        | _ => exact False.elim hq
    obtain ⟨zR, zO, zT, zS, zL, zf, zl⟩ := hq
    have hI1 : xAll I1 := ⟨zR, zO, zT, zS, zL⟩
    have hT1 : (I1 0 11).toInt = (I 0 11).toInt := congrArg Int32.toInt (congrFun (zf 0 rfl) 11)
    refine W.eq (g2 := F0 m 771 ls [.int x]) rfl ?_
    refine lv_pop hx hb (by decide +kernel) rfl ?_
    refine lv_aload_n (k := 2) (i := 2) (x := d 0) hx hb (by decide +kernel) rfl (lv_at hl 2 rfl) ?_
    refine la_arg (j := 1) (jz := 1) hx hb hX hbl hS hl h3 hi hL (by decide) (by decide +kernel) (by decide +kernel) (by decide +kernel) (by decide +kernel) (by decide +kernel) (by decide +kernel) ?_
    refine lv_if_eq (off := 7) (tgt := 785) hx hb (by decide +kernel) (by decide) (fun _ => ?_) (fun _ => ?_)
    · skip
      refine lv_iconst (v := 0) hx hb (n := 0) (by decide +kernel) rfl ?_
      refine g_call (k := 0) (vs := [.int 0]) (rest := []) (n := 1) (ci := 11) Sf (mX12_exampleb hid) rfl kL_X12_example (by decide +kernel) ⟨Nat.le_of_ble_eq_true rfl, Nat.le_of_ble_eq_true rfl⟩ hcs rfl (by decide) rfl hJ (fun _ _ _ => trivial) (fun _ _ _ _ _ => trivial) hR hK hS hFd hl.1 (Nat.le_of_ble_eq_true rfl) (by show decode code 786 = .ok (.invokevirtual 110, 3); decide +kernel) (fun r J1 N1 H1 locs hq hN hz hk hS => ?_)
      have hP := g_keepP hP hk hdis
      have hR := hN
      obtain ⟨y, rfl, hq⟩ : ∃ x : Int32, r = some (.int x) ∧ qX12_exampleb [.ref 0, .int 0] J N (.int x) J1 N1 := by
        cases r with
        | none => exact False.elim hq
        | some v => cases v with
          | int x => exact ⟨x, rfl, hq⟩
          | _ => exact False.elim hq
      obtain ⟨zR, zL, zK, zW, zo, zf, zl⟩ := hq
      have hJ1 : mG J1 := ⟨zR, zL, zK, zW⟩
      have hT2 : (J1 0 84).toInt = (J 0 84).toInt := congrArg Int32.toInt (zo 84 rfl)
      refine W.eq (g2 := F0 m 789 ls [.int y]) rfl ?_
      refine lv_pop hx hb (by decide +kernel) rfl ?_
      refine lv_goto (off := 174) (tgt := 964) hx hb (by decide +kernel) (by decide) ?_
      exact kk _ _ ⟨I1, M1, J1, N1, hI1, hJ1, by omega, hP, hR, hS⟩
    · skip
      refine lv_iconst (v := 1) hx hb (n := 1) (by decide +kernel) rfl ?_
      refine lv_goto (off := 4) (tgt := 786) hx hb (by decide +kernel) (by decide) ?_
      refine g_call (k := 0) (vs := [.int 1]) (rest := []) (n := 1) (ci := 11) Sf (mX12_exampleb hid) rfl kL_X12_example (by decide +kernel) ⟨Nat.le_of_ble_eq_true rfl, Nat.le_of_ble_eq_true rfl⟩ hcs rfl (by decide) rfl hJ (fun _ _ _ => trivial) (fun _ _ _ _ _ => trivial) hR hK hS hFd hl.1 (Nat.le_of_ble_eq_true rfl) (by show decode code 786 = .ok (.invokevirtual 110, 3); decide +kernel) (fun r J1 N1 H1 locs hq hN hz hk hS => ?_)
      have hP := g_keepP hP hk hdis
      have hR := hN
      obtain ⟨y, rfl, hq⟩ : ∃ x : Int32, r = some (.int x) ∧ qX12_exampleb [.ref 0, .int 1] J N (.int x) J1 N1 := by
        cases r with
        | none => exact False.elim hq
        | some v => cases v with
          | int x => exact ⟨x, rfl, hq⟩
          | _ => exact False.elim hq
      obtain ⟨zR, zL, zK, zW, zo, zf, zl⟩ := hq
      have hJ1 : mG J1 := ⟨zR, zL, zK, zW⟩
      have hT2 : (J1 0 84).toInt = (J 0 84).toInt := congrArg Int32.toInt (zo 84 rfl)
      refine W.eq (g2 := F0 m 789 ls [.int y]) rfl ?_
      refine lv_pop hx hb (by decide +kernel) rfl ?_
      refine lv_goto (off := 174) (tgt := 964) hx hb (by decide +kernel) (by decide) ?_
      exact kk _ _ ⟨I1, M1, J1, N1, hI1, hJ1, by omega, hP, hR, hS⟩
  · skip
    refine lv_iconst (v := 1) hx hb (n := 1) (by decide +kernel) rfl ?_
    refine lv_goto (off := 4) (tgt := 768) hx hb (by decide +kernel) (by decide) ?_
    refine g_call (k := 0) (vs := [.int 1]) (rest := []) (n := 1) (ci := 10) Sf (mX11_example hia) rfl kL_X11_example (by decide +kernel) ⟨Nat.le_of_ble_eq_true rfl, Nat.le_of_ble_eq_true rfl⟩ hcs rfl (by decide) rfl hI (gE hE hFa hS) (fun U g mk a' h => (xE_c a).2 U g mk a' h) hP hK hS hFa hl.1 (Nat.le_of_ble_eq_true rfl) (by show decode code 768 = .ok (.invokevirtual 106, 3); decide +kernel) (fun r I1 M1 H1 locs hq hN hz hk hS => ?_)
    have hR := g_keepP hR hk (fun q h1 h2 => hdis q h2 h1)
    have hP := hN
    obtain ⟨x, rfl, hq⟩ : ∃ x : Int32, r = some (.int x) ∧ qX11_example [.ref 0, .int 1] I M (.int x) I1 M1 := by
      cases r with
      | none => exact False.elim hq
      | some v => cases v with
        | int x => exact ⟨x, rfl, hq⟩
        | _ => exact False.elim hq
    obtain ⟨zR, zO, zT, zS, zL, zf, zl⟩ := hq
    have hI1 : xAll I1 := ⟨zR, zO, zT, zS, zL⟩
    have hT1 : (I1 0 11).toInt = (I 0 11).toInt := congrArg Int32.toInt (congrFun (zf 0 rfl) 11)
    refine W.eq (g2 := F0 m 771 ls [.int x]) rfl ?_
    refine lv_pop hx hb (by decide +kernel) rfl ?_
    refine lv_aload_n (k := 2) (i := 2) (x := d 0) hx hb (by decide +kernel) rfl (lv_at hl 2 rfl) ?_
    refine la_arg (j := 1) (jz := 1) hx hb hX hbl hS hl h3 hi hL (by decide) (by decide +kernel) (by decide +kernel) (by decide +kernel) (by decide +kernel) (by decide +kernel) (by decide +kernel) ?_
    refine lv_if_eq (off := 7) (tgt := 785) hx hb (by decide +kernel) (by decide) (fun _ => ?_) (fun _ => ?_)
    · skip
      refine lv_iconst (v := 0) hx hb (n := 0) (by decide +kernel) rfl ?_
      refine g_call (k := 0) (vs := [.int 0]) (rest := []) (n := 1) (ci := 11) Sf (mX12_exampleb hid) rfl kL_X12_example (by decide +kernel) ⟨Nat.le_of_ble_eq_true rfl, Nat.le_of_ble_eq_true rfl⟩ hcs rfl (by decide) rfl hJ (fun _ _ _ => trivial) (fun _ _ _ _ _ => trivial) hR hK hS hFd hl.1 (Nat.le_of_ble_eq_true rfl) (by show decode code 786 = .ok (.invokevirtual 110, 3); decide +kernel) (fun r J1 N1 H1 locs hq hN hz hk hS => ?_)
      have hP := g_keepP hP hk hdis
      have hR := hN
      obtain ⟨y, rfl, hq⟩ : ∃ x : Int32, r = some (.int x) ∧ qX12_exampleb [.ref 0, .int 0] J N (.int x) J1 N1 := by
        cases r with
        | none => exact False.elim hq
        | some v => cases v with
          | int x => exact ⟨x, rfl, hq⟩
          | _ => exact False.elim hq
      obtain ⟨zR, zL, zK, zW, zo, zf, zl⟩ := hq
      have hJ1 : mG J1 := ⟨zR, zL, zK, zW⟩
      have hT2 : (J1 0 84).toInt = (J 0 84).toInt := congrArg Int32.toInt (zo 84 rfl)
      refine W.eq (g2 := F0 m 789 ls [.int y]) rfl ?_
      refine lv_pop hx hb (by decide +kernel) rfl ?_
      refine lv_goto (off := 174) (tgt := 964) hx hb (by decide +kernel) (by decide) ?_
      exact kk _ _ ⟨I1, M1, J1, N1, hI1, hJ1, by omega, hP, hR, hS⟩
    · skip
      refine lv_iconst (v := 1) hx hb (n := 1) (by decide +kernel) rfl ?_
      refine lv_goto (off := 4) (tgt := 786) hx hb (by decide +kernel) (by decide) ?_
      refine g_call (k := 0) (vs := [.int 1]) (rest := []) (n := 1) (ci := 11) Sf (mX12_exampleb hid) rfl kL_X12_example (by decide +kernel) ⟨Nat.le_of_ble_eq_true rfl, Nat.le_of_ble_eq_true rfl⟩ hcs rfl (by decide) rfl hJ (fun _ _ _ => trivial) (fun _ _ _ _ _ => trivial) hR hK hS hFd hl.1 (Nat.le_of_ble_eq_true rfl) (by show decode code 786 = .ok (.invokevirtual 110, 3); decide +kernel) (fun r J1 N1 H1 locs hq hN hz hk hS => ?_)
      have hP := g_keepP hP hk hdis
      have hR := hN
      obtain ⟨y, rfl, hq⟩ : ∃ x : Int32, r = some (.int x) ∧ qX12_exampleb [.ref 0, .int 1] J N (.int x) J1 N1 := by
        cases r with
        | none => exact False.elim hq
        | some v => cases v with
          | int x => exact ⟨x, rfl, hq⟩
          | _ => exact False.elim hq
      obtain ⟨zR, zL, zK, zW, zo, zf, zl⟩ := hq
      have hJ1 : mG J1 := ⟨zR, zL, zK, zW⟩
      have hT2 : (J1 0 84).toInt = (J 0 84).toInt := congrArg Int32.toInt (zo 84 rfl)
      refine W.eq (g2 := F0 m 789 ls [.int y]) rfl ?_
      refine lv_pop hx hb (by decide +kernel) rfl ?_
      refine lv_goto (off := 174) (tgt := 964) hx hb (by decide +kernel) (by decide) ?_
      exact kk _ _ ⟨I1, M1, J1, N1, hI1, hJ1, by omega, hP, hR, hS⟩
theorem kL_X11_untell : ∀ w ∈ ([.methodLink R_law 111 yX11_untell, .instanceMethod yX11_untell, .selects yX11_untell.cls yX11_untell yX11_untell, .initialized yX11_untell.cls, .code yX11_untell cX11_untell 2 (f_rt 3)] : List Cond), w ∈ fT := f_pos [1113, 1114, 1115, 1, 1116] (by decide +kernel) (by decide +kernel)
theorem kL_X12_untell : ∀ w ∈ ([.methodLink R_law 115 yX12_untell, .instanceMethod yX12_untell, .selects yX12_untell.cls yX12_untell yX12_untell, .initialized yX12_untell.cls, .code yX12_untell cX12_untell 2 (f_rt 3)] : List Cond), w ∈ fT := f_pos [1840, 1841, 1842, 13, 1843] (by decide +kernel) (by decide +kernel)
set_option maxHeartbeats 40000000 in
set_option maxRecDepth 100000 in
theorem lc_23 {p : Program} {l : Launch} {e : Env} {s : State} {m : MethodId} {below : List Frame} {meth : Method} {c : Code} {H : Heap} {locs : List Loc} {cells slots : Nat} {Q : State → Prop} {cy dC : Nat → ClassId} {dI : Nat → Nat → Nat} {a d : Nat → Nat} {ls : Array Slot} {b L i : Nat} {xs : Nat → Int32} {x3 : Int32} (C0 : lw_At p s m meth c b L xs) (F : gFx s cy dC dI a d) (hcs : cells ≤ room_1.cells ∧ slots ≤ room_1.slots) (hL : L ≤ 384) (hi : i + 6 ≤ L) (h3 : x3 = nI i) (hl : lv_has ls 4 [(0, .ref b), (1, .ref (a 0)), (2, .ref (d 0)), (3, .int x3)]) (G : g2 s cy dC dI a d H locs) (kk : ∀ (H1 : Heap) (locs1 : List Loc), g2 s cy dC dI a d H1 locs1 → W p l e room_1 s m #[Value.ref b] below meth c H1 locs1 cells slots Q (F0 m 964 ls [])) : W p l e room_1 s m #[Value.ref b] below meth c H locs cells slots Q (F0 m 793 ls []) := by
  obtain ⟨hx, hb, hr, hml, hown, hts0, hX, hbl, hlocks, hgv⟩ := C0
  obtain ⟨hK, hia, hid, hFa, hFd, hdis, hE⟩ := F
  obtain ⟨I, M, J, N, hI, hJ, hT, hP, hR, hS⟩ := G
  have Sf : CallFix p m c code 4 s #[Value.ref b] fT R_law := ⟨hx, hb, hml, hown, fun w h => hts0 w (List.mem_filter.mp h).1⟩
  refine lv_aload_n (k := 1) (i := 1) (x := a 0) hx hb (by decide +kernel) rfl (lv_at hl 1 rfl) ?_
  refine la_arg (j := 1) (jz := 1) hx hb hX hbl hS hl h3 hi hL (by decide) (by decide +kernel) (by decide +kernel) (by decide +kernel) (by decide +kernel) (by decide +kernel) (by decide +kernel) ?_
  refine g_call (k := 0) (vs := [.int (xs (i + 1))]) (rest := []) (n := 1) (ci := 10) Sf (mX11_untell hia) rfl kL_X11_untell (by decide +kernel) ⟨Nat.le_of_ble_eq_true rfl, Nat.le_of_ble_eq_true rfl⟩ hcs rfl (by decide) rfl hI (gE hE hFa hS) (fun U g mk a' h => (xE_c a).2 U g mk a' h) hP hK hS hFa hl.1 (Nat.le_of_ble_eq_true rfl) (by show decode code 799 = .ok (.invokevirtual 111, 3); decide +kernel) (fun r I1 M1 H1 locs hq hN hz hk hS => ?_)
  have hR := g_keepP hR hk (fun q h1 h2 => hdis q h2 h1)
  have hP := hN
  obtain ⟨x, rfl, hq⟩ : ∃ x : Int32, r = some (.int x) ∧ qX11_untell [.ref 0, .int (xs (i + 1))] I M (.int x) I1 M1 := by
    cases r with
    | none => exact False.elim hq
    | some v => cases v with
      | int x => exact ⟨x, rfl, hq⟩
      | _ => exact False.elim hq
  obtain ⟨ze, zl⟩ := hq
  have hI1 : xAll I1 := by rw [ze]; exact hI
  have hT1 : (I1 0 11).toInt = (I 0 11).toInt := by rw [ze]
  refine W.eq (g2 := F0 m 802 ls [.int x]) rfl ?_
  refine lv_pop hx hb (by decide +kernel) rfl ?_
  refine lv_aload_n (k := 2) (i := 2) (x := d 0) hx hb (by decide +kernel) rfl (lv_at hl 2 rfl) ?_
  refine la_arg (j := 1) (jz := 1) hx hb hX hbl hS hl h3 hi hL (by decide) (by decide +kernel) (by decide +kernel) (by decide +kernel) (by decide +kernel) (by decide +kernel) (by decide +kernel) ?_
  refine g_call (k := 0) (vs := [.int (xs (i + 1))]) (rest := []) (n := 1) (ci := 11) Sf (mX12_untell hid) rfl kL_X12_untell (by decide +kernel) ⟨Nat.le_of_ble_eq_true rfl, Nat.le_of_ble_eq_true rfl⟩ hcs rfl (by decide) rfl hJ.1 (fun _ _ _ => trivial) (fun _ _ _ _ _ => trivial) hR hK hS hFd hl.1 (Nat.le_of_ble_eq_true rfl) (by show decode code 809 = .ok (.invokevirtual 115, 3); decide +kernel) (fun r J1 N1 H1 locs hq hN hz hk hS => ?_)
  have hP := g_keepP hP hk hdis
  have hR := hN
  obtain ⟨y, rfl, hq⟩ : ∃ x : Int32, r = some (.int x) ∧ qX12_untell [.ref 0, .int (xs (i + 1))] J N (.int x) J1 N1 := by
    cases r with
    | none => exact False.elim hq
    | some v => cases v with
      | int x => exact ⟨x, rfl, hq⟩
      | _ => exact False.elim hq
  obtain ⟨zR, zf, zl⟩ := hq
  have hJ1 : mG J1 := ⟨zR, (f_depo_fr mL_dep hJ.2.1 zf (by decide) (by decide)), (f_depo_fr mK_dep hJ.2.2.1 zf (by decide) (by decide)), (f_depo_fr mW_dep hJ.2.2.2 zf (by decide) (by decide))⟩
  have hT2 : (J1 0 84).toInt = (J 0 84).toInt := congrArg Int32.toInt (congrFun (zf 0 rfl) 84)
  refine W.eq (g2 := F0 m 812 ls [.int y]) rfl ?_
  refine lv_pop hx hb (by decide +kernel) rfl ?_
  refine lv_goto (off := 151) (tgt := 964) hx hb (by decide +kernel) (by decide) ?_
  exact kk _ _ ⟨I1, M1, J1, N1, hI1, hJ1, by omega, hP, hR, hS⟩
theorem kL_X11_later : ∀ w ∈ ([.methodLink R_law 116 yX11_later, .instanceMethod yX11_later, .selects yX11_later.cls yX11_later yX11_later, .initialized yX11_later.cls, .code yX11_later cX11_later 2 (f_rt 1)] : List Cond), w ∈ fT := f_pos [1121, 1122, 1123, 1, 1124] (by decide +kernel) (by decide +kernel)
theorem kL_X12_later : ∀ w ∈ ([.methodLink R_law 119 yX12_later, .instanceMethod yX12_later, .selects yX12_later.cls yX12_later yX12_later, .initialized yX12_later.cls, .code yX12_later cX12_later 2 (f_rt 1)] : List Cond), w ∈ fT := f_pos [1844, 1845, 1846, 13, 1847] (by decide +kernel) (by decide +kernel)
set_option maxHeartbeats 40000000 in
set_option maxRecDepth 100000 in
theorem lc_24 {p : Program} {l : Launch} {e : Env} {s : State} {m : MethodId} {below : List Frame} {meth : Method} {c : Code} {H : Heap} {locs : List Loc} {cells slots : Nat} {Q : State → Prop} {cy dC : Nat → ClassId} {dI : Nat → Nat → Nat} {a d : Nat → Nat} {ls : Array Slot} {b L i : Nat} {xs : Nat → Int32} {x3 : Int32} (C0 : lw_At p s m meth c b L xs) (F : gFx s cy dC dI a d) (hcs : cells ≤ room_1.cells ∧ slots ≤ room_1.slots) (hL : L ≤ 384) (hi : i + 6 ≤ L) (h3 : x3 = nI i) (hl : lv_has ls 4 [(0, .ref b), (1, .ref (a 0)), (2, .ref (d 0)), (3, .int x3)]) (G : g2 s cy dC dI a d H locs) (kk : ∀ (H1 : Heap) (locs1 : List Loc), g2 s cy dC dI a d H1 locs1 → W p l e room_1 s m #[Value.ref b] below meth c H1 locs1 cells slots Q (F0 m 964 ls [])) : W p l e room_1 s m #[Value.ref b] below meth c H locs cells slots Q (F0 m 816 ls []) := by
  obtain ⟨hx, hb, hr, hml, hown, hts0, hX, hbl, hlocks, hgv⟩ := C0
  obtain ⟨hK, hia, hid, hFa, hFd, hdis, hE⟩ := F
  obtain ⟨I, M, J, N, hI, hJ, hT, hP, hR, hS⟩ := G
  have Sf : CallFix p m c code 4 s #[Value.ref b] fT R_law := ⟨hx, hb, hml, hown, fun w h => hts0 w (List.mem_filter.mp h).1⟩
  refine lv_aload_n (k := 1) (i := 1) (x := a 0) hx hb (by decide +kernel) rfl (lv_at hl 1 rfl) ?_
  refine la_arg (j := 1) (jz := 1) hx hb hX hbl hS hl h3 hi hL (by decide) (by decide +kernel) (by decide +kernel) (by decide +kernel) (by decide +kernel) (by decide +kernel) (by decide +kernel) ?_
  refine g_call (k := 0) (vs := [.int (xs (i + 1))]) (rest := []) (n := 1) (ci := 10) Sf (mX11_later hia) rfl kL_X11_later (by decide +kernel) ⟨Nat.le_of_ble_eq_true rfl, Nat.le_of_ble_eq_true rfl⟩ hcs rfl (by decide) rfl hI (gE hE hFa hS) (fun U g mk a' h => (xE_c a).2 U g mk a' h) hP hK hS hFa hl.1 (Nat.le_of_ble_eq_true rfl) (by show decode code 822 = .ok (.invokevirtual 116, 3); decide +kernel) (fun r I1 M1 H1 locs hq hN hz hk hS => ?_)
  have hR := g_keepP hR hk (fun q h1 h2 => hdis q h2 h1)
  have hP := hN
  obtain ⟨x, rfl, hq⟩ : ∃ x : Int32, r = some (.int x) ∧ qX11_later [.ref 0, .int (xs (i + 1))] I M (.int x) I1 M1 := by
    cases r with
    | none => exact False.elim hq
    | some v => cases v with
      | int x => exact ⟨x, rfl, hq⟩
      | _ => exact False.elim hq
  obtain ⟨zR, zO, zT, zS, zL, zf, zl, zc⟩ := hq
  have hI1 : xAll I1 := ⟨zR, zO, zT, zS, zL⟩
  have hT1 := zc
  refine W.eq (g2 := F0 m 825 ls [.int x]) rfl ?_
  refine lv_aload_n (k := 2) (i := 2) (x := d 0) hx hb (by decide +kernel) rfl (lv_at hl 2 rfl) ?_
  refine la_arg (j := 1) (jz := 1) hx hb hX hbl hS hl h3 hi hL (by decide) (by decide +kernel) (by decide +kernel) (by decide +kernel) (by decide +kernel) (by decide +kernel) (by decide +kernel) ?_
  refine g_call (k := 0) (vs := [.int (xs (i + 1))]) (rest := [.int x]) (n := 1) (ci := 11) Sf (mX12_later hid) rfl kL_X12_later (by decide +kernel) ⟨Nat.le_of_ble_eq_true rfl, Nat.le_of_ble_eq_true rfl⟩ hcs rfl (by decide) rfl hJ.1 (fun _ _ _ => trivial) (fun _ _ _ _ _ => trivial) hR hK hS hFd hl.1 (Nat.le_of_ble_eq_true rfl) (by show decode code 831 = .ok (.invokevirtual 119, 3); decide +kernel) (fun r J1 N1 H1 locs hq hN hz hk hS => ?_)
  have hP := g_keepP hP hk hdis
  have hR := hN
  obtain ⟨y, rfl, hq⟩ : ∃ x : Int32, r = some (.int x) ∧ qX12_later [.ref 0, .int (xs (i + 1))] J N (.int x) J1 N1 := by
    cases r with
    | none => exact False.elim hq
    | some v => cases v with
      | int x => exact ⟨x, rfl, hq⟩
      | _ => exact False.elim hq
  obtain ⟨zR, zo, zf, zl, zc⟩ := hq
  have hJ1 : mG J1 := ⟨zR, (f_depo_fo mL_dep hJ.2.1 zf zo (by decide) (by decide)), (f_depo_fo mK_dep hJ.2.2.1 zf zo (by decide) (by decide)), (f_depo_fo mW_dep hJ.2.2.2 zf zo (by decide) (by decide))⟩
  have hT2 := zc
  refine W.eq (g2 := F0 m 834 ls [.int y, .int x]) rfl ?_
  refine lv_icmp_eq (off := 130) (tgt := 964) hx hb (by decide +kernel) (by decide) (fun _ => ?_) (fun hne => absurd (Int32.toInt_inj.mp (by omega)) hne)
  exact kk _ _ ⟨I1, M1, J1, N1, hI1, hJ1, by omega, hP, hR, hS⟩
theorem kL_X11_judge : ∀ w ∈ ([.methodLink R_law 120 yX11_judge, .instanceMethod yX11_judge, .selects yX11_judge.cls yX11_judge yX11_judge, .initialized yX11_judge.cls, .code yX11_judge cX11_judge 3 (f_rt 1)] : List Cond), w ∈ fT := f_pos [1126, 1127, 1128, 1, 1129] (by decide +kernel) (by decide +kernel)
theorem kL_X12_judge : ∀ w ∈ ([.methodLink R_law 123 yX12_judge, .instanceMethod yX12_judge, .selects yX12_judge.cls yX12_judge yX12_judge, .initialized yX12_judge.cls, .code yX12_judge cX12_judge 4 (f_rt 1)] : List Cond), w ∈ fT := f_pos [1849, 1850, 1851, 13, 1852] (by decide +kernel) (by decide +kernel)
set_option maxHeartbeats 40000000 in
set_option maxRecDepth 100000 in
theorem lc_25 {p : Program} {l : Launch} {e : Env} {s : State} {m : MethodId} {below : List Frame} {meth : Method} {c : Code} {H : Heap} {locs : List Loc} {cells slots : Nat} {Q : State → Prop} {cy dC : Nat → ClassId} {dI : Nat → Nat → Nat} {a d : Nat → Nat} {ls : Array Slot} {b L i : Nat} {xs : Nat → Int32} {x3 : Int32} (C0 : lw_At p s m meth c b L xs) (F : gFx s cy dC dI a d) (hcs : cells ≤ room_1.cells ∧ slots ≤ room_1.slots) (hL : L ≤ 384) (hi : i + 6 ≤ L) (h3 : x3 = nI i) (hl : lv_has ls 4 [(0, .ref b), (1, .ref (a 0)), (2, .ref (d 0)), (3, .int x3)]) (G : g2 s cy dC dI a d H locs) (kk : ∀ (H1 : Heap) (locs1 : List Loc), g2 s cy dC dI a d H1 locs1 → W p l e room_1 s m #[Value.ref b] below meth c H1 locs1 cells slots Q (F0 m 964 ls [])) : W p l e room_1 s m #[Value.ref b] below meth c H locs cells slots Q (F0 m 839 ls []) := by
  obtain ⟨hx, hb, hr, hml, hown, hts0, hX, hbl, hlocks, hgv⟩ := C0
  obtain ⟨hK, hia, hid, hFa, hFd, hdis, hE⟩ := F
  obtain ⟨I, M, J, N, hI, hJ, hT, hP, hR, hS⟩ := G
  have Sf : CallFix p m c code 4 s #[Value.ref b] fT R_law := ⟨hx, hb, hml, hown, fun w h => hts0 w (List.mem_filter.mp h).1⟩
  refine lv_aload_n (k := 1) (i := 1) (x := a 0) hx hb (by decide +kernel) rfl (lv_at hl 1 rfl) ?_
  refine la_arg (j := 1) (jz := 1) hx hb hX hbl hS hl h3 hi hL (by decide) (by decide +kernel) (by decide +kernel) (by decide +kernel) (by decide +kernel) (by decide +kernel) (by decide +kernel) ?_
  refine g_call (k := 0) (vs := [.int (xs (i + 1))]) (rest := []) (n := 1) (ci := 10) Sf (mX11_judge hia) rfl kL_X11_judge (by decide +kernel) ⟨Nat.le_of_ble_eq_true rfl, Nat.le_of_ble_eq_true rfl⟩ hcs rfl (by decide) rfl hI (gE hE hFa hS) (fun U g mk a' h => (xE_c a).2 U g mk a' h) hP hK hS hFa hl.1 (Nat.le_of_ble_eq_true rfl) (by show decode code 845 = .ok (.invokevirtual 120, 3); decide +kernel) (fun r I1 M1 H1 locs hq hN hz hk hS => ?_)
  have hR := g_keepP hR hk (fun q h1 h2 => hdis q h2 h1)
  have hP := hN
  obtain ⟨x, rfl, hq⟩ : ∃ x : Int32, r = some (.int x) ∧ qX11_judge [.ref 0, .int (xs (i + 1))] I M (.int x) I1 M1 := by
    cases r with
    | none => exact False.elim hq
    | some v => cases v with
      | int x => exact ⟨x, rfl, hq⟩
      | _ => exact False.elim hq
  obtain ⟨zR, zO, zT, zS, zL, zf, zl⟩ := hq
  have hI1 : xAll I1 := ⟨zR, zO, zT, zS, zL⟩
  have hT1 : (I1 0 11).toInt = (I 0 11).toInt := congrArg Int32.toInt (congrFun (zf 0 rfl) 11)
  refine W.eq (g2 := F0 m 848 ls [.int x]) rfl ?_
  refine lv_pop hx hb (by decide +kernel) rfl ?_
  refine lv_aload_n (k := 2) (i := 2) (x := d 0) hx hb (by decide +kernel) rfl (lv_at hl 2 rfl) ?_
  refine la_arg (j := 1) (jz := 1) hx hb hX hbl hS hl h3 hi hL (by decide) (by decide +kernel) (by decide +kernel) (by decide +kernel) (by decide +kernel) (by decide +kernel) (by decide +kernel) ?_
  refine g_call (k := 0) (vs := [.int (xs (i + 1))]) (rest := []) (n := 1) (ci := 11) Sf (mX12_judge hid) rfl kL_X12_judge (by decide +kernel) ⟨Nat.le_of_ble_eq_true rfl, Nat.le_of_ble_eq_true rfl⟩ hcs rfl (by decide) rfl hJ (fun _ _ _ => trivial) (fun _ _ _ _ _ => trivial) hR hK hS hFd hl.1 (Nat.le_of_ble_eq_true rfl) (by show decode code 855 = .ok (.invokevirtual 123, 3); decide +kernel) (fun r J1 N1 H1 locs hq hN hz hk hS => ?_)
  have hP := g_keepP hP hk hdis
  have hR := hN
  obtain ⟨y, rfl, hq⟩ : ∃ x : Int32, r = some (.int x) ∧ qX12_judge [.ref 0, .int (xs (i + 1))] J N (.int x) J1 N1 := by
    cases r with
    | none => exact False.elim hq
    | some v => cases v with
      | int x => exact ⟨x, rfl, hq⟩
      | _ => exact False.elim hq
  obtain ⟨zR, zL, zK, zW, zo, zf, zl⟩ := hq
  have hJ1 : mG J1 := ⟨zR, zL, zK, zW⟩
  have hT2 : (J1 0 84).toInt = (J 0 84).toInt := congrArg Int32.toInt (zo 84 rfl)
  refine W.eq (g2 := F0 m 858 ls [.int y]) rfl ?_
  refine lv_pop hx hb (by decide +kernel) rfl ?_
  refine lv_goto (off := 105) (tgt := 964) hx hb (by decide +kernel) (by decide) ?_
  exact kk _ _ ⟨I1, M1, J1, N1, hI1, hJ1, by omega, hP, hR, hS⟩
theorem kL_X11_learnt : ∀ w ∈ ([.methodLink R_law 124 yX11_learnt, .instanceMethod yX11_learnt, .selects yX11_learnt.cls yX11_learnt yX11_learnt, .initialized yX11_learnt.cls, .code yX11_learnt cX11_learnt 3 (f_rt 1)] : List Cond), w ∈ fT := f_pos [1149, 1150, 1151, 1, 1152] (by decide +kernel) (by decide +kernel)
theorem kL_X12_learnt : ∀ w ∈ ([.methodLink R_law 127 yX12_learnt, .instanceMethod yX12_learnt, .selects yX12_learnt.cls yX12_learnt yX12_learnt, .initialized yX12_learnt.cls, .code yX12_learnt cX12_learnt 10 (f_rt 1)] : List Cond), w ∈ fT := f_pos [1857, 1858, 1859, 13, 1860] (by decide +kernel) (by decide +kernel)
set_option maxHeartbeats 40000000 in
set_option maxRecDepth 100000 in
theorem lc_26 {p : Program} {l : Launch} {e : Env} {s : State} {m : MethodId} {below : List Frame} {meth : Method} {c : Code} {H : Heap} {locs : List Loc} {cells slots : Nat} {Q : State → Prop} {cy dC : Nat → ClassId} {dI : Nat → Nat → Nat} {a d : Nat → Nat} {ls : Array Slot} {b L i : Nat} {xs : Nat → Int32} {x3 : Int32} (C0 : lw_At p s m meth c b L xs) (F : gFx s cy dC dI a d) (hcs : cells ≤ room_1.cells ∧ slots ≤ room_1.slots) (hL : L ≤ 384) (hi : i + 6 ≤ L) (h3 : x3 = nI i) (hl : lv_has ls 4 [(0, .ref b), (1, .ref (a 0)), (2, .ref (d 0)), (3, .int x3)]) (G : g2 s cy dC dI a d H locs) (kk : ∀ (H1 : Heap) (locs1 : List Loc), g2 s cy dC dI a d H1 locs1 → W p l e room_1 s m #[Value.ref b] below meth c H1 locs1 cells slots Q (F0 m 964 ls [])) : W p l e room_1 s m #[Value.ref b] below meth c H locs cells slots Q (F0 m 862 ls []) := by
  obtain ⟨hx, hb, hr, hml, hown, hts0, hX, hbl, hlocks, hgv⟩ := C0
  obtain ⟨hK, hia, hid, hFa, hFd, hdis, hE⟩ := F
  obtain ⟨I, M, J, N, hI, hJ, hT, hP, hR, hS⟩ := G
  have Sf : CallFix p m c code 4 s #[Value.ref b] fT R_law := ⟨hx, hb, hml, hown, fun w h => hts0 w (List.mem_filter.mp h).1⟩
  refine lv_aload_n (k := 1) (i := 1) (x := a 0) hx hb (by decide +kernel) rfl (lv_at hl 1 rfl) ?_
  refine la_arg (j := 1) (jz := 1) hx hb hX hbl hS hl h3 hi hL (by decide) (by decide +kernel) (by decide +kernel) (by decide +kernel) (by decide +kernel) (by decide +kernel) (by decide +kernel) ?_
  refine la_arg (j := 2) (jz := 2) hx hb hX hbl hS hl h3 hi hL (by decide) (by decide +kernel) (by decide +kernel) (by decide +kernel) (by decide +kernel) (by decide +kernel) (by decide +kernel) ?_
  refine g_call (k := 0) (vs := [.int (xs (i + 1)), .int (xs (i + 2))]) (rest := []) (n := 2) (ci := 10) Sf (mX11_learnt hia) rfl kL_X11_learnt (by decide +kernel) ⟨Nat.le_of_ble_eq_true rfl, Nat.le_of_ble_eq_true rfl⟩ hcs rfl (by decide) rfl hI (gE hE hFa hS) (fun U g mk a' h => (xE_c a).2 U g mk a' h) hP hK hS hFa hl.1 (Nat.le_of_ble_eq_true rfl) (by show decode code 873 = .ok (.invokevirtual 124, 3); decide +kernel) (fun r I1 M1 H1 locs hq hN hz hk hS => ?_)
  have hR := g_keepP hR hk (fun q h1 h2 => hdis q h2 h1)
  have hP := hN
  obtain ⟨x, rfl, hq⟩ : ∃ x : Int32, r = some (.int x) ∧ qX11_learnt [.ref 0, .int (xs (i + 1)), .int (xs (i + 2))] I M (.int x) I1 M1 := by
    cases r with
    | none => exact False.elim hq
    | some v => cases v with
      | int x => exact ⟨x, rfl, hq⟩
      | _ => exact False.elim hq
  obtain ⟨zR, zO, zT, zS, zL, zf, zl⟩ := hq
  have hI1 : xAll I1 := ⟨zR, zO, zT, zS, zL⟩
  have hT1 : (I1 0 11).toInt = (I 0 11).toInt := congrArg Int32.toInt (congrFun (zf 0 rfl) 11)
  refine W.eq (g2 := F0 m 876 ls [.int x]) rfl ?_
  refine lv_pop hx hb (by decide +kernel) rfl ?_
  refine lv_aload_n (k := 2) (i := 2) (x := d 0) hx hb (by decide +kernel) rfl (lv_at hl 2 rfl) ?_
  refine la_arg (j := 1) (jz := 1) hx hb hX hbl hS hl h3 hi hL (by decide) (by decide +kernel) (by decide +kernel) (by decide +kernel) (by decide +kernel) (by decide +kernel) (by decide +kernel) ?_
  refine la_arg (j := 2) (jz := 2) hx hb hX hbl hS hl h3 hi hL (by decide) (by decide +kernel) (by decide +kernel) (by decide +kernel) (by decide +kernel) (by decide +kernel) (by decide +kernel) ?_
  refine g_call (k := 0) (vs := [.int (xs (i + 1)), .int (xs (i + 2))]) (rest := []) (n := 2) (ci := 11) Sf (mX12_learnt hid) rfl kL_X12_learnt (by decide +kernel) ⟨Nat.le_of_ble_eq_true rfl, Nat.le_of_ble_eq_true rfl⟩ hcs rfl (by decide) rfl hJ (fun _ _ _ => trivial) (fun _ _ _ _ _ => trivial) hR hK hS hFd hl.1 (Nat.le_of_ble_eq_true rfl) (by show decode code 888 = .ok (.invokevirtual 127, 3); decide +kernel) (fun r J1 N1 H1 locs hq hN hz hk hS => ?_)
  have hP := g_keepP hP hk hdis
  have hR := hN
  obtain ⟨y, rfl, hq⟩ : ∃ x : Int32, r = some (.int x) ∧ qX12_learnt [.ref 0, .int (xs (i + 1)), .int (xs (i + 2))] J N (.int x) J1 N1 := by
    cases r with
    | none => exact False.elim hq
    | some v => cases v with
      | int x => exact ⟨x, rfl, hq⟩
      | _ => exact False.elim hq
  obtain ⟨zR, zL, zK, zW, zo, zf, zl⟩ := hq
  have hJ1 : mG J1 := ⟨zR, zL, zK, zW⟩
  have hT2 : (J1 0 84).toInt = (J 0 84).toInt := congrArg Int32.toInt (zo 84 rfl)
  refine W.eq (g2 := F0 m 891 ls [.int y]) rfl ?_
  refine lv_pop hx hb (by decide +kernel) rfl ?_
  refine lv_goto (off := 72) (tgt := 964) hx hb (by decide +kernel) (by decide) ?_
  exact kk _ _ ⟨I1, M1, J1, N1, hI1, hJ1, by omega, hP, hR, hS⟩
theorem kL_X11_image : ∀ w ∈ ([.methodLink R_law 128 yX11_image, .instanceMethod yX11_image, .selects yX11_image.cls yX11_image yX11_image, .initialized yX11_image.cls, .code yX11_image cX11_image 2 (f_rt 1)] : List Cond), w ∈ fT := f_pos [1183, 1184, 1185, 1, 1186] (by decide +kernel) (by decide +kernel)
theorem kL_X12_image : ∀ w ∈ ([.methodLink R_law 131 yX12_image, .instanceMethod yX12_image, .selects yX12_image.cls yX12_image yX12_image, .initialized yX12_image.cls, .code yX12_image cX12_image 5 (f_rt 1)] : List Cond), w ∈ fT := f_pos [1865, 1866, 1867, 13, 1868] (by decide +kernel) (by decide +kernel)
set_option maxHeartbeats 40000000 in
set_option maxRecDepth 100000 in
theorem lc_27 {p : Program} {l : Launch} {e : Env} {s : State} {m : MethodId} {below : List Frame} {meth : Method} {c : Code} {H : Heap} {locs : List Loc} {cells slots : Nat} {Q : State → Prop} {cy dC : Nat → ClassId} {dI : Nat → Nat → Nat} {a d : Nat → Nat} {ls : Array Slot} {b L i : Nat} {xs : Nat → Int32} {x3 : Int32} (C0 : lw_At p s m meth c b L xs) (F : gFx s cy dC dI a d) (hcs : cells ≤ room_1.cells ∧ slots ≤ room_1.slots) (hL : L ≤ 384) (hi : i + 6 ≤ L) (h3 : x3 = nI i) (hl : lv_has ls 4 [(0, .ref b), (1, .ref (a 0)), (2, .ref (d 0)), (3, .int x3)]) (G : g2 s cy dC dI a d H locs) (kk : ∀ (H1 : Heap) (locs1 : List Loc), g2 s cy dC dI a d H1 locs1 → W p l e room_1 s m #[Value.ref b] below meth c H1 locs1 cells slots Q (F0 m 964 ls [])) : W p l e room_1 s m #[Value.ref b] below meth c H locs cells slots Q (F0 m 895 ls []) := by
  obtain ⟨hx, hb, hr, hml, hown, hts0, hX, hbl, hlocks, hgv⟩ := C0
  obtain ⟨hK, hia, hid, hFa, hFd, hdis, hE⟩ := F
  obtain ⟨I, M, J, N, hI, hJ, hT, hP, hR, hS⟩ := G
  have Sf : CallFix p m c code 4 s #[Value.ref b] fT R_law := ⟨hx, hb, hml, hown, fun w h => hts0 w (List.mem_filter.mp h).1⟩
  refine lv_aload_n (k := 1) (i := 1) (x := a 0) hx hb (by decide +kernel) rfl (lv_at hl 1 rfl) ?_
  refine la_arg (j := 1) (jz := 1) hx hb hX hbl hS hl h3 hi hL (by decide) (by decide +kernel) (by decide +kernel) (by decide +kernel) (by decide +kernel) (by decide +kernel) (by decide +kernel) ?_
  refine g_call (k := 0) (vs := [.int (xs (i + 1))]) (rest := []) (n := 1) (ci := 10) Sf (mX11_image hia) rfl kL_X11_image (by decide +kernel) ⟨Nat.le_of_ble_eq_true rfl, Nat.le_of_ble_eq_true rfl⟩ hcs rfl (by decide) rfl hI (gE hE hFa hS) (fun U g mk a' h => (xE_c a).2 U g mk a' h) hP hK hS hFa hl.1 (Nat.le_of_ble_eq_true rfl) (by show decode code 901 = .ok (.invokevirtual 128, 3); decide +kernel) (fun r I1 M1 H1 locs hq hN hz hk hS => ?_)
  have hR := g_keepP hR hk (fun q h1 h2 => hdis q h2 h1)
  have hP := hN
  obtain ⟨x, rfl, hq⟩ : ∃ x : Int32, r = some (.int x) ∧ qX11_image [.ref 0, .int (xs (i + 1))] I M (.int x) I1 M1 := by
    cases r with
    | none => exact False.elim hq
    | some v => cases v with
      | int x => exact ⟨x, rfl, hq⟩
      | _ => exact False.elim hq
  obtain ⟨zR, zO, zT, zS, zL, zf, zl⟩ := hq
  have hI1 : xAll I1 := ⟨zR, zO, zT, zS, zL⟩
  have hT1 : (I1 0 11).toInt = (I 0 11).toInt := congrArg Int32.toInt (congrFun (zf 0 rfl) 11)
  refine W.eq (g2 := F0 m 904 ls [.int x]) rfl ?_
  refine lv_pop hx hb (by decide +kernel) rfl ?_
  refine lv_aload_n (k := 2) (i := 2) (x := d 0) hx hb (by decide +kernel) rfl (lv_at hl 2 rfl) ?_
  refine la_arg (j := 1) (jz := 1) hx hb hX hbl hS hl h3 hi hL (by decide) (by decide +kernel) (by decide +kernel) (by decide +kernel) (by decide +kernel) (by decide +kernel) (by decide +kernel) ?_
  refine g_call (k := 0) (vs := [.int (xs (i + 1))]) (rest := []) (n := 1) (ci := 11) Sf (mX12_imageb hid) rfl kL_X12_image (by decide +kernel) ⟨Nat.le_of_ble_eq_true rfl, Nat.le_of_ble_eq_true rfl⟩ hcs rfl (by decide) rfl hJ (fun _ _ _ => trivial) (fun _ _ _ _ _ => trivial) hR hK hS hFd hl.1 (Nat.le_of_ble_eq_true rfl) (by show decode code 911 = .ok (.invokevirtual 131, 3); decide +kernel) (fun r J1 N1 H1 locs hq hN hz hk hS => ?_)
  have hP := g_keepP hP hk hdis
  have hR := hN
  obtain ⟨y, rfl, hq⟩ : ∃ x : Int32, r = some (.int x) ∧ qX12_imageb [.ref 0, .int (xs (i + 1))] J N (.int x) J1 N1 := by
    cases r with
    | none => exact False.elim hq
    | some v => cases v with
      | int x => exact ⟨x, rfl, hq⟩
      | _ => exact False.elim hq
  obtain ⟨zR, zL, zK, zW, zf, zl⟩ := hq
  have hJ1 : mG J1 := ⟨zR, zL, zK, zW⟩
  have hT2 : (J1 0 84).toInt = (J 0 84).toInt := congrArg Int32.toInt (congrFun (zf 0 rfl) 84)
  refine W.eq (g2 := F0 m 914 ls [.int y]) rfl ?_
  refine lv_pop hx hb (by decide +kernel) rfl ?_
  refine lv_goto (off := 49) (tgt := 964) hx hb (by decide +kernel) (by decide) ?_
  exact kk _ _ ⟨I1, M1, J1, N1, hI1, hJ1, by omega, hP, hR, hS⟩
theorem kL_X11_back : ∀ w ∈ ([.methodLink R_law 132 yX11_back, .instanceMethod yX11_back, .selects yX11_back.cls yX11_back yX11_back, .initialized yX11_back.cls, .code yX11_back cX11_back 2 (f_rt 1)] : List Cond), w ∈ fT := f_pos [1191, 1192, 1193, 1, 1194] (by decide +kernel) (by decide +kernel)
theorem kL_X12_back : ∀ w ∈ ([.methodLink R_law 135 yX12_back, .instanceMethod yX12_back, .selects yX12_back.cls yX12_back yX12_back, .initialized yX12_back.cls, .code yX12_back cX12_back 5 (f_rt 1)] : List Cond), w ∈ fT := f_pos [1869, 1870, 1871, 13, 1872] (by decide +kernel) (by decide +kernel)
set_option maxHeartbeats 40000000 in
set_option maxRecDepth 100000 in
theorem lc_28 {p : Program} {l : Launch} {e : Env} {s : State} {m : MethodId} {below : List Frame} {meth : Method} {c : Code} {H : Heap} {locs : List Loc} {cells slots : Nat} {Q : State → Prop} {cy dC : Nat → ClassId} {dI : Nat → Nat → Nat} {a d : Nat → Nat} {ls : Array Slot} {b L i : Nat} {xs : Nat → Int32} {x3 : Int32} (C0 : lw_At p s m meth c b L xs) (F : gFx s cy dC dI a d) (hcs : cells ≤ room_1.cells ∧ slots ≤ room_1.slots) (hL : L ≤ 384) (hi : i + 6 ≤ L) (h3 : x3 = nI i) (hl : lv_has ls 4 [(0, .ref b), (1, .ref (a 0)), (2, .ref (d 0)), (3, .int x3)]) (G : g2 s cy dC dI a d H locs) (kk : ∀ (H1 : Heap) (locs1 : List Loc), g2 s cy dC dI a d H1 locs1 → W p l e room_1 s m #[Value.ref b] below meth c H1 locs1 cells slots Q (F0 m 964 ls [])) : W p l e room_1 s m #[Value.ref b] below meth c H locs cells slots Q (F0 m 918 ls []) := by
  obtain ⟨hx, hb, hr, hml, hown, hts0, hX, hbl, hlocks, hgv⟩ := C0
  obtain ⟨hK, hia, hid, hFa, hFd, hdis, hE⟩ := F
  obtain ⟨I, M, J, N, hI, hJ, hT, hP, hR, hS⟩ := G
  have Sf : CallFix p m c code 4 s #[Value.ref b] fT R_law := ⟨hx, hb, hml, hown, fun w h => hts0 w (List.mem_filter.mp h).1⟩
  refine lv_aload_n (k := 1) (i := 1) (x := a 0) hx hb (by decide +kernel) rfl (lv_at hl 1 rfl) ?_
  refine la_arg (j := 1) (jz := 1) hx hb hX hbl hS hl h3 hi hL (by decide) (by decide +kernel) (by decide +kernel) (by decide +kernel) (by decide +kernel) (by decide +kernel) (by decide +kernel) ?_
  refine g_call (k := 0) (vs := [.int (xs (i + 1))]) (rest := []) (n := 1) (ci := 10) Sf (mX11_back hia) rfl kL_X11_back (by decide +kernel) ⟨Nat.le_of_ble_eq_true rfl, Nat.le_of_ble_eq_true rfl⟩ hcs rfl (by decide) rfl hI (gE hE hFa hS) (fun U g mk a' h => (xE_c a).2 U g mk a' h) hP hK hS hFa hl.1 (Nat.le_of_ble_eq_true rfl) (by show decode code 924 = .ok (.invokevirtual 132, 3); decide +kernel) (fun r I1 M1 H1 locs hq hN hz hk hS => ?_)
  have hR := g_keepP hR hk (fun q h1 h2 => hdis q h2 h1)
  have hP := hN
  obtain ⟨x, rfl, hq⟩ : ∃ x : Int32, r = some (.int x) ∧ qX11_back [.ref 0, .int (xs (i + 1))] I M (.int x) I1 M1 := by
    cases r with
    | none => exact False.elim hq
    | some v => cases v with
      | int x => exact ⟨x, rfl, hq⟩
      | _ => exact False.elim hq
  obtain ⟨zR, zO, zT, zS, zL, zf, zl⟩ := hq
  have hI1 : xAll I1 := ⟨zR, zO, zT, zS, zL⟩
  have hT1 : (I1 0 11).toInt = (I 0 11).toInt := congrArg Int32.toInt (congrFun (zf 0 rfl) 11)
  refine W.eq (g2 := F0 m 927 ls [.int x]) rfl ?_
  refine lv_pop hx hb (by decide +kernel) rfl ?_
  refine lv_aload_n (k := 2) (i := 2) (x := d 0) hx hb (by decide +kernel) rfl (lv_at hl 2 rfl) ?_
  refine la_arg (j := 1) (jz := 1) hx hb hX hbl hS hl h3 hi hL (by decide) (by decide +kernel) (by decide +kernel) (by decide +kernel) (by decide +kernel) (by decide +kernel) (by decide +kernel) ?_
  refine g_call (k := 0) (vs := [.int (xs (i + 1))]) (rest := []) (n := 1) (ci := 11) Sf (mX12_backb hid) rfl kL_X12_back (by decide +kernel) ⟨Nat.le_of_ble_eq_true rfl, Nat.le_of_ble_eq_true rfl⟩ hcs rfl (by decide) rfl hJ (fun _ _ _ => trivial) (fun _ _ _ _ _ => trivial) hR hK hS hFd hl.1 (Nat.le_of_ble_eq_true rfl) (by show decode code 934 = .ok (.invokevirtual 135, 3); decide +kernel) (fun r J1 N1 H1 locs hq hN hz hk hS => ?_)
  have hP := g_keepP hP hk hdis
  have hR := hN
  obtain ⟨y, rfl, hq⟩ : ∃ x : Int32, r = some (.int x) ∧ qX12_backb [.ref 0, .int (xs (i + 1))] J N (.int x) J1 N1 := by
    cases r with
    | none => exact False.elim hq
    | some v => cases v with
      | int x => exact ⟨x, rfl, hq⟩
      | _ => exact False.elim hq
  obtain ⟨zR, zL, zK, zW, zo, zf, zl⟩ := hq
  have hJ1 : mG J1 := ⟨zR, zL, zK, zW⟩
  have hT2 : (J1 0 84).toInt = (J 0 84).toInt := congrArg Int32.toInt (zo 84 rfl)
  refine W.eq (g2 := F0 m 937 ls [.int y]) rfl ?_
  refine lv_pop hx hb (by decide +kernel) rfl ?_
  refine lv_goto (off := 26) (tgt := 964) hx hb (by decide +kernel) (by decide) ?_
  exact kk _ _ ⟨I1, M1, J1, N1, hI1, hJ1, by omega, hP, hR, hS⟩
theorem kL_X11_about : ∀ w ∈ ([.methodLink R_law 136 yX11_about, .instanceMethod yX11_about, .selects yX11_about.cls yX11_about yX11_about, .initialized yX11_about.cls, .code yX11_about cX11_about 2 (f_rt 1)] : List Cond), w ∈ fT := f_pos [1195, 1196, 1197, 1, 1198] (by decide +kernel) (by decide +kernel)
theorem kL_X12_about : ∀ w ∈ ([.methodLink R_law 139 yX12_about, .instanceMethod yX12_about, .selects yX12_about.cls yX12_about yX12_about, .initialized yX12_about.cls, .code yX12_about cX12_about 2 (f_rt 1)] : List Cond), w ∈ fT := f_pos [1873, 1874, 1875, 13, 1876] (by decide +kernel) (by decide +kernel)
set_option maxHeartbeats 40000000 in
set_option maxRecDepth 100000 in
theorem lc_29 {p : Program} {l : Launch} {e : Env} {s : State} {m : MethodId} {below : List Frame} {meth : Method} {c : Code} {H : Heap} {locs : List Loc} {cells slots : Nat} {Q : State → Prop} {cy dC : Nat → ClassId} {dI : Nat → Nat → Nat} {a d : Nat → Nat} {ls : Array Slot} {b L i : Nat} {xs : Nat → Int32} {x3 : Int32} (C0 : lw_At p s m meth c b L xs) (F : gFx s cy dC dI a d) (hcs : cells ≤ room_1.cells ∧ slots ≤ room_1.slots) (hL : L ≤ 384) (hi : i + 6 ≤ L) (h3 : x3 = nI i) (hl : lv_has ls 4 [(0, .ref b), (1, .ref (a 0)), (2, .ref (d 0)), (3, .int x3)]) (G : g2 s cy dC dI a d H locs) (kk : ∀ (H1 : Heap) (locs1 : List Loc), g2 s cy dC dI a d H1 locs1 → W p l e room_1 s m #[Value.ref b] below meth c H1 locs1 cells slots Q (F0 m 964 ls [])) : W p l e room_1 s m #[Value.ref b] below meth c H locs cells slots Q (F0 m 941 ls []) := by
  obtain ⟨hx, hb, hr, hml, hown, hts0, hX, hbl, hlocks, hgv⟩ := C0
  obtain ⟨hK, hia, hid, hFa, hFd, hdis, hE⟩ := F
  obtain ⟨I, M, J, N, hI, hJ, hT, hP, hR, hS⟩ := G
  have Sf : CallFix p m c code 4 s #[Value.ref b] fT R_law := ⟨hx, hb, hml, hown, fun w h => hts0 w (List.mem_filter.mp h).1⟩
  refine lv_aload_n (k := 1) (i := 1) (x := a 0) hx hb (by decide +kernel) rfl (lv_at hl 1 rfl) ?_
  refine la_arg (j := 1) (jz := 1) hx hb hX hbl hS hl h3 hi hL (by decide) (by decide +kernel) (by decide +kernel) (by decide +kernel) (by decide +kernel) (by decide +kernel) (by decide +kernel) ?_
  refine g_call (k := 0) (vs := [.int (xs (i + 1))]) (rest := []) (n := 1) (ci := 10) Sf (mX11_about hia) rfl kL_X11_about (by decide +kernel) ⟨Nat.le_of_ble_eq_true rfl, Nat.le_of_ble_eq_true rfl⟩ hcs rfl (by decide) rfl ⟨hI.1, hI.2.2.2.2⟩ (gE hE hFa hS) (fun U g mk a' h => (xE_c a).2 U g mk a' h) hP hK hS hFa hl.1 (Nat.le_of_ble_eq_true rfl) (by show decode code 947 = .ok (.invokevirtual 136, 3); decide +kernel) (fun r I1 M1 H1 locs hq hN hz hk hS => ?_)
  have hR := g_keepP hR hk (fun q h1 h2 => hdis q h2 h1)
  have hP := hN
  obtain ⟨x, rfl, hq⟩ : ∃ x : Int32, r = some (.int x) ∧ qX11_about [.ref 0, .int (xs (i + 1))] I M (.int x) I1 M1 := by
    cases r with
    | none => exact False.elim hq
    | some v => cases v with
      | int x => exact ⟨x, rfl, hq⟩
      | _ => exact False.elim hq
  obtain ⟨ze, zl⟩ := hq
  have hI1 : xAll I1 := by rw [ze]; exact hI
  have hT1 : (I1 0 11).toInt = (I 0 11).toInt := by rw [ze]
  refine W.eq (g2 := F0 m 950 ls [.int x]) rfl ?_
  refine lv_pop hx hb (by decide +kernel) rfl ?_
  refine lv_aload_n (k := 2) (i := 2) (x := d 0) hx hb (by decide +kernel) rfl (lv_at hl 2 rfl) ?_
  refine la_arg (j := 1) (jz := 1) hx hb hX hbl hS hl h3 hi hL (by decide) (by decide +kernel) (by decide +kernel) (by decide +kernel) (by decide +kernel) (by decide +kernel) (by decide +kernel) ?_
  refine g_call (k := 0) (vs := [.int (xs (i + 1))]) (rest := []) (n := 1) (ci := 11) Sf (mX12_about hid) rfl kL_X12_about (by decide +kernel) ⟨Nat.le_of_ble_eq_true rfl, Nat.le_of_ble_eq_true rfl⟩ hcs rfl (by decide) rfl hJ.1 (fun _ _ _ => trivial) (fun _ _ _ _ _ => trivial) hR hK hS hFd hl.1 (Nat.le_of_ble_eq_true rfl) (by show decode code 957 = .ok (.invokevirtual 139, 3); decide +kernel) (fun r J1 N1 H1 locs hq hN hz hk hS => ?_)
  have hP := g_keepP hP hk hdis
  have hR := hN
  obtain ⟨y, rfl, hq⟩ : ∃ x : Int32, r = some (.int x) ∧ qX12_about [.ref 0, .int (xs (i + 1))] J N (.int x) J1 N1 := by
    cases r with
    | none => exact False.elim hq
    | some v => cases v with
      | int x => exact ⟨x, rfl, hq⟩
      | _ => exact False.elim hq
  obtain ⟨ze, zl⟩ := hq
  have hJ1 : mG J1 := by rw [ze]; exact hJ
  have hT2 : (J1 0 84).toInt = (J 0 84).toInt := by rw [ze]
  refine W.eq (g2 := F0 m 960 ls [.int y]) rfl ?_
  refine lv_pop hx hb (by decide +kernel) rfl ?_
  refine lv_goto (off := 3) (tgt := 964) hx hb (by decide +kernel) (by decide) ?_
  exact kk _ _ ⟨I1, M1, J1, N1, hI1, hJ1, by omega, hP, hR, hS⟩
