/-! the reference's constructor -/
theorem mI0_R : mR mI0 := by
  intro k j
  by_cases h : k = 0
  · subst h
    show (mB 0 j).1 ≤ ((if j = 5 then (-1 : Int32) else 0)).toInt ∧ ((if j = 5 then (-1 : Int32) else 0)).toInt ≤ (mB 0 j).2
    by_cases h5 : j = 5
    · subst h5; exact ⟨by decide, by decide⟩
    · rw [if_neg h5]
      simp only [mB]
      split <;> exact ⟨by decide, by decide⟩
  · have e : mI0 k j = 0 := by
      unfold mI0
      split
      · exact absurd rfl h
      · rfl
    rw [e]
    unfold mB
    split <;> first | exact ⟨by decide, by decide⟩ | (split <;> exact ⟨by decide, by decide⟩)
/-- what holds of the reference between two calls -/
def mG (I : fM) : Prop := mR I ∧ mL I ∧ mK I ∧ mW I
theorem g_one {x : Nat × va_E} {sz : Nat} : va_D (va_A [x] sz) [x] := by
  refine ⟨fun i j a b ha hb _ => ?_, fun k q hq => va_A.in hq⟩
  have hi := (List.getElem?_eq_some_iff.mp ha).1
  have hj := (List.getElem?_eq_some_iff.mp hb).1
  simp at hi hj
  omega
theorem g_fD {Y : fY} {NC : Nat} {a : Nat → Nat} {cy : Nat → ClassId} {I I' : fM} {L L' : fN} {A : Nat → Prop} (h : va_D A (f_w Y NC a cy I L)) : va_D A (f_w Y NC a cy I' L') := by
  refine ⟨fun i j x y hx hy hxy => ?_, fun k q hq => ?_⟩
  · obtain ⟨h1, h2⟩ := f_w_inv hx
    obtain ⟨h3, h4⟩ := f_w_inv hy
    exact h.1 i j _ _ (f_w_at Y a cy I L h1) (f_w_at Y a cy I L h3) (by rw [← h2, ← h4]; exact hxy)
  · obtain ⟨h1, h2⟩ := f_w_inv hq
    rw [h2]
    exact h.2 k _ (f_w_at Y a cy I L h1)
theorem g_inj {Y : fY} {NC : Nat} {a : Nat → Nat} {cy : Nat → ClassId} {I : fM} {L : fN} {A : Nat → Prop} (h : va_D A (f_w Y NC a cy I L)) : (∀ i j, i < NC → j < NC → a i = a j → i = j) ∧ ∀ q, f_A NC a q → A q :=
  ⟨fun i j hi hj e => h.1 i j _ _ (f_w_at Y a cy I L hi) (f_w_at Y a cy I L hj) e, fun q ⟨k, hk, e⟩ => e ▸ h.2 k _ (f_w_at Y a cy I L hk)⟩
set_option maxHeartbeats 40000000 in
set_option maxRecDepth 100000 in
theorem nX12 (l : Launch) (dC : Nat → ClassId) (dI : Nat → Nat → Nat) (cy : Nat → ClassId) (h0 sz : Nat) : Met l yX12_init (Cond.code yX12_init cX12_init 2 none :: fT) rm12 (va_Pc [.ref h0] (fun U => U.heap.size = sz ∧ va_P (dC, dI) vwCl [(h0, .inr (11, df12))] U.heap ∧ va_K (dC, dI) vwCl (f_tys cy) U))
    (va_Qv (fun _ : Unit => True) (fun _ t => ∃ (a : Nat → Nat) (I : fM) (L : fN), a 0 = h0 ∧ mG I ∧ (I 0 2).toInt = 0 ∧ (I 0 84).toInt = 0 ∧ va_P (dC, dI) vwCl (f_w mY 71 a cy I L) t.heap ∧ va_D (va_A [(h0, .inr (11, df12))] sz) (f_w mY 71 a cy I L)) (va_A [(h0, .inr (11, df12))] sz)) 70 39875 (va_A [(h0, .inr (11, df12))] sz) := by
  refine Met.ofW (cc := cX12_init) (maxL := 2) (ret := none) (by decide) rfl ?_
  intro p e s m args below meth c s₁ B hml hv
  obtain ⟨rfl, hsz, hP, hK⟩ := hv
  have hx := B.exec
  have hb := B.bytes
  have hr := B.returns
  have hts0 := atoms_spec (ws := Cond.code yX12_init cX12_init 2 none :: fT) B.pre
  have hts : ∀ w ∈ fT, w.before _ s = true := fun w h => hts0 w (List.mem_cons_of_mem _ h)
  have hown : s.vm.findClass RX12 = some m.cls := findClass_of_methodNamed B.named
  have hlocks := B.notSynchronized
  have hin : meth.name = "<init>" := (name_of_methodNamed B.named B.method).1
  have C : g_Cx p s m [Value.ref h0].toArray meth c cy dC dI cX12_init RX12 := ⟨hx, hb, hown, hts, hin, hK⟩
  have Sf : CallFix p m c cX12_init 2 s [Value.ref h0].toArray fT RX12 := ⟨hx, hb, hml, hown, hts⟩
  subst hsz
  have hD : va_D (va_A [(h0, .inr (11, df12))] s.heap.size) [(h0, .inr (11, df12))] := g_one
  generalize hAe : va_A [(h0, .inr (11, df12))] s.heap.size = A at hD ⊢
  have hA : ∀ q : Nat, s.heap.size ≤ q → A q := fun q h => by rw [← hAe]; exact Or.inr h
  have hS : va_S A s.heap s.heap [] := va_S.rf
  have hl := lv_entry ([.ref h0]) (n := 2) (Nat.le_of_ble_eq_true rfl)
  rw [lg_entry_eq]
  generalize (lg_sl ([.ref h0]) ++ List.replicate (2 - (lg_sl ([.ref h0])).length) Slot.unset).toArray = ls at hl ⊢
  have hl : lv_has ls 2 [(0, .ref h0)] := hl
  refine lv_aload_n (k := 0) (i := 0) (x := h0) hx hb (by decide +kernel) rfl (lv_at hl 0 rfl) ?_
  refine W.objInit hx hb hown (hts _ oi_X12) (hts _ oi_im) (hts _ oi_co) rfl (by rw [hml]; exact hl.1) rfl (by show decode cX12_init 1 = .ok (.invokespecial 1, 3); decide +kernel) (Nat.le_of_ble_eq_true rfl) (Nat.le_of_ble_eq_true rfl) ?_
  refine W.eq (g2 := F0 m 4 ls []) rfl ?_
  refine i12_arrays C hl hP hD hS hA (fun q1 q2 q3 q4 q5 q6 q7 q8 q9 q10 q11 q12 q13 q14 q15 q16 q17 q18 q19 q20 q21 q22 q23 q24 q25 q26 q27 q28 q29 q30 q31 q32 q33 q34 q35 q36 q37 q38 q39 q40 q41 q42 q43 q44 q45 q46 q47 q48 q49 q50 q51 q52 q53 q54 q55 q56 q57 q58 q59 q60 q61 q62 q63 q64 q65 q66 q67 q68 q69 q70 H locs hPa hDa hSa => ?_)
  obtain ⟨a, ha⟩ : ∃ a : Nat → Nat, a = (fun k => (ad12 h0 q1 q2 q3 q4 q5 q6 q7 q8 q9 q10 q11 q12 q13 q14 q15 q16 q17 q18 q19 q20 q21 q22 q23 q24 q25 q26 q27 q28 q29 q30 q31 q32 q33 q34 q35 q36 q37 q38 q39 q40 q41 q42 q43 q44 q45 q46 q47 q48 q49 q50 q51 q52 q53 q54 q55 q56 q57 q58 q59 q60 q61 q62 q63 q64 q65 q66 q67 q68 q69 q70).getD k 0) := ⟨_, rfl⟩
  have ha0 : a 0 = h0 := by rw [ha]; rfl
  rw [← ha] at hPa hDa
  clear ha
  subst ha0
  obtain ⟨hinj, hF⟩ := g_inj hDa
  -- clearBank
  refine lv_aload_n (k := 0) (i := 0) (x := a 0) hx hb (by decide +kernel) rfl (lv_at hl 0 rfl) ?_
  refine g_call (k := 0) (vs := []) (rest := []) (n := 0) (ci := 11) Sf (mX12_clearBankb hinj) rfl (List.forall_mem_cons.mpr ⟨(mlX12_ok _ (List.mem_of_getElem? (i := 0) rfl)), kc_X12_clearBank⟩) (by decide +kernel) ⟨Nat.le_of_ble_eq_true rfl, Nat.le_of_ble_eq_true rfl⟩ ⟨Nat.le_of_ble_eq_true rfl, Nat.le_of_ble_eq_true rfl⟩ rfl (by decide) rfl mI0_R (fun _ _ _ => trivial) (fun _ _ _ _ _ => trivial) hPa hK hSa hF hl.1 (by decide) (by decide +kernel) (fun r I1 L1 H locs hq hP _ _ hS => ?_)
  have hr0 : r = none := by cases r with | none => rfl | some v => exact hq.elim
  subst hr0
  have hq : mR I1 ∧ f_fr [8, 9, 10, 11, 14] mI0 I1 ∧ L1 = mL0 ∧ I1 8 = upd (mI0 8) (mI0 0 25).toInt.toNat (Int32.ofInt 0) ∧ I1 9 = upd (mI0 9) (mI0 0 25).toInt.toNat (Int32.ofInt 0) ∧ I1 10 = upd (mI0 10) (mI0 0 25).toInt.toNat (Int32.ofInt (-1)) ∧ I1 11 = upd (mI0 11) (mI0 0 25).toInt.toNat (Int32.ofInt 0) ∧ I1 14 = upd (mI0 14) (mI0 0 25).toInt.toNat (vp_nar .boolean (Int32.ofInt 0)) := hq
  obtain ⟨k0, k1, k2, k3, k4, k5, k6, k7⟩ := hq
  have e24 : I1 0 24 = 0 := congrFun (k1 0 rfl) 24
  have z8 : (I1 8 (I1 0 24).toInt.toNat).toInt = 0 := by rw [e24, k3]; exact congrArg Int32.toInt (pk_us (k := 0))
  have z9 : (I1 9 (I1 0 24).toInt.toNat).toInt = 0 := by rw [e24, k4]; exact congrArg Int32.toInt (pk_us (k := 0))
  have z11 : (I1 11 (I1 0 24).toInt.toNat).toInt = 0 := by rw [e24, k6]; exact congrArg Int32.toInt (pk_us (k := 0))
  have z14 : (I1 14 (I1 0 24).toInt.toNat).toInt = 0 := by rw [e24, k7]; exact congrArg Int32.toInt (pk_us (k := 0))
  have hmA : mA I1 := ⟨fun n a b => by omega, fun k a b => by omega, fun h => absurd z14 h, fun h => by omega⟩
  -- settle
  refine W.eq (g2 := F0 m 579 ls []) rfl ?_
  refine lv_aload_n (k := 0) (i := 0) (x := a 0) hx hb (by decide +kernel) rfl (lv_at hl 0 rfl) ?_
  refine g_call (k := 0) (vs := []) (rest := []) (n := 0) (ci := 11) Sf (mX12_settle hinj) rfl (List.forall_mem_cons.mpr ⟨(mlX12_ok _ (List.mem_of_getElem? (i := 1) rfl)), kc_X12_settle⟩) (by decide +kernel) ⟨Nat.le_of_ble_eq_true rfl, Nat.le_of_ble_eq_true rfl⟩ ⟨Nat.le_of_ble_eq_true rfl, Nat.le_of_ble_eq_true rfl⟩ rfl (by decide) rfl ⟨k0, hmA⟩ (fun _ _ _ => trivial) (fun _ _ _ _ _ => trivial) hP hK hS hF hl.1 (by decide) (by decide +kernel) (fun r I2 L2 H locs hq hP _ _ hS => ?_)
  have hr0 : r = none := by cases r with | none => rfl | some v => exact hq.elim
  subst hr0
  have hq : mR I2 ∧ f_fo [70] I1 I2 ∧ f_fr [0, 3, 4, 5, 6, 7, 10] I1 I2 ∧ L2 = L1 ∧ mL I2 := hq
  obtain ⟨s0, s1, s2, s3, s4⟩ := hq
  refine W.eq (g2 := F0 m 583 ls []) rfl ?_
  refine lv_iconst (v := 0) hx hb (n := 0) (by decide +kernel) rfl ?_
  refine lv_istore_n (k := 1) (i := 1) (lv' := [(1, .int 0), (0, .ref (a 0))]) hx hb (by decide +kernel) rfl hl (by decide) rfl (fun ls hl => ?_)
  -- the loop: three turns
  have turn : ∀ (nn : Nat) (b : Int32) (I : fM) (H : Heap) (locs : List Loc) (ls : Array Slot), nn = (3 - b.toInt).toNat → 0 ≤ b.toInt → b.toInt ≤ 3 → mR I → mL I → f_fo [70] I2 I → f_fr [0, 63] I2 I → (∀ j : Nat, (j : Int) < b.toInt → (I 63 j).toInt = -1) → va_P (dC, dI) vwCl (f_w mY 71 a cy I L2) H → va_S A s.heap H locs → lv_has ls 2 [(1, .int b), (0, .ref (a 0))] →
      W p l e rm12 s m [Value.ref (a 0)].toArray below meth c H locs 70 39875 (MQ below (va_Qv (fun _ : Unit => True) (fun _ t => ∃ (a' : Nat → Nat) (I : fM) (L : fN), a' 0 = a 0 ∧ mG I ∧ (I 0 2).toInt = 0 ∧ (I 0 84).toInt = 0 ∧ va_P (dC, dI) vwCl (f_w mY 71 a' cy I L) t.heap ∧ va_D A (f_w mY 71 a' cy I L)) A) [Value.ref (a 0)].toArray s 70 39875 A) (F0 m 585 ls []) := by
    intro nn
    induction nn with
    | zero =>
      intro b I H locs ls hn hb0 hb3 hR hL hO hFr h63 hP hS hl
      refine lv_iload_n (k := 1) (i := 1) (x := b) hx hb (by decide +kernel) rfl (lv_at hl 0 rfl) ?_
      refine lv_iconst (v := 3) hx hb (n := 3) (by decide +kernel) rfl ?_
      refine lv_icmp_ge (off := 16) (tgt := 603) hx hb (by decide +kernel) (by decide) (fun _ => ?_) (fun hc => absurd (Int32.le_iff_toInt_le.mpr (by show (3 : Int) ≤ b.toInt; omega)) hc)
      have g : mG I := by
        refine ⟨hR, hL, ?_, mW_zero ?_ ?_ (fun j hj => h63 j (by omega))⟩
        · unfold mK; rw [hO 48 rfl, s1 48 rfl, congrFun (k1 0 rfl) 48]; rfl
        · rw [hO 30 rfl, s1 30 rfl, congrFun (k1 0 rfl) 30]; rfl
        · rw [hO 83 rfl, s1 83 rfl, congrFun (k1 0 rfl) 83]; rfl
      exact W.vret hx hb hr (fun t ht hW => ⟨⟨(), rfl, trivial, a, I, L2, rfl, g, by rw [hO 2 rfl, s1 2 rfl, congrFun (k1 0 rfl) 2]; rfl, by rw [hO 84 rfl, s1 84 rfl, congrFun (k1 0 rfl) 84]; rfl, by rw [ht]; exact hP, g_fD hDa⟩, hS.F ht⟩) hS.2.2 (by decide +kernel)
    | succ nn ih =>
      intro b I H locs ls hn hb0 hb3 hR hL hO hFr h63 hP hS hl
      have hlt : b.toInt < 3 := by omega
      refine lv_iload_n (k := 1) (i := 1) (x := b) hx hb (by decide +kernel) rfl (lv_at hl 0 rfl) ?_
      refine lv_iconst (v := 3) hx hb (n := 3) (by decide +kernel) rfl ?_
      refine lv_icmp_ge (off := 16) (tgt := 603) hx hb (by decide +kernel) (by decide) (fun hc => absurd (Int32.le_iff_toInt_le.mp hc) (by show ¬ (3 : Int) ≤ b.toInt; omega)) (fun _ => ?_)
      refine lv_aload_n (k := 0) (i := 0) (x := a 0) hx hb (by decide +kernel) rfl (lv_at hl 1 rfl) ?_
      have he : (f_w mY 71 a cy I L2)[0]? = some (a 0, .inr (11, f_fs a (I 0) (L2 0) (match mYl.getD 0 (.inr (99, [])) with | .inr (_, ds) => ds | _ => []))) := by rw [f_w_at mY a cy I L2 (by decide), f_cell_o (ci := 11) rfl]; rfl
      refine va_get hx hb hts (f_cl 11 _ _ _ rfl).1 hown hK hP 0 he rfl 87 (by decide) (hts _ (g_link flX12_ok (j := 203) (w := 0) rfl (T := TX12) rfl).2) (fun _ h9 => h9) (f_fs_at (d := (3, 63)) a _ _ rfl) (by decide +kernel) ?_
      refine lv_iload_n (k := 1) (i := 1) (x := b) hx hb (by decide +kernel) rfl (lv_at hl 0 rfl) ?_
      refine lv_iconst (v := -1) hx hb (n := (-1)) (by decide +kernel) rfl ?_
      have hy : mY 63 = .inl (0, 3) := rfl
      refine va_iast hx hb hK hP (g_fD hDa) hS 63 0 (by rw [f_w_at mY a cy I L2 (by decide), f_cell_0 hy]) rfl (f_in_vp ⟨hb0, hlt⟩) (by decide +kernel) (fun H1 locs1 hP1 _ hS1 => ?_)
      obtain ⟨b1, eb1⟩ : ∃ y : Int32, y = b + 1 := ⟨_, rfl⟩
      have tb1 : b1.toInt = b.toInt + 1 := by
        rw [eb1, Int32.toInt_add, show (1 : Int32).toInt = 1 from rfl, Int.bmod_def]
        split <;> omega
      refine lv_iinc (i := 1) (n := 1) (x := b) (v := b1) (lv' := [(1, .int b1), (0, .ref (a 0))]) hx hb (by decide +kernel) hl (k := 0) rfl (by rw [eb1]; rfl) (by decide) rfl (fun ls hl => ?_)
      refine lv_goto (off := (-15)) (tgt := 585) hx hb (by decide +kernel) (by decide) ?_
      refine ih b1 (va_up I 63 (upd (I 63) b.toNatClampNeg (-1))) H1 locs1 ls (by omega) (by omega) (by omega) (mR_a hR (show (-1 : Int) ≤ (-1 : Int32).toInt ∧ (-1 : Int32).toInt ≤ (12 : Int) from ⟨by decide, by decide⟩)) (f_depo_up mL_dep hL rfl (by decide)) (f_fo_ne hO (by decide)) (f_fr_up hFr rfl) (fun j hj => ?_) (by rw [← f_w_setI mY a cy I L2 (by decide), f_cell_0 hy]; exact hP1) hS1 hl
      show ((upd (I 63) b.toNatClampNeg (-1)) j).toInt = -1
      by_cases q : j = b.toNatClampNeg
      · rw [q, pk_us]; rfl
      · rw [pk_un q]
        have : ¬ (j : Int) = b.toInt := fun h => q (by show j = b.toInt.toNat; omega)
        exact h63 j (by omega)
  exact turn 3 0 I2 H locs ls rfl (by decide) (by decide) s0 s4 f_fo_rf f_fr_rf (fun j hj => by have hj : (j : Int) < 0 := hj; omega) hP hS hl
