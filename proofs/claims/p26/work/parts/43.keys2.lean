def pX9_cutb (av : List Value) (I : fM) (L : fN) : Prop := match av with
  | [.ref 1, .int n] => xR I
  | _ => False
def qX9_cutb (av : List Value) (I : fM) (L : fN) (r : Value) (I' : fM) (L' : fN) : Prop := match av, r with
  | [.ref 1, .int n], .int x => xR I' ∧ f_fr [1] I I' ∧ L' = L ∧ ((n.toInt < 0 ∨ (I 1 1).toInt < n.toInt) ∧ x.toInt = 0 ∧ (I' 1 1).toInt = (I 1 1).toInt ∨ 0 ≤ n.toInt ∧ n.toInt ≤ (I 1 1).toInt ∧ x.toInt = 1 ∧ (I' 1 1).toInt = n.toInt)
  | _, _ => False
set_option maxHeartbeats 4000000 in
set_option maxRecDepth 100000 in
theorem mX9_cutb {l : Launch} {a : Nat → Nat} {cy dC : Nat → ClassId} {dI : Nat → Nat → Nat} (hinj : ∀ i j, i < 80 → j < 80 → a i = a j → i = j) : f_Met (xE a) l xY 80 a cy dC dI yX9_cut cX9_cut 2 3 0 pX9_cutb qX9_cutb := by
  refine f_met_of (xE_c a) hinj xY_hi (by decide) (fun av I L h => by unfold pX9_cutb at h; split at h <;> first | exact Nat.le_of_ble_eq_true rfl | exact h.elim) ?_
  intro pP eP sP mP aP bP hP9 cP C av I L hp
  unfold pX9_cutb at hp
  split at hp
  case h_2 => exact hp.elim
  case h_1 n =>
    have hR := hp
    have hF0 : f_fr [1] I I := f_fr_rf
    refine f_wp_ok C f_cl flX9_ok fiX9_ok fjX9_ok (sn := none) (fun j h => by cases h) (cs := (fun _ => none)) (cz := (fun _ => none)) (fun j S h => by cases h) (fun j S h => by cases h) tX9_cut_ok (cut := (fun _ => none)) (fun t P h => by cases h) 14 0 tX9_cut tX9_cut_ok _ _ _ _ ?_
    apply And.intro
    · intro h1
      have h1 : n.toInt < 0 := h1
      have r13_1 : 0 ≤ (I 1 1).toInt ∧ (I 1 1).toInt ≤ 1600 := hR 1 1
      exact ⟨Or.inl rfl, hR, hF0, rfl, (show ((n.toInt < 0 ∨ (I 1 1).toInt < n.toInt) ∧ (0 : Int) = 0 ∧ (I 1 1).toInt = (I 1 1).toInt ∨ 0 ≤ n.toInt ∧ n.toInt ≤ (I 1 1).toInt ∧ (0 : Int) = 1 ∧ (I 1 1).toInt = n.toInt) from by first | assumption | omega | rfl)⟩
    · intro h1
      have h1 : 0 ≤ n.toInt := h1
      have r6_1 : 0 ≤ (I 1 1).toInt ∧ (I 1 1).toInt ≤ 1600 := hR 1 1
      apply And.intro
      · intro h9
        have h9 : n.toInt ≤ (I 1 1).toInt := h9
        have hR16 := xR_f (k := 1) (j := 1) (x := n) hR (show 0 ≤ n.toInt ∧ n.toInt ≤ 1600 from ⟨by omega, by omega⟩)
        have hF16 := f_fr_up (k := 1) (r := va_up (I 1) 1 n) hF0 rfl
        exact ⟨Or.inr rfl, hR16, hF16, rfl, (show ((n.toInt < 0 ∨ (I 1 1).toInt < n.toInt) ∧ (1 : Int) = 0 ∧ n.toInt = (I 1 1).toInt ∨ 0 ≤ n.toInt ∧ n.toInt ≤ (I 1 1).toInt ∧ (1 : Int) = 1 ∧ n.toInt = n.toInt) from by first | assumption | omega | rfl)⟩
      · intro h9
        have h9 : (I 1 1).toInt < n.toInt := h9
        exact ⟨Or.inl rfl, hR, hF0, rfl, (show ((n.toInt < 0 ∨ (I 1 1).toInt < n.toInt) ∧ (0 : Int) = 0 ∧ (I 1 1).toInt = (I 1 1).toInt ∨ 0 ≤ n.toInt ∧ n.toInt ≤ (I 1 1).toInt ∧ (0 : Int) = 1 ∧ (I 1 1).toInt = n.toInt) from by first | assumption | omega | rfl)⟩
def tX11_feed : List (Instr × Nat) := [(.aload_n 0, 1), (.getfield 10, 3), (.invokevirtual 87, 3), (.ifCond .ne 5, 3), (.iconst (-1), 1), (.ireturn, 1), (.aload_n 0, 1), (.getfield 10, 3), (.iload_n 1, 1), (.invokevirtual 91, 3), (.aload_n 0, 1), (.getfield 10, 3), (.iload_n 2, 1), (.invokevirtual 91, 3), (.aload_n 0, 1), (.getfield 10, 3), (.iload_n 3, 1), (.invokevirtual 91, 3), (.aload_n 0, 1), (.getfield 10, 3), (.iload 4, 2), (.invokevirtual 91, 3), (.aload_n 0, 1), (.getfield 10, 3), (.iload 5, 2), (.invokevirtual 91, 3), (.aload_n 0, 1), (.getfield 10, 3), (.getfield 95, 3), (.ireturn, 1)]
theorem tX11_feed_ok : f_chk cX11_feed 0 tX11_feed = true := by decide +kernel
def pX11_feed (av : List Value) (I : fM) (L : fN) : Prop := match av with
  | [.ref 0, .int n1, .int n2, .int n3, .int n4, .int n5] => xR I ∧ xO I ∧ xT I ∧ xS I ∧ xL I
  | _ => False
def qX11_feed (av : List Value) (I : fM) (L : fN) (r : Value) (I' : fM) (L' : fN) : Prop := match av, r with
  | [.ref 0, .int n1, .int n2, .int n3, .int n4, .int n5], .int x => xR I' ∧ xO I' ∧ xT I' ∧ xS I' ∧ xL I' ∧ f_fr [1, 2] I I' ∧ L' = L ∧ (1580 < (I 1 1).toInt ∧ x.toInt = -1 ∧ (I' 1 1).toInt = (I 1 1).toInt ∨ (I 1 1).toInt ≤ 1580 ∧ x.toInt = (I 1 1).toInt + 20 ∧ (I' 1 1).toInt = (I 1 1).toInt + 20)
  | _, _ => False
set_option maxHeartbeats 4000000 in
set_option maxRecDepth 100000 in
theorem mX11_feed {l : Launch} {a : Nat → Nat} {cy dC : Nat → ClassId} {dI : Nat → Nat → Nat} (hinj : ∀ i j, i < 80 → j < 80 → a i = a j → i = j) : f_Met (xE a) l xY 80 a cy dC dI yX11_feed cX11_feed 6 1 1 pX11_feed qX11_feed := by
  refine f_met_of (xE_c a) hinj xY_hi (by decide) (fun av I L h => by unfold pX11_feed at h; split at h <;> first | exact Nat.le_of_ble_eq_true rfl | exact h.elim) ?_
  intro pP eP sP mP aP bP hP9 cP C av I L hp
  unfold pX11_feed at hp
  split at hp
  case h_2 => exact hp.elim
  case h_1 n1 n2 n3 n4 n5 =>
    obtain ⟨hR, hxO, hxT, hxS, hxL⟩ := hp
    have hF0 : f_fr [1, 2] I I := f_fr_rf
    refine f_wp_ok C f_cl flX11_ok fiX11_ok fjX11_ok (sn := none) (fun j h => by cases h) (cs := (f_cnl [(87, (1, 3, 8, pX9_hasRoomForFive, qX9_hasRoomForFive)), (91, (2, 0, 8, pX9_addNumber, qX9_addNumber))])) (cz := (fun _ => none)) (f_cnl_of (P := fun j S => f_cok pP l eP (f_rm 1) sP mP aP bP hP9 cP xY 80 a cy dC dI 6 _ _ (.invokevirtual j) true S) (List.forall_mem_cons.mpr ⟨f_cokV C (mX9_hasRoomForFive hinj) (ci := 8) rfl (List.forall_mem_cons.mpr ⟨(mlX11_ok _ (List.mem_of_getElem? (i := 5) rfl)), kc_X9_hasRoomForFive⟩) (by decide +kernel) ⟨Nat.le_of_ble_eq_true rfl, Nat.le_of_ble_eq_true rfl⟩, List.forall_mem_cons.mpr ⟨f_cokV C (mX9_addNumber hinj) (ci := 8) rfl (List.forall_mem_cons.mpr ⟨(mlX11_ok _ (List.mem_of_getElem? (i := 6) rfl)), kc_X9_addNumber⟩) (by decide +kernel) ⟨Nat.le_of_ble_eq_true rfl, Nat.le_of_ble_eq_true rfl⟩, fun _ h => absurd h List.not_mem_nil⟩⟩)) (fun j S h => by cases h) tX11_feed_ok (cut := (fun _ => none)) (fun t P h => by cases h) 31 0 tX11_feed tX11_feed_ok _ _ _ _ ?_
    refine And.intro hR ?_
    intro x4 I4 L4 hq4
    have hq4 : I4 = I ∧ L4 = L ∧ ((x4.toInt = 1 ∧ (I 1 1).toInt ≤ 1580 ∨ x4.toInt = 0 ∧ 1580 < (I 1 1).toInt)) := hq4
    obtain ⟨eI4, eL4, c4_2⟩ := hq4
    replace eI4 := eI4.symm
    subst eI4
    replace eL4 := eL4.symm
    subst eL4
    apply And.intro
    · intro h7
      have h7 : ¬ x4.toInt = 0 := h7
      have r17_1 : 0 ≤ (I 1 1).toInt ∧ (I 1 1).toInt ≤ 1600 := hR 1 1
      refine And.intro ⟨hR, (show (I 1 1).toInt ≤ 1596 from by first | assumption | omega)⟩ ?_
      intro I17 L17 hq17
      have hq17 : xR I17 ∧ f_fr [1, 2] I I17 ∧ L17 = L ∧ (I17 1 1).toInt = (I 1 1).toInt + 4 := hq17
      obtain ⟨c17_0, c17_1, eL17, c17_3⟩ := hq17
      replace eL17 := eL17.symm
      subst eL17
      have hxO17 := f_dep_fr xO_dep hxO c17_1 rfl
      have hxT17 := f_dep_fr xT_dep hxT c17_1 rfl
      have hxS17 := f_dep_fr xS_dep hxS c17_1 rfl
      have hxL17 := f_dep_fr xL_dep hxL c17_1 rfl
      have hF17 := f_fr_tr hF0 c17_1 rfl
      have r25_2 : 0 ≤ (I17 1 1).toInt ∧ (I17 1 1).toInt ≤ 1600 := c17_0 1 1
      refine And.intro ⟨c17_0, (show (I17 1 1).toInt ≤ 1596 from by first | assumption | omega)⟩ ?_
      intro I25 L25 hq25
      have hq25 : xR I25 ∧ f_fr [1, 2] I17 I25 ∧ L25 = L ∧ (I25 1 1).toInt = (I17 1 1).toInt + 4 := hq25
      obtain ⟨c25_0, c25_1, eL25, c25_3⟩ := hq25
      replace eL25 := eL25.symm
      subst eL25
      have hxO25 := f_dep_fr xO_dep hxO17 c25_1 rfl
      have hxT25 := f_dep_fr xT_dep hxT17 c25_1 rfl
      have hxS25 := f_dep_fr xS_dep hxS17 c25_1 rfl
      have hxL25 := f_dep_fr xL_dep hxL17 c25_1 rfl
      have hF25 := f_fr_tr hF17 c25_1 rfl
      have r33_3 : 0 ≤ (I25 1 1).toInt ∧ (I25 1 1).toInt ≤ 1600 := c25_0 1 1
      refine And.intro ⟨c25_0, (show (I25 1 1).toInt ≤ 1596 from by first | assumption | omega)⟩ ?_
      intro I33 L33 hq33
      have hq33 : xR I33 ∧ f_fr [1, 2] I25 I33 ∧ L33 = L ∧ (I33 1 1).toInt = (I25 1 1).toInt + 4 := hq33
      obtain ⟨c33_0, c33_1, eL33, c33_3⟩ := hq33
      replace eL33 := eL33.symm
      subst eL33
      have hxO33 := f_dep_fr xO_dep hxO25 c33_1 rfl
      have hxT33 := f_dep_fr xT_dep hxT25 c33_1 rfl
      have hxS33 := f_dep_fr xS_dep hxS25 c33_1 rfl
      have hxL33 := f_dep_fr xL_dep hxL25 c33_1 rfl
      have hF33 := f_fr_tr hF25 c33_1 rfl
      have r42_4 : 0 ≤ (I33 1 1).toInt ∧ (I33 1 1).toInt ≤ 1600 := c33_0 1 1
      refine And.intro ⟨c33_0, (show (I33 1 1).toInt ≤ 1596 from by first | assumption | omega)⟩ ?_
      intro I42 L42 hq42
      have hq42 : xR I42 ∧ f_fr [1, 2] I33 I42 ∧ L42 = L ∧ (I42 1 1).toInt = (I33 1 1).toInt + 4 := hq42
      obtain ⟨c42_0, c42_1, eL42, c42_3⟩ := hq42
      replace eL42 := eL42.symm
      subst eL42
      have hxO42 := f_dep_fr xO_dep hxO33 c42_1 rfl
      have hxT42 := f_dep_fr xT_dep hxT33 c42_1 rfl
      have hxS42 := f_dep_fr xS_dep hxS33 c42_1 rfl
      have hxL42 := f_dep_fr xL_dep hxL33 c42_1 rfl
      have hF42 := f_fr_tr hF33 c42_1 rfl
      have r51_5 : 0 ≤ (I42 1 1).toInt ∧ (I42 1 1).toInt ≤ 1600 := c42_0 1 1
      refine And.intro ⟨c42_0, (show (I42 1 1).toInt ≤ 1596 from by first | assumption | omega)⟩ ?_
      intro I51 L51 hq51
      have hq51 : xR I51 ∧ f_fr [1, 2] I42 I51 ∧ L51 = L ∧ (I51 1 1).toInt = (I42 1 1).toInt + 4 := hq51
      obtain ⟨c51_0, c51_1, eL51, c51_3⟩ := hq51
      replace eL51 := eL51.symm
      subst eL51
      have hxO51 := f_dep_fr xO_dep hxO42 c51_1 rfl
      have hxT51 := f_dep_fr xT_dep hxT42 c51_1 rfl
      have hxS51 := f_dep_fr xS_dep hxS42 c51_1 rfl
      have hxL51 := f_dep_fr xL_dep hxL42 c51_1 rfl
      have hF51 := f_fr_tr hF42 c51_1 rfl
      have r58_6 : 0 ≤ (I51 1 1).toInt ∧ (I51 1 1).toInt ≤ 1600 := c51_0 1 1
      exact ⟨c51_0, hxO51, hxT51, hxS51, hxL51, hF51, rfl, (show (1580 < (I 1 1).toInt ∧ (I51 1 1).toInt = -1 ∧ (I51 1 1).toInt = (I 1 1).toInt ∨ (I 1 1).toInt ≤ 1580 ∧ (I51 1 1).toInt = (I 1 1).toInt + 20 ∧ (I51 1 1).toInt = (I 1 1).toInt + 20) from by first | assumption | omega | rfl)⟩
    · intro h7
      have h7 : x4.toInt = 0 := h7
      have r11_1 : 0 ≤ (I 1 1).toInt ∧ (I 1 1).toInt ≤ 1600 := hR 1 1
      exact ⟨hR, hxO, hxT, hxS, hxL, hF0, rfl, (show (1580 < (I 1 1).toInt ∧ (-1 : Int) = -1 ∧ (I 1 1).toInt = (I 1 1).toInt ∨ (I 1 1).toInt ≤ 1580 ∧ (-1 : Int) = (I 1 1).toInt + 20 ∧ (I 1 1).toInt = (I 1 1).toInt + 20) from by first | assumption | omega | rfl)⟩
def tX11_end : List (Instr × Nat) := [(.aload_n 0, 1), (.getfield 10, 3), (.iload_n 1, 1), (.invokevirtual 99, 3), (.ifCond .eq 7, 3), (.iload_n 1, 1), (.goto 4, 3), (.iconst (-1), 1), (.ireturn, 1)]
theorem tX11_end_ok : f_chk cX11_end 0 tX11_end = true := by decide +kernel
def pX11_end (av : List Value) (I : fM) (L : fN) : Prop := match av with
  | [.ref 0, .int n] => xR I ∧ xO I ∧ xT I ∧ xS I ∧ xL I
  | _ => False
def qX11_end (av : List Value) (I : fM) (L : fN) (r : Value) (I' : fM) (L' : fN) : Prop := match av, r with
  | [.ref 0, .int n], .int x => xR I' ∧ xO I' ∧ xT I' ∧ xS I' ∧ xL I' ∧ f_fr [1] I I' ∧ L' = L ∧ ((n.toInt < 0 ∨ (I 1 1).toInt < n.toInt) ∧ x.toInt = -1 ∧ (I' 1 1).toInt = (I 1 1).toInt ∨ 0 ≤ n.toInt ∧ n.toInt ≤ (I 1 1).toInt ∧ x.toInt = n.toInt ∧ (I' 1 1).toInt = n.toInt)
  | _, _ => False
set_option maxHeartbeats 4000000 in
set_option maxRecDepth 100000 in
theorem mX11_end {l : Launch} {a : Nat → Nat} {cy dC : Nat → ClassId} {dI : Nat → Nat → Nat} (hinj : ∀ i j, i < 80 → j < 80 → a i = a j → i = j) : f_Met (xE a) l xY 80 a cy dC dI yX11_end cX11_end 2 1 1 pX11_end qX11_end := by
  refine f_met_of (xE_c a) hinj xY_hi (by decide) (fun av I L h => by unfold pX11_end at h; split at h <;> first | exact Nat.le_of_ble_eq_true rfl | exact h.elim) ?_
  intro pP eP sP mP aP bP hP9 cP C av I L hp
  unfold pX11_end at hp
  split at hp
  case h_2 => exact hp.elim
  case h_1 n =>
    obtain ⟨hR, hxO, hxT, hxS, hxL⟩ := hp
    have hF0 : f_fr [1] I I := f_fr_rf
    refine f_wp_ok C f_cl flX11_ok fiX11_ok fjX11_ok (sn := none) (fun j h => by cases h) (cs := (f_cnl [(99, (2, 3, 8, pX9_cutb, qX9_cutb))])) (cz := (fun _ => none)) (f_cnl_of (P := fun j S => f_cok pP l eP (f_rm 1) sP mP aP bP hP9 cP xY 80 a cy dC dI 2 _ _ (.invokevirtual j) true S) (List.forall_mem_cons.mpr ⟨f_cokV C (mX9_cutb hinj) (ci := 8) rfl (List.forall_mem_cons.mpr ⟨(mlX11_ok _ (List.mem_of_getElem? (i := 7) rfl)), kc_X9_cut⟩) (by decide +kernel) ⟨Nat.le_of_ble_eq_true rfl, Nat.le_of_ble_eq_true rfl⟩, fun _ h => absurd h List.not_mem_nil⟩)) (fun j S h => by cases h) tX11_end_ok (cut := (fun _ => none)) (fun t P h => by cases h) 11 0 tX11_end tX11_end_ok _ _ _ _ ?_
    refine And.intro hR ?_
    intro x5 I5 L5 hq5
    have hq5 : xR I5 ∧ f_fr [1] I I5 ∧ L5 = L ∧ (((n.toInt < 0 ∨ (I 1 1).toInt < n.toInt) ∧ x5.toInt = 0 ∧ (I5 1 1).toInt = (I 1 1).toInt ∨ 0 ≤ n.toInt ∧ n.toInt ≤ (I 1 1).toInt ∧ x5.toInt = 1 ∧ (I5 1 1).toInt = n.toInt)) := hq5
    obtain ⟨c5_0, c5_1, eL5, c5_3⟩ := hq5
    replace eL5 := eL5.symm
    subst eL5
    have hxO5 := f_dep_fr xO_dep hxO c5_1 rfl
    have hxT5 := f_dep_fr xT_dep hxT c5_1 rfl
    have hxS5 := f_dep_fr xS_dep hxS c5_1 rfl
    have hxL5 := f_dep_fr xL_dep hxL c5_1 rfl
    have hF5 := f_fr_tr hF0 c5_1 rfl
    apply And.intro
    · intro h8
      have h8 : x5.toInt = 0 := h8
      have r16_1 : 0 ≤ (I5 1 1).toInt ∧ (I5 1 1).toInt ≤ 1600 := c5_0 1 1
      exact ⟨c5_0, hxO5, hxT5, hxS5, hxL5, hF5, rfl, (show ((n.toInt < 0 ∨ (I 1 1).toInt < n.toInt) ∧ (-1 : Int) = -1 ∧ (I5 1 1).toInt = (I 1 1).toInt ∨ 0 ≤ n.toInt ∧ n.toInt ≤ (I 1 1).toInt ∧ (-1 : Int) = n.toInt ∧ (I5 1 1).toInt = n.toInt) from by first | assumption | omega | rfl)⟩
    · intro h8
      have h8 : ¬ x5.toInt = 0 := h8
      have r16_1 : 0 ≤ (I5 1 1).toInt ∧ (I5 1 1).toInt ≤ 1600 := c5_0 1 1
      exact ⟨c5_0, hxO5, hxT5, hxS5, hxL5, hF5, rfl, (show ((n.toInt < 0 ∨ (I 1 1).toInt < n.toInt) ∧ n.toInt = -1 ∧ (I5 1 1).toInt = (I 1 1).toInt ∨ 0 ≤ n.toInt ∧ n.toInt ≤ (I 1 1).toInt ∧ n.toInt = n.toInt ∧ (I5 1 1).toInt = n.toInt) from by first | assumption | omega | rfl)⟩
def tX11_later : List (Instr × Nat) := [(.iload_n 1, 1), (.ifCond .lt 21, 3), (.iload_n 1, 1), (.sipush 1000, 3), (.if_icmp .gt 14, 3), (.aload_n 0, 1), (.getfield 235, 3), (.iload_n 1, 1), (.iadd, 1), (.ldc 246, 2), (.if_icmp .le 5, 3), (.iconst (-1), 1), (.ireturn, 1), (.aload_n 0, 1), (.dup, 1), (.getfield 235, 3), (.iload_n 1, 1), (.iadd, 1), (.putfield 235, 3), (.aload_n 0, 1), (.getfield 235, 3), (.ireturn, 1)]
theorem tX11_later_ok : f_chk cX11_later 0 tX11_later = true := by decide +kernel
def pX11_later (av : List Value) (I : fM) (L : fN) : Prop := match av with
  | [.ref 0, .int b] => xR I ∧ xO I ∧ xT I ∧ xS I ∧ xL I
  | _ => False
def qX11_later (av : List Value) (I : fM) (L : fN) (r : Value) (I' : fM) (L' : fN) : Prop := match av, r with
  | [.ref 0, .int b], .int x => xR I' ∧ xO I' ∧ xT I' ∧ xS I' ∧ xL I' ∧ f_fr [0] I I' ∧ L' = L ∧ ((b.toInt < 0 ∨ 1000 < b.toInt ∨ 100000 < (I 0 11).toInt + b.toInt) ∧ x.toInt = -1 ∧ (I' 0 11).toInt = (I 0 11).toInt ∨ 0 ≤ b.toInt ∧ b.toInt ≤ 1000 ∧ (I 0 11).toInt + b.toInt ≤ 100000 ∧ x.toInt = (I 0 11).toInt + b.toInt ∧ (I' 0 11).toInt = (I 0 11).toInt + b.toInt)
  | _, _ => False
set_option maxHeartbeats 4000000 in
set_option maxRecDepth 100000 in
theorem mX11_later {l : Launch} {a : Nat → Nat} {cy dC : Nat → ClassId} {dI : Nat → Nat → Nat} (hinj : ∀ i j, i < 80 → j < 80 → a i = a j → i = j) : f_Met (xE a) l xY 80 a cy dC dI yX11_later cX11_later 2 1 0 pX11_later qX11_later := by
  refine f_met_of (xE_c a) hinj xY_hi (by decide) (fun av I L h => by unfold pX11_later at h; split at h <;> first | exact Nat.le_of_ble_eq_true rfl | exact h.elim) ?_
  intro pP eP sP mP aP bP hP9 cP C av I L hp
  unfold pX11_later at hp
  split at hp
  case h_2 => exact hp.elim
  case h_1 b =>
    obtain ⟨hR, hxO, hxT, hxS, hxL⟩ := hp
    have hF0 : f_fr [0] I I := f_fr_rf
    refine f_wp_ok C f_cl flX11_ok fiX11_ok fjX11_ok (sn := none) (fun j h => by cases h) (cs := (fun _ => none)) (cz := (fun _ => none)) (fun j S h => by cases h) (fun j S h => by cases h) tX11_later_ok (cut := (fun _ => none)) (fun t P h => by cases h) 23 0 tX11_later tX11_later_ok _ _ _ _ ?_
    apply And.intro
    · intro h1
      have h1 : b.toInt < 0 := h1
      have r23_1 : 0 ≤ (I 0 11).toInt ∧ (I 0 11).toInt ≤ 100000 := hR 0 11
      exact ⟨hR, hxO, hxT, hxS, hxL, hF0, rfl, (show ((b.toInt < 0 ∨ 1000 < b.toInt ∨ 100000 < (I 0 11).toInt + b.toInt) ∧ (-1 : Int) = -1 ∧ (I 0 11).toInt = (I 0 11).toInt ∨ 0 ≤ b.toInt ∧ b.toInt ≤ 1000 ∧ (I 0 11).toInt + b.toInt ≤ 100000 ∧ (-1 : Int) = (I 0 11).toInt + b.toInt ∧ (I 0 11).toInt = (I 0 11).toInt + b.toInt) from by first | assumption | omega | rfl)⟩
    · intro h1
      have h1 : 0 ≤ b.toInt := h1
      apply And.intro
      · intro h8
        have h8 : 1000 < b.toInt := h8
        have r23_1 : 0 ≤ (I 0 11).toInt ∧ (I 0 11).toInt ≤ 100000 := hR 0 11
        exact ⟨hR, hxO, hxT, hxS, hxL, hF0, rfl, (show ((b.toInt < 0 ∨ 1000 < b.toInt ∨ 100000 < (I 0 11).toInt + b.toInt) ∧ (-1 : Int) = -1 ∧ (I 0 11).toInt = (I 0 11).toInt ∨ 0 ≤ b.toInt ∧ b.toInt ≤ 1000 ∧ (I 0 11).toInt + b.toInt ≤ 100000 ∧ (-1 : Int) = (I 0 11).toInt + b.toInt ∧ (I 0 11).toInt = (I 0 11).toInt + b.toInt) from by first | assumption | omega | rfl)⟩
      · intro h8
        have h8 : b.toInt ≤ 1000 := h8
        have r12_1 : 0 ≤ (I 0 11).toInt ∧ (I 0 11).toInt ≤ 100000 := hR 0 11
        intro z16 q16 _ hq16 hl16 hu16
        have hq16 : z16.toInt = (I 0 11).toInt + b.toInt + 4294967296 * q16 := hq16
        try have hz16 : z16.toInt = (I 0 11).toInt + b.toInt := by omega
        apply And.intro
        · intro h19
          have h19 : z16.toInt ≤ 100000 := h19
          intro z30 q30 _ hq30 hl30 hu30
          have hq30 : z30.toInt = (I 0 11).toInt + b.toInt + 4294967296 * q30 := hq30
          try have hz30 : z30.toInt = (I 0 11).toInt + b.toInt := by omega
          have hR31 := xR_f (k := 0) (j := 11) (x := z30) hR (show 0 ≤ z30.toInt ∧ z30.toInt ≤ 100000 from ⟨by omega, by omega⟩)
          have hF31 := f_fr_up (k := 0) (r := va_up (I 0) 11 z30) hF0 rfl
          have hxO31 := f_dep_up xO_dep (k := 0) (r := va_up (I 0) 11 z30) hxO rfl
          have hxT31 := f_dep_up xT_dep (k := 0) (r := va_up (I 0) 11 z30) hxT rfl
          have hxS31 := f_dep_up xS_dep (k := 0) (r := va_up (I 0) 11 z30) hxS rfl
          have hxL31 : xL (va_up I 0 (va_up (I 0) 11 z30)) := hxL
          exact ⟨hR31, hxO31, hxT31, hxS31, hxL31, hF31, rfl, (show ((b.toInt < 0 ∨ 1000 < b.toInt ∨ 100000 < (I 0 11).toInt + b.toInt) ∧ z30.toInt = -1 ∧ z30.toInt = (I 0 11).toInt ∨ 0 ≤ b.toInt ∧ b.toInt ≤ 1000 ∧ (I 0 11).toInt + b.toInt ≤ 100000 ∧ z30.toInt = (I 0 11).toInt + b.toInt ∧ z30.toInt = (I 0 11).toInt + b.toInt) from by first | assumption | omega | rfl)⟩
        · intro h19
          have h19 : 100000 < z16.toInt := h19
          exact ⟨hR, hxO, hxT, hxS, hxL, hF0, rfl, (show ((b.toInt < 0 ∨ 1000 < b.toInt ∨ 100000 < (I 0 11).toInt + b.toInt) ∧ (-1 : Int) = -1 ∧ (I 0 11).toInt = (I 0 11).toInt ∨ 0 ≤ b.toInt ∧ b.toInt ≤ 1000 ∧ (I 0 11).toInt + b.toInt ≤ 100000 ∧ (-1 : Int) = (I 0 11).toInt + b.toInt ∧ (I 0 11).toInt = (I 0 11).toInt + b.toInt) from by first | assumption | omega | rfl)⟩
def tX11_example : List (Instr × Nat) := [(.aload_n 0, 1), (.getfield 54, 3), (.iload_n 1, 1), (.aload_n 0, 1), (.getfield 235, 3), (.invokevirtual 238, 3), (.ireturn, 1)]
theorem tX11_example_ok : f_chk cX11_example 0 tX11_example = true := by decide +kernel
def pX11_example (av : List Value) (I : fM) (L : fN) : Prop := match av with
  | [.ref 0, .int r] => xR I ∧ xO I ∧ xT I ∧ xS I ∧ xL I
  | _ => False
def qX11_example (av : List Value) (I : fM) (L : fN) (r : Value) (I' : fM) (L' : fN) : Prop := match av, r with
  | [.ref 0, .int r], .int x => xR I' ∧ xO I' ∧ xT I' ∧ xS I' ∧ xL I' ∧ f_fr [40, 42, 43, 44] I I' ∧ f_fr [45, 46] L L'
  | _, _ => False
set_option maxHeartbeats 4000000 in
set_option maxRecDepth 100000 in
theorem mX11_example {l : Launch} {a : Nat → Nat} {cy dC : Nat → ClassId} {dI : Nat → Nat → Nat} (hinj : ∀ i j, i < 80 → j < 80 → a i = a j → i = j) : f_Met (xE a) l xY 80 a cy dC dI yX11_example cX11_example 2 1 2 pX11_example qX11_example := by
  refine f_met_of (xE_c a) hinj xY_hi (by decide) (fun av I L h => by unfold pX11_example at h; split at h <;> first | exact Nat.le_of_ble_eq_true rfl | exact h.elim) ?_
  intro pP eP sP mP aP bP hP9 cP C av I L hp
  unfold pX11_example at hp
  split at hp
  case h_2 => exact hp.elim
  case h_1 r =>
    obtain ⟨hR, hxO, hxT, hxS, hxL⟩ := hp
    have hF0 : f_fr [40, 42, 43, 44] I I := f_fr_rf
    have hG0 : f_fr [45, 46] L L := f_fr_rf
    refine f_wp_ok C f_cl flX11_ok fiX11_ok fjX11_ok (sn := none) (fun j h => by cases h) (cs := (f_cnl [(238, (3, 1, 2, pX2_tell, qX2_tell))])) (cz := (fun _ => none)) (f_cnl_of (P := fun j S => f_cok pP l eP (f_rm 2) sP mP aP bP hP9 cP xY 80 a cy dC dI 2 _ _ (.invokevirtual j) true S) (List.forall_mem_cons.mpr ⟨f_cokV C (mX2_tell hinj) (ci := 2) rfl (List.forall_mem_cons.mpr ⟨(mlX11_ok _ (List.mem_of_getElem? (i := 33) rfl)), kc_X2_tell⟩) (by decide +kernel) ⟨Nat.le_of_ble_eq_true rfl, Nat.le_of_ble_eq_true rfl⟩, fun _ h => absurd h List.not_mem_nil⟩)) (fun j S h => by cases h) tX11_example_ok (cut := (fun _ => none)) (fun t P h => by cases h) 10 0 tX11_example tX11_example_ok _ _ _ _ ?_
    have r6_1 : 0 ≤ (I 0 11).toInt ∧ (I 0 11).toInt ≤ 100000 := hR 0 11
    refine And.intro hR ?_
    intro x9 I9 L9 hq9
    have hq9 : xR I9 ∧ f_fr [40, 42, 43, 44] I I9 ∧ f_fr [45, 46] L L9 ∧ I9 40 6 = I 40 6 ∧ I9 40 8 = I 40 8 ∧ ((I9 = I ∨ (1 ≤ (I 40 6).toInt ∧ (I 40 6).toInt ≤ 6 ∧ (I 40 7).toInt < 12 ∧ (I9 40 7).toInt = (I 40 7).toInt + 1 ∧ I9 43 = upd (I 43) (I 40 7).toNatClampNeg (I 40 6) ∧ I9 42 = va_cpy (I 41) (I 42) 0 (6 * (I 40 7).toInt).toNat (I 40 6).toNatClampNeg))) := hq9
    obtain ⟨c9_0, c9_1, c9_2, c9_3, c9_4, c9_5⟩ := hq9
    have hxO9 := f_dep_fr xO_dep hxO c9_1 rfl
    have hxT9 := f_dep_fr xT_dep hxT c9_1 rfl
    have hxS9 := f_dep_fr xS_dep hxS c9_1 rfl
    have hxL9 := f_dep_fr xL_dep hxL c9_1 rfl
    have hF9 := f_fr_tr hF0 c9_1 rfl
    have hG9 := f_fr_tr hG0 c9_2 rfl
    exact ⟨c9_0, hxO9, hxT9, hxS9, hxL9, hF9, hG9⟩
def tX11_untell : List (Instr × Nat) := [(.aload_n 0, 1), (.getfield 54, 3), (.iload_n 1, 1), (.aload_n 0, 1), (.getfield 235, 3), (.invokevirtual 242, 3), (.ireturn, 1)]
theorem tX11_untell_ok : f_chk cX11_untell 0 tX11_untell = true := by decide +kernel
def pX11_untell (av : List Value) (I : fM) (L : fN) : Prop := match av with
  | [.ref 0, .int n] => xR I ∧ xO I ∧ xT I ∧ xS I ∧ xL I
  | _ => False
def qX11_untell (av : List Value) (I : fM) (L : fN) (r : Value) (I' : fM) (L' : fN) : Prop := match av, r with
  | [.ref 0, .int n], .int x => I' = I ∧ f_fr [46] L L'
  | _, _ => False
set_option maxHeartbeats 4000000 in
set_option maxRecDepth 100000 in
theorem mX11_untell {l : Launch} {a : Nat → Nat} {cy dC : Nat → ClassId} {dI : Nat → Nat → Nat} (hinj : ∀ i j, i < 80 → j < 80 → a i = a j → i = j) : f_Met (xE a) l xY 80 a cy dC dI yX11_untell cX11_untell 2 3 1 pX11_untell qX11_untell := by
  refine f_met_of (xE_c a) hinj xY_hi (by decide) (fun av I L h => by unfold pX11_untell at h; split at h <;> first | exact Nat.le_of_ble_eq_true rfl | exact h.elim) ?_
  intro pP eP sP mP aP bP hP9 cP C av I L hp
  unfold pX11_untell at hp
  split at hp
  case h_2 => exact hp.elim
  case h_1 n =>
    obtain ⟨hR, hxO, hxT, hxS, hxL⟩ := hp
    have hG0 : f_fr [46] L L := f_fr_rf
    refine f_wp_ok C f_cl flX11_ok fiX11_ok fjX11_ok (sn := none) (fun j h => by cases h) (cs := (f_cnl [(242, (3, 3, 2, pX2_takeBackb, qX2_takeBackb))])) (cz := (fun _ => none)) (f_cnl_of (P := fun j S => f_cok pP l eP (f_rm 1) sP mP aP bP hP9 cP xY 80 a cy dC dI 2 _ _ (.invokevirtual j) true S) (List.forall_mem_cons.mpr ⟨f_cokV C (mX2_takeBackb hinj) (ci := 2) rfl (List.forall_mem_cons.mpr ⟨(mlX11_ok _ (List.mem_of_getElem? (i := 34) rfl)), kc_X2_takeBack⟩) (by decide +kernel) ⟨Nat.le_of_ble_eq_true rfl, Nat.le_of_ble_eq_true rfl⟩, fun _ h => absurd h List.not_mem_nil⟩)) (fun j S h => by cases h) tX11_untell_ok (cut := (fun _ => none)) (fun t P h => by cases h) 10 0 tX11_untell tX11_untell_ok _ _ _ _ ?_
    have r6_1 : 0 ≤ (I 0 11).toInt ∧ (I 0 11).toInt ≤ 100000 := hR 0 11
    refine And.intro hR ?_
    intro x9 I9 L9 hq9
    have hq9 : I9 = I ∧ f_fr [46] L L9 ∧ ((x9.toInt = 0 ∨ x9.toInt = 1)) := hq9
    obtain ⟨eI9, c9_1, c9_2⟩ := hq9
    replace eI9 := eI9.symm
    subst eI9
    have hG9 := f_fr_tr hG0 c9_1 rfl
    exact ⟨(f_b01 (show x9.toInt = 0 ∨ x9.toInt = 1 from by omega)), rfl, hG9⟩
def tX11_isJudgedWrong : List (Instr × Nat) := [(.aload_n 0, 1), (.getfield 47, 3), (.bipush 36, 2), (.invokevirtual 275, 3), (.iconst 0, 1), (.istore_n 2, 1), (.iload_n 2, 1), (.aload_n 0, 1), (.getfield 54, 3), (.getfield 278, 3), (.iload_n 1, 1), (.iaload, 1), (.if_icmp .ge 25, 3), (.aload_n 0, 1), (.getfield 47, 3), (.aload_n 0, 1), (.getfield 54, 3), (.iload_n 1, 1), (.iload_n 2, 1), (.invokevirtual 281, 3), (.invokevirtual 284, 3), (.iinc 2 1, 3), (.goto (-32), 3), (.aload_n 0, 1), (.getfield 47, 3), (.aconst_null, 1), (.invokevirtual 287, 3), (.aload_n 0, 1), (.getfield 54, 3), (.iload_n 1, 1), (.invokevirtual 291, 3), (.if_icmp .eq 7, 3), (.iconst 1, 1), (.goto 4, 3), (.iconst 0, 1), (.ireturn, 1)]
theorem tX11_isJudgedWrong_ok : f_chk cX11_isJudgedWrong 0 tX11_isJudgedWrong = true := by decide +kernel
def pX11_isJudgedWrong (av : List Value) (I : fM) (L : fN) : Prop := match av with
  | [.ref 0, .int n] => xR I ∧ xO I ∧ xT I ∧ xS I ∧ xL I ∧ 0 ≤ n.toInt ∧ n.toInt ≤ 11
  | _ => False
def qX11_isJudgedWrong (av : List Value) (I : fM) (L : fN) (r : Value) (I' : fM) (L' : fN) : Prop := match av, r with
  | [.ref 0, .int n], .int x => xR I' ∧ xO I' ∧ xT I' ∧ xS I' ∧ xL I' ∧ f_fr [25, 26, 27, 28, 31, 32, 33, 34, 35, 36, 37, 38, 39, 69] I I' ∧ f_fr [29, 30, 70] L L' ∧ (x.toInt = 0 ∨ x.toInt = 1)
  | _, _ => False
set_option maxHeartbeats 4000000 in
set_option maxRecDepth 100000 in
theorem mX11_isJudgedWrong {l : Launch} {a : Nat → Nat} {cy dC : Nat → ClassId} {dI : Nat → Nat → Nat} (hinj : ∀ i j, i < 80 → j < 80 → a i = a j → i = j) : f_Met (xE a) l xY 80 a cy dC dI yX11_isJudgedWrong cX11_isJudgedWrong 3 3 36 pX11_isJudgedWrong qX11_isJudgedWrong := by
  refine f_met_of (xE_c a) hinj xY_hi (by decide) (fun av I L h => by unfold pX11_isJudgedWrong at h; split at h <;> first | exact Nat.le_of_ble_eq_true rfl | exact h.elim) ?_
  intro pP eP sP mP aP bP hP9 cP C av I L hp
  unfold pX11_isJudgedWrong at hp
  split at hp
  case h_2 => exact hp.elim
  case h_1 n =>
    obtain ⟨hR, hxO, hxT, hxS, hxL, p5, p6⟩ := hp
    have hB : 0 ≤ (I 43 n.toInt.toNat).toInt ∧ (I 43 n.toInt.toNat).toInt ≤ 6 := hR 43 _
    have hF0 : f_fr [25, 26, 27, 28, 31, 32, 33, 34, 35, 36, 37, 38, 39, 69] I I := f_fr_rf
    have hG0 : f_fr [29, 30, 70] L L := f_fr_rf
    have lp11 : ∀ (n11 : Nat), ∀ (i : Int32) (J11 : fM) (M11 : fN), xR J11 ∧ f_fr [25, 26, 27, 28, 31, 32, 33, 34, 35, 36, 37, 38, 39, 69] I J11 ∧ f_fr [29, 30, 70] L M11 ∧ xO J11 ∧ xT J11 ∧ xS J11 ∧ xL J11 ∧ (0 ≤ i.toInt) ∧ (i.toInt ≤ (I 43 n.toInt.toNat).toInt) ∧ ((I 43 n.toInt.toNat).toInt - i.toInt) < n11 → f_W pP l eP (f_rm 36) sP mP aP bP hP9 cP xY 80 a cy dC dI 3 (f_K 3 (qX11_isJudgedWrong [.ref 0, .int n] I L)) 11 [(2, .int i), (1, .int n), (0, .ref 0)] [] J11 M11 := by
      intro n11
      induction n11 with
      | zero =>
        intro i J11 M11 h9
        obtain ⟨hR11c, hF11c, hG11c, hxO11c, hxT11c, hxS11c, hxL11c, u11_1, u11_2, hm11⟩ := h9
        omega
      | succ n11 ih11 =>
        intro i J11 M11 h9
        obtain ⟨hR11c, hF11c, hG11c, hxO11c, hxT11c, hxS11c, hxL11c, u11_1, u11_2, hm11⟩ := h9
        refine f_wp_ok C f_cl flX11_ok fiX11_ok fjX11_ok (sn := none) (fun j h => by cases h) (cs := (f_cnl [(275, (2, 0, 9, pX10_begin, qX10_begin)), (281, (3, 1, 2, pX2_wordOf, qX2_wordOf)), (284, (2, 0, 9, pX10_addWord, qX10_addWord)), (287, (2, 3, 9, pX10_search, qX10_search)), (291, (2, 3, 2, pX2_isRight, qX2_isRight))])) (cz := (fun _ => none)) (f_cnl_of (P := fun j S => f_cok pP l eP (f_rm 36) sP mP aP bP hP9 cP xY 80 a cy dC dI 3 _ _ (.invokevirtual j) true S) (List.forall_mem_cons.mpr ⟨f_cokV C (mX10_begin hinj) (ci := 9) rfl (List.forall_mem_cons.mpr ⟨(mlX11_ok _ (List.mem_of_getElem? (i := 41) rfl)), kc_X10_begin⟩) (by decide +kernel) ⟨Nat.le_of_ble_eq_true rfl, Nat.le_of_ble_eq_true rfl⟩, List.forall_mem_cons.mpr ⟨f_cokV C (mX2_wordOf hinj) (ci := 2) rfl (List.forall_mem_cons.mpr ⟨(mlX11_ok _ (List.mem_of_getElem? (i := 42) rfl)), kc_X2_wordOf⟩) (by decide +kernel) ⟨Nat.le_of_ble_eq_true rfl, Nat.le_of_ble_eq_true rfl⟩, List.forall_mem_cons.mpr ⟨f_cokV C (mX10_addWord hinj) (ci := 9) rfl (List.forall_mem_cons.mpr ⟨(mlX11_ok _ (List.mem_of_getElem? (i := 43) rfl)), kc_X10_addWord⟩) (by decide +kernel) ⟨Nat.le_of_ble_eq_true rfl, Nat.le_of_ble_eq_true rfl⟩, List.forall_mem_cons.mpr ⟨f_cokV C (mX10_search hinj) (ci := 9) rfl (List.forall_mem_cons.mpr ⟨(mlX11_ok _ (List.mem_of_getElem? (i := 44) rfl)), kc_X10_search⟩) (by decide +kernel) ⟨Nat.le_of_ble_eq_true rfl, Nat.le_of_ble_eq_true rfl⟩, List.forall_mem_cons.mpr ⟨f_cokV C (mX2_isRight hinj) (ci := 2) rfl (List.forall_mem_cons.mpr ⟨(mlX11_ok _ (List.mem_of_getElem? (i := 45) rfl)), kc_X2_isRight⟩) (by decide +kernel) ⟨Nat.le_of_ble_eq_true rfl, Nat.le_of_ble_eq_true rfl⟩, fun _ h => absurd h List.not_mem_nil⟩⟩⟩⟩⟩)) (fun j S h => by cases h) tX11_isJudgedWrong_ok (cut := (f_cnl [(11, (fun (ls' : fLs) (st' : List Value) (I' : fM) (L' : fN) => ∃ i : Int32, (∀ q ∈ ([(2, .int i), (1, .int n), (0, .ref 0)] : fLs), q ∈ ls') ∧ st' = [] ∧ (xR I' ∧ f_fr [25, 26, 27, 28, 31, 32, 33, 34, 35, 36, 37, 38, 39, 69] I I' ∧ f_fr [29, 30, 70] L L' ∧ xO I' ∧ xT I' ∧ xS I' ∧ xL I' ∧ (0 ≤ i.toInt) ∧ (i.toInt ≤ (I 43 n.toInt.toNat).toInt) ∧ ((I 43 n.toInt.toNat).toInt - i.toInt) < n11)))])) (f_cnl_of (P := fun (tQ : Nat) (P : fLs → List Value → fM → fN → Prop) => ∀ ls' st' I' L', P ls' st' I' L' → f_W pP l eP (f_rm 36) sP mP aP bP hP9 cP xY 80 a cy dC dI 3 (f_K 3 (qX11_isJudgedWrong [.ref 0, .int n] I L)) tQ ls' st' I' L') (List.forall_mem_cons.mpr ⟨(fun ls' st' I' L' h => by obtain ⟨i, hs, e1, h9⟩ := h; rw [e1]; exact f_W_sub hs (ih11 i I' L' h9)), fun _ h => absurd h List.not_mem_nil⟩)) 22 11 (f_seek 11 0 tX11_isJudgedWrong) (f_seek_ok 11 0 tX11_isJudgedWrong tX11_isJudgedWrong_ok) _ _ _ _ ?_
        refine And.intro (show f_in n 12 from ⟨show 0 ≤ n.toInt from by omega, show n.toInt < 12 from by omega⟩) ?_
        have r20_1 : 0 ≤ (J11 43 (n.toInt.toNat)).toInt ∧ (J11 43 (n.toInt.toNat)).toInt ≤ 6 := hR11c 43 (n.toInt.toNat)
        have e20_2 : (J11 43 (n.toInt.toNat)).toInt = (I 43 (n.toInt.toNat)).toInt := congrArg Int32.toInt (congrFun (hF11c 43 rfl) (n.toInt.toNat))
        apply And.intro
        · intro h21
          have h21 : (J11 43 (n.toInt.toNat)).toInt ≤ i.toInt := h21
          refine And.intro ⟨hR11c, hxO11c, hxT11c, hxS11c, (by first | assumption | exact Or.inl rfl | exact Or.inr rfl | (intro h; cases h)), (by first | assumption | exact Or.inl rfl | exact Or.inr rfl | (intro h; cases h))⟩ ?_
          intro x51 I51 L51 hq51
          have hq51 : xR I51 ∧ xO I51 ∧ xT I51 ∧ xS I51 ∧ f_fr [28, 31, 32, 33, 34, 35, 36, 37, 38, 39, 69] J11 I51 ∧ f_fr [29, 30, 70] M11 L51 ∧ (((Value.null) = Value.ref 69 → xK I51 L51)) ∧ ((I51 69 = J11 69 ∨ 0 < (J11 16 (J11 25 8).toInt.toNat).toInt)) ∧ ((x51.toInt = 0 ∨ x51.toInt = 1)) := hq51
          obtain ⟨c51_0, c51_1, c51_2, c51_3, c51_4, c51_5, c51_6, c51_7, c51_8⟩ := hq51
          have hxL51 := f_dep_fr xL_dep hxL11c c51_4 rfl
          have hF51 := f_fr_tr hF11c c51_4 rfl
          have hG51 := f_fr_tr hG11c c51_5 rfl
          refine And.intro ⟨(show 0 ≤ n.toInt from by first | assumption | omega), (show n.toInt ≤ 11 from by first | assumption | omega)⟩ ?_
          intro x59 I59 L59 hq59
          have hq59 : I59 = I51 ∧ L59 = L51 ∧ ((x59.toInt = 0 ∨ x59.toInt = 1)) := hq59
          obtain ⟨eI59, eL59, c59_2⟩ := hq59
          replace eI59 := eI59.symm
          subst eI59
          replace eL59 := eL59.symm
          subst eL59
          apply And.intro
          · intro h62
            have h62 : x51.toInt = x59.toInt := h62
            exact ⟨Or.inl rfl, c51_0, c51_1, c51_2, c51_3, hxL51, hF51, hG51, (show ((0 : Int) = 0 ∨ (0 : Int) = 1) from by first | assumption | omega | rfl)⟩
          · intro h62
            have h62 : ¬ x51.toInt = x59.toInt := h62
            exact ⟨Or.inr rfl, c51_0, c51_1, c51_2, c51_3, hxL51, hF51, hG51, (show ((1 : Int) = 0 ∨ (1 : Int) = 1) from by first | assumption | omega | rfl)⟩
        · intro h21
          have h21 : i.toInt < (J11 43 (n.toInt.toNat)).toInt := h21
          refine And.intro ⟨(show 0 ≤ n.toInt from by first | assumption | omega), (show n.toInt ≤ 11 from by first | assumption | omega), (show 0 ≤ i.toInt from by first | assumption | omega), (show i.toInt ≤ 5 from by first | assumption | omega)⟩ ?_
          intro x34 I34 L34 hq34
          have hq34 : I34 = J11 ∧ L34 = M11 ∧ x34 = J11 42 (6 * n.toInt + i.toInt).toNat := hq34
          obtain ⟨eI34, eL34, c34_2⟩ := hq34
          replace eI34 := eI34.symm
          subst eI34
          replace eL34 := eL34.symm
          subst eL34
          have v34 : 0 ≤ x34.toInt ∧ x34.toInt ≤ 11 := by rw [c34_2]; exact hR11c 42 _
          refine And.intro ⟨hR11c, hxT11c, (show 0 ≤ x34.toInt from by first | assumption | omega), (show x34.toInt ≤ 11 from by first | assumption | omega)⟩ ?_
          intro I37 L37 hq37
          have hq37 : xR I37 ∧ xT I37 ∧ f_fr [25, 26, 27] J11 I37 ∧ L37 = M11 ∧ I37 25 8 = J11 25 8 := hq37
          obtain ⟨c37_0, c37_1, c37_2, eL37, c37_4⟩ := hq37
          replace eL37 := eL37.symm
          subst eL37
          have hxO37 := f_dep_fr xO_dep hxO11c c37_2 rfl
          have hxS37 := f_dep_fr xS_dep hxS11c c37_2 rfl
          have hxL37 := f_dep_fr xL_dep hxL11c c37_2 rfl
          have hF37 := f_fr_tr hF11c c37_2 rfl
          intro z40 q40 _ hq40 hl40 hu40
          have hq40 : z40.toInt = i.toInt + 1 + 4294967296 * q40 := hq40
          try have hz40 : z40.toInt = i.toInt + 1 := by omega
          exact ⟨z40, (by intro q9 h9; simp only [List.mem_cons, List.not_mem_nil, or_false] at h9; rcases h9 with h9 | h9 | h9 <;> subst h9 <;> repeat (first | exact List.mem_cons_self | apply List.mem_cons_of_mem)), rfl, c37_0, hF37, hG11c, hxO37, c37_1, hxS37, hxL37, (show 0 ≤ z40.toInt from by first | assumption | omega), (show z40.toInt ≤ (I 43 n.toInt.toNat).toInt from by first | assumption | omega), (show ((I 43 n.toInt.toNat).toInt - z40.toInt) < n11 from by omega)⟩
    refine f_wp_ok C f_cl flX11_ok fiX11_ok fjX11_ok (sn := none) (fun j h => by cases h) (cs := (f_cnl [(275, (2, 0, 9, pX10_begin, qX10_begin)), (281, (3, 1, 2, pX2_wordOf, qX2_wordOf)), (284, (2, 0, 9, pX10_addWord, qX10_addWord)), (287, (2, 3, 9, pX10_search, qX10_search)), (291, (2, 3, 2, pX2_isRight, qX2_isRight))])) (cz := (fun _ => none)) (f_cnl_of (P := fun j S => f_cok pP l eP (f_rm 36) sP mP aP bP hP9 cP xY 80 a cy dC dI 3 _ _ (.invokevirtual j) true S) (List.forall_mem_cons.mpr ⟨f_cokV C (mX10_begin hinj) (ci := 9) rfl (List.forall_mem_cons.mpr ⟨(mlX11_ok _ (List.mem_of_getElem? (i := 41) rfl)), kc_X10_begin⟩) (by decide +kernel) ⟨Nat.le_of_ble_eq_true rfl, Nat.le_of_ble_eq_true rfl⟩, List.forall_mem_cons.mpr ⟨f_cokV C (mX2_wordOf hinj) (ci := 2) rfl (List.forall_mem_cons.mpr ⟨(mlX11_ok _ (List.mem_of_getElem? (i := 42) rfl)), kc_X2_wordOf⟩) (by decide +kernel) ⟨Nat.le_of_ble_eq_true rfl, Nat.le_of_ble_eq_true rfl⟩, List.forall_mem_cons.mpr ⟨f_cokV C (mX10_addWord hinj) (ci := 9) rfl (List.forall_mem_cons.mpr ⟨(mlX11_ok _ (List.mem_of_getElem? (i := 43) rfl)), kc_X10_addWord⟩) (by decide +kernel) ⟨Nat.le_of_ble_eq_true rfl, Nat.le_of_ble_eq_true rfl⟩, List.forall_mem_cons.mpr ⟨f_cokV C (mX10_search hinj) (ci := 9) rfl (List.forall_mem_cons.mpr ⟨(mlX11_ok _ (List.mem_of_getElem? (i := 44) rfl)), kc_X10_search⟩) (by decide +kernel) ⟨Nat.le_of_ble_eq_true rfl, Nat.le_of_ble_eq_true rfl⟩, List.forall_mem_cons.mpr ⟨f_cokV C (mX2_isRight hinj) (ci := 2) rfl (List.forall_mem_cons.mpr ⟨(mlX11_ok _ (List.mem_of_getElem? (i := 45) rfl)), kc_X2_isRight⟩) (by decide +kernel) ⟨Nat.le_of_ble_eq_true rfl, Nat.le_of_ble_eq_true rfl⟩, fun _ h => absurd h List.not_mem_nil⟩⟩⟩⟩⟩)) (fun j S h => by cases h) tX11_isJudgedWrong_ok (cut := (f_cnl [(11, (fun (ls' : fLs) (st' : List Value) (I' : fM) (L' : fN) => ∃ i : Int32, (∀ q ∈ ([(2, .int i), (1, .int n), (0, .ref 0)] : fLs), q ∈ ls') ∧ st' = [] ∧ (xR I' ∧ f_fr [25, 26, 27, 28, 31, 32, 33, 34, 35, 36, 37, 38, 39, 69] I I' ∧ f_fr [29, 30, 70] L L' ∧ xO I' ∧ xT I' ∧ xS I' ∧ xL I' ∧ (0 ≤ i.toInt) ∧ (i.toInt ≤ (I 43 n.toInt.toNat).toInt) ∧ ((I 43 n.toInt.toNat).toInt - i.toInt) < 7)))])) (f_cnl_of (P := fun (tQ : Nat) (P : fLs → List Value → fM → fN → Prop) => ∀ ls' st' I' L', P ls' st' I' L' → f_W pP l eP (f_rm 36) sP mP aP bP hP9 cP xY 80 a cy dC dI 3 (f_K 3 (qX11_isJudgedWrong [.ref 0, .int n] I L)) tQ ls' st' I' L') (List.forall_mem_cons.mpr ⟨(fun ls' st' I' L' h => by obtain ⟨i, hs, e1, h9⟩ := h; rw [e1]; exact f_W_sub hs (lp11 7 i I' L' h9)), fun _ h => absurd h List.not_mem_nil⟩)) 9 0 tX11_isJudgedWrong tX11_isJudgedWrong_ok _ _ _ _ ?_
    refine And.intro ⟨hR, (show 0 ≤ (36 : Int) from by first | assumption | omega), (show (36 : Int) ≤ 52 from by first | assumption | omega)⟩ ?_
    intro I6 L6 hq6
    have hq6 : xR I6 ∧ f_fr [25] I I6 ∧ L6 = L ∧ (I6 25 7).toInt = 0 ∧ I6 25 8 = (Int32.ofInt 36) := hq6
    obtain ⟨c6_0, c6_1, eL6, c6_3, c6_4⟩ := hq6
    replace eL6 := eL6.symm
    subst eL6
    have hxO6 := f_dep_fr xO_dep hxO c6_1 rfl
    have hxT6 := f_dep_fr xT_dep hxT c6_1 rfl
    have hxS6 := f_dep_fr xS_dep hxS c6_1 rfl
    have hxL6 := f_dep_fr xL_dep hxL c6_1 rfl
    have hF6 := f_fr_tr hF0 c6_1 rfl
    exact ⟨Int32.ofInt 0, (by intro q9 h9; simp only [List.mem_cons, List.not_mem_nil, or_false] at h9; rcases h9 with h9 | h9 | h9 <;> subst h9 <;> repeat (first | exact List.mem_cons_self | apply List.mem_cons_of_mem)), rfl, c6_0, hF6, hG0, hxO6, hxT6, hxS6, hxL6, (show 0 ≤ (0 : Int) from by first | assumption | omega), (show (0 : Int) ≤ (I 43 n.toInt.toNat).toInt from by first | assumption | omega), (show ((I 43 n.toInt.toNat).toInt - (0 : Int)) < 7 from by omega)⟩
def tX11_judge : List (Instr × Nat) := [(.iconst 0, 1), (.istore_n 2, 1), (.iload_n 2, 1), (.aload_n 0, 1), (.getfield 54, 3), (.getfield 247, 3), (.if_icmp .ge 31, 3), (.aload_n 0, 1), (.getfield 54, 3), (.iload_n 2, 1), (.iload_n 1, 1), (.invokevirtual 250, 3), (.ifCond .eq 13, 3), (.aload_n 0, 1), (.iload_n 2, 1), (.invokevirtual 253, 3), (.ifCond .eq 5, 3), (.iload_n 2, 1), (.ireturn, 1), (.iinc 2 1, 3), (.goto (-36), 3), (.iconst (-1), 1), (.ireturn, 1)]
theorem tX11_judge_ok : f_chk cX11_judge 0 tX11_judge = true := by decide +kernel
def pX11_judge (av : List Value) (I : fM) (L : fN) : Prop := match av with
  | [.ref 0, .int k] => xR I ∧ xO I ∧ xT I ∧ xS I ∧ xL I
  | _ => False
def qX11_judge (av : List Value) (I : fM) (L : fN) (r : Value) (I' : fM) (L' : fN) : Prop := match av, r with
  | [.ref 0, .int k], .int x => xR I' ∧ xO I' ∧ xT I' ∧ xS I' ∧ xL I' ∧ f_fr [25, 26, 27, 28, 31, 32, 33, 34, 35, 36, 37, 38, 39, 69] I I' ∧ f_fr [29, 30, 70] L L'
  | _, _ => False
set_option maxHeartbeats 4000000 in
set_option maxRecDepth 100000 in
theorem mX11_judge {l : Launch} {a : Nat → Nat} {cy dC : Nat → ClassId} {dI : Nat → Nat → Nat} (hinj : ∀ i j, i < 80 → j < 80 → a i = a j → i = j) : f_Met (xE a) l xY 80 a cy dC dI yX11_judge cX11_judge 3 1 37 pX11_judge qX11_judge := by
  refine f_met_of (xE_c a) hinj xY_hi (by decide) (fun av I L h => by unfold pX11_judge at h; split at h <;> first | exact Nat.le_of_ble_eq_true rfl | exact h.elim) ?_
  intro pP eP sP mP aP bP hP9 cP C av I L hp
  unfold pX11_judge at hp
  split at hp
  case h_2 => exact hp.elim
  case h_1 k =>
    obtain ⟨hR, hxO, hxT, hxS, hxL⟩ := hp
    have he : 0 ≤ (I 40 7).toInt ∧ (I 40 7).toInt ≤ 12 := hR 40 7
    have hF0 : f_fr [25, 26, 27, 28, 31, 32, 33, 34, 35, 36, 37, 38, 39, 69] I I := f_fr_rf
    have hG0 : f_fr [29, 30, 70] L L := f_fr_rf
    have lp2 : ∀ (n2 : Nat), ∀ (n : Int32) (J2 : fM) (M2 : fN), xR J2 ∧ f_fr [25, 26, 27, 28, 31, 32, 33, 34, 35, 36, 37, 38, 39, 69] I J2 ∧ f_fr [29, 30, 70] L M2 ∧ xO J2 ∧ xT J2 ∧ xS J2 ∧ xL J2 ∧ (0 ≤ n.toInt) ∧ (n.toInt ≤ (I 40 7).toInt) ∧ ((I 40 7).toInt - n.toInt) < n2 → f_W pP l eP (f_rm 37) sP mP aP bP hP9 cP xY 80 a cy dC dI 3 (f_K 1 (qX11_judge [.ref 0, .int k] I L)) 2 [(2, .int n), (1, .int k), (0, .ref 0)] [] J2 M2 := by
      intro n2
      induction n2 with
      | zero =>
        intro n J2 M2 h9
        obtain ⟨hR2c, hF2c, hG2c, hxO2c, hxT2c, hxS2c, hxL2c, u2_1, u2_2, hm2⟩ := h9
        omega
      | succ n2 ih2 =>
        intro n J2 M2 h9
        obtain ⟨hR2c, hF2c, hG2c, hxO2c, hxT2c, hxS2c, hxL2c, u2_1, u2_2, hm2⟩ := h9
        refine f_wp_ok C f_cl flX11_ok fiX11_ok fjX11_ok (sn := none) (fun j h => by cases h) (cs := (f_cnl [(250, (3, 3, 2, pX2_counts, qX2_counts)), (253, (2, 3, 10, pX11_isJudgedWrong, qX11_isJudgedWrong))])) (cz := (fun _ => none)) (f_cnl_of (P := fun j S => f_cok pP l eP (f_rm 37) sP mP aP bP hP9 cP xY 80 a cy dC dI 3 _ _ (.invokevirtual j) true S) (List.forall_mem_cons.mpr ⟨f_cokV C (mX2_counts hinj) (ci := 2) rfl (List.forall_mem_cons.mpr ⟨(mlX11_ok _ (List.mem_of_getElem? (i := 35) rfl)), kc_X2_counts⟩) (by decide +kernel) ⟨Nat.le_of_ble_eq_true rfl, Nat.le_of_ble_eq_true rfl⟩, List.forall_mem_cons.mpr ⟨f_cokV C (mX11_isJudgedWrong hinj) (ci := 10) rfl (List.forall_mem_cons.mpr ⟨(mlX11_ok _ (List.mem_of_getElem? (i := 36) rfl)), kc_X11_isJudgedWrong⟩) (by decide +kernel) ⟨Nat.le_of_ble_eq_true rfl, Nat.le_of_ble_eq_true rfl⟩, fun _ h => absurd h List.not_mem_nil⟩⟩)) (fun j S h => by cases h) tX11_judge_ok (cut := (f_cnl [(2, (fun (ls' : fLs) (st' : List Value) (I' : fM) (L' : fN) => ∃ n : Int32, (∀ q ∈ ([(2, .int n), (1, .int k), (0, .ref 0)] : fLs), q ∈ ls') ∧ st' = [] ∧ (xR I' ∧ f_fr [25, 26, 27, 28, 31, 32, 33, 34, 35, 36, 37, 38, 39, 69] I I' ∧ f_fr [29, 30, 70] L L' ∧ xO I' ∧ xT I' ∧ xS I' ∧ xL I' ∧ (0 ≤ n.toInt) ∧ (n.toInt ≤ (I 40 7).toInt) ∧ ((I 40 7).toInt - n.toInt) < n2)))])) (f_cnl_of (P := fun (tQ : Nat) (P : fLs → List Value → fM → fN → Prop) => ∀ ls' st' I' L', P ls' st' I' L' → f_W pP l eP (f_rm 37) sP mP aP bP hP9 cP xY 80 a cy dC dI 3 (f_K 1 (qX11_judge [.ref 0, .int k] I L)) tQ ls' st' I' L') (List.forall_mem_cons.mpr ⟨(fun ls' st' I' L' h => by obtain ⟨n, hs, e1, h9⟩ := h; rw [e1]; exact f_W_sub hs (ih2 n I' L' h9)), fun _ h => absurd h List.not_mem_nil⟩)) 20 2 (f_seek 2 0 tX11_judge) (f_seek_ok 2 0 tX11_judge tX11_judge_ok) _ _ _ _ ?_
        have r7_1 : 0 ≤ (J2 40 7).toInt ∧ (J2 40 7).toInt ≤ 12 := hR2c 40 7
        have e7_2 : (J2 40 7).toInt = (I 40 7).toInt := congrArg Int32.toInt (congrFun (hF2c 40 rfl) 7)
        apply And.intro
        · intro h10
          have h10 : (J2 40 7).toInt ≤ n.toInt := h10
          exact ⟨hR2c, hxO2c, hxT2c, hxS2c, hxL2c, hF2c, hG2c⟩
        · intro h10
          have h10 : n.toInt < (J2 40 7).toInt := h10
          refine And.intro ⟨(show 0 ≤ n.toInt from by first | assumption | omega), (show n.toInt ≤ 11 from by first | assumption | omega)⟩ ?_
          intro x19 I19 L19 hq19
          have hq19 : I19 = J2 ∧ L19 = M2 ∧ ((x19.toInt = 0 ∨ x19.toInt = 1)) := hq19
          obtain ⟨eI19, eL19, c19_2⟩ := hq19
          replace eI19 := eI19.symm
          subst eI19
          replace eL19 := eL19.symm
          subst eL19
          apply And.intro
          · intro h22
            have h22 : x19.toInt = 0 := h22
            intro z35 q35 _ hq35 hl35 hu35
            have hq35 : z35.toInt = n.toInt + 1 + 4294967296 * q35 := hq35
            try have hz35 : z35.toInt = n.toInt + 1 := by omega
            exact ⟨z35, (by intro q9 h9; simp only [List.mem_cons, List.not_mem_nil, or_false] at h9; rcases h9 with h9 | h9 | h9 <;> subst h9 <;> repeat (first | exact List.mem_cons_self | apply List.mem_cons_of_mem)), rfl, hR2c, hF2c, hG2c, hxO2c, hxT2c, hxS2c, hxL2c, (show 0 ≤ z35.toInt from by first | assumption | omega), (show z35.toInt ≤ (I 40 7).toInt from by first | assumption | omega), (show ((I 40 7).toInt - z35.toInt) < n2 from by omega)⟩
          · intro h22
            have h22 : ¬ x19.toInt = 0 := h22
            refine And.intro ⟨hR2c, hxO2c, hxT2c, hxS2c, hxL2c, (show 0 ≤ n.toInt from by first | assumption | omega), (show n.toInt ≤ 11 from by first | assumption | omega)⟩ ?_
            intro x27 I27 L27 hq27
            have hq27 : xR I27 ∧ xO I27 ∧ xT I27 ∧ xS I27 ∧ xL I27 ∧ f_fr [25, 26, 27, 28, 31, 32, 33, 34, 35, 36, 37, 38, 39, 69] J2 I27 ∧ f_fr [29, 30, 70] M2 L27 ∧ ((x27.toInt = 0 ∨ x27.toInt = 1)) := hq27
            obtain ⟨c27_0, c27_1, c27_2, c27_3, c27_4, c27_5, c27_6, c27_7⟩ := hq27
            have hF27 := f_fr_tr hF2c c27_5 rfl
            have hG27 := f_fr_tr hG2c c27_6 rfl
            apply And.intro
            · intro h30
              have h30 : x27.toInt = 0 := h30
              intro z35 q35 _ hq35 hl35 hu35
              have hq35 : z35.toInt = n.toInt + 1 + 4294967296 * q35 := hq35
              try have hz35 : z35.toInt = n.toInt + 1 := by omega
              exact ⟨z35, (by intro q9 h9; simp only [List.mem_cons, List.not_mem_nil, or_false] at h9; rcases h9 with h9 | h9 | h9 <;> subst h9 <;> repeat (first | exact List.mem_cons_self | apply List.mem_cons_of_mem)), rfl, c27_0, hF27, hG27, c27_1, c27_2, c27_3, c27_4, (show 0 ≤ z35.toInt from by first | assumption | omega), (show z35.toInt ≤ (I 40 7).toInt from by first | assumption | omega), (show ((I 40 7).toInt - z35.toInt) < n2 from by omega)⟩
            · intro h30
              have h30 : ¬ x27.toInt = 0 := h30
              exact ⟨c27_0, c27_1, c27_2, c27_3, c27_4, hF27, hG27⟩
    refine f_wp_ok C f_cl flX11_ok fiX11_ok fjX11_ok (sn := none) (fun j h => by cases h) (cs := (f_cnl [(250, (3, 3, 2, pX2_counts, qX2_counts)), (253, (2, 3, 10, pX11_isJudgedWrong, qX11_isJudgedWrong))])) (cz := (fun _ => none)) (f_cnl_of (P := fun j S => f_cok pP l eP (f_rm 37) sP mP aP bP hP9 cP xY 80 a cy dC dI 3 _ _ (.invokevirtual j) true S) (List.forall_mem_cons.mpr ⟨f_cokV C (mX2_counts hinj) (ci := 2) rfl (List.forall_mem_cons.mpr ⟨(mlX11_ok _ (List.mem_of_getElem? (i := 35) rfl)), kc_X2_counts⟩) (by decide +kernel) ⟨Nat.le_of_ble_eq_true rfl, Nat.le_of_ble_eq_true rfl⟩, List.forall_mem_cons.mpr ⟨f_cokV C (mX11_isJudgedWrong hinj) (ci := 10) rfl (List.forall_mem_cons.mpr ⟨(mlX11_ok _ (List.mem_of_getElem? (i := 36) rfl)), kc_X11_isJudgedWrong⟩) (by decide +kernel) ⟨Nat.le_of_ble_eq_true rfl, Nat.le_of_ble_eq_true rfl⟩, fun _ h => absurd h List.not_mem_nil⟩⟩)) (fun j S h => by cases h) tX11_judge_ok (cut := (f_cnl [(2, (fun (ls' : fLs) (st' : List Value) (I' : fM) (L' : fN) => ∃ n : Int32, (∀ q ∈ ([(2, .int n), (1, .int k), (0, .ref 0)] : fLs), q ∈ ls') ∧ st' = [] ∧ (xR I' ∧ f_fr [25, 26, 27, 28, 31, 32, 33, 34, 35, 36, 37, 38, 39, 69] I I' ∧ f_fr [29, 30, 70] L L' ∧ xO I' ∧ xT I' ∧ xS I' ∧ xL I' ∧ (0 ≤ n.toInt) ∧ (n.toInt ≤ (I 40 7).toInt) ∧ ((I 40 7).toInt - n.toInt) < 13)))])) (f_cnl_of (P := fun (tQ : Nat) (P : fLs → List Value → fM → fN → Prop) => ∀ ls' st' I' L', P ls' st' I' L' → f_W pP l eP (f_rm 37) sP mP aP bP hP9 cP xY 80 a cy dC dI 3 (f_K 1 (qX11_judge [.ref 0, .int k] I L)) tQ ls' st' I' L') (List.forall_mem_cons.mpr ⟨(fun ls' st' I' L' h => by obtain ⟨n, hs, e1, h9⟩ := h; rw [e1]; exact f_W_sub hs (lp2 13 n I' L' h9)), fun _ h => absurd h List.not_mem_nil⟩)) 5 0 tX11_judge tX11_judge_ok _ _ _ _ ?_
    have r2_1 : 0 ≤ (I 40 7).toInt ∧ (I 40 7).toInt ≤ 12 := hR 40 7
    exact ⟨Int32.ofInt 0, (by intro q9 h9; simp only [List.mem_cons, List.not_mem_nil, or_false] at h9; rcases h9 with h9 | h9 | h9 <;> subst h9 <;> repeat (first | exact List.mem_cons_self | apply List.mem_cons_of_mem)), rfl, hR, hF0, hG0, hxO, hxT, hxS, hxL, (show 0 ≤ (0 : Int) from by first | assumption | omega), (show (0 : Int) ≤ (I 40 7).toInt from by first | assumption | omega), (show ((I 40 7).toInt - (0 : Int)) < 13 from by omega)⟩
def tX11_learnt : List (Instr × Nat) := [(.iload_n 1, 1), (.iconst (-1), 1), (.if_icmp .eq 14, 3), (.aload_n 0, 1), (.iload_n 1, 1), (.invokevirtual 140, 3), (.ifCond .ne 6, 3), (.bipush (-3), 2), (.ireturn, 1), (.aload_n 0, 1), (.getfield 28, 3), (.getfield 124, 3), (.iconst 4, 1), (.if_icmp .gt 14, 3), (.aload_n 0, 1), (.getfield 28, 3), (.getfield 151, 3), (.iconst 2, 1), (.if_icmp .le 6, 3), (.bipush (-2), 2), (.ireturn, 1), (.aload_n 0, 1), (.getfield 83, 3), (.iload_n 2, 1), (.invokevirtual 256, 3), (.aload_n 0, 1), (.getfield 83, 3), (.getfield 258, 3), (.ifCond .ne 5, 3), (.iconst (-1), 1), (.ireturn, 1), (.iload_n 1, 1), (.iconst (-1), 1), (.if_icmp .ne 13, 3), (.aload_n 0, 1), (.getfield 83, 3), (.getfield 261, 3), (.goto 12, 3), (.aload_n 0, 1), (.getfield 83, 3), (.getfield 264, 3), (.iload_n 1, 1), (.iaload, 1), (.ireturn, 1)]
theorem tX11_learnt_ok : f_chk cX11_learnt 0 tX11_learnt = true := by decide +kernel
def pX11_learnt (av : List Value) (I : fM) (L : fN) : Prop := match av with
  | [.ref 0, .int w, .int k] => xR I ∧ xO I ∧ xT I ∧ xS I ∧ xL I
  | _ => False
def qX11_learnt (av : List Value) (I : fM) (L : fN) (r : Value) (I' : fM) (L' : fN) : Prop := match av, r with
  | [.ref 0, .int w, .int k], .int x => xR I' ∧ xO I' ∧ xT I' ∧ xS I' ∧ xL I' ∧ f_fr [25, 26, 27, 28, 31, 32, 33, 34, 35, 36, 37, 38, 39, 69, 78, 79] I I' ∧ f_fr [29, 30, 70] L L'
  | _, _ => False
set_option maxHeartbeats 4000000 in
set_option maxRecDepth 100000 in
theorem mX11_learnt {l : Launch} {a : Nat → Nat} {cy dC : Nat → ClassId} {dI : Nat → Nat → Nat} (hinj : ∀ i j, i < 80 → j < 80 → a i = a j → i = j) : f_Met (xE a) l xY 80 a cy dC dI yX11_learnt cX11_learnt 3 1 44 pX11_learnt qX11_learnt := by
  refine f_met_of (xE_c a) hinj xY_hi (by decide) (fun av I L h => by unfold pX11_learnt at h; split at h <;> first | exact Nat.le_of_ble_eq_true rfl | exact h.elim) ?_
  intro pP eP sP mP aP bP hP9 cP C av I L hp
  unfold pX11_learnt at hp
  split at hp
  case h_2 => exact hp.elim
  case h_1 w k =>
    obtain ⟨hR, hxO, hxT, hxS, hxL⟩ := hp
    rcases hxL with ⟨h9, h10⟩ | ⟨h9, h10⟩
    · obtain ⟨K, eK⟩ : ∃ K : fM, I = va_up K 0 (va_up (va_up (K 0) 9 (Int32.ofNat 5)) 10 (Int32.ofNat 10)) := ⟨I, f_lex h9 h10⟩
      subst eK
      let I : fM := va_up K 0 (va_up (va_up (K 0) 9 (Int32.ofNat 5)) 10 (Int32.ofNat 10))
      have hxL : xL I := Or.inl ⟨rfl, rfl⟩
      skip
      have hR : xR I := hR
      have hxO : xO I := hxO
      have hxT : xT I := hxT
      have hxS : xS I := hxS
      have hxL : xL I := hxL
      have hF0 : f_fr [25, 26, 27, 28, 31, 32, 33, 34, 35, 36, 37, 38, 39, 69, 78, 79] I I := f_fr_rf
      have hG0 : f_fr [29, 30, 70] L L := f_fr_rf
      refine f_wp_ok C f_cl flX11_ok fiX11_ok fjX11_ok (sn := none) (fun j h => by cases h) (cs := (f_cnl [(140, (2, 3, 10, pX11_isWord, qX11_isWord)), (256, (2, 0, 0, pX0_find, qX0_find))])) (cz := (fun _ => none)) (f_cnl_of (P := fun j S => f_cok pP l eP (f_rm 44) sP mP aP bP hP9 cP xY 80 a cy dC dI 3 _ _ (.invokevirtual j) true S) (List.forall_mem_cons.mpr ⟨f_cokV C (mX11_isWord hinj) (ci := 10) rfl (List.forall_mem_cons.mpr ⟨(mlX11_ok _ (List.mem_of_getElem? (i := 14) rfl)), kc_X11_isWord⟩) (by decide +kernel) ⟨Nat.le_of_ble_eq_true rfl, Nat.le_of_ble_eq_true rfl⟩, List.forall_mem_cons.mpr ⟨f_cokV C (mX0_find hinj) (ci := 0) rfl (List.forall_mem_cons.mpr ⟨(mlX11_ok _ (List.mem_of_getElem? (i := 37) rfl)), kc_X0_find⟩) (by decide +kernel) ⟨Nat.le_of_ble_eq_true rfl, Nat.le_of_ble_eq_true rfl⟩, fun _ h => absurd h List.not_mem_nil⟩⟩)) (fun j S h => by cases h) tX11_learnt_ok (cut := (fun _ => none)) (fun t P h => by cases h) 37 0 tX11_learnt tX11_learnt_ok _ _ _ _ ?_
      apply And.intro
      · intro h2
        have h2 : w.toInt = (-1) := h2
        try have q16 : w.toInt < (I 5 5).toInt := (c7_3 (by omega)).1 rfl
        try have q16 : w.toInt < (I 10 5).toInt := (c7_3 (by omega)).2 rfl
        have r20_1 : 0 ≤ (I 5 5).toInt ∧ (I 5 5).toInt ≤ 12 := hR 5 5
        apply And.intro
        · intro h24
          have h24 : 4 < (I 5 5).toInt := h24
          exact ⟨hR, hxO, hxT, hxS, hxL, hF0, hG0⟩
        · intro h24
          have h24 : (I 5 5).toInt ≤ 4 := h24
          have r31_2 : 0 ≤ (I 5 4).toInt ∧ (I 5 4).toInt ≤ 5 := hR 5 4
          apply And.intro
          · intro h35
            have h35 : (I 5 4).toInt ≤ 2 := h35
            refine And.intro ⟨hR, hxO, hxT, hxS⟩ ?_
            intro I46 L46 hq46
            obtain ⟨K46, eK46⟩ : ∃ K46 : fM, I46 = va_up K46 0 (va_up (va_up (K46 0) 9 (Int32.ofNat 5)) 10 (Int32.ofNat 10)) := ⟨I46, f_lex (congrFun (hq46.2.2.2.2.1 0 rfl) 9) (congrFun (hq46.2.2.2.2.1 0 rfl) 10)⟩
            subst eK46
            let I46 : fM := va_up K46 0 (va_up (va_up (K46 0) 9 (Int32.ofNat 5)) 10 (Int32.ofNat 10))
            have hq46 : xR I46 ∧ xO I46 ∧ xT I46 ∧ xS I46 ∧ f_fr [25, 26, 27, 28, 31, 32, 33, 34, 35, 36, 37, 38, 39, 69, 78, 79] I I46 ∧ f_fr [29, 30, 70] L L46 := hq46
            obtain ⟨c46_0, c46_1, c46_2, c46_3, c46_4, c46_5⟩ := hq46
            have hxL46 := f_dep_fr xL_dep hxL c46_4 rfl
            have hF46 := f_fr_tr hF0 c46_4 rfl
            have hG46 := f_fr_tr hG0 c46_5 rfl
            apply And.intro
            · intro h56
              have h56 : ¬ (I46 78 6).toInt = 0 := h56
              apply And.intro
              · intro h63
                have h63 : ¬ w.toInt = (-1) := h63
                exfalso
                omega
              · intro h63
                have h63 : w.toInt = (-1) := h63
                exact ⟨c46_0, c46_1, c46_2, c46_3, hxL46, hF46, hG46⟩
            · intro h56
              have h56 : (I46 78 6).toInt = 0 := h56
              exact ⟨c46_0, c46_1, c46_2, c46_3, hxL46, hF46, hG46⟩
          · intro h35
            have h35 : 2 < (I 5 4).toInt := h35
            exact ⟨hR, hxO, hxT, hxS, hxL, hF0, hG0⟩
      · intro h2
        have h2 : ¬ w.toInt = (-1) := h2
        refine And.intro ⟨hR, hxL⟩ ?_
        intro x7 I7 L7 hq7
        have hq7 : I7 = I ∧ L7 = L ∧ ((x7.toInt = 0 ∨ x7.toInt = 1 ∧ 0 ≤ w.toInt ∧ w.toInt ≤ 11)) ∧ ((x7.toInt = 1 → (I 0 9 = Int32.ofNat 5 → w.toInt < (I 5 5).toInt) ∧ (I 0 9 = Int32.ofNat 10 → w.toInt < (I 10 5).toInt))) := hq7
        obtain ⟨eI7, eL7, c7_2, c7_3⟩ := hq7
        replace eI7 := eI7.symm
        subst eI7
        replace eL7 := eL7.symm
        subst eL7
        apply And.intro
        · intro h10
          have h10 : ¬ x7.toInt = 0 := h10
          try have c10 := c7_3 (by omega)
          try have q16 : w.toInt < (I 5 5).toInt := (c7_3 (by omega)).1 rfl
          try have q16 : w.toInt < (I 10 5).toInt := (c7_3 (by omega)).2 rfl
          have r20_1 : 0 ≤ (I 5 5).toInt ∧ (I 5 5).toInt ≤ 12 := hR 5 5
          apply And.intro
          · intro h24
            have h24 : 4 < (I 5 5).toInt := h24
            exact ⟨hR, hxO, hxT, hxS, hxL, hF0, hG0⟩
          · intro h24
            have h24 : (I 5 5).toInt ≤ 4 := h24
            have r31_2 : 0 ≤ (I 5 4).toInt ∧ (I 5 4).toInt ≤ 5 := hR 5 4
            apply And.intro
            · intro h35
              have h35 : (I 5 4).toInt ≤ 2 := h35
              refine And.intro ⟨hR, hxO, hxT, hxS⟩ ?_
              intro I46 L46 hq46
              obtain ⟨K46, eK46⟩ : ∃ K46 : fM, I46 = va_up K46 0 (va_up (va_up (K46 0) 9 (Int32.ofNat 5)) 10 (Int32.ofNat 10)) := ⟨I46, f_lex (congrFun (hq46.2.2.2.2.1 0 rfl) 9) (congrFun (hq46.2.2.2.2.1 0 rfl) 10)⟩
              subst eK46
              let I46 : fM := va_up K46 0 (va_up (va_up (K46 0) 9 (Int32.ofNat 5)) 10 (Int32.ofNat 10))
              have hq46 : xR I46 ∧ xO I46 ∧ xT I46 ∧ xS I46 ∧ f_fr [25, 26, 27, 28, 31, 32, 33, 34, 35, 36, 37, 38, 39, 69, 78, 79] I I46 ∧ f_fr [29, 30, 70] L L46 := hq46
              obtain ⟨c46_0, c46_1, c46_2, c46_3, c46_4, c46_5⟩ := hq46
              have hxL46 := f_dep_fr xL_dep hxL c46_4 rfl
              have hF46 := f_fr_tr hF0 c46_4 rfl
              have hG46 := f_fr_tr hG0 c46_5 rfl
              apply And.intro
              · intro h56
                have h56 : ¬ (I46 78 6).toInt = 0 := h56
                apply And.intro
                · intro h63
                  have h63 : ¬ w.toInt = (-1) := h63
                  refine And.intro (show f_in w 4 from ⟨show 0 ≤ w.toInt from by omega, show w.toInt < 4 from by omega⟩) ?_
                  have r84_4 : 0 ≤ (I46 79 (w.toInt.toNat)).toInt ∧ (I46 79 (w.toInt.toNat)).toInt ≤ 9 := c46_0 79 (w.toInt.toNat)
                  exact ⟨c46_0, c46_1, c46_2, c46_3, hxL46, hF46, hG46⟩
                · intro h63
                  have h63 : w.toInt = (-1) := h63
                  exfalso
                  omega
              · intro h56
                have h56 : (I46 78 6).toInt = 0 := h56
                exact ⟨c46_0, c46_1, c46_2, c46_3, hxL46, hF46, hG46⟩
            · intro h35
              have h35 : 2 < (I 5 4).toInt := h35
              exact ⟨hR, hxO, hxT, hxS, hxL, hF0, hG0⟩
        · intro h10
          have h10 : x7.toInt = 0 := h10
          try have c10 := c7_3 (by omega)
          exact ⟨hR, hxO, hxT, hxS, hxL, hF0, hG0⟩
    · obtain ⟨K, eK⟩ : ∃ K : fM, I = va_up K 0 (va_up (va_up (K 0) 9 (Int32.ofNat 10)) 10 (Int32.ofNat 5)) := ⟨I, f_lex h9 h10⟩
      subst eK
      let I : fM := va_up K 0 (va_up (va_up (K 0) 9 (Int32.ofNat 10)) 10 (Int32.ofNat 5))
      have hxL : xL I := Or.inr ⟨rfl, rfl⟩
      skip
      have hR : xR I := hR
      have hxO : xO I := hxO
      have hxT : xT I := hxT
      have hxS : xS I := hxS
      have hxL : xL I := hxL
      have hF0 : f_fr [25, 26, 27, 28, 31, 32, 33, 34, 35, 36, 37, 38, 39, 69, 78, 79] I I := f_fr_rf
      have hG0 : f_fr [29, 30, 70] L L := f_fr_rf
      refine f_wp_ok C f_cl flX11_ok fiX11_ok fjX11_ok (sn := none) (fun j h => by cases h) (cs := (f_cnl [(140, (2, 3, 10, pX11_isWord, qX11_isWord)), (256, (2, 0, 0, pX0_find, qX0_find))])) (cz := (fun _ => none)) (f_cnl_of (P := fun j S => f_cok pP l eP (f_rm 44) sP mP aP bP hP9 cP xY 80 a cy dC dI 3 _ _ (.invokevirtual j) true S) (List.forall_mem_cons.mpr ⟨f_cokV C (mX11_isWord hinj) (ci := 10) rfl (List.forall_mem_cons.mpr ⟨(mlX11_ok _ (List.mem_of_getElem? (i := 14) rfl)), kc_X11_isWord⟩) (by decide +kernel) ⟨Nat.le_of_ble_eq_true rfl, Nat.le_of_ble_eq_true rfl⟩, List.forall_mem_cons.mpr ⟨f_cokV C (mX0_find hinj) (ci := 0) rfl (List.forall_mem_cons.mpr ⟨(mlX11_ok _ (List.mem_of_getElem? (i := 37) rfl)), kc_X0_find⟩) (by decide +kernel) ⟨Nat.le_of_ble_eq_true rfl, Nat.le_of_ble_eq_true rfl⟩, fun _ h => absurd h List.not_mem_nil⟩⟩)) (fun j S h => by cases h) tX11_learnt_ok (cut := (fun _ => none)) (fun t P h => by cases h) 37 0 tX11_learnt tX11_learnt_ok _ _ _ _ ?_
      apply And.intro
      · intro h2
        have h2 : w.toInt = (-1) := h2
        try have q16 : w.toInt < (I 5 5).toInt := (c7_3 (by omega)).1 rfl
        try have q16 : w.toInt < (I 10 5).toInt := (c7_3 (by omega)).2 rfl
        have r20_1 : 0 ≤ (I 10 5).toInt ∧ (I 10 5).toInt ≤ 12 := hR 10 5
        apply And.intro
        · intro h24
          have h24 : 4 < (I 10 5).toInt := h24
          exact ⟨hR, hxO, hxT, hxS, hxL, hF0, hG0⟩
        · intro h24
          have h24 : (I 10 5).toInt ≤ 4 := h24
          have r31_2 : 0 ≤ (I 10 4).toInt ∧ (I 10 4).toInt ≤ 5 := hR 10 4
          apply And.intro
          · intro h35
            have h35 : (I 10 4).toInt ≤ 2 := h35
            refine And.intro ⟨hR, hxO, hxT, hxS⟩ ?_
            intro I46 L46 hq46
            obtain ⟨K46, eK46⟩ : ∃ K46 : fM, I46 = va_up K46 0 (va_up (va_up (K46 0) 9 (Int32.ofNat 10)) 10 (Int32.ofNat 5)) := ⟨I46, f_lex (congrFun (hq46.2.2.2.2.1 0 rfl) 9) (congrFun (hq46.2.2.2.2.1 0 rfl) 10)⟩
            subst eK46
            let I46 : fM := va_up K46 0 (va_up (va_up (K46 0) 9 (Int32.ofNat 10)) 10 (Int32.ofNat 5))
            have hq46 : xR I46 ∧ xO I46 ∧ xT I46 ∧ xS I46 ∧ f_fr [25, 26, 27, 28, 31, 32, 33, 34, 35, 36, 37, 38, 39, 69, 78, 79] I I46 ∧ f_fr [29, 30, 70] L L46 := hq46
            obtain ⟨c46_0, c46_1, c46_2, c46_3, c46_4, c46_5⟩ := hq46
            have hxL46 := f_dep_fr xL_dep hxL c46_4 rfl
            have hF46 := f_fr_tr hF0 c46_4 rfl
            have hG46 := f_fr_tr hG0 c46_5 rfl
            apply And.intro
            · intro h56
              have h56 : ¬ (I46 78 6).toInt = 0 := h56
              apply And.intro
              · intro h63
                have h63 : ¬ w.toInt = (-1) := h63
                exfalso
                omega
              · intro h63
                have h63 : w.toInt = (-1) := h63
                exact ⟨c46_0, c46_1, c46_2, c46_3, hxL46, hF46, hG46⟩
            · intro h56
              have h56 : (I46 78 6).toInt = 0 := h56
              exact ⟨c46_0, c46_1, c46_2, c46_3, hxL46, hF46, hG46⟩
          · intro h35
            have h35 : 2 < (I 10 4).toInt := h35
            exact ⟨hR, hxO, hxT, hxS, hxL, hF0, hG0⟩
      · intro h2
        have h2 : ¬ w.toInt = (-1) := h2
        refine And.intro ⟨hR, hxL⟩ ?_
        intro x7 I7 L7 hq7
        have hq7 : I7 = I ∧ L7 = L ∧ ((x7.toInt = 0 ∨ x7.toInt = 1 ∧ 0 ≤ w.toInt ∧ w.toInt ≤ 11)) ∧ ((x7.toInt = 1 → (I 0 9 = Int32.ofNat 5 → w.toInt < (I 5 5).toInt) ∧ (I 0 9 = Int32.ofNat 10 → w.toInt < (I 10 5).toInt))) := hq7
        obtain ⟨eI7, eL7, c7_2, c7_3⟩ := hq7
        replace eI7 := eI7.symm
        subst eI7
        replace eL7 := eL7.symm
        subst eL7
        apply And.intro
        · intro h10
          have h10 : ¬ x7.toInt = 0 := h10
          try have c10 := c7_3 (by omega)
          try have q16 : w.toInt < (I 5 5).toInt := (c7_3 (by omega)).1 rfl
          try have q16 : w.toInt < (I 10 5).toInt := (c7_3 (by omega)).2 rfl
          have r20_1 : 0 ≤ (I 10 5).toInt ∧ (I 10 5).toInt ≤ 12 := hR 10 5
          apply And.intro
          · intro h24
            have h24 : 4 < (I 10 5).toInt := h24
            exact ⟨hR, hxO, hxT, hxS, hxL, hF0, hG0⟩
          · intro h24
            have h24 : (I 10 5).toInt ≤ 4 := h24
            have r31_2 : 0 ≤ (I 10 4).toInt ∧ (I 10 4).toInt ≤ 5 := hR 10 4
            apply And.intro
            · intro h35
              have h35 : (I 10 4).toInt ≤ 2 := h35
              refine And.intro ⟨hR, hxO, hxT, hxS⟩ ?_
              intro I46 L46 hq46
              obtain ⟨K46, eK46⟩ : ∃ K46 : fM, I46 = va_up K46 0 (va_up (va_up (K46 0) 9 (Int32.ofNat 10)) 10 (Int32.ofNat 5)) := ⟨I46, f_lex (congrFun (hq46.2.2.2.2.1 0 rfl) 9) (congrFun (hq46.2.2.2.2.1 0 rfl) 10)⟩
              subst eK46
              let I46 : fM := va_up K46 0 (va_up (va_up (K46 0) 9 (Int32.ofNat 10)) 10 (Int32.ofNat 5))
              have hq46 : xR I46 ∧ xO I46 ∧ xT I46 ∧ xS I46 ∧ f_fr [25, 26, 27, 28, 31, 32, 33, 34, 35, 36, 37, 38, 39, 69, 78, 79] I I46 ∧ f_fr [29, 30, 70] L L46 := hq46
              obtain ⟨c46_0, c46_1, c46_2, c46_3, c46_4, c46_5⟩ := hq46
              have hxL46 := f_dep_fr xL_dep hxL c46_4 rfl
              have hF46 := f_fr_tr hF0 c46_4 rfl
              have hG46 := f_fr_tr hG0 c46_5 rfl
              apply And.intro
              · intro h56
                have h56 : ¬ (I46 78 6).toInt = 0 := h56
                apply And.intro
                · intro h63
                  have h63 : ¬ w.toInt = (-1) := h63
                  refine And.intro (show f_in w 4 from ⟨show 0 ≤ w.toInt from by omega, show w.toInt < 4 from by omega⟩) ?_
                  have r84_4 : 0 ≤ (I46 79 (w.toInt.toNat)).toInt ∧ (I46 79 (w.toInt.toNat)).toInt ≤ 9 := c46_0 79 (w.toInt.toNat)
                  exact ⟨c46_0, c46_1, c46_2, c46_3, hxL46, hF46, hG46⟩
                · intro h63
                  have h63 : w.toInt = (-1) := h63
                  exfalso
                  omega
              · intro h56
                have h56 : (I46 78 6).toInt = 0 := h56
                exact ⟨c46_0, c46_1, c46_2, c46_3, hxL46, hF46, hG46⟩
            · intro h35
              have h35 : 2 < (I 10 4).toInt := h35
              exact ⟨hR, hxO, hxT, hxS, hxL, hF0, hG0⟩
        · intro h10
          have h10 : x7.toInt = 0 := h10
          try have c10 := c7_3 (by omega)
          exact ⟨hR, hxO, hxT, hxS, hxL, hF0, hG0⟩
def tX11_image : List (Instr × Nat) := [(.iload_n 1, 1), (.ifCond .lt 8, 3), (.iload_n 1, 1), (.iconst 3, 1), (.if_icmp .lt 5, 3), (.iconst (-1), 1), (.ireturn, 1), (.aload_n 0, 1), (.getfield 58, 3), (.iload_n 1, 1), (.aaload, 1), (.aload_n 0, 1), (.getfield 54, 3), (.invokevirtual 267, 3), (.aload_n 0, 1), (.getfield 58, 3), (.iload_n 1, 1), (.aaload, 1), (.iconst 1, 1), (.putfield 114, 3), (.aload_n 0, 1), (.getfield 54, 3), (.getfield 247, 3), (.ireturn, 1)]
theorem tX11_image_ok : f_chk cX11_image 0 tX11_image = true := by decide +kernel
def pX11_image (av : List Value) (I : fM) (L : fN) : Prop := match av with
  | [.ref 0, .int b] => xR I ∧ xO I ∧ xT I ∧ xS I ∧ xL I
  | _ => False
def qX11_image (av : List Value) (I : fM) (L : fN) (r : Value) (I' : fM) (L' : fN) : Prop := match av, r with
  | [.ref 0, .int b], .int x => xR I' ∧ xO I' ∧ xT I' ∧ xS I' ∧ xL I' ∧ f_fr [47, 48, 49, 50, 51, 54, 55, 56, 57, 58, 61, 62, 63, 64, 65] I I' ∧ f_fr [52, 53, 59, 60, 66, 67] L L'
  | _, _ => False
set_option maxHeartbeats 4000000 in
set_option maxRecDepth 100000 in
theorem mX11_image {l : Launch} {a : Nat → Nat} {cy dC : Nat → ClassId} {dI : Nat → Nat → Nat} (hinj : ∀ i j, i < 80 → j < 80 → a i = a j → i = j) : f_Met (xE a) l xY 80 a cy dC dI yX11_image cX11_image 2 1 2 pX11_image qX11_image := by
  refine f_met_of (xE_c a) hinj xY_hi (by decide) (fun av I L h => by unfold pX11_image at h; split at h <;> first | exact Nat.le_of_ble_eq_true rfl | exact h.elim) ?_
  intro pP eP sP mP aP bP hP9 cP C av I L hp
  unfold pX11_image at hp
  split at hp
  case h_2 => exact hp.elim
  case h_1 b =>
    obtain ⟨hR, hxO, hxT, hxS, hxL⟩ := hp
    have hF0 : f_fr [47, 48, 49, 50, 51, 54, 55, 56, 57, 58, 61, 62, 63, 64, 65] I I := f_fr_rf
    have hG0 : f_fr [52, 53, 59, 60, 66, 67] L L := f_fr_rf
    refine f_wp_ok C f_cl flX11_ok fiX11_ok fjX11_ok (sn := none) (fun j h => by cases h) (cs := (f_cnl [(267, (2, 0, 2, pX2_copyFrom, qX2_copyFrom))])) (cz := (fun _ => none)) (f_cnl_of (P := fun j S => f_cok pP l eP (f_rm 2) sP mP aP bP hP9 cP xY 80 a cy dC dI 2 _ _ (.invokevirtual j) true S) (List.forall_mem_cons.mpr ⟨f_cokV C (mX2_copyFrom hinj) (ci := 2) rfl (List.forall_mem_cons.mpr ⟨(mlX11_ok _ (List.mem_of_getElem? (i := 38) rfl)), kc_X2_copyFrom⟩) (by decide +kernel) ⟨Nat.le_of_ble_eq_true rfl, Nat.le_of_ble_eq_true rfl⟩, fun _ h => absurd h List.not_mem_nil⟩)) (fun j S h => by cases h) tX11_image_ok (cut := (fun _ => none)) (fun t P h => by cases h) 25 0 tX11_image tX11_image_ok _ _ _ _ ?_
    apply And.intro
    · intro h1
      have h1 : b.toInt < 0 := h1
      exact ⟨hR, hxO, hxT, hxS, hxL, hF0, hG0⟩
    · intro h1
      have h1 : 0 ≤ b.toInt := h1
      apply And.intro
      · intro h6
        have h6 : b.toInt < 3 := h6
        refine And.intro (show f_in b 3 from ⟨show 0 ≤ b.toInt from by omega, show b.toInt < 3 from by omega⟩) ?_
        intro j16 hj16
        have hj16 : b.toInt.toNat = j16 := hj16
        have jc16 : j16 = 0 ∨ j16 = 1 ∨ j16 = 2 := by omega
        rcases jc16 with rfl | rfl | rfl
        · have jv16 : b.toInt = 0 := by omega
          refine And.intro ⟨(by decide), hR⟩ ?_
          intro I21 L21 hq21
          have hq21 : xR I21 ∧ f_fr [47, 48, 49, 50, 51] I I21 ∧ f_fr [52, 53] L L21 ∧ I21 47 6 = I 40 6 ∧ I21 47 7 = I 40 7 ∧ I21 47 8 = I 47 8 ∧ I21 48 = va_cpy (I 41) (I 48) 0 0 8 ∧ I21 49 = va_cpy (I 42) (I 49) 0 0 72 ∧ I21 50 = va_cpy (I 43) (I 50) 0 0 12 := hq21
          obtain ⟨c21_0, c21_1, c21_2, c21_3, c21_4, c21_5, c21_6, c21_7, c21_8⟩ := hq21
          have hxO21 := f_dep_fr xO_dep hxO c21_1 rfl
          have hxT21 := f_dep_fr xT_dep hxT c21_1 rfl
          have hxS21 := f_dep_fr xS_dep hxS c21_1 rfl
          have hxL21 := f_dep_fr xL_dep hxL c21_1 rfl
          have hF21 := f_fr_tr hF0 c21_1 rfl
          have hG21 := f_fr_tr hG0 c21_2 rfl
          refine And.intro (show f_in b 3 from ⟨show 0 ≤ b.toInt from by omega, show b.toInt < 3 from by omega⟩) ?_
          intro j29 hj29
          have hj29 : b.toInt.toNat = j29 := hj29
          have jc29 : j29 = 0 ∨ j29 = 1 ∨ j29 = 2 := by omega
          rcases jc29 with rfl | rfl | rfl
          · have jv29 : b.toInt = 0 := by omega
            refine And.intro (Or.inr rfl) ?_
            have hR31 := xR_f (k := 47) (j := 8) (x := Int32.ofInt 1) c21_0 (by exact f_rng _)
            have hF31 := f_fr_up (k := 47) (r := va_up (I21 47) 8 (Int32.ofInt 1)) hF21 rfl
            have hxO31 := f_dep_up xO_dep (k := 47) (r := va_up (I21 47) 8 (Int32.ofInt 1)) hxO21 rfl
            have hxT31 := f_dep_up xT_dep (k := 47) (r := va_up (I21 47) 8 (Int32.ofInt 1)) hxT21 rfl
            have hxS31 := f_dep_up xS_dep (k := 47) (r := va_up (I21 47) 8 (Int32.ofInt 1)) hxS21 rfl
            have hxL31 := f_dep_up xL_dep (k := 47) (r := va_up (I21 47) 8 (Int32.ofInt 1)) hxL21 rfl
            have r38_1 : 0 ≤ (I21 40 7).toInt ∧ (I21 40 7).toInt ≤ 12 := hR31 40 7
            have e38_2 : (I21 40 7).toInt = (I 40 7).toInt := congrArg Int32.toInt (congrFun (c21_1 40 rfl) 7)
            exact ⟨hR31, hxO31, hxT31, hxS31, hxL31, hF31, hG21⟩
          · have jv29 : b.toInt = 1 := by omega
            exfalso
            omega
          · have jv29 : b.toInt = 2 := by omega
            exfalso
            omega
        · have jv16 : b.toInt = 1 := by omega
          refine And.intro ⟨(by decide), hR⟩ ?_
          intro I21 L21 hq21
          have hq21 : xR I21 ∧ f_fr [54, 55, 56, 57, 58] I I21 ∧ f_fr [59, 60] L L21 ∧ I21 54 6 = I 40 6 ∧ I21 54 7 = I 40 7 ∧ I21 54 8 = I 54 8 ∧ I21 55 = va_cpy (I 41) (I 55) 0 0 8 ∧ I21 56 = va_cpy (I 42) (I 56) 0 0 72 ∧ I21 57 = va_cpy (I 43) (I 57) 0 0 12 := hq21
          obtain ⟨c21_0, c21_1, c21_2, c21_3, c21_4, c21_5, c21_6, c21_7, c21_8⟩ := hq21
          have hxO21 := f_dep_fr xO_dep hxO c21_1 rfl
          have hxT21 := f_dep_fr xT_dep hxT c21_1 rfl
          have hxS21 := f_dep_fr xS_dep hxS c21_1 rfl
          have hxL21 := f_dep_fr xL_dep hxL c21_1 rfl
          have hF21 := f_fr_tr hF0 c21_1 rfl
          have hG21 := f_fr_tr hG0 c21_2 rfl
          refine And.intro (show f_in b 3 from ⟨show 0 ≤ b.toInt from by omega, show b.toInt < 3 from by omega⟩) ?_
          intro j29 hj29
          have hj29 : b.toInt.toNat = j29 := hj29
          have jc29 : j29 = 0 ∨ j29 = 1 ∨ j29 = 2 := by omega
          rcases jc29 with rfl | rfl | rfl
          · have jv29 : b.toInt = 0 := by omega
            exfalso
            omega
          · have jv29 : b.toInt = 1 := by omega
            refine And.intro (Or.inr rfl) ?_
            have hR31 := xR_f (k := 54) (j := 8) (x := Int32.ofInt 1) c21_0 (by exact f_rng _)
            have hF31 := f_fr_up (k := 54) (r := va_up (I21 54) 8 (Int32.ofInt 1)) hF21 rfl
            have hxO31 := f_dep_up xO_dep (k := 54) (r := va_up (I21 54) 8 (Int32.ofInt 1)) hxO21 rfl
            have hxT31 := f_dep_up xT_dep (k := 54) (r := va_up (I21 54) 8 (Int32.ofInt 1)) hxT21 rfl
            have hxS31 := f_dep_up xS_dep (k := 54) (r := va_up (I21 54) 8 (Int32.ofInt 1)) hxS21 rfl
            have hxL31 := f_dep_up xL_dep (k := 54) (r := va_up (I21 54) 8 (Int32.ofInt 1)) hxL21 rfl
            have r38_1 : 0 ≤ (I21 40 7).toInt ∧ (I21 40 7).toInt ≤ 12 := hR31 40 7
            have e38_2 : (I21 40 7).toInt = (I 40 7).toInt := congrArg Int32.toInt (congrFun (c21_1 40 rfl) 7)
            exact ⟨hR31, hxO31, hxT31, hxS31, hxL31, hF31, hG21⟩
          · have jv29 : b.toInt = 2 := by omega
            exfalso
            omega
        · have jv16 : b.toInt = 2 := by omega
          refine And.intro ⟨(by decide), hR⟩ ?_
          intro I21 L21 hq21
          have hq21 : xR I21 ∧ f_fr [61, 62, 63, 64, 65] I I21 ∧ f_fr [66, 67] L L21 ∧ I21 61 6 = I 40 6 ∧ I21 61 7 = I 40 7 ∧ I21 61 8 = I 61 8 ∧ I21 62 = va_cpy (I 41) (I 62) 0 0 8 ∧ I21 63 = va_cpy (I 42) (I 63) 0 0 72 ∧ I21 64 = va_cpy (I 43) (I 64) 0 0 12 := hq21
          obtain ⟨c21_0, c21_1, c21_2, c21_3, c21_4, c21_5, c21_6, c21_7, c21_8⟩ := hq21
          have hxO21 := f_dep_fr xO_dep hxO c21_1 rfl
          have hxT21 := f_dep_fr xT_dep hxT c21_1 rfl
          have hxS21 := f_dep_fr xS_dep hxS c21_1 rfl
          have hxL21 := f_dep_fr xL_dep hxL c21_1 rfl
          have hF21 := f_fr_tr hF0 c21_1 rfl
          have hG21 := f_fr_tr hG0 c21_2 rfl
          refine And.intro (show f_in b 3 from ⟨show 0 ≤ b.toInt from by omega, show b.toInt < 3 from by omega⟩) ?_
          intro j29 hj29
          have hj29 : b.toInt.toNat = j29 := hj29
          have jc29 : j29 = 0 ∨ j29 = 1 ∨ j29 = 2 := by omega
          rcases jc29 with rfl | rfl | rfl
          · have jv29 : b.toInt = 0 := by omega
            exfalso
            omega
          · have jv29 : b.toInt = 1 := by omega
            exfalso
            omega
          · have jv29 : b.toInt = 2 := by omega
            refine And.intro (Or.inr rfl) ?_
            have hR31 := xR_f (k := 61) (j := 8) (x := Int32.ofInt 1) c21_0 (by exact f_rng _)
            have hF31 := f_fr_up (k := 61) (r := va_up (I21 61) 8 (Int32.ofInt 1)) hF21 rfl
            have hxO31 := f_dep_up xO_dep (k := 61) (r := va_up (I21 61) 8 (Int32.ofInt 1)) hxO21 rfl
            have hxT31 := f_dep_up xT_dep (k := 61) (r := va_up (I21 61) 8 (Int32.ofInt 1)) hxT21 rfl
            have hxS31 := f_dep_up xS_dep (k := 61) (r := va_up (I21 61) 8 (Int32.ofInt 1)) hxS21 rfl
            have hxL31 := f_dep_up xL_dep (k := 61) (r := va_up (I21 61) 8 (Int32.ofInt 1)) hxL21 rfl
            have r38_1 : 0 ≤ (I21 40 7).toInt ∧ (I21 40 7).toInt ≤ 12 := hR31 40 7
            have e38_2 : (I21 40 7).toInt = (I 40 7).toInt := congrArg Int32.toInt (congrFun (c21_1 40 rfl) 7)
            exact ⟨hR31, hxO31, hxT31, hxS31, hxL31, hF31, hG21⟩
      · intro h6
        have h6 : 3 ≤ b.toInt := h6
        exact ⟨hR, hxO, hxT, hxS, hxL, hF0, hG0⟩
def tX11_back : List (Instr × Nat) := [(.iload_n 1, 1), (.ifCond .lt 20, 3), (.iload_n 1, 1), (.iconst 3, 1), (.if_icmp .ge 15, 3), (.aload_n 0, 1), (.getfield 58, 3), (.iload_n 1, 1), (.aaload, 1), (.getfield 114, 3), (.ifCond .ne 5, 3), (.iconst (-1), 1), (.ireturn, 1), (.aload_n 0, 1), (.getfield 54, 3), (.aload_n 0, 1), (.getfield 58, 3), (.iload_n 1, 1), (.aaload, 1), (.invokevirtual 267, 3), (.aload_n 0, 1), (.getfield 83, 3), (.invokevirtual 118, 3), (.aload_n 0, 1), (.invokevirtual 121, 3), (.aload_n 0, 1), (.getfield 54, 3), (.getfield 247, 3), (.ireturn, 1)]
theorem tX11_back_ok : f_chk cX11_back 0 tX11_back = true := by decide +kernel
def pX11_back (av : List Value) (I : fM) (L : fN) : Prop := match av with
  | [.ref 0, .int b] => xR I ∧ xO I ∧ xT I ∧ xS I ∧ xL I
  | _ => False
def qX11_back (av : List Value) (I : fM) (L : fN) (r : Value) (I' : fM) (L' : fN) : Prop := match av, r with
  | [.ref 0, .int b], .int x => xR I' ∧ xO I' ∧ xT I' ∧ xS I' ∧ xL I' ∧ f_fr [40, 41, 42, 43, 44, 69, 72, 74, 76, 78] I I' ∧ f_fr [45, 46] L L'
  | _, _ => False
set_option maxHeartbeats 4000000 in
set_option maxRecDepth 100000 in
theorem mX11_back {l : Launch} {a : Nat → Nat} {cy dC : Nat → ClassId} {dI : Nat → Nat → Nat} (hinj : ∀ i j, i < 80 → j < 80 → a i = a j → i = j) : f_Met (xE a) l xY 80 a cy dC dI yX11_back cX11_back 2 1 3 pX11_back qX11_back := by
  refine f_met_of (xE_c a) hinj xY_hi (by decide) (fun av I L h => by unfold pX11_back at h; split at h <;> first | exact Nat.le_of_ble_eq_true rfl | exact h.elim) ?_
  intro pP eP sP mP aP bP hP9 cP C av I L hp
  unfold pX11_back at hp
  split at hp
  case h_2 => exact hp.elim
  case h_1 b =>
    obtain ⟨hR, hxO, hxT, hxS, hxL⟩ := hp
    have hF0 : f_fr [40, 41, 42, 43, 44, 69, 72, 74, 76, 78] I I := f_fr_rf
    have hG0 : f_fr [45, 46] L L := f_fr_rf
    refine f_wp_ok C f_cl flX11_ok fiX11_ok fjX11_ok (sn := none) (fun j h => by cases h) (cs := (f_cnl [(267, (2, 0, 2, pX2_copyFrom, qX2_copyFrom)), (118, (1, 0, 0, pX0_forget, qX0_forget)), (121, (1, 0, 10, pX11_forgetRow, qX11_forgetRow))])) (cz := (fun _ => none)) (f_cnl_of (P := fun j S => f_cok pP l eP (f_rm 3) sP mP aP bP hP9 cP xY 80 a cy dC dI 2 _ _ (.invokevirtual j) true S) (List.forall_mem_cons.mpr ⟨f_cokV C (mX2_copyFrom hinj) (ci := 2) rfl (List.forall_mem_cons.mpr ⟨(mlX11_ok _ (List.mem_of_getElem? (i := 38) rfl)), kc_X2_copyFrom⟩) (by decide +kernel) ⟨Nat.le_of_ble_eq_true rfl, Nat.le_of_ble_eq_true rfl⟩, List.forall_mem_cons.mpr ⟨f_cokV C (mX0_forget hinj) (ci := 0) rfl (List.forall_mem_cons.mpr ⟨(mlX11_ok _ (List.mem_of_getElem? (i := 11) rfl)), kc_X0_forget⟩) (by decide +kernel) ⟨Nat.le_of_ble_eq_true rfl, Nat.le_of_ble_eq_true rfl⟩, List.forall_mem_cons.mpr ⟨f_cokV C (mX11_forgetRow hinj) (ci := 10) rfl (List.forall_mem_cons.mpr ⟨(mlX11_ok _ (List.mem_of_getElem? (i := 12) rfl)), kc_X11_forgetRow⟩) (by decide +kernel) ⟨Nat.le_of_ble_eq_true rfl, Nat.le_of_ble_eq_true rfl⟩, fun _ h => absurd h List.not_mem_nil⟩⟩⟩)) (fun j S h => by cases h) tX11_back_ok (cut := (fun _ => none)) (fun t P h => by cases h) 30 0 tX11_back tX11_back_ok _ _ _ _ ?_
    apply And.intro
    · intro h1
      have h1 : b.toInt < 0 := h1
      exact ⟨hR, hxO, hxT, hxS, hxL, hF0, hG0⟩
    · intro h1
      have h1 : 0 ≤ b.toInt := h1
      apply And.intro
      · intro h6
        have h6 : 3 ≤ b.toInt := h6
        exact ⟨hR, hxO, hxT, hxS, hxL, hF0, hG0⟩
      · intro h6
        have h6 : b.toInt < 3 := h6
        refine And.intro (show f_in b 3 from ⟨show 0 ≤ b.toInt from by omega, show b.toInt < 3 from by omega⟩) ?_
        intro j14 hj14
        have hj14 : b.toInt.toNat = j14 := hj14
        have jc14 : j14 = 0 ∨ j14 = 1 ∨ j14 = 2 := by omega
        rcases jc14 with rfl | rfl | rfl
        · have jv14 : b.toInt = 0 := by omega
          apply And.intro
          · intro h18
            have h18 : ¬ (I 47 8).toInt = 0 := h18
            refine And.intro (show f_in b 3 from ⟨show 0 ≤ b.toInt from by omega, show b.toInt < 3 from by omega⟩) ?_
            intro j32 hj32
            have hj32 : b.toInt.toNat = j32 := hj32
            have jc32 : j32 = 0 ∨ j32 = 1 ∨ j32 = 2 := by omega
            rcases jc32 with rfl | rfl | rfl
            · have jv32 : b.toInt = 0 := by omega
              refine And.intro ⟨(by decide), hR⟩ ?_
              intro I33 L33 hq33
              have hq33 : xR I33 ∧ f_fr [40, 41, 42, 43, 44] I I33 ∧ f_fr [45, 46] L L33 ∧ I33 40 6 = I 47 6 ∧ I33 40 7 = I 47 7 ∧ I33 40 8 = I 40 8 ∧ I33 41 = va_cpy (I 48) (I 41) 0 0 8 ∧ I33 42 = va_cpy (I 49) (I 42) 0 0 72 ∧ I33 43 = va_cpy (I 50) (I 43) 0 0 12 := hq33
              obtain ⟨c33_0, c33_1, c33_2, c33_3, c33_4, c33_5, c33_6, c33_7, c33_8⟩ := hq33
              have hxO33 := f_dep_fr xO_dep hxO c33_1 rfl
              have hxT33 := f_dep_fr xT_dep hxT c33_1 rfl
              have hxS33 := f_dep_fr xS_dep hxS c33_1 rfl
              have hxL33 := f_dep_fr xL_dep hxL c33_1 rfl
              have hF33 := f_fr_tr hF0 c33_1 rfl
              have hG33 := f_fr_tr hG0 c33_2 rfl
              refine And.intro c33_0 ?_
              intro I40 L40 hq40
              have hq40 : xR I40 ∧ f_fr [78] I33 I40 ∧ L40 = L33 := hq40
              obtain ⟨c40_0, c40_1, eL40⟩ := hq40
              replace eL40 := eL40.symm
              subst eL40
              have hxO40 := f_dep_fr xO_dep hxO33 c40_1 rfl
              have hxT40 := f_dep_fr xT_dep hxT33 c40_1 rfl
              have hxS40 := f_dep_fr xS_dep hxS33 c40_1 rfl
              have hxL40 := f_dep_fr xL_dep hxL33 c40_1 rfl
              have hF40 := f_fr_tr hF33 c40_1 rfl
              refine And.intro c40_0 ?_
              intro I44 L44 hq44
              have hq44 : xR I44 ∧ f_fr [69, 72, 74, 76] I40 I44 ∧ L44 = L33 := hq44
              obtain ⟨c44_0, c44_1, eL44⟩ := hq44
              replace eL44 := eL44.symm
              subst eL44
              have hxO44 := f_dep_fr xO_dep hxO40 c44_1 rfl
              have hxT44 := f_dep_fr xT_dep hxT40 c44_1 rfl
              have hxS44 := f_dep_fr xS_dep hxS40 c44_1 rfl
              have hxL44 := f_dep_fr xL_dep hxL40 c44_1 rfl
              have hF44 := f_fr_tr hF40 c44_1 rfl
              have r51_2 : 0 ≤ (I44 40 7).toInt ∧ (I44 40 7).toInt ≤ 12 := c44_0 40 7
              have e51_3 : (I44 40 7).toInt = (I40 40 7).toInt := congrArg Int32.toInt (congrFun (c44_1 40 rfl) 7)
              have e51_4 : (I40 40 7).toInt = (I33 40 7).toInt := congrArg Int32.toInt (congrFun (c40_1 40 rfl) 7)
              exact ⟨c44_0, hxO44, hxT44, hxS44, hxL44, hF44, hG33⟩
            · have jv32 : b.toInt = 1 := by omega
              exfalso
              omega
            · have jv32 : b.toInt = 2 := by omega
              exfalso
              omega
          · intro h18
            have h18 : (I 47 8).toInt = 0 := h18
            exact ⟨hR, hxO, hxT, hxS, hxL, hF0, hG0⟩
        · have jv14 : b.toInt = 1 := by omega
          apply And.intro
          · intro h18
            have h18 : ¬ (I 54 8).toInt = 0 := h18
            refine And.intro (show f_in b 3 from ⟨show 0 ≤ b.toInt from by omega, show b.toInt < 3 from by omega⟩) ?_
            intro j32 hj32
            have hj32 : b.toInt.toNat = j32 := hj32
            have jc32 : j32 = 0 ∨ j32 = 1 ∨ j32 = 2 := by omega
            rcases jc32 with rfl | rfl | rfl
            · have jv32 : b.toInt = 0 := by omega
              exfalso
              omega
            · have jv32 : b.toInt = 1 := by omega
              refine And.intro ⟨(by decide), hR⟩ ?_
              intro I33 L33 hq33
              have hq33 : xR I33 ∧ f_fr [40, 41, 42, 43, 44] I I33 ∧ f_fr [45, 46] L L33 ∧ I33 40 6 = I 54 6 ∧ I33 40 7 = I 54 7 ∧ I33 40 8 = I 40 8 ∧ I33 41 = va_cpy (I 55) (I 41) 0 0 8 ∧ I33 42 = va_cpy (I 56) (I 42) 0 0 72 ∧ I33 43 = va_cpy (I 57) (I 43) 0 0 12 := hq33
              obtain ⟨c33_0, c33_1, c33_2, c33_3, c33_4, c33_5, c33_6, c33_7, c33_8⟩ := hq33
              have hxO33 := f_dep_fr xO_dep hxO c33_1 rfl
              have hxT33 := f_dep_fr xT_dep hxT c33_1 rfl
              have hxS33 := f_dep_fr xS_dep hxS c33_1 rfl
              have hxL33 := f_dep_fr xL_dep hxL c33_1 rfl
              have hF33 := f_fr_tr hF0 c33_1 rfl
              have hG33 := f_fr_tr hG0 c33_2 rfl
              refine And.intro c33_0 ?_
              intro I40 L40 hq40
              have hq40 : xR I40 ∧ f_fr [78] I33 I40 ∧ L40 = L33 := hq40
              obtain ⟨c40_0, c40_1, eL40⟩ := hq40
              replace eL40 := eL40.symm
              subst eL40
              have hxO40 := f_dep_fr xO_dep hxO33 c40_1 rfl
              have hxT40 := f_dep_fr xT_dep hxT33 c40_1 rfl
              have hxS40 := f_dep_fr xS_dep hxS33 c40_1 rfl
              have hxL40 := f_dep_fr xL_dep hxL33 c40_1 rfl
              have hF40 := f_fr_tr hF33 c40_1 rfl
              refine And.intro c40_0 ?_
              intro I44 L44 hq44
              have hq44 : xR I44 ∧ f_fr [69, 72, 74, 76] I40 I44 ∧ L44 = L33 := hq44
              obtain ⟨c44_0, c44_1, eL44⟩ := hq44
              replace eL44 := eL44.symm
              subst eL44
              have hxO44 := f_dep_fr xO_dep hxO40 c44_1 rfl
              have hxT44 := f_dep_fr xT_dep hxT40 c44_1 rfl
              have hxS44 := f_dep_fr xS_dep hxS40 c44_1 rfl
              have hxL44 := f_dep_fr xL_dep hxL40 c44_1 rfl
              have hF44 := f_fr_tr hF40 c44_1 rfl
              have r51_2 : 0 ≤ (I44 40 7).toInt ∧ (I44 40 7).toInt ≤ 12 := c44_0 40 7
              have e51_3 : (I44 40 7).toInt = (I40 40 7).toInt := congrArg Int32.toInt (congrFun (c44_1 40 rfl) 7)
              have e51_4 : (I40 40 7).toInt = (I33 40 7).toInt := congrArg Int32.toInt (congrFun (c40_1 40 rfl) 7)
              exact ⟨c44_0, hxO44, hxT44, hxS44, hxL44, hF44, hG33⟩
            · have jv32 : b.toInt = 2 := by omega
              exfalso
              omega
          · intro h18
            have h18 : (I 54 8).toInt = 0 := h18
            exact ⟨hR, hxO, hxT, hxS, hxL, hF0, hG0⟩
        · have jv14 : b.toInt = 2 := by omega
          apply And.intro
          · intro h18
            have h18 : ¬ (I 61 8).toInt = 0 := h18
            refine And.intro (show f_in b 3 from ⟨show 0 ≤ b.toInt from by omega, show b.toInt < 3 from by omega⟩) ?_
            intro j32 hj32
            have hj32 : b.toInt.toNat = j32 := hj32
            have jc32 : j32 = 0 ∨ j32 = 1 ∨ j32 = 2 := by omega
            rcases jc32 with rfl | rfl | rfl
            · have jv32 : b.toInt = 0 := by omega
              exfalso
              omega
            · have jv32 : b.toInt = 1 := by omega
              exfalso
              omega
            · have jv32 : b.toInt = 2 := by omega
              refine And.intro ⟨(by decide), hR⟩ ?_
              intro I33 L33 hq33
              have hq33 : xR I33 ∧ f_fr [40, 41, 42, 43, 44] I I33 ∧ f_fr [45, 46] L L33 ∧ I33 40 6 = I 61 6 ∧ I33 40 7 = I 61 7 ∧ I33 40 8 = I 40 8 ∧ I33 41 = va_cpy (I 62) (I 41) 0 0 8 ∧ I33 42 = va_cpy (I 63) (I 42) 0 0 72 ∧ I33 43 = va_cpy (I 64) (I 43) 0 0 12 := hq33
              obtain ⟨c33_0, c33_1, c33_2, c33_3, c33_4, c33_5, c33_6, c33_7, c33_8⟩ := hq33
              have hxO33 := f_dep_fr xO_dep hxO c33_1 rfl
              have hxT33 := f_dep_fr xT_dep hxT c33_1 rfl
              have hxS33 := f_dep_fr xS_dep hxS c33_1 rfl
              have hxL33 := f_dep_fr xL_dep hxL c33_1 rfl
              have hF33 := f_fr_tr hF0 c33_1 rfl
              have hG33 := f_fr_tr hG0 c33_2 rfl
              refine And.intro c33_0 ?_
              intro I40 L40 hq40
              have hq40 : xR I40 ∧ f_fr [78] I33 I40 ∧ L40 = L33 := hq40
              obtain ⟨c40_0, c40_1, eL40⟩ := hq40
              replace eL40 := eL40.symm
              subst eL40
              have hxO40 := f_dep_fr xO_dep hxO33 c40_1 rfl
              have hxT40 := f_dep_fr xT_dep hxT33 c40_1 rfl
              have hxS40 := f_dep_fr xS_dep hxS33 c40_1 rfl
              have hxL40 := f_dep_fr xL_dep hxL33 c40_1 rfl
              have hF40 := f_fr_tr hF33 c40_1 rfl
              refine And.intro c40_0 ?_
              intro I44 L44 hq44
              have hq44 : xR I44 ∧ f_fr [69, 72, 74, 76] I40 I44 ∧ L44 = L33 := hq44
              obtain ⟨c44_0, c44_1, eL44⟩ := hq44
              replace eL44 := eL44.symm
              subst eL44
              have hxO44 := f_dep_fr xO_dep hxO40 c44_1 rfl
              have hxT44 := f_dep_fr xT_dep hxT40 c44_1 rfl
              have hxS44 := f_dep_fr xS_dep hxS40 c44_1 rfl
              have hxL44 := f_dep_fr xL_dep hxL40 c44_1 rfl
              have hF44 := f_fr_tr hF40 c44_1 rfl
              have r51_2 : 0 ≤ (I44 40 7).toInt ∧ (I44 40 7).toInt ≤ 12 := c44_0 40 7
              have e51_3 : (I44 40 7).toInt = (I40 40 7).toInt := congrArg Int32.toInt (congrFun (c44_1 40 rfl) 7)
              have e51_4 : (I40 40 7).toInt = (I33 40 7).toInt := congrArg Int32.toInt (congrFun (c40_1 40 rfl) 7)
              exact ⟨c44_0, hxO44, hxT44, hxS44, hxL44, hF44, hG33⟩
          · intro h18
            have h18 : (I 61 8).toInt = 0 := h18
            exact ⟨hR, hxO, hxT, hxS, hxL, hF0, hG0⟩
def tX11_row : List (Instr × Nat) := [(.aload_n 0, 1), (.getfield 21, 3), (.aload_n 0, 1), (.getfield 28, 3), (.aload_n 0, 1), (.getfield 54, 3), (.invokevirtual 127, 3), (.istore_n 1, 1), (.aload_n 0, 1), (.getfield 10, 3), (.iconst 0, 1), (.invokevirtual 99, 3), (.pop, 1), (.iload_n 1, 1), (.ifCond .ne 5, 3), (.iconst (-1), 1), (.ireturn, 1), (.aload_n 0, 1), (.invokevirtual 121, 3), (.aload_n 0, 1), (.getfield 54, 3), (.getfield 131, 3), (.ireturn, 1)]
theorem tX11_row_ok : f_chk cX11_row 0 tX11_row = true := by decide +kernel
def pX11_row (av : List Value) (I : fM) (L : fN) : Prop := match av with
  | [.ref 0] => xR I ∧ xO I ∧ xT I ∧ xS I ∧ xL I
  | _ => False
def qX11_row (av : List Value) (I : fM) (L : fN) (r : Value) (I' : fM) (L' : fN) : Prop := match av, r with
  | [.ref 0], .int x => xR I' ∧ xO I' ∧ xT I' ∧ xS I' ∧ xL I' ∧ f_fr [1, 3, 4, 40, 41, 69, 72, 74, 76] I I' ∧ f_fr [1] L L' ∧ (I' 1 1).toInt = 0
  | _, _ => False
set_option maxHeartbeats 4000000 in
set_option maxRecDepth 100000 in
theorem mX11_row {l : Launch} {a : Nat → Nat} {cy dC : Nat → ClassId} {dI : Nat → Nat → Nat} (hinj : ∀ i j, i < 80 → j < 80 → a i = a j → i = j) : f_Met (xE a) l xY 80 a cy dC dI yX11_row cX11_row 2 1 9 pX11_row qX11_row := by
  refine f_met_of (xE_c a) hinj xY_hi (by decide) (fun av I L h => by unfold pX11_row at h; split at h <;> first | exact Nat.le_of_ble_eq_true rfl | exact h.elim) ?_
  intro pP eP sP mP aP bP hP9 cP C av I L hp
  unfold pX11_row at hp
  split at hp
  case h_2 => exact hp.elim
  case h_1 =>
    obtain ⟨hR, hxO, hxT, hxS, hxL⟩ := hp
    rcases hxL with ⟨h9, h10⟩ | ⟨h9, h10⟩
    · obtain ⟨K, eK⟩ : ∃ K : fM, I = va_up K 0 (va_up (va_up (K 0) 9 (Int32.ofNat 5)) 10 (Int32.ofNat 10)) := ⟨I, f_lex h9 h10⟩
      subst eK
      let I : fM := va_up K 0 (va_up (va_up (K 0) 9 (Int32.ofNat 5)) 10 (Int32.ofNat 10))
      have hxL : xL I := Or.inl ⟨rfl, rfl⟩
      skip
      have hR : xR I := hR
      have hxO : xO I := hxO
      have hxT : xT I := hxT
      have hxS : xS I := hxS
      have hxL : xL I := hxL
      have hF0 : f_fr [1, 3, 4, 40, 41, 69, 72, 74, 76] I I := f_fr_rf
      have hG0 : f_fr [1] L L := f_fr_rf
      refine f_wp_ok C f_cl flX11_ok fiX11_ok fjX11_ok (sn := none) (fun j h => by cases h) (cs := (f_cnl [(127, (3, 3, 4, pX4_readRow, qX4_readRow)), (99, (2, 3, 8, pX9_cutb, qX9_cutb)), (121, (1, 0, 10, pX11_forgetRow, qX11_forgetRow))])) (cz := (fun _ => none)) (f_cnl_of (P := fun j S => f_cok pP l eP (f_rm 9) sP mP aP bP hP9 cP xY 80 a cy dC dI 2 _ _ (.invokevirtual j) true S) (List.forall_mem_cons.mpr ⟨f_cokV C (mX4_readRow hinj) (ci := 4) rfl (List.forall_mem_cons.mpr ⟨(mlX11_ok _ (List.mem_of_getElem? (i := 13) rfl)), kc_X4_readRow⟩) (by decide +kernel) ⟨Nat.le_of_ble_eq_true rfl, Nat.le_of_ble_eq_true rfl⟩, List.forall_mem_cons.mpr ⟨f_cokV C (mX9_cutb hinj) (ci := 8) rfl (List.forall_mem_cons.mpr ⟨(mlX11_ok _ (List.mem_of_getElem? (i := 7) rfl)), kc_X9_cut⟩) (by decide +kernel) ⟨Nat.le_of_ble_eq_true rfl, Nat.le_of_ble_eq_true rfl⟩, List.forall_mem_cons.mpr ⟨f_cokV C (mX11_forgetRow hinj) (ci := 10) rfl (List.forall_mem_cons.mpr ⟨(mlX11_ok _ (List.mem_of_getElem? (i := 12) rfl)), kc_X11_forgetRow⟩) (by decide +kernel) ⟨Nat.le_of_ble_eq_true rfl, Nat.le_of_ble_eq_true rfl⟩, fun _ h => absurd h List.not_mem_nil⟩⟩⟩)) (fun j S h => by cases h) tX11_row_ok (cut := (fun _ => none)) (fun t P h => by cases h) 24 0 tX11_row tX11_row_ok _ _ _ _ ?_
      refine And.intro ⟨(show (5 = 5 ∨ 5 = 10) from by decide), hR⟩ ?_
      intro x12 I12 L12 hq12
      obtain ⟨K12, eK12⟩ : ∃ K12 : fM, I12 = va_up K12 0 (va_up (va_up (K12 0) 9 (Int32.ofNat 5)) 10 (Int32.ofNat 10)) := ⟨I12, f_lex (congrFun (hq12.2.1 0 rfl) 9) (congrFun (hq12.2.1 0 rfl) 10)⟩
      subst eK12
      let I12 : fM := va_up K12 0 (va_up (va_up (K12 0) 9 (Int32.ofNat 5)) 10 (Int32.ofNat 10))
      have hq12 : xR I12 ∧ f_fr [1, 3, 4, 40, 41] I I12 ∧ f_fr [1] L L12 ∧ ((x12.toInt = 0 ∨ x12.toInt = 1)) := hq12
      obtain ⟨c12_0, c12_1, c12_2, c12_3⟩ := hq12
      have hxO12 := f_dep_fr xO_dep hxO c12_1 rfl
      have hxT12 := f_dep_fr xT_dep hxT c12_1 rfl
      have hxS12 := f_dep_fr xS_dep hxS c12_1 rfl
      have hxL12 := f_dep_fr xL_dep hxL c12_1 rfl
      have hF12 := f_fr_tr hF0 c12_1 rfl
      have hG12 := f_fr_tr hG0 c12_2 rfl
      refine And.intro c12_0 ?_
      intro x21 I21 L21 hq21
      obtain ⟨K21, eK21⟩ : ∃ K21 : fM, I21 = va_up K21 0 (va_up (va_up (K21 0) 9 (Int32.ofNat 5)) 10 (Int32.ofNat 10)) := ⟨I21, f_lex (congrFun (hq21.2.1 0 rfl) 9) (congrFun (hq21.2.1 0 rfl) 10)⟩
      subst eK21
      let I21 : fM := va_up K21 0 (va_up (va_up (K21 0) 9 (Int32.ofNat 5)) 10 (Int32.ofNat 10))
      have hq21 : xR I21 ∧ f_fr [1] I12 I21 ∧ L21 = L12 ∧ ((((0 : Int) < 0 ∨ (I12 1 1).toInt < (0 : Int)) ∧ x21.toInt = 0 ∧ (I21 1 1).toInt = (I12 1 1).toInt ∨ 0 ≤ (0 : Int) ∧ (0 : Int) ≤ (I12 1 1).toInt ∧ x21.toInt = 1 ∧ (I21 1 1).toInt = (0 : Int))) := hq21
      obtain ⟨c21_0, c21_1, eL21, c21_3⟩ := hq21
      replace eL21 := eL21.symm
      subst eL21
      have hxO21 := f_dep_fr xO_dep hxO12 c21_1 rfl
      have hxT21 := f_dep_fr xT_dep hxT12 c21_1 rfl
      have hxS21 := f_dep_fr xS_dep hxS12 c21_1 rfl
      have hxL21 := f_dep_fr xL_dep hxL12 c21_1 rfl
      have hF21 := f_fr_tr hF12 c21_1 rfl
      apply And.intro
      · intro h26
        have h26 : ¬ x12.toInt = 0 := h26
        refine And.intro c21_0 ?_
        intro I32 L32 hq32
        obtain ⟨K32, eK32⟩ : ∃ K32 : fM, I32 = va_up K32 0 (va_up (va_up (K32 0) 9 (Int32.ofNat 5)) 10 (Int32.ofNat 10)) := ⟨I32, f_lex (congrFun (hq32.2.1 0 rfl) 9) (congrFun (hq32.2.1 0 rfl) 10)⟩
        subst eK32
        let I32 : fM := va_up K32 0 (va_up (va_up (K32 0) 9 (Int32.ofNat 5)) 10 (Int32.ofNat 10))
        have hq32 : xR I32 ∧ f_fr [69, 72, 74, 76] I21 I32 ∧ L32 = L12 := hq32
        obtain ⟨c32_0, c32_1, eL32⟩ := hq32
        replace eL32 := eL32.symm
        subst eL32
        have hxO32 := f_dep_fr xO_dep hxO21 c32_1 rfl
        have hxT32 := f_dep_fr xT_dep hxT21 c32_1 rfl
        have hxS32 := f_dep_fr xS_dep hxS21 c32_1 rfl
        have hxL32 := f_dep_fr xL_dep hxL21 c32_1 rfl
        have hF32 := f_fr_tr hF21 c32_1 rfl
        have r39_1 : 0 ≤ (I32 40 6).toInt ∧ (I32 40 6).toInt ≤ 8 := c32_0 40 6
        have e39_2 : (I32 40 6).toInt = (I21 40 6).toInt := congrArg Int32.toInt (congrFun (c32_1 40 rfl) 6)
        have e39_3 : (I21 40 6).toInt = (I12 40 6).toInt := congrArg Int32.toInt (congrFun (c21_1 40 rfl) 6)
        have r42_4 : 0 ≤ (I32 1 1).toInt ∧ (I32 1 1).toInt ≤ 1600 := c32_0 1 1
        have e42_5 : (I32 1 1).toInt = (I21 1 1).toInt := congrArg Int32.toInt (congrFun (c32_1 1 rfl) 1)
        exact ⟨c32_0, hxO32, hxT32, hxS32, hxL32, hF32, hG12, (show (I32 1 1).toInt = 0 from by first | assumption | omega | rfl)⟩
      · intro h26
        have h26 : x12.toInt = 0 := h26
        have r30_1 : 0 ≤ (I21 1 1).toInt ∧ (I21 1 1).toInt ≤ 1600 := c21_0 1 1
        exact ⟨c21_0, hxO21, hxT21, hxS21, hxL21, hF21, hG12, (show (I21 1 1).toInt = 0 from by first | assumption | omega | rfl)⟩
    · obtain ⟨K, eK⟩ : ∃ K : fM, I = va_up K 0 (va_up (va_up (K 0) 9 (Int32.ofNat 10)) 10 (Int32.ofNat 5)) := ⟨I, f_lex h9 h10⟩
      subst eK
      let I : fM := va_up K 0 (va_up (va_up (K 0) 9 (Int32.ofNat 10)) 10 (Int32.ofNat 5))
      have hxL : xL I := Or.inr ⟨rfl, rfl⟩
      skip
      have hR : xR I := hR
      have hxO : xO I := hxO
      have hxT : xT I := hxT
      have hxS : xS I := hxS
      have hxL : xL I := hxL
      have hF0 : f_fr [1, 3, 4, 40, 41, 69, 72, 74, 76] I I := f_fr_rf
      have hG0 : f_fr [1] L L := f_fr_rf
      refine f_wp_ok C f_cl flX11_ok fiX11_ok fjX11_ok (sn := none) (fun j h => by cases h) (cs := (f_cnl [(127, (3, 3, 4, pX4_readRow, qX4_readRow)), (99, (2, 3, 8, pX9_cutb, qX9_cutb)), (121, (1, 0, 10, pX11_forgetRow, qX11_forgetRow))])) (cz := (fun _ => none)) (f_cnl_of (P := fun j S => f_cok pP l eP (f_rm 9) sP mP aP bP hP9 cP xY 80 a cy dC dI 2 _ _ (.invokevirtual j) true S) (List.forall_mem_cons.mpr ⟨f_cokV C (mX4_readRow hinj) (ci := 4) rfl (List.forall_mem_cons.mpr ⟨(mlX11_ok _ (List.mem_of_getElem? (i := 13) rfl)), kc_X4_readRow⟩) (by decide +kernel) ⟨Nat.le_of_ble_eq_true rfl, Nat.le_of_ble_eq_true rfl⟩, List.forall_mem_cons.mpr ⟨f_cokV C (mX9_cutb hinj) (ci := 8) rfl (List.forall_mem_cons.mpr ⟨(mlX11_ok _ (List.mem_of_getElem? (i := 7) rfl)), kc_X9_cut⟩) (by decide +kernel) ⟨Nat.le_of_ble_eq_true rfl, Nat.le_of_ble_eq_true rfl⟩, List.forall_mem_cons.mpr ⟨f_cokV C (mX11_forgetRow hinj) (ci := 10) rfl (List.forall_mem_cons.mpr ⟨(mlX11_ok _ (List.mem_of_getElem? (i := 12) rfl)), kc_X11_forgetRow⟩) (by decide +kernel) ⟨Nat.le_of_ble_eq_true rfl, Nat.le_of_ble_eq_true rfl⟩, fun _ h => absurd h List.not_mem_nil⟩⟩⟩)) (fun j S h => by cases h) tX11_row_ok (cut := (fun _ => none)) (fun t P h => by cases h) 24 0 tX11_row tX11_row_ok _ _ _ _ ?_
      refine And.intro ⟨(show (10 = 5 ∨ 10 = 10) from by decide), hR⟩ ?_
      intro x12 I12 L12 hq12
      obtain ⟨K12, eK12⟩ : ∃ K12 : fM, I12 = va_up K12 0 (va_up (va_up (K12 0) 9 (Int32.ofNat 10)) 10 (Int32.ofNat 5)) := ⟨I12, f_lex (congrFun (hq12.2.1 0 rfl) 9) (congrFun (hq12.2.1 0 rfl) 10)⟩
      subst eK12
      let I12 : fM := va_up K12 0 (va_up (va_up (K12 0) 9 (Int32.ofNat 10)) 10 (Int32.ofNat 5))
      have hq12 : xR I12 ∧ f_fr [1, 3, 4, 40, 41] I I12 ∧ f_fr [1] L L12 ∧ ((x12.toInt = 0 ∨ x12.toInt = 1)) := hq12
      obtain ⟨c12_0, c12_1, c12_2, c12_3⟩ := hq12
      have hxO12 := f_dep_fr xO_dep hxO c12_1 rfl
      have hxT12 := f_dep_fr xT_dep hxT c12_1 rfl
      have hxS12 := f_dep_fr xS_dep hxS c12_1 rfl
      have hxL12 := f_dep_fr xL_dep hxL c12_1 rfl
      have hF12 := f_fr_tr hF0 c12_1 rfl
      have hG12 := f_fr_tr hG0 c12_2 rfl
      refine And.intro c12_0 ?_
      intro x21 I21 L21 hq21
      obtain ⟨K21, eK21⟩ : ∃ K21 : fM, I21 = va_up K21 0 (va_up (va_up (K21 0) 9 (Int32.ofNat 10)) 10 (Int32.ofNat 5)) := ⟨I21, f_lex (congrFun (hq21.2.1 0 rfl) 9) (congrFun (hq21.2.1 0 rfl) 10)⟩
      subst eK21
      let I21 : fM := va_up K21 0 (va_up (va_up (K21 0) 9 (Int32.ofNat 10)) 10 (Int32.ofNat 5))
      have hq21 : xR I21 ∧ f_fr [1] I12 I21 ∧ L21 = L12 ∧ ((((0 : Int) < 0 ∨ (I12 1 1).toInt < (0 : Int)) ∧ x21.toInt = 0 ∧ (I21 1 1).toInt = (I12 1 1).toInt ∨ 0 ≤ (0 : Int) ∧ (0 : Int) ≤ (I12 1 1).toInt ∧ x21.toInt = 1 ∧ (I21 1 1).toInt = (0 : Int))) := hq21
      obtain ⟨c21_0, c21_1, eL21, c21_3⟩ := hq21
      replace eL21 := eL21.symm
      subst eL21
      have hxO21 := f_dep_fr xO_dep hxO12 c21_1 rfl
      have hxT21 := f_dep_fr xT_dep hxT12 c21_1 rfl
      have hxS21 := f_dep_fr xS_dep hxS12 c21_1 rfl
      have hxL21 := f_dep_fr xL_dep hxL12 c21_1 rfl
      have hF21 := f_fr_tr hF12 c21_1 rfl
      apply And.intro
      · intro h26
        have h26 : ¬ x12.toInt = 0 := h26
        refine And.intro c21_0 ?_
        intro I32 L32 hq32
        obtain ⟨K32, eK32⟩ : ∃ K32 : fM, I32 = va_up K32 0 (va_up (va_up (K32 0) 9 (Int32.ofNat 10)) 10 (Int32.ofNat 5)) := ⟨I32, f_lex (congrFun (hq32.2.1 0 rfl) 9) (congrFun (hq32.2.1 0 rfl) 10)⟩
        subst eK32
        let I32 : fM := va_up K32 0 (va_up (va_up (K32 0) 9 (Int32.ofNat 10)) 10 (Int32.ofNat 5))
        have hq32 : xR I32 ∧ f_fr [69, 72, 74, 76] I21 I32 ∧ L32 = L12 := hq32
        obtain ⟨c32_0, c32_1, eL32⟩ := hq32
        replace eL32 := eL32.symm
        subst eL32
        have hxO32 := f_dep_fr xO_dep hxO21 c32_1 rfl
        have hxT32 := f_dep_fr xT_dep hxT21 c32_1 rfl
        have hxS32 := f_dep_fr xS_dep hxS21 c32_1 rfl
        have hxL32 := f_dep_fr xL_dep hxL21 c32_1 rfl
        have hF32 := f_fr_tr hF21 c32_1 rfl
        have r39_1 : 0 ≤ (I32 40 6).toInt ∧ (I32 40 6).toInt ≤ 8 := c32_0 40 6
        have e39_2 : (I32 40 6).toInt = (I21 40 6).toInt := congrArg Int32.toInt (congrFun (c32_1 40 rfl) 6)
        have e39_3 : (I21 40 6).toInt = (I12 40 6).toInt := congrArg Int32.toInt (congrFun (c21_1 40 rfl) 6)
        have r42_4 : 0 ≤ (I32 1 1).toInt ∧ (I32 1 1).toInt ≤ 1600 := c32_0 1 1
        have e42_5 : (I32 1 1).toInt = (I21 1 1).toInt := congrArg Int32.toInt (congrFun (c32_1 1 rfl) 1)
        exact ⟨c32_0, hxO32, hxT32, hxS32, hxL32, hF32, hG12, (show (I32 1 1).toInt = 0 from by first | assumption | omega | rfl)⟩
      · intro h26
        have h26 : x12.toInt = 0 := h26
        have r30_1 : 0 ≤ (I21 1 1).toInt ∧ (I21 1 1).toInt ≤ 1600 := c21_0 1 1
        exact ⟨c21_0, hxO21, hxT21, hxS21, hxL21, hF21, hG12, (show (I21 1 1).toInt = 0 from by first | assumption | omega | rfl)⟩
def tX11_lexicon : List (Instr × Nat) := [(.aload_n 0, 1), (.getfield 21, 3), (.aload_n 0, 1), (.getfield 32, 3), (.invokevirtual 103, 3), (.istore_n 1, 1), (.aload_n 0, 1), (.getfield 10, 3), (.iconst 0, 1), (.invokevirtual 99, 3), (.pop, 1), (.iload_n 1, 1), (.ifCond .ne 5, 3), (.iconst (-1), 1), (.ireturn, 1), (.aload_n 0, 1), (.getfield 28, 3), (.astore_n 2, 1), (.aload_n 0, 1), (.aload_n 0, 1), (.getfield 32, 3), (.putfield 28, 3), (.aload_n 0, 1), (.aload_n 2, 1), (.putfield 32, 3), (.aload_n 0, 1), (.getfield 38, 3), (.aload_n 0, 1), (.getfield 28, 3), (.invokevirtual 107, 3), (.aload_n 0, 1), (.getfield 54, 3), (.invokevirtual 111, 3), (.iconst 0, 1), (.istore_n 3, 1), (.iload_n 3, 1), (.iconst 3, 1), (.if_icmp .ge 19, 3), (.aload_n 0, 1), (.getfield 58, 3), (.iload_n 3, 1), (.aaload, 1), (.iconst 0, 1), (.putfield 114, 3), (.iinc 3 1, 3), (.goto (-18), 3), (.aload_n 0, 1), (.getfield 83, 3), (.invokevirtual 118, 3), (.aload_n 0, 1), (.invokevirtual 121, 3), (.aload_n 0, 1), (.getfield 28, 3), (.getfield 124, 3), (.ireturn, 1)]
theorem tX11_lexicon_ok : f_chk cX11_lexicon 0 tX11_lexicon = true := by decide +kernel
def pX11_lexicon (av : List Value) (I : fM) (L : fN) : Prop := match av with
  | [.ref 0] => xR I ∧ xO I ∧ xT I ∧ xS I ∧ xL I
  | _ => False
def qX11_lexicon (av : List Value) (I : fM) (L : fN) (r : Value) (I' : fM) (L' : fN) : Prop := match av, r with
  | [.ref 0], .int x => xR I' ∧ xO I' ∧ xT I' ∧ xS I' ∧ xL I' ∧ f_fr [0, 1, 3, 5, 8, 9, 10, 13, 14, 15, 16, 20, 21, 22, 23, 24, 40, 47, 54, 61, 69, 72, 74, 76, 78] I I' ∧ f_fr [1, 6, 7, 11, 12, 17, 18, 19] L L' ∧ (I' 1 1).toInt = 0 ∧ (I' 0 11).toInt = (I 0 11).toInt
  | _, _ => False
set_option maxHeartbeats 4000000 in
set_option maxRecDepth 100000 in
theorem mX11_lexicon {l : Launch} {a : Nat → Nat} {cy dC : Nat → ClassId} {dI : Nat → Nat → Nat} (hinj : ∀ i j, i < 80 → j < 80 → a i = a j → i = j) : f_Met (xE a) l xY 80 a cy dC dI yX11_lexicon cX11_lexicon 4 1 28 pX11_lexicon qX11_lexicon := by
  refine f_met_of (xE_c a) hinj xY_hi (by decide) (fun av I L h => by unfold pX11_lexicon at h; split at h <;> first | exact Nat.le_of_ble_eq_true rfl | exact h.elim) ?_
  intro pP eP sP mP aP bP hP9 cP C av I L hp
  unfold pX11_lexicon at hp
  split at hp
  case h_2 => exact hp.elim
  case h_1 =>
    obtain ⟨hR, hxO, hxT, hxS, hxL⟩ := hp
    rcases hxL with ⟨h9, h10⟩ | ⟨h9, h10⟩
    · obtain ⟨K, eK⟩ : ∃ K : fM, I = va_up K 0 (va_up (va_up (K 0) 9 (Int32.ofNat 5)) 10 (Int32.ofNat 10)) := ⟨I, f_lex h9 h10⟩
      subst eK
      let I : fM := va_up K 0 (va_up (va_up (K 0) 9 (Int32.ofNat 5)) 10 (Int32.ofNat 10))
      have hxL : xL I := Or.inl ⟨rfl, rfl⟩
      skip
      have hR : xR I := hR
      have hxO : xO I := hxO
      have hxT : xT I := hxT
      have hxS : xS I := hxS
      have hxL : xL I := hxL
      have hF0 : f_fr [0, 1, 3, 5, 8, 9, 10, 13, 14, 15, 16, 20, 21, 22, 23, 24, 40, 47, 54, 61, 69, 72, 74, 76, 78] I I := f_fr_rf
      have hG0 : f_fr [1, 6, 7, 11, 12, 17, 18, 19] L L := f_fr_rf
      have lp65 : ∀ (n65 : Nat), ∀ (i : Int32) (J65 : fM) (M65 : fN), xR J65 ∧ f_fr [0, 1, 3, 5, 8, 9, 10, 13, 14, 15, 16, 20, 21, 22, 23, 24, 40, 47, 54, 61, 69, 72, 74, 76, 78] I J65 ∧ f_fr [1, 6, 7, 11, 12, 17, 18, 19] L M65 ∧ xO J65 ∧ xT J65 ∧ xS J65 ∧ xL J65 ∧ (J65 0 9 = Int32.ofNat 10) ∧ (J65 0 10 = Int32.ofNat 5) ∧ (0 ≤ i.toInt) ∧ (i.toInt ≤ 3) ∧ ((J65 1 1).toInt = 0) ∧ ((J65 0 11).toInt = (I 0 11).toInt) ∧ (3 - i.toInt) < n65 → f_W pP l eP (f_rm 28) sP mP aP bP hP9 cP xY 80 a cy dC dI 4 (f_K 1 (qX11_lexicon [.ref 0] I L)) 65 [(3, .int i), (0, .ref 0)] [] J65 M65 := by
        intro n65
        induction n65 with
        | zero =>
          intro i J65 M65 h9
          obtain ⟨hR65c, hF65c, hG65c, hxO65c, hxT65c, hxS65c, hxL65c, u65_1, u65_2, u65_3, u65_4, u65_5, u65_6, hm65⟩ := h9
          obtain ⟨K65, eK65⟩ : ∃ K65 : fM, J65 = va_up K65 0 (va_up (va_up (K65 0) 9 (Int32.ofNat 10)) 10 (Int32.ofNat 5)) := ⟨J65, f_lex u65_1 u65_2⟩
          subst eK65
          let J65 : fM := va_up K65 0 (va_up (va_up (K65 0) 9 (Int32.ofNat 10)) 10 (Int32.ofNat 5))
          have hR65c : xR J65 := hR65c
          have hF65c : f_fr [0, 1, 3, 5, 8, 9, 10, 13, 14, 15, 16, 20, 21, 22, 23, 24, 40, 47, 54, 61, 69, 72, 74, 76, 78] I J65 := hF65c
          have hxO65c : xO J65 := hxO65c
          have hxT65c : xT J65 := hxT65c
          have hxS65c : xS J65 := hxS65c
          have hxL65c : xL J65 := hxL65c
          have u65_1 : J65 0 9 = Int32.ofNat 10 := u65_1
          have u65_2 : J65 0 10 = Int32.ofNat 5 := u65_2
          have u65_3 : 0 ≤ i.toInt := u65_3
          have u65_4 : i.toInt ≤ 3 := u65_4
          have u65_5 : (J65 1 1).toInt = 0 := u65_5
          have u65_6 : (J65 0 11).toInt = (I 0 11).toInt := u65_6
          omega
        | succ n65 ih65 =>
          intro i J65 M65 h9
          obtain ⟨hR65c, hF65c, hG65c, hxO65c, hxT65c, hxS65c, hxL65c, u65_1, u65_2, u65_3, u65_4, u65_5, u65_6, hm65⟩ := h9
          obtain ⟨K65, eK65⟩ : ∃ K65 : fM, J65 = va_up K65 0 (va_up (va_up (K65 0) 9 (Int32.ofNat 10)) 10 (Int32.ofNat 5)) := ⟨J65, f_lex u65_1 u65_2⟩
          subst eK65
          let J65 : fM := va_up K65 0 (va_up (va_up (K65 0) 9 (Int32.ofNat 10)) 10 (Int32.ofNat 5))
          have hR65c : xR J65 := hR65c
          have hF65c : f_fr [0, 1, 3, 5, 8, 9, 10, 13, 14, 15, 16, 20, 21, 22, 23, 24, 40, 47, 54, 61, 69, 72, 74, 76, 78] I J65 := hF65c
          have hxO65c : xO J65 := hxO65c
          have hxT65c : xT J65 := hxT65c
          have hxS65c : xS J65 := hxS65c
          have hxL65c : xL J65 := hxL65c
          have u65_1 : J65 0 9 = Int32.ofNat 10 := u65_1
          have u65_2 : J65 0 10 = Int32.ofNat 5 := u65_2
          have u65_3 : 0 ≤ i.toInt := u65_3
          have u65_4 : i.toInt ≤ 3 := u65_4
          have u65_5 : (J65 1 1).toInt = 0 := u65_5
          have u65_6 : (J65 0 11).toInt = (I 0 11).toInt := u65_6
          refine f_wp_ok C f_cl flX11_ok fiX11_ok fjX11_ok (sn := none) (fun j h => by cases h) (cs := (f_cnl [(103, (2, 3, 4, pX4_readLexicon, qX4_readLexicon)), (99, (2, 3, 8, pX9_cutb, qX9_cutb)), (107, (2, 0, 3, pX3_openAll, qX3_openAll)), (111, (1, 0, 2, pX2_clear, qX2_clear)), (118, (1, 0, 0, pX0_forget, qX0_forget)), (121, (1, 0, 10, pX11_forgetRow, qX11_forgetRow))])) (cz := (fun _ => none)) (f_cnl_of (P := fun j S => f_cok pP l eP (f_rm 28) sP mP aP bP hP9 cP xY 80 a cy dC dI 4 _ _ (.invokevirtual j) true S) (List.forall_mem_cons.mpr ⟨f_cokV C (mX4_readLexicon hinj) (ci := 4) rfl (List.forall_mem_cons.mpr ⟨(mlX11_ok _ (List.mem_of_getElem? (i := 8) rfl)), kc_X4_readLexicon⟩) (by decide +kernel) ⟨Nat.le_of_ble_eq_true rfl, Nat.le_of_ble_eq_true rfl⟩, List.forall_mem_cons.mpr ⟨f_cokV C (mX9_cutb hinj) (ci := 8) rfl (List.forall_mem_cons.mpr ⟨(mlX11_ok _ (List.mem_of_getElem? (i := 7) rfl)), kc_X9_cut⟩) (by decide +kernel) ⟨Nat.le_of_ble_eq_true rfl, Nat.le_of_ble_eq_true rfl⟩, List.forall_mem_cons.mpr ⟨f_cokV C (mX3_openAll hinj) (ci := 3) rfl (List.forall_mem_cons.mpr ⟨(mlX11_ok _ (List.mem_of_getElem? (i := 9) rfl)), kc_X3_openAll⟩) (by decide +kernel) ⟨Nat.le_of_ble_eq_true rfl, Nat.le_of_ble_eq_true rfl⟩, List.forall_mem_cons.mpr ⟨f_cokV C (mX2_clear hinj) (ci := 2) rfl (List.forall_mem_cons.mpr ⟨(mlX11_ok _ (List.mem_of_getElem? (i := 10) rfl)), kc_X2_clear⟩) (by decide +kernel) ⟨Nat.le_of_ble_eq_true rfl, Nat.le_of_ble_eq_true rfl⟩, List.forall_mem_cons.mpr ⟨f_cokV C (mX0_forget hinj) (ci := 0) rfl (List.forall_mem_cons.mpr ⟨(mlX11_ok _ (List.mem_of_getElem? (i := 11) rfl)), kc_X0_forget⟩) (by decide +kernel) ⟨Nat.le_of_ble_eq_true rfl, Nat.le_of_ble_eq_true rfl⟩, List.forall_mem_cons.mpr ⟨f_cokV C (mX11_forgetRow hinj) (ci := 10) rfl (List.forall_mem_cons.mpr ⟨(mlX11_ok _ (List.mem_of_getElem? (i := 12) rfl)), kc_X11_forgetRow⟩) (by decide +kernel) ⟨Nat.le_of_ble_eq_true rfl, Nat.le_of_ble_eq_true rfl⟩, fun _ h => absurd h List.not_mem_nil⟩⟩⟩⟩⟩⟩)) (fun j S h => by cases h) tX11_lexicon_ok (cut := (f_cnl [(65, (fun (ls' : fLs) (st' : List Value) (I' : fM) (L' : fN) => ∃ i : Int32, (∀ q ∈ ([(3, .int i), (0, .ref 0)] : fLs), q ∈ ls') ∧ st' = [] ∧ (xR I' ∧ f_fr [0, 1, 3, 5, 8, 9, 10, 13, 14, 15, 16, 20, 21, 22, 23, 24, 40, 47, 54, 61, 69, 72, 74, 76, 78] I I' ∧ f_fr [1, 6, 7, 11, 12, 17, 18, 19] L L' ∧ xO I' ∧ xT I' ∧ xS I' ∧ xL I' ∧ (I' 0 9 = Int32.ofNat 10) ∧ (I' 0 10 = Int32.ofNat 5) ∧ (0 ≤ i.toInt) ∧ (i.toInt ≤ 3) ∧ ((I' 1 1).toInt = 0) ∧ ((I' 0 11).toInt = (I 0 11).toInt) ∧ (3 - i.toInt) < n65)))])) (f_cnl_of (P := fun (tQ : Nat) (P : fLs → List Value → fM → fN → Prop) => ∀ ls' st' I' L', P ls' st' I' L' → f_W pP l eP (f_rm 28) sP mP aP bP hP9 cP xY 80 a cy dC dI 4 (f_K 1 (qX11_lexicon [.ref 0] I L)) tQ ls' st' I' L') (List.forall_mem_cons.mpr ⟨(fun ls' st' I' L' h => by obtain ⟨i, hs, e1, h9⟩ := h; rw [e1]; exact f_W_sub hs (ih65 i I' L' h9)), fun _ h => absurd h List.not_mem_nil⟩)) 15 65 (f_seek 65 0 tX11_lexicon) (f_seek_ok 65 0 tX11_lexicon tX11_lexicon_ok) _ _ _ _ ?_
          apply And.intro
          · intro h67
            have h67 : 3 ≤ i.toInt := h67
            refine And.intro hR65c ?_
            intro I90 L90 hq90
            obtain ⟨K90, eK90⟩ : ∃ K90 : fM, I90 = va_up K90 0 (va_up (va_up (K90 0) 9 (Int32.ofNat 10)) 10 (Int32.ofNat 5)) := ⟨I90, f_lex (congrFun (hq90.2.1 0 rfl) 9) (congrFun (hq90.2.1 0 rfl) 10)⟩
            subst eK90
            let I90 : fM := va_up K90 0 (va_up (va_up (K90 0) 9 (Int32.ofNat 10)) 10 (Int32.ofNat 5))
            have hq90 : xR I90 ∧ f_fr [78] J65 I90 ∧ L90 = M65 := hq90
            obtain ⟨c90_0, c90_1, eL90⟩ := hq90
            replace eL90 := eL90.symm
            subst eL90
            have hxO90 := f_dep_fr xO_dep hxO65c c90_1 rfl
            have hxT90 := f_dep_fr xT_dep hxT65c c90_1 rfl
            have hxS90 := f_dep_fr xS_dep hxS65c c90_1 rfl
            have hxL90 := f_dep_fr xL_dep hxL65c c90_1 rfl
            have hF90 := f_fr_tr hF65c c90_1 rfl
            refine And.intro c90_0 ?_
            intro I94 L94 hq94
            obtain ⟨K94, eK94⟩ : ∃ K94 : fM, I94 = va_up K94 0 (va_up (va_up (K94 0) 9 (Int32.ofNat 10)) 10 (Int32.ofNat 5)) := ⟨I94, f_lex (congrFun (hq94.2.1 0 rfl) 9) (congrFun (hq94.2.1 0 rfl) 10)⟩
            subst eK94
            let I94 : fM := va_up K94 0 (va_up (va_up (K94 0) 9 (Int32.ofNat 10)) 10 (Int32.ofNat 5))
            have hq94 : xR I94 ∧ f_fr [69, 72, 74, 76] I90 I94 ∧ L94 = M65 := hq94
            obtain ⟨c94_0, c94_1, eL94⟩ := hq94
            replace eL94 := eL94.symm
            subst eL94
            have hxO94 := f_dep_fr xO_dep hxO90 c94_1 rfl
            have hxT94 := f_dep_fr xT_dep hxT90 c94_1 rfl
            have hxS94 := f_dep_fr xS_dep hxS90 c94_1 rfl
            have hxL94 := f_dep_fr xL_dep hxL90 c94_1 rfl
            have hF94 := f_fr_tr hF90 c94_1 rfl
            have r101_1 : 0 ≤ (I94 10 5).toInt ∧ (I94 10 5).toInt ≤ 12 := c94_0 10 5
            have e101_2 : (I94 10 5).toInt = (I90 10 5).toInt := congrArg Int32.toInt (congrFun (c94_1 10 rfl) 5)
            have e101_3 : (I90 10 5).toInt = (J65 10 5).toInt := congrArg Int32.toInt (congrFun (c90_1 10 rfl) 5)
            have r104_4 : 0 ≤ (I94 1 1).toInt ∧ (I94 1 1).toInt ≤ 1600 := c94_0 1 1
            have e104_5 : (I94 1 1).toInt = (I90 1 1).toInt := congrArg Int32.toInt (congrFun (c94_1 1 rfl) 1)
            have e104_6 : (I90 1 1).toInt = (J65 1 1).toInt := congrArg Int32.toInt (congrFun (c90_1 1 rfl) 1)
            have r104_7 : 0 ≤ (I94 0 11).toInt ∧ (I94 0 11).toInt ≤ 100000 := c94_0 0 11
            have e104_8 : (I94 0 11).toInt = (I90 0 11).toInt := congrArg Int32.toInt (congrFun (c94_1 0 rfl) 11)
            have e104_9 : (I90 0 11).toInt = (J65 0 11).toInt := congrArg Int32.toInt (congrFun (c90_1 0 rfl) 11)
            exact ⟨c94_0, hxO94, hxT94, hxS94, hxL94, hF94, hG65c, (show (I94 1 1).toInt = 0 from by first | assumption | omega | rfl), (show (I94 0 11).toInt = (I 0 11).toInt from by first | assumption | omega | rfl)⟩
          · intro h67
            have h67 : i.toInt < 3 := h67
            refine And.intro (show f_in i 3 from ⟨show 0 ≤ i.toInt from by omega, show i.toInt < 3 from by omega⟩) ?_
            intro j75 hj75
            have hj75 : i.toInt.toNat = j75 := hj75
            have jc75 : j75 = 0 ∨ j75 = 1 ∨ j75 = 2 := by omega
            rcases jc75 with rfl | rfl | rfl
            · have jv75 : i.toInt = 0 := by omega
              refine And.intro (Or.inl rfl) ?_
              have hR77 := xR_f (k := 47) (j := 8) (x := Int32.ofInt 0) hR65c (by exact f_rng _)
              have hF77 := f_fr_up (k := 47) (r := va_up (J65 47) 8 (Int32.ofInt 0)) hF65c rfl
              have hxO77 := f_dep_up xO_dep (k := 47) (r := va_up (J65 47) 8 (Int32.ofInt 0)) hxO65c rfl
              have hxT77 := f_dep_up xT_dep (k := 47) (r := va_up (J65 47) 8 (Int32.ofInt 0)) hxT65c rfl
              have hxS77 := f_dep_up xS_dep (k := 47) (r := va_up (J65 47) 8 (Int32.ofInt 0)) hxS65c rfl
              have hxL77 := f_dep_up xL_dep (k := 47) (r := va_up (J65 47) 8 (Int32.ofInt 0)) hxL65c rfl
              intro z80 q80 _ hq80 hl80 hu80
              have hq80 : z80.toInt = i.toInt + 1 + 4294967296 * q80 := hq80
              try have hz80 : z80.toInt = i.toInt + 1 := by omega
              exact ⟨z80, (by intro q9 h9; simp only [List.mem_cons, List.not_mem_nil, or_false] at h9; rcases h9 with h9 | h9 <;> subst h9 <;> repeat (first | exact List.mem_cons_self | apply List.mem_cons_of_mem)), rfl, hR77, hF77, hG65c, hxO77, hxT77, hxS77, hxL77, (show J65 0 9 = Int32.ofNat 10 from by first | assumption | omega | rfl), (show J65 0 10 = Int32.ofNat 5 from by first | assumption | omega | rfl), (show 0 ≤ z80.toInt from by first | assumption | omega), (show z80.toInt ≤ 3 from by first | assumption | omega), (show (J65 1 1).toInt = 0 from by first | assumption | omega | rfl), (show (J65 0 11).toInt = (I 0 11).toInt from by first | assumption | omega | rfl), (show (3 - z80.toInt) < n65 from by omega)⟩
            · have jv75 : i.toInt = 1 := by omega
              refine And.intro (Or.inl rfl) ?_
              have hR77 := xR_f (k := 54) (j := 8) (x := Int32.ofInt 0) hR65c (by exact f_rng _)
              have hF77 := f_fr_up (k := 54) (r := va_up (J65 54) 8 (Int32.ofInt 0)) hF65c rfl
              have hxO77 := f_dep_up xO_dep (k := 54) (r := va_up (J65 54) 8 (Int32.ofInt 0)) hxO65c rfl
              have hxT77 := f_dep_up xT_dep (k := 54) (r := va_up (J65 54) 8 (Int32.ofInt 0)) hxT65c rfl
              have hxS77 := f_dep_up xS_dep (k := 54) (r := va_up (J65 54) 8 (Int32.ofInt 0)) hxS65c rfl
              have hxL77 := f_dep_up xL_dep (k := 54) (r := va_up (J65 54) 8 (Int32.ofInt 0)) hxL65c rfl
              intro z80 q80 _ hq80 hl80 hu80
              have hq80 : z80.toInt = i.toInt + 1 + 4294967296 * q80 := hq80
              try have hz80 : z80.toInt = i.toInt + 1 := by omega
              exact ⟨z80, (by intro q9 h9; simp only [List.mem_cons, List.not_mem_nil, or_false] at h9; rcases h9 with h9 | h9 <;> subst h9 <;> repeat (first | exact List.mem_cons_self | apply List.mem_cons_of_mem)), rfl, hR77, hF77, hG65c, hxO77, hxT77, hxS77, hxL77, (show J65 0 9 = Int32.ofNat 10 from by first | assumption | omega | rfl), (show J65 0 10 = Int32.ofNat 5 from by first | assumption | omega | rfl), (show 0 ≤ z80.toInt from by first | assumption | omega), (show z80.toInt ≤ 3 from by first | assumption | omega), (show (J65 1 1).toInt = 0 from by first | assumption | omega | rfl), (show (J65 0 11).toInt = (I 0 11).toInt from by first | assumption | omega | rfl), (show (3 - z80.toInt) < n65 from by omega)⟩
            · have jv75 : i.toInt = 2 := by omega
              refine And.intro (Or.inl rfl) ?_
              have hR77 := xR_f (k := 61) (j := 8) (x := Int32.ofInt 0) hR65c (by exact f_rng _)
              have hF77 := f_fr_up (k := 61) (r := va_up (J65 61) 8 (Int32.ofInt 0)) hF65c rfl
              have hxO77 := f_dep_up xO_dep (k := 61) (r := va_up (J65 61) 8 (Int32.ofInt 0)) hxO65c rfl
              have hxT77 := f_dep_up xT_dep (k := 61) (r := va_up (J65 61) 8 (Int32.ofInt 0)) hxT65c rfl
              have hxS77 := f_dep_up xS_dep (k := 61) (r := va_up (J65 61) 8 (Int32.ofInt 0)) hxS65c rfl
              have hxL77 := f_dep_up xL_dep (k := 61) (r := va_up (J65 61) 8 (Int32.ofInt 0)) hxL65c rfl
              intro z80 q80 _ hq80 hl80 hu80
              have hq80 : z80.toInt = i.toInt + 1 + 4294967296 * q80 := hq80
              try have hz80 : z80.toInt = i.toInt + 1 := by omega
              exact ⟨z80, (by intro q9 h9; simp only [List.mem_cons, List.not_mem_nil, or_false] at h9; rcases h9 with h9 | h9 <;> subst h9 <;> repeat (first | exact List.mem_cons_self | apply List.mem_cons_of_mem)), rfl, hR77, hF77, hG65c, hxO77, hxT77, hxS77, hxL77, (show J65 0 9 = Int32.ofNat 10 from by first | assumption | omega | rfl), (show J65 0 10 = Int32.ofNat 5 from by first | assumption | omega | rfl), (show 0 ≤ z80.toInt from by first | assumption | omega), (show z80.toInt ≤ 3 from by first | assumption | omega), (show (J65 1 1).toInt = 0 from by first | assumption | omega | rfl), (show (J65 0 11).toInt = (I 0 11).toInt from by first | assumption | omega | rfl), (show (3 - z80.toInt) < n65 from by omega)⟩
      refine f_wp_ok C f_cl flX11_ok fiX11_ok fjX11_ok (sn := none) (fun j h => by cases h) (cs := (f_cnl [(103, (2, 3, 4, pX4_readLexicon, qX4_readLexicon)), (99, (2, 3, 8, pX9_cutb, qX9_cutb)), (107, (2, 0, 3, pX3_openAll, qX3_openAll)), (111, (1, 0, 2, pX2_clear, qX2_clear)), (118, (1, 0, 0, pX0_forget, qX0_forget)), (121, (1, 0, 10, pX11_forgetRow, qX11_forgetRow))])) (cz := (fun _ => none)) (f_cnl_of (P := fun j S => f_cok pP l eP (f_rm 28) sP mP aP bP hP9 cP xY 80 a cy dC dI 4 _ _ (.invokevirtual j) true S) (List.forall_mem_cons.mpr ⟨f_cokV C (mX4_readLexicon hinj) (ci := 4) rfl (List.forall_mem_cons.mpr ⟨(mlX11_ok _ (List.mem_of_getElem? (i := 8) rfl)), kc_X4_readLexicon⟩) (by decide +kernel) ⟨Nat.le_of_ble_eq_true rfl, Nat.le_of_ble_eq_true rfl⟩, List.forall_mem_cons.mpr ⟨f_cokV C (mX9_cutb hinj) (ci := 8) rfl (List.forall_mem_cons.mpr ⟨(mlX11_ok _ (List.mem_of_getElem? (i := 7) rfl)), kc_X9_cut⟩) (by decide +kernel) ⟨Nat.le_of_ble_eq_true rfl, Nat.le_of_ble_eq_true rfl⟩, List.forall_mem_cons.mpr ⟨f_cokV C (mX3_openAll hinj) (ci := 3) rfl (List.forall_mem_cons.mpr ⟨(mlX11_ok _ (List.mem_of_getElem? (i := 9) rfl)), kc_X3_openAll⟩) (by decide +kernel) ⟨Nat.le_of_ble_eq_true rfl, Nat.le_of_ble_eq_true rfl⟩, List.forall_mem_cons.mpr ⟨f_cokV C (mX2_clear hinj) (ci := 2) rfl (List.forall_mem_cons.mpr ⟨(mlX11_ok _ (List.mem_of_getElem? (i := 10) rfl)), kc_X2_clear⟩) (by decide +kernel) ⟨Nat.le_of_ble_eq_true rfl, Nat.le_of_ble_eq_true rfl⟩, List.forall_mem_cons.mpr ⟨f_cokV C (mX0_forget hinj) (ci := 0) rfl (List.forall_mem_cons.mpr ⟨(mlX11_ok _ (List.mem_of_getElem? (i := 11) rfl)), kc_X0_forget⟩) (by decide +kernel) ⟨Nat.le_of_ble_eq_true rfl, Nat.le_of_ble_eq_true rfl⟩, List.forall_mem_cons.mpr ⟨f_cokV C (mX11_forgetRow hinj) (ci := 10) rfl (List.forall_mem_cons.mpr ⟨(mlX11_ok _ (List.mem_of_getElem? (i := 12) rfl)), kc_X11_forgetRow⟩) (by decide +kernel) ⟨Nat.le_of_ble_eq_true rfl, Nat.le_of_ble_eq_true rfl⟩, fun _ h => absurd h List.not_mem_nil⟩⟩⟩⟩⟩⟩)) (fun j S h => by cases h) tX11_lexicon_ok (cut := (f_cnl [(65, (fun (ls' : fLs) (st' : List Value) (I' : fM) (L' : fN) => ∃ i : Int32, (∀ q ∈ ([(3, .int i), (0, .ref 0)] : fLs), q ∈ ls') ∧ st' = [] ∧ (xR I' ∧ f_fr [0, 1, 3, 5, 8, 9, 10, 13, 14, 15, 16, 20, 21, 22, 23, 24, 40, 47, 54, 61, 69, 72, 74, 76, 78] I I' ∧ f_fr [1, 6, 7, 11, 12, 17, 18, 19] L L' ∧ xO I' ∧ xT I' ∧ xS I' ∧ xL I' ∧ (I' 0 9 = Int32.ofNat 10) ∧ (I' 0 10 = Int32.ofNat 5) ∧ (0 ≤ i.toInt) ∧ (i.toInt ≤ 3) ∧ ((I' 1 1).toInt = 0) ∧ ((I' 0 11).toInt = (I 0 11).toInt) ∧ (3 - i.toInt) < 4)))])) (f_cnl_of (P := fun (tQ : Nat) (P : fLs → List Value → fM → fN → Prop) => ∀ ls' st' I' L', P ls' st' I' L' → f_W pP l eP (f_rm 28) sP mP aP bP hP9 cP xY 80 a cy dC dI 4 (f_K 1 (qX11_lexicon [.ref 0] I L)) tQ ls' st' I' L') (List.forall_mem_cons.mpr ⟨(fun ls' st' I' L' h => by obtain ⟨i, hs, e1, h9⟩ := h; rw [e1]; exact f_W_sub hs (lp65 4 i I' L' h9)), fun _ h => absurd h List.not_mem_nil⟩)) 36 0 tX11_lexicon tX11_lexicon_ok _ _ _ _ ?_
      refine And.intro ⟨(show (10 = 5 ∨ 10 = 10) from by decide), hR⟩ ?_
      intro x8 I8 L8 hq8
      obtain ⟨K8, eK8⟩ : ∃ K8 : fM, I8 = va_up K8 0 (va_up (va_up (K8 0) 9 (Int32.ofNat 5)) 10 (Int32.ofNat 10)) := ⟨I8, f_lex (congrFun (hq8.2.1 0 rfl) 9) (congrFun (hq8.2.1 0 rfl) 10)⟩
      subst eK8
      let I8 : fM := va_up K8 0 (va_up (va_up (K8 0) 9 (Int32.ofNat 5)) 10 (Int32.ofNat 10))
      have hq8 : xR I8 ∧ f_fr [1, 3, 10, 13, 14] I I8 ∧ f_fr [1, 11, 12] L L8 ∧ ((x8.toInt = 1 → xG 10 I8)) ∧ ((x8.toInt = 0 ∨ x8.toInt = 1)) := hq8
      obtain ⟨c8_0, c8_1, c8_2, c8_3, c8_4⟩ := hq8
      have hxO8 := f_dep_fr xO_dep hxO c8_1 rfl
      have hxT8 := f_dep_fr xT_dep hxT c8_1 rfl
      have hxS8 := f_dep_fr xS_dep hxS c8_1 rfl
      have hxL8 := f_dep_fr xL_dep hxL c8_1 rfl
      have hF8 := f_fr_tr hF0 c8_1 rfl
      have hG8 := f_fr_tr hG0 c8_2 rfl
      have g8 : x8.toInt = 1 → xG 10 I8 := c8_3
      refine And.intro c8_0 ?_
      intro x17 I17 L17 hq17
      obtain ⟨K17, eK17⟩ : ∃ K17 : fM, I17 = va_up K17 0 (va_up (va_up (K17 0) 9 (Int32.ofNat 5)) 10 (Int32.ofNat 10)) := ⟨I17, f_lex (congrFun (hq17.2.1 0 rfl) 9) (congrFun (hq17.2.1 0 rfl) 10)⟩
      subst eK17
      let I17 : fM := va_up K17 0 (va_up (va_up (K17 0) 9 (Int32.ofNat 5)) 10 (Int32.ofNat 10))
      have hq17 : xR I17 ∧ f_fr [1] I8 I17 ∧ L17 = L8 ∧ ((((0 : Int) < 0 ∨ (I8 1 1).toInt < (0 : Int)) ∧ x17.toInt = 0 ∧ (I17 1 1).toInt = (I8 1 1).toInt ∨ 0 ≤ (0 : Int) ∧ (0 : Int) ≤ (I8 1 1).toInt ∧ x17.toInt = 1 ∧ (I17 1 1).toInt = (0 : Int))) := hq17
      obtain ⟨c17_0, c17_1, eL17, c17_3⟩ := hq17
      replace eL17 := eL17.symm
      subst eL17
      have hxO17 := f_dep_fr xO_dep hxO8 c17_1 rfl
      have hxT17 := f_dep_fr xT_dep hxT8 c17_1 rfl
      have hxS17 := f_dep_fr xS_dep hxS8 c17_1 rfl
      have hxL17 := f_dep_fr xL_dep hxL8 c17_1 rfl
      have hF17 := f_fr_tr hF8 c17_1 rfl
      have g17 : x8.toInt = 1 → xG 10 I17 := fun h => xG_fr (g8 h) c17_1 rfl rfl rfl
      have e17 : (I17 0 11).toInt = (I 0 11).toInt := congrArg Int32.toInt (congrFun ((c17_1 0 rfl).trans (c8_1 0 rfl)) 11)
      apply And.intro
      · intro h22
        have h22 : ¬ x8.toInt = 0 := h22
        refine And.intro (show 10 < 1000 from by decide) ?_
        have hR37 := xR_f (k := 0) (j := 9) (x := Int32.ofNat 10) c17_0 (by exact f_rng _)
        have hF37 := f_fr_up (k := 0) (r := va_up (I17 0) 9 (Int32.ofNat 10)) hF17 rfl
        have hxO37 := f_dep_up xO_dep (k := 0) (r := va_up (I17 0) 9 (Int32.ofNat 10)) hxO17 rfl
        have hxT37 := f_dep_up xT_dep (k := 0) (r := va_up (I17 0) 9 (Int32.ofNat 10)) hxT17 rfl
        have hxS37 := f_dep_up xS_dep (k := 0) (r := va_up (I17 0) 9 (Int32.ofNat 10)) hxS17 rfl
        have hxL37 : xL I := hxL
        refine And.intro (show 5 < 1000 from by decide) ?_
        have hR42 := xR_f (k := 0) (j := 10) (x := Int32.ofNat 5) hR37 (by exact f_rng _)
        have hF42 := f_fr_up (k := 0) (r := va_up (va_up (I17 0) 9 (Int32.ofNat 10)) 10 (Int32.ofNat 5)) hF37 rfl
        have hxO42 := f_dep_up xO_dep (k := 0) (r := va_up (va_up (I17 0) 9 (Int32.ofNat 10)) 10 (Int32.ofNat 5)) hxO37 rfl
        have hxT42 := f_dep_up xT_dep (k := 0) (r := va_up (va_up (I17 0) 9 (Int32.ofNat 10)) 10 (Int32.ofNat 5)) hxT37 rfl
        have hxS42 := f_dep_up xS_dep (k := 0) (r := va_up (va_up (I17 0) 9 (Int32.ofNat 10)) 10 (Int32.ofNat 5)) hxS37 rfl
        have hxL42 : xL (va_up (va_up I17 0 (va_up (I17 0) 9 (Int32.ofNat 10))) 0 (va_up (va_up (I17 0) 9 (Int32.ofNat 10)) 10 (Int32.ofNat 5))) := by first | exact Or.inr ⟨rfl, rfl⟩ | exact Or.inl ⟨rfl, rfl⟩
        refine And.intro ⟨(show (10 = 5 ∨ 10 = 10) from by decide), hR42, hxO42, (by have q := g17 (by omega); exact xG_kind q rfl rfl rfl rfl)⟩ ?_
        intro I53 L53 hq53
        obtain ⟨K53, eK53⟩ : ∃ K53 : fM, I53 = va_up K53 0 (va_up (va_up (K53 0) 9 (Int32.ofNat 10)) 10 (Int32.ofNat 5)) := ⟨I53, f_lex (congrFun (hq53.2.2.1 0 rfl) 9) (congrFun (hq53.2.2.1 0 rfl) 10)⟩
        subst eK53
        let I53 : fM := va_up K53 0 (va_up (va_up (K53 0) 9 (Int32.ofNat 10)) 10 (Int32.ofNat 5))
        have hq53 : xR I53 ∧ xO I53 ∧ f_fr [15, 16, 20, 21, 22, 23, 24] (va_up (va_up I17 0 (va_up (I17 0) 9 (Int32.ofNat 10))) 0 (va_up (va_up (I17 0) 9 (Int32.ofNat 10)) 10 (Int32.ofNat 5))) I53 ∧ f_fr [17, 18, 19] L8 L53 := hq53
        obtain ⟨c53_0, c53_1, c53_2, c53_3⟩ := hq53
        have hxT53 := f_dep_fr xT_dep hxT42 c53_2 rfl
        have hxS53 := f_dep_fr xS_dep hxS42 c53_2 rfl
        have hxL53 := f_dep_fr xL_dep hxL42 c53_2 rfl
        have hF53 := f_fr_tr hF42 c53_2 rfl
        have hG53 := f_fr_tr hG8 c53_3 rfl
        refine And.intro c53_0 ?_
        intro I60 L60 hq60
        obtain ⟨K60, eK60⟩ : ∃ K60 : fM, I60 = va_up K60 0 (va_up (va_up (K60 0) 9 (Int32.ofNat 10)) 10 (Int32.ofNat 5)) := ⟨I60, f_lex (congrFun (hq60.2.1 0 rfl) 9) (congrFun (hq60.2.1 0 rfl) 10)⟩
        subst eK60
        let I60 : fM := va_up K60 0 (va_up (va_up (K60 0) 9 (Int32.ofNat 10)) 10 (Int32.ofNat 5))
        have hq60 : xR I60 ∧ f_fr [40] I53 I60 ∧ L60 = L53 ∧ (I60 40 6).toInt = 0 ∧ (I60 40 7).toInt = 0 ∧ I60 40 8 = I53 40 8 := hq60
        obtain ⟨c60_0, c60_1, eL60, c60_3, c60_4, c60_5⟩ := hq60
        replace eL60 := eL60.symm
        subst eL60
        have hxO60 := f_dep_fr xO_dep c53_1 c60_1 rfl
        have hxT60 := f_dep_fr xT_dep hxT53 c60_1 rfl
        have hxS60 := f_dep_fr xS_dep hxS53 c60_1 rfl
        have hxL60 := f_dep_fr xL_dep hxL53 c60_1 rfl
        have hF60 := f_fr_tr hF53 c60_1 rfl
        have e60 : (I60 0 11).toInt = (I 0 11).toInt := (congrArg Int32.toInt (congrFun ((c60_1 0 rfl).trans (c53_2 0 rfl)) 11)).trans e17
        have r65_1 : 0 ≤ (I60 1 1).toInt ∧ (I60 1 1).toInt ≤ 1600 := c60_0 1 1
        have e65_2 : (I60 1 1).toInt = (I53 1 1).toInt := congrArg Int32.toInt (congrFun (c60_1 1 rfl) 1)
        have e65_3 : (I53 1 1).toInt = (I17 1 1).toInt := congrArg Int32.toInt (congrFun (c53_2 1 rfl) 1)
        have r65_4 : 0 ≤ (I60 0 11).toInt ∧ (I60 0 11).toInt ≤ 100000 := c60_0 0 11
        have e65_5 : (I60 0 11).toInt = (I53 0 11).toInt := congrArg Int32.toInt (congrFun (c60_1 0 rfl) 11)
        have e65_6 : (I53 0 11).toInt = (I17 0 11).toInt := congrArg Int32.toInt (congrFun (c53_2 0 rfl) 11)
        exact ⟨Int32.ofInt 0, (by intro q9 h9; simp only [List.mem_cons, List.not_mem_nil, or_false] at h9; rcases h9 with h9 | h9 <;> subst h9 <;> repeat (first | exact List.mem_cons_self | apply List.mem_cons_of_mem)), rfl, c60_0, hF60, hG53, hxO60, hxT60, hxS60, hxL60, (show I60 0 9 = Int32.ofNat 10 from by first | assumption | omega | rfl), (show I60 0 10 = Int32.ofNat 5 from by first | assumption | omega | rfl), (show 0 ≤ (0 : Int) from by first | assumption | omega), (show (0 : Int) ≤ 3 from by first | assumption | omega), (show (I60 1 1).toInt = 0 from by first | assumption | omega | rfl), (show (I60 0 11).toInt = (I 0 11).toInt from by first | assumption | omega | rfl), (show (3 - (0 : Int)) < 4 from by omega)⟩
      · intro h22
        have h22 : x8.toInt = 0 := h22
        have r26_1 : 0 ≤ (I17 1 1).toInt ∧ (I17 1 1).toInt ≤ 1600 := c17_0 1 1
        have r26_2 : 0 ≤ (I17 0 11).toInt ∧ (I17 0 11).toInt ≤ 100000 := c17_0 0 11
        have e26_3 : (I17 0 11).toInt = (I8 0 11).toInt := congrArg Int32.toInt (congrFun (c17_1 0 rfl) 11)
        have e26_4 : (I8 0 11).toInt = (I 0 11).toInt := congrArg Int32.toInt (congrFun (c8_1 0 rfl) 11)
        exact ⟨c17_0, hxO17, hxT17, hxS17, hxL17, hF17, hG8, (show (I17 1 1).toInt = 0 from by first | assumption | omega | rfl), (show (I17 0 11).toInt = (I 0 11).toInt from by first | assumption | omega | rfl)⟩
    · obtain ⟨K, eK⟩ : ∃ K : fM, I = va_up K 0 (va_up (va_up (K 0) 9 (Int32.ofNat 10)) 10 (Int32.ofNat 5)) := ⟨I, f_lex h9 h10⟩
      subst eK
      let I : fM := va_up K 0 (va_up (va_up (K 0) 9 (Int32.ofNat 10)) 10 (Int32.ofNat 5))
      have hxL : xL I := Or.inr ⟨rfl, rfl⟩
      skip
      have hR : xR I := hR
      have hxO : xO I := hxO
      have hxT : xT I := hxT
      have hxS : xS I := hxS
      have hxL : xL I := hxL
      have hF0 : f_fr [0, 1, 3, 5, 8, 9, 10, 13, 14, 15, 16, 20, 21, 22, 23, 24, 40, 47, 54, 61, 69, 72, 74, 76, 78] I I := f_fr_rf
      have hG0 : f_fr [1, 6, 7, 11, 12, 17, 18, 19] L L := f_fr_rf
      have lp65 : ∀ (n65 : Nat), ∀ (i : Int32) (J65 : fM) (M65 : fN), xR J65 ∧ f_fr [0, 1, 3, 5, 8, 9, 10, 13, 14, 15, 16, 20, 21, 22, 23, 24, 40, 47, 54, 61, 69, 72, 74, 76, 78] I J65 ∧ f_fr [1, 6, 7, 11, 12, 17, 18, 19] L M65 ∧ xO J65 ∧ xT J65 ∧ xS J65 ∧ xL J65 ∧ (J65 0 9 = Int32.ofNat 5) ∧ (J65 0 10 = Int32.ofNat 10) ∧ (0 ≤ i.toInt) ∧ (i.toInt ≤ 3) ∧ ((J65 1 1).toInt = 0) ∧ ((J65 0 11).toInt = (I 0 11).toInt) ∧ (3 - i.toInt) < n65 → f_W pP l eP (f_rm 28) sP mP aP bP hP9 cP xY 80 a cy dC dI 4 (f_K 1 (qX11_lexicon [.ref 0] I L)) 65 [(3, .int i), (0, .ref 0)] [] J65 M65 := by
        intro n65
        induction n65 with
        | zero =>
          intro i J65 M65 h9
          obtain ⟨hR65c, hF65c, hG65c, hxO65c, hxT65c, hxS65c, hxL65c, u65_1, u65_2, u65_3, u65_4, u65_5, u65_6, hm65⟩ := h9
          obtain ⟨K65, eK65⟩ : ∃ K65 : fM, J65 = va_up K65 0 (va_up (va_up (K65 0) 9 (Int32.ofNat 5)) 10 (Int32.ofNat 10)) := ⟨J65, f_lex u65_1 u65_2⟩
          subst eK65
          let J65 : fM := va_up K65 0 (va_up (va_up (K65 0) 9 (Int32.ofNat 5)) 10 (Int32.ofNat 10))
          have hR65c : xR J65 := hR65c
          have hF65c : f_fr [0, 1, 3, 5, 8, 9, 10, 13, 14, 15, 16, 20, 21, 22, 23, 24, 40, 47, 54, 61, 69, 72, 74, 76, 78] I J65 := hF65c
          have hxO65c : xO J65 := hxO65c
          have hxT65c : xT J65 := hxT65c
          have hxS65c : xS J65 := hxS65c
          have hxL65c : xL J65 := hxL65c
          have u65_1 : J65 0 9 = Int32.ofNat 5 := u65_1
          have u65_2 : J65 0 10 = Int32.ofNat 10 := u65_2
          have u65_3 : 0 ≤ i.toInt := u65_3
          have u65_4 : i.toInt ≤ 3 := u65_4
          have u65_5 : (J65 1 1).toInt = 0 := u65_5
          have u65_6 : (J65 0 11).toInt = (I 0 11).toInt := u65_6
          omega
        | succ n65 ih65 =>
          intro i J65 M65 h9
          obtain ⟨hR65c, hF65c, hG65c, hxO65c, hxT65c, hxS65c, hxL65c, u65_1, u65_2, u65_3, u65_4, u65_5, u65_6, hm65⟩ := h9
          obtain ⟨K65, eK65⟩ : ∃ K65 : fM, J65 = va_up K65 0 (va_up (va_up (K65 0) 9 (Int32.ofNat 5)) 10 (Int32.ofNat 10)) := ⟨J65, f_lex u65_1 u65_2⟩
          subst eK65
          let J65 : fM := va_up K65 0 (va_up (va_up (K65 0) 9 (Int32.ofNat 5)) 10 (Int32.ofNat 10))
          have hR65c : xR J65 := hR65c
          have hF65c : f_fr [0, 1, 3, 5, 8, 9, 10, 13, 14, 15, 16, 20, 21, 22, 23, 24, 40, 47, 54, 61, 69, 72, 74, 76, 78] I J65 := hF65c
          have hxO65c : xO J65 := hxO65c
          have hxT65c : xT J65 := hxT65c
          have hxS65c : xS J65 := hxS65c
          have hxL65c : xL J65 := hxL65c
          have u65_1 : J65 0 9 = Int32.ofNat 5 := u65_1
          have u65_2 : J65 0 10 = Int32.ofNat 10 := u65_2
          have u65_3 : 0 ≤ i.toInt := u65_3
          have u65_4 : i.toInt ≤ 3 := u65_4
          have u65_5 : (J65 1 1).toInt = 0 := u65_5
          have u65_6 : (J65 0 11).toInt = (I 0 11).toInt := u65_6
          refine f_wp_ok C f_cl flX11_ok fiX11_ok fjX11_ok (sn := none) (fun j h => by cases h) (cs := (f_cnl [(103, (2, 3, 4, pX4_readLexicon, qX4_readLexicon)), (99, (2, 3, 8, pX9_cutb, qX9_cutb)), (107, (2, 0, 3, pX3_openAll, qX3_openAll)), (111, (1, 0, 2, pX2_clear, qX2_clear)), (118, (1, 0, 0, pX0_forget, qX0_forget)), (121, (1, 0, 10, pX11_forgetRow, qX11_forgetRow))])) (cz := (fun _ => none)) (f_cnl_of (P := fun j S => f_cok pP l eP (f_rm 28) sP mP aP bP hP9 cP xY 80 a cy dC dI 4 _ _ (.invokevirtual j) true S) (List.forall_mem_cons.mpr ⟨f_cokV C (mX4_readLexicon hinj) (ci := 4) rfl (List.forall_mem_cons.mpr ⟨(mlX11_ok _ (List.mem_of_getElem? (i := 8) rfl)), kc_X4_readLexicon⟩) (by decide +kernel) ⟨Nat.le_of_ble_eq_true rfl, Nat.le_of_ble_eq_true rfl⟩, List.forall_mem_cons.mpr ⟨f_cokV C (mX9_cutb hinj) (ci := 8) rfl (List.forall_mem_cons.mpr ⟨(mlX11_ok _ (List.mem_of_getElem? (i := 7) rfl)), kc_X9_cut⟩) (by decide +kernel) ⟨Nat.le_of_ble_eq_true rfl, Nat.le_of_ble_eq_true rfl⟩, List.forall_mem_cons.mpr ⟨f_cokV C (mX3_openAll hinj) (ci := 3) rfl (List.forall_mem_cons.mpr ⟨(mlX11_ok _ (List.mem_of_getElem? (i := 9) rfl)), kc_X3_openAll⟩) (by decide +kernel) ⟨Nat.le_of_ble_eq_true rfl, Nat.le_of_ble_eq_true rfl⟩, List.forall_mem_cons.mpr ⟨f_cokV C (mX2_clear hinj) (ci := 2) rfl (List.forall_mem_cons.mpr ⟨(mlX11_ok _ (List.mem_of_getElem? (i := 10) rfl)), kc_X2_clear⟩) (by decide +kernel) ⟨Nat.le_of_ble_eq_true rfl, Nat.le_of_ble_eq_true rfl⟩, List.forall_mem_cons.mpr ⟨f_cokV C (mX0_forget hinj) (ci := 0) rfl (List.forall_mem_cons.mpr ⟨(mlX11_ok _ (List.mem_of_getElem? (i := 11) rfl)), kc_X0_forget⟩) (by decide +kernel) ⟨Nat.le_of_ble_eq_true rfl, Nat.le_of_ble_eq_true rfl⟩, List.forall_mem_cons.mpr ⟨f_cokV C (mX11_forgetRow hinj) (ci := 10) rfl (List.forall_mem_cons.mpr ⟨(mlX11_ok _ (List.mem_of_getElem? (i := 12) rfl)), kc_X11_forgetRow⟩) (by decide +kernel) ⟨Nat.le_of_ble_eq_true rfl, Nat.le_of_ble_eq_true rfl⟩, fun _ h => absurd h List.not_mem_nil⟩⟩⟩⟩⟩⟩)) (fun j S h => by cases h) tX11_lexicon_ok (cut := (f_cnl [(65, (fun (ls' : fLs) (st' : List Value) (I' : fM) (L' : fN) => ∃ i : Int32, (∀ q ∈ ([(3, .int i), (0, .ref 0)] : fLs), q ∈ ls') ∧ st' = [] ∧ (xR I' ∧ f_fr [0, 1, 3, 5, 8, 9, 10, 13, 14, 15, 16, 20, 21, 22, 23, 24, 40, 47, 54, 61, 69, 72, 74, 76, 78] I I' ∧ f_fr [1, 6, 7, 11, 12, 17, 18, 19] L L' ∧ xO I' ∧ xT I' ∧ xS I' ∧ xL I' ∧ (I' 0 9 = Int32.ofNat 5) ∧ (I' 0 10 = Int32.ofNat 10) ∧ (0 ≤ i.toInt) ∧ (i.toInt ≤ 3) ∧ ((I' 1 1).toInt = 0) ∧ ((I' 0 11).toInt = (I 0 11).toInt) ∧ (3 - i.toInt) < n65)))])) (f_cnl_of (P := fun (tQ : Nat) (P : fLs → List Value → fM → fN → Prop) => ∀ ls' st' I' L', P ls' st' I' L' → f_W pP l eP (f_rm 28) sP mP aP bP hP9 cP xY 80 a cy dC dI 4 (f_K 1 (qX11_lexicon [.ref 0] I L)) tQ ls' st' I' L') (List.forall_mem_cons.mpr ⟨(fun ls' st' I' L' h => by obtain ⟨i, hs, e1, h9⟩ := h; rw [e1]; exact f_W_sub hs (ih65 i I' L' h9)), fun _ h => absurd h List.not_mem_nil⟩)) 15 65 (f_seek 65 0 tX11_lexicon) (f_seek_ok 65 0 tX11_lexicon tX11_lexicon_ok) _ _ _ _ ?_
          apply And.intro
          · intro h67
            have h67 : 3 ≤ i.toInt := h67
            refine And.intro hR65c ?_
            intro I90 L90 hq90
            obtain ⟨K90, eK90⟩ : ∃ K90 : fM, I90 = va_up K90 0 (va_up (va_up (K90 0) 9 (Int32.ofNat 5)) 10 (Int32.ofNat 10)) := ⟨I90, f_lex (congrFun (hq90.2.1 0 rfl) 9) (congrFun (hq90.2.1 0 rfl) 10)⟩
            subst eK90
            let I90 : fM := va_up K90 0 (va_up (va_up (K90 0) 9 (Int32.ofNat 5)) 10 (Int32.ofNat 10))
            have hq90 : xR I90 ∧ f_fr [78] J65 I90 ∧ L90 = M65 := hq90
            obtain ⟨c90_0, c90_1, eL90⟩ := hq90
            replace eL90 := eL90.symm
            subst eL90
            have hxO90 := f_dep_fr xO_dep hxO65c c90_1 rfl
            have hxT90 := f_dep_fr xT_dep hxT65c c90_1 rfl
            have hxS90 := f_dep_fr xS_dep hxS65c c90_1 rfl
            have hxL90 := f_dep_fr xL_dep hxL65c c90_1 rfl
            have hF90 := f_fr_tr hF65c c90_1 rfl
            refine And.intro c90_0 ?_
            intro I94 L94 hq94
            obtain ⟨K94, eK94⟩ : ∃ K94 : fM, I94 = va_up K94 0 (va_up (va_up (K94 0) 9 (Int32.ofNat 5)) 10 (Int32.ofNat 10)) := ⟨I94, f_lex (congrFun (hq94.2.1 0 rfl) 9) (congrFun (hq94.2.1 0 rfl) 10)⟩
            subst eK94
            let I94 : fM := va_up K94 0 (va_up (va_up (K94 0) 9 (Int32.ofNat 5)) 10 (Int32.ofNat 10))
            have hq94 : xR I94 ∧ f_fr [69, 72, 74, 76] I90 I94 ∧ L94 = M65 := hq94
            obtain ⟨c94_0, c94_1, eL94⟩ := hq94
            replace eL94 := eL94.symm
            subst eL94
            have hxO94 := f_dep_fr xO_dep hxO90 c94_1 rfl
            have hxT94 := f_dep_fr xT_dep hxT90 c94_1 rfl
            have hxS94 := f_dep_fr xS_dep hxS90 c94_1 rfl
            have hxL94 := f_dep_fr xL_dep hxL90 c94_1 rfl
            have hF94 := f_fr_tr hF90 c94_1 rfl
            have r101_1 : 0 ≤ (I94 5 5).toInt ∧ (I94 5 5).toInt ≤ 12 := c94_0 5 5
            have e101_2 : (I94 5 5).toInt = (I90 5 5).toInt := congrArg Int32.toInt (congrFun (c94_1 5 rfl) 5)
            have e101_3 : (I90 5 5).toInt = (J65 5 5).toInt := congrArg Int32.toInt (congrFun (c90_1 5 rfl) 5)
            have r104_4 : 0 ≤ (I94 1 1).toInt ∧ (I94 1 1).toInt ≤ 1600 := c94_0 1 1
            have e104_5 : (I94 1 1).toInt = (I90 1 1).toInt := congrArg Int32.toInt (congrFun (c94_1 1 rfl) 1)
            have e104_6 : (I90 1 1).toInt = (J65 1 1).toInt := congrArg Int32.toInt (congrFun (c90_1 1 rfl) 1)
            have r104_7 : 0 ≤ (I94 0 11).toInt ∧ (I94 0 11).toInt ≤ 100000 := c94_0 0 11
            have e104_8 : (I94 0 11).toInt = (I90 0 11).toInt := congrArg Int32.toInt (congrFun (c94_1 0 rfl) 11)
            have e104_9 : (I90 0 11).toInt = (J65 0 11).toInt := congrArg Int32.toInt (congrFun (c90_1 0 rfl) 11)
            exact ⟨c94_0, hxO94, hxT94, hxS94, hxL94, hF94, hG65c, (show (I94 1 1).toInt = 0 from by first | assumption | omega | rfl), (show (I94 0 11).toInt = (I 0 11).toInt from by first | assumption | omega | rfl)⟩
          · intro h67
            have h67 : i.toInt < 3 := h67
            refine And.intro (show f_in i 3 from ⟨show 0 ≤ i.toInt from by omega, show i.toInt < 3 from by omega⟩) ?_
            intro j75 hj75
            have hj75 : i.toInt.toNat = j75 := hj75
            have jc75 : j75 = 0 ∨ j75 = 1 ∨ j75 = 2 := by omega
            rcases jc75 with rfl | rfl | rfl
            · have jv75 : i.toInt = 0 := by omega
              refine And.intro (Or.inl rfl) ?_
              have hR77 := xR_f (k := 47) (j := 8) (x := Int32.ofInt 0) hR65c (by exact f_rng _)
              have hF77 := f_fr_up (k := 47) (r := va_up (J65 47) 8 (Int32.ofInt 0)) hF65c rfl
              have hxO77 := f_dep_up xO_dep (k := 47) (r := va_up (J65 47) 8 (Int32.ofInt 0)) hxO65c rfl
              have hxT77 := f_dep_up xT_dep (k := 47) (r := va_up (J65 47) 8 (Int32.ofInt 0)) hxT65c rfl
              have hxS77 := f_dep_up xS_dep (k := 47) (r := va_up (J65 47) 8 (Int32.ofInt 0)) hxS65c rfl
              have hxL77 := f_dep_up xL_dep (k := 47) (r := va_up (J65 47) 8 (Int32.ofInt 0)) hxL65c rfl
              intro z80 q80 _ hq80 hl80 hu80
              have hq80 : z80.toInt = i.toInt + 1 + 4294967296 * q80 := hq80
              try have hz80 : z80.toInt = i.toInt + 1 := by omega
              exact ⟨z80, (by intro q9 h9; simp only [List.mem_cons, List.not_mem_nil, or_false] at h9; rcases h9 with h9 | h9 <;> subst h9 <;> repeat (first | exact List.mem_cons_self | apply List.mem_cons_of_mem)), rfl, hR77, hF77, hG65c, hxO77, hxT77, hxS77, hxL77, (show J65 0 9 = Int32.ofNat 5 from by first | assumption | omega | rfl), (show J65 0 10 = Int32.ofNat 10 from by first | assumption | omega | rfl), (show 0 ≤ z80.toInt from by first | assumption | omega), (show z80.toInt ≤ 3 from by first | assumption | omega), (show (J65 1 1).toInt = 0 from by first | assumption | omega | rfl), (show (J65 0 11).toInt = (I 0 11).toInt from by first | assumption | omega | rfl), (show (3 - z80.toInt) < n65 from by omega)⟩
            · have jv75 : i.toInt = 1 := by omega
              refine And.intro (Or.inl rfl) ?_
              have hR77 := xR_f (k := 54) (j := 8) (x := Int32.ofInt 0) hR65c (by exact f_rng _)
              have hF77 := f_fr_up (k := 54) (r := va_up (J65 54) 8 (Int32.ofInt 0)) hF65c rfl
              have hxO77 := f_dep_up xO_dep (k := 54) (r := va_up (J65 54) 8 (Int32.ofInt 0)) hxO65c rfl
              have hxT77 := f_dep_up xT_dep (k := 54) (r := va_up (J65 54) 8 (Int32.ofInt 0)) hxT65c rfl
              have hxS77 := f_dep_up xS_dep (k := 54) (r := va_up (J65 54) 8 (Int32.ofInt 0)) hxS65c rfl
              have hxL77 := f_dep_up xL_dep (k := 54) (r := va_up (J65 54) 8 (Int32.ofInt 0)) hxL65c rfl
              intro z80 q80 _ hq80 hl80 hu80
              have hq80 : z80.toInt = i.toInt + 1 + 4294967296 * q80 := hq80
              try have hz80 : z80.toInt = i.toInt + 1 := by omega
              exact ⟨z80, (by intro q9 h9; simp only [List.mem_cons, List.not_mem_nil, or_false] at h9; rcases h9 with h9 | h9 <;> subst h9 <;> repeat (first | exact List.mem_cons_self | apply List.mem_cons_of_mem)), rfl, hR77, hF77, hG65c, hxO77, hxT77, hxS77, hxL77, (show J65 0 9 = Int32.ofNat 5 from by first | assumption | omega | rfl), (show J65 0 10 = Int32.ofNat 10 from by first | assumption | omega | rfl), (show 0 ≤ z80.toInt from by first | assumption | omega), (show z80.toInt ≤ 3 from by first | assumption | omega), (show (J65 1 1).toInt = 0 from by first | assumption | omega | rfl), (show (J65 0 11).toInt = (I 0 11).toInt from by first | assumption | omega | rfl), (show (3 - z80.toInt) < n65 from by omega)⟩
            · have jv75 : i.toInt = 2 := by omega
              refine And.intro (Or.inl rfl) ?_
              have hR77 := xR_f (k := 61) (j := 8) (x := Int32.ofInt 0) hR65c (by exact f_rng _)
              have hF77 := f_fr_up (k := 61) (r := va_up (J65 61) 8 (Int32.ofInt 0)) hF65c rfl
              have hxO77 := f_dep_up xO_dep (k := 61) (r := va_up (J65 61) 8 (Int32.ofInt 0)) hxO65c rfl
              have hxT77 := f_dep_up xT_dep (k := 61) (r := va_up (J65 61) 8 (Int32.ofInt 0)) hxT65c rfl
              have hxS77 := f_dep_up xS_dep (k := 61) (r := va_up (J65 61) 8 (Int32.ofInt 0)) hxS65c rfl
              have hxL77 := f_dep_up xL_dep (k := 61) (r := va_up (J65 61) 8 (Int32.ofInt 0)) hxL65c rfl
              intro z80 q80 _ hq80 hl80 hu80
              have hq80 : z80.toInt = i.toInt + 1 + 4294967296 * q80 := hq80
              try have hz80 : z80.toInt = i.toInt + 1 := by omega
              exact ⟨z80, (by intro q9 h9; simp only [List.mem_cons, List.not_mem_nil, or_false] at h9; rcases h9 with h9 | h9 <;> subst h9 <;> repeat (first | exact List.mem_cons_self | apply List.mem_cons_of_mem)), rfl, hR77, hF77, hG65c, hxO77, hxT77, hxS77, hxL77, (show J65 0 9 = Int32.ofNat 5 from by first | assumption | omega | rfl), (show J65 0 10 = Int32.ofNat 10 from by first | assumption | omega | rfl), (show 0 ≤ z80.toInt from by first | assumption | omega), (show z80.toInt ≤ 3 from by first | assumption | omega), (show (J65 1 1).toInt = 0 from by first | assumption | omega | rfl), (show (J65 0 11).toInt = (I 0 11).toInt from by first | assumption | omega | rfl), (show (3 - z80.toInt) < n65 from by omega)⟩
      refine f_wp_ok C f_cl flX11_ok fiX11_ok fjX11_ok (sn := none) (fun j h => by cases h) (cs := (f_cnl [(103, (2, 3, 4, pX4_readLexicon, qX4_readLexicon)), (99, (2, 3, 8, pX9_cutb, qX9_cutb)), (107, (2, 0, 3, pX3_openAll, qX3_openAll)), (111, (1, 0, 2, pX2_clear, qX2_clear)), (118, (1, 0, 0, pX0_forget, qX0_forget)), (121, (1, 0, 10, pX11_forgetRow, qX11_forgetRow))])) (cz := (fun _ => none)) (f_cnl_of (P := fun j S => f_cok pP l eP (f_rm 28) sP mP aP bP hP9 cP xY 80 a cy dC dI 4 _ _ (.invokevirtual j) true S) (List.forall_mem_cons.mpr ⟨f_cokV C (mX4_readLexicon hinj) (ci := 4) rfl (List.forall_mem_cons.mpr ⟨(mlX11_ok _ (List.mem_of_getElem? (i := 8) rfl)), kc_X4_readLexicon⟩) (by decide +kernel) ⟨Nat.le_of_ble_eq_true rfl, Nat.le_of_ble_eq_true rfl⟩, List.forall_mem_cons.mpr ⟨f_cokV C (mX9_cutb hinj) (ci := 8) rfl (List.forall_mem_cons.mpr ⟨(mlX11_ok _ (List.mem_of_getElem? (i := 7) rfl)), kc_X9_cut⟩) (by decide +kernel) ⟨Nat.le_of_ble_eq_true rfl, Nat.le_of_ble_eq_true rfl⟩, List.forall_mem_cons.mpr ⟨f_cokV C (mX3_openAll hinj) (ci := 3) rfl (List.forall_mem_cons.mpr ⟨(mlX11_ok _ (List.mem_of_getElem? (i := 9) rfl)), kc_X3_openAll⟩) (by decide +kernel) ⟨Nat.le_of_ble_eq_true rfl, Nat.le_of_ble_eq_true rfl⟩, List.forall_mem_cons.mpr ⟨f_cokV C (mX2_clear hinj) (ci := 2) rfl (List.forall_mem_cons.mpr ⟨(mlX11_ok _ (List.mem_of_getElem? (i := 10) rfl)), kc_X2_clear⟩) (by decide +kernel) ⟨Nat.le_of_ble_eq_true rfl, Nat.le_of_ble_eq_true rfl⟩, List.forall_mem_cons.mpr ⟨f_cokV C (mX0_forget hinj) (ci := 0) rfl (List.forall_mem_cons.mpr ⟨(mlX11_ok _ (List.mem_of_getElem? (i := 11) rfl)), kc_X0_forget⟩) (by decide +kernel) ⟨Nat.le_of_ble_eq_true rfl, Nat.le_of_ble_eq_true rfl⟩, List.forall_mem_cons.mpr ⟨f_cokV C (mX11_forgetRow hinj) (ci := 10) rfl (List.forall_mem_cons.mpr ⟨(mlX11_ok _ (List.mem_of_getElem? (i := 12) rfl)), kc_X11_forgetRow⟩) (by decide +kernel) ⟨Nat.le_of_ble_eq_true rfl, Nat.le_of_ble_eq_true rfl⟩, fun _ h => absurd h List.not_mem_nil⟩⟩⟩⟩⟩⟩)) (fun j S h => by cases h) tX11_lexicon_ok (cut := (f_cnl [(65, (fun (ls' : fLs) (st' : List Value) (I' : fM) (L' : fN) => ∃ i : Int32, (∀ q ∈ ([(3, .int i), (0, .ref 0)] : fLs), q ∈ ls') ∧ st' = [] ∧ (xR I' ∧ f_fr [0, 1, 3, 5, 8, 9, 10, 13, 14, 15, 16, 20, 21, 22, 23, 24, 40, 47, 54, 61, 69, 72, 74, 76, 78] I I' ∧ f_fr [1, 6, 7, 11, 12, 17, 18, 19] L L' ∧ xO I' ∧ xT I' ∧ xS I' ∧ xL I' ∧ (I' 0 9 = Int32.ofNat 5) ∧ (I' 0 10 = Int32.ofNat 10) ∧ (0 ≤ i.toInt) ∧ (i.toInt ≤ 3) ∧ ((I' 1 1).toInt = 0) ∧ ((I' 0 11).toInt = (I 0 11).toInt) ∧ (3 - i.toInt) < 4)))])) (f_cnl_of (P := fun (tQ : Nat) (P : fLs → List Value → fM → fN → Prop) => ∀ ls' st' I' L', P ls' st' I' L' → f_W pP l eP (f_rm 28) sP mP aP bP hP9 cP xY 80 a cy dC dI 4 (f_K 1 (qX11_lexicon [.ref 0] I L)) tQ ls' st' I' L') (List.forall_mem_cons.mpr ⟨(fun ls' st' I' L' h => by obtain ⟨i, hs, e1, h9⟩ := h; rw [e1]; exact f_W_sub hs (lp65 4 i I' L' h9)), fun _ h => absurd h List.not_mem_nil⟩)) 36 0 tX11_lexicon tX11_lexicon_ok _ _ _ _ ?_
      refine And.intro ⟨(show (5 = 5 ∨ 5 = 10) from by decide), hR⟩ ?_
      intro x8 I8 L8 hq8
      obtain ⟨K8, eK8⟩ : ∃ K8 : fM, I8 = va_up K8 0 (va_up (va_up (K8 0) 9 (Int32.ofNat 10)) 10 (Int32.ofNat 5)) := ⟨I8, f_lex (congrFun (hq8.2.1 0 rfl) 9) (congrFun (hq8.2.1 0 rfl) 10)⟩
      subst eK8
      let I8 : fM := va_up K8 0 (va_up (va_up (K8 0) 9 (Int32.ofNat 10)) 10 (Int32.ofNat 5))
      have hq8 : xR I8 ∧ f_fr [1, 3, 5, 8, 9] I I8 ∧ f_fr [1, 6, 7] L L8 ∧ ((x8.toInt = 1 → xG 5 I8)) ∧ ((x8.toInt = 0 ∨ x8.toInt = 1)) := hq8
      obtain ⟨c8_0, c8_1, c8_2, c8_3, c8_4⟩ := hq8
      have hxO8 := f_dep_fr xO_dep hxO c8_1 rfl
      have hxT8 := f_dep_fr xT_dep hxT c8_1 rfl
      have hxS8 := f_dep_fr xS_dep hxS c8_1 rfl
      have hxL8 := f_dep_fr xL_dep hxL c8_1 rfl
      have hF8 := f_fr_tr hF0 c8_1 rfl
      have hG8 := f_fr_tr hG0 c8_2 rfl
      have g8 : x8.toInt = 1 → xG 5 I8 := c8_3
      refine And.intro c8_0 ?_
      intro x17 I17 L17 hq17
      obtain ⟨K17, eK17⟩ : ∃ K17 : fM, I17 = va_up K17 0 (va_up (va_up (K17 0) 9 (Int32.ofNat 10)) 10 (Int32.ofNat 5)) := ⟨I17, f_lex (congrFun (hq17.2.1 0 rfl) 9) (congrFun (hq17.2.1 0 rfl) 10)⟩
      subst eK17
      let I17 : fM := va_up K17 0 (va_up (va_up (K17 0) 9 (Int32.ofNat 10)) 10 (Int32.ofNat 5))
      have hq17 : xR I17 ∧ f_fr [1] I8 I17 ∧ L17 = L8 ∧ ((((0 : Int) < 0 ∨ (I8 1 1).toInt < (0 : Int)) ∧ x17.toInt = 0 ∧ (I17 1 1).toInt = (I8 1 1).toInt ∨ 0 ≤ (0 : Int) ∧ (0 : Int) ≤ (I8 1 1).toInt ∧ x17.toInt = 1 ∧ (I17 1 1).toInt = (0 : Int))) := hq17
      obtain ⟨c17_0, c17_1, eL17, c17_3⟩ := hq17
      replace eL17 := eL17.symm
      subst eL17
      have hxO17 := f_dep_fr xO_dep hxO8 c17_1 rfl
      have hxT17 := f_dep_fr xT_dep hxT8 c17_1 rfl
      have hxS17 := f_dep_fr xS_dep hxS8 c17_1 rfl
      have hxL17 := f_dep_fr xL_dep hxL8 c17_1 rfl
      have hF17 := f_fr_tr hF8 c17_1 rfl
      have g17 : x8.toInt = 1 → xG 5 I17 := fun h => xG_fr (g8 h) c17_1 rfl rfl rfl
      have e17 : (I17 0 11).toInt = (I 0 11).toInt := congrArg Int32.toInt (congrFun ((c17_1 0 rfl).trans (c8_1 0 rfl)) 11)
      apply And.intro
      · intro h22
        have h22 : ¬ x8.toInt = 0 := h22
        refine And.intro (show 5 < 1000 from by decide) ?_
        have hR37 := xR_f (k := 0) (j := 9) (x := Int32.ofNat 5) c17_0 (by exact f_rng _)
        have hF37 := f_fr_up (k := 0) (r := va_up (I17 0) 9 (Int32.ofNat 5)) hF17 rfl
        have hxO37 := f_dep_up xO_dep (k := 0) (r := va_up (I17 0) 9 (Int32.ofNat 5)) hxO17 rfl
        have hxT37 := f_dep_up xT_dep (k := 0) (r := va_up (I17 0) 9 (Int32.ofNat 5)) hxT17 rfl
        have hxS37 := f_dep_up xS_dep (k := 0) (r := va_up (I17 0) 9 (Int32.ofNat 5)) hxS17 rfl
        have hxL37 : xL I := hxL
        refine And.intro (show 10 < 1000 from by decide) ?_
        have hR42 := xR_f (k := 0) (j := 10) (x := Int32.ofNat 10) hR37 (by exact f_rng _)
        have hF42 := f_fr_up (k := 0) (r := va_up (va_up (I17 0) 9 (Int32.ofNat 5)) 10 (Int32.ofNat 10)) hF37 rfl
        have hxO42 := f_dep_up xO_dep (k := 0) (r := va_up (va_up (I17 0) 9 (Int32.ofNat 5)) 10 (Int32.ofNat 10)) hxO37 rfl
        have hxT42 := f_dep_up xT_dep (k := 0) (r := va_up (va_up (I17 0) 9 (Int32.ofNat 5)) 10 (Int32.ofNat 10)) hxT37 rfl
        have hxS42 := f_dep_up xS_dep (k := 0) (r := va_up (va_up (I17 0) 9 (Int32.ofNat 5)) 10 (Int32.ofNat 10)) hxS37 rfl
        have hxL42 : xL (va_up (va_up I17 0 (va_up (I17 0) 9 (Int32.ofNat 5))) 0 (va_up (va_up (I17 0) 9 (Int32.ofNat 5)) 10 (Int32.ofNat 10))) := by first | exact Or.inr ⟨rfl, rfl⟩ | exact Or.inl ⟨rfl, rfl⟩
        refine And.intro ⟨(show (5 = 5 ∨ 5 = 10) from by decide), hR42, hxO42, (by have q := g17 (by omega); exact xG_kind q rfl rfl rfl rfl)⟩ ?_
        intro I53 L53 hq53
        obtain ⟨K53, eK53⟩ : ∃ K53 : fM, I53 = va_up K53 0 (va_up (va_up (K53 0) 9 (Int32.ofNat 5)) 10 (Int32.ofNat 10)) := ⟨I53, f_lex (congrFun (hq53.2.2.1 0 rfl) 9) (congrFun (hq53.2.2.1 0 rfl) 10)⟩
        subst eK53
        let I53 : fM := va_up K53 0 (va_up (va_up (K53 0) 9 (Int32.ofNat 5)) 10 (Int32.ofNat 10))
        have hq53 : xR I53 ∧ xO I53 ∧ f_fr [15, 16, 20, 21, 22, 23, 24] (va_up (va_up I17 0 (va_up (I17 0) 9 (Int32.ofNat 5))) 0 (va_up (va_up (I17 0) 9 (Int32.ofNat 5)) 10 (Int32.ofNat 10))) I53 ∧ f_fr [17, 18, 19] L8 L53 := hq53
        obtain ⟨c53_0, c53_1, c53_2, c53_3⟩ := hq53
        have hxT53 := f_dep_fr xT_dep hxT42 c53_2 rfl
        have hxS53 := f_dep_fr xS_dep hxS42 c53_2 rfl
        have hxL53 := f_dep_fr xL_dep hxL42 c53_2 rfl
        have hF53 := f_fr_tr hF42 c53_2 rfl
        have hG53 := f_fr_tr hG8 c53_3 rfl
        refine And.intro c53_0 ?_
        intro I60 L60 hq60
        obtain ⟨K60, eK60⟩ : ∃ K60 : fM, I60 = va_up K60 0 (va_up (va_up (K60 0) 9 (Int32.ofNat 5)) 10 (Int32.ofNat 10)) := ⟨I60, f_lex (congrFun (hq60.2.1 0 rfl) 9) (congrFun (hq60.2.1 0 rfl) 10)⟩
        subst eK60
        let I60 : fM := va_up K60 0 (va_up (va_up (K60 0) 9 (Int32.ofNat 5)) 10 (Int32.ofNat 10))
        have hq60 : xR I60 ∧ f_fr [40] I53 I60 ∧ L60 = L53 ∧ (I60 40 6).toInt = 0 ∧ (I60 40 7).toInt = 0 ∧ I60 40 8 = I53 40 8 := hq60
        obtain ⟨c60_0, c60_1, eL60, c60_3, c60_4, c60_5⟩ := hq60
        replace eL60 := eL60.symm
        subst eL60
        have hxO60 := f_dep_fr xO_dep c53_1 c60_1 rfl
        have hxT60 := f_dep_fr xT_dep hxT53 c60_1 rfl
        have hxS60 := f_dep_fr xS_dep hxS53 c60_1 rfl
        have hxL60 := f_dep_fr xL_dep hxL53 c60_1 rfl
        have hF60 := f_fr_tr hF53 c60_1 rfl
        have e60 : (I60 0 11).toInt = (I 0 11).toInt := (congrArg Int32.toInt (congrFun ((c60_1 0 rfl).trans (c53_2 0 rfl)) 11)).trans e17
        have r65_1 : 0 ≤ (I60 1 1).toInt ∧ (I60 1 1).toInt ≤ 1600 := c60_0 1 1
        have e65_2 : (I60 1 1).toInt = (I53 1 1).toInt := congrArg Int32.toInt (congrFun (c60_1 1 rfl) 1)
        have e65_3 : (I53 1 1).toInt = (I17 1 1).toInt := congrArg Int32.toInt (congrFun (c53_2 1 rfl) 1)
        have r65_4 : 0 ≤ (I60 0 11).toInt ∧ (I60 0 11).toInt ≤ 100000 := c60_0 0 11
        have e65_5 : (I60 0 11).toInt = (I53 0 11).toInt := congrArg Int32.toInt (congrFun (c60_1 0 rfl) 11)
        have e65_6 : (I53 0 11).toInt = (I17 0 11).toInt := congrArg Int32.toInt (congrFun (c53_2 0 rfl) 11)
        exact ⟨Int32.ofInt 0, (by intro q9 h9; simp only [List.mem_cons, List.not_mem_nil, or_false] at h9; rcases h9 with h9 | h9 <;> subst h9 <;> repeat (first | exact List.mem_cons_self | apply List.mem_cons_of_mem)), rfl, c60_0, hF60, hG53, hxO60, hxT60, hxS60, hxL60, (show I60 0 9 = Int32.ofNat 5 from by first | assumption | omega | rfl), (show I60 0 10 = Int32.ofNat 10 from by first | assumption | omega | rfl), (show 0 ≤ (0 : Int) from by first | assumption | omega), (show (0 : Int) ≤ 3 from by first | assumption | omega), (show (I60 1 1).toInt = 0 from by first | assumption | omega | rfl), (show (I60 0 11).toInt = (I 0 11).toInt from by first | assumption | omega | rfl), (show (3 - (0 : Int)) < 4 from by omega)⟩
      · intro h22
        have h22 : x8.toInt = 0 := h22
        have r26_1 : 0 ≤ (I17 1 1).toInt ∧ (I17 1 1).toInt ≤ 1600 := c17_0 1 1
        have r26_2 : 0 ≤ (I17 0 11).toInt ∧ (I17 0 11).toInt ≤ 100000 := c17_0 0 11
        have e26_3 : (I17 0 11).toInt = (I8 0 11).toInt := congrArg Int32.toInt (congrFun (c17_1 0 rfl) 11)
        have e26_4 : (I8 0 11).toInt = (I 0 11).toInt := congrArg Int32.toInt (congrFun (c8_1 0 rfl) 11)
        exact ⟨c17_0, hxO17, hxT17, hxS17, hxL17, hF17, hG8, (show (I17 1 1).toInt = 0 from by first | assumption | omega | rfl), (show (I17 0 11).toInt = (I 0 11).toInt from by first | assumption | omega | rfl)⟩
