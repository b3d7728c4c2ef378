def pX12_exampleb (av : List Value) (I : fM) (L : fN) : Prop := match av with
  | [.ref 0, .int r] => mR I ∧ mL I ∧ mK I ∧ mW I
  | _ => False
def qX12_exampleb (av : List Value) (I : fM) (L : fN) (r : Value) (I' : fM) (L' : fN) : Prop := match av, r with
  | [.ref 0, .int r], .int x => mR I' ∧ mL I' ∧ mK I' ∧ mW I' ∧ f_fo [83] I I' ∧ f_fr [0, 56, 57, 58, 59, 60] I I' ∧ L' = L
  | _, _ => False
set_option maxHeartbeats 40000000 in
set_option maxRecDepth 100000 in
theorem mX12_exampleb {l : Launch} {a : Nat → Nat} {cy dC : Nat → ClassId} {dI : Nat → Nat → Nat} (hinj : ∀ i j, i < 71 → j < 71 → a i = a j → i = j) : f_Met (fun _ => True) l mY 71 a cy dC dI yX12_example cX12_example 3 1 1 pX12_exampleb qX12_exampleb := by
  refine f_met_of (f_Ec_T 71 a) hinj mY_hi (by decide) (fun av I L h => by unfold pX12_exampleb at h; split at h <;> first | exact Nat.le_of_ble_eq_true rfl | exact h.elim) ?_
  intro pP eP sP mP aP bP hP9 cP C av I L hp
  unfold pX12_exampleb at hp
  split at hp
  case h_2 => exact hp.elim
  case h_1 r =>
    obtain ⟨hR, hmL, hmK, hmW⟩ := hp
    have hr : 0 ≤ (I 0 30).toInt ∧ (I 0 30).toInt ≤ 8 := hR 0 30
    have hx : 0 ≤ (I 0 83).toInt ∧ (I 0 83).toInt ≤ 12 := hR 0 83
    have hF0 : f_fr [0, 56, 57, 58, 59, 60] I I := f_fr_rf
    have hO0 : f_fo [83] I I := f_fo_rf
    have lp39 : ∀ (n39 : Nat), ∀ (i : Int32) (J39 : fM), mR J39 ∧ f_fr [0, 56, 57, 58, 59, 60] I J39 ∧ f_fo [83] I J39 ∧ mL J39 ∧ mK J39 ∧ (0 ≤ i.toInt) ∧ (i.toInt ≤ (I 0 30).toInt) ∧ ((I 0 30).toInt ≤ 6) ∧ (J39 0 83 = I 0 83) ∧ ((I 0 83).toInt ≤ 11) ∧ (J39 56 = upd (I 56) (I 0 83).toInt.toNat (I 0 30)) ∧ ((∀ j : Nat, ¬ (6 * (I 0 83).toInt ≤ j ∧ (j : Int) < 6 * (I 0 83).toInt + 6) → J39 57 j = I 57 j)) ∧ ((∀ j : Nat, 6 * (I 0 83).toInt ≤ j → (j : Int) < 6 * (I 0 83).toInt + i.toInt → (J39 57 j).toInt < (I 9 (I 0 24).toInt.toNat).toInt)) ∧ (8 - i.toInt) < n39 → f_W pP l eP (f_rm 1) sP mP aP bP hP9 cP mY 71 a cy dC dI 3 (f_K 1 (qX12_exampleb [.ref 0, .int r] I L)) 39 [(2, .int i), (1, .int r), (0, .ref 0)] [] J39 L := by
      intro n39
      induction n39 with
      | zero =>
        intro i J39 h9
        obtain ⟨hR39c, hF39c, hO39c, hmL39c, hmK39c, u39_1, u39_2, u39_3, u39_4, u39_5, u39_6, u39_7, u39_8, hm39⟩ := h9
        omega
      | succ n39 ih39 =>
        intro i J39 h9
        obtain ⟨hR39c, hF39c, hO39c, hmL39c, hmK39c, u39_1, u39_2, u39_3, u39_4, u39_5, u39_6, u39_7, u39_8, hm39⟩ := h9
        have e39 : (J39 0 83).toInt = (I 0 83).toInt := by rw [u39_4]
        have f39 : (J39 0 30).toInt = (I 0 30).toInt := congrArg Int32.toInt (hO39c 30 rfl)
        refine f_wp_ok C f_cl flX12_ok fiX12_ok fjX12_ok (sn := none) (fun j h => by cases h) (cs := (fun _ => none)) (cz := (f_cnl [(366, (3, 3, 11, pX12_isIn, qX12_isIn))])) (fun j S h => by cases h) (f_cnl_of (P := fun j S => f_cok pP l eP (f_rm 1) sP mP aP bP hP9 cP mY 71 a cy dC dI 3 _ _ (.invokestatic j) false S) (List.forall_mem_cons.mpr ⟨f_cokS C (mX12_isIn hinj) (List.forall_mem_cons.mpr ⟨(mlX12_ok _ (List.mem_of_getElem? (i := 27) rfl)), kc_X12_isIn⟩) (by decide +kernel) ⟨Nat.le_of_ble_eq_true rfl, Nat.le_of_ble_eq_true rfl⟩, fun _ h => absurd h List.not_mem_nil⟩)) tX12_example_ok (cut := (f_cnl [(39, (fun (ls' : fLs) (st' : List Value) (I' : fM) (L' : fN) => ∃ i : Int32, (∀ q ∈ ([(2, .int i), (1, .int r), (0, .ref 0)] : fLs), q ∈ ls') ∧ st' = [] ∧ L' = L ∧ (mR I' ∧ f_fr [0, 56, 57, 58, 59, 60] I I' ∧ f_fo [83] I I' ∧ mL I' ∧ mK I' ∧ (0 ≤ i.toInt) ∧ (i.toInt ≤ (I 0 30).toInt) ∧ ((I 0 30).toInt ≤ 6) ∧ (I' 0 83 = I 0 83) ∧ ((I 0 83).toInt ≤ 11) ∧ (I' 56 = upd (I 56) (I 0 83).toInt.toNat (I 0 30)) ∧ ((∀ j : Nat, ¬ (6 * (I 0 83).toInt ≤ j ∧ (j : Int) < 6 * (I 0 83).toInt + 6) → I' 57 j = I 57 j)) ∧ ((∀ j : Nat, 6 * (I 0 83).toInt ≤ j → (j : Int) < 6 * (I 0 83).toInt + i.toInt → (I' 57 j).toInt < (I 9 (I 0 24).toInt.toNat).toInt)) ∧ (8 - i.toInt) < n39)))])) (f_cnl_of (P := fun (tQ : Nat) (P : fLs → List Value → fM → fN → Prop) => ∀ ls' st' I' L', P ls' st' I' L' → f_W pP l eP (f_rm 1) sP mP aP bP hP9 cP mY 71 a cy dC dI 3 (f_K 1 (qX12_exampleb [.ref 0, .int r] I L)) tQ ls' st' I' L') (List.forall_mem_cons.mpr ⟨(fun ls' st' I' L' h => by obtain ⟨i, hs, e1, e3, h9⟩ := h; rw [e1, e3]; exact f_W_sub hs (ih39 i I' h9)), fun _ h => absurd h List.not_mem_nil⟩)) 37 39 (f_seek 39 0 tX12_example) (f_seek_ok 39 0 tX12_example tX12_example_ok) _ _ _ _ ?_
        have r41_1 : 0 ≤ (J39 0 30).toInt ∧ (J39 0 30).toInt ≤ 8 := hR39c 0 30
        have e41_2 : (J39 0 30).toInt = (I 0 30).toInt := congrArg Int32.toInt (hO39c 30 rfl)
        apply And.intro
        · intro h44
          have h44 : (J39 0 30).toInt ≤ i.toInt := h44
          have r78_3 : 0 ≤ (J39 0 83).toInt ∧ (J39 0 83).toInt ≤ 12 := hR39c 0 83
          refine And.intro (show f_in (J39 0 83) 12 from ⟨show 0 ≤ (J39 0 83).toInt from by omega, show (J39 0 83).toInt < 12 from by omega⟩) ?_
          have nb82 : 0 ≤ (vp_nar .boolean r).toInt ∧ (vp_nar .boolean r).toInt ≤ 1 := f_narb _
          have hR82 := mR_a (k := 60) (j := (J39 0 83).toInt.toNat) (x := vp_nar .boolean r) hR39c (by exact f_rng _)
          have hF82 := f_fr_up (k := 60) (r := upd (J39 60) ((J39 0 83).toInt.toNat) (vp_nar .boolean r)) hF39c rfl
          have hO82 := f_fo_ne (k := 60) (r := upd (J39 60) ((J39 0 83).toInt.toNat) (vp_nar .boolean r)) hO39c (by decide)
          have hmL82 := f_depo_up mL_dep (k := 60) (r := upd (J39 60) ((J39 0 83).toInt.toNat) (vp_nar .boolean r)) hmL39c rfl (by decide)
          have hmK82 := f_depo_up mK_dep (k := 60) (r := upd (J39 60) ((J39 0 83).toInt.toNat) (vp_nar .boolean r)) hmK39c rfl (by decide)
          have r92_4 : 0 ≤ (J39 0 84).toInt ∧ (J39 0 84).toInt ≤ 100000 := hR82 0 84
          have e92_5 : (J39 0 84).toInt = (I 0 84).toInt := congrArg Int32.toInt (hO39c 84 rfl)
          refine And.intro (show f_in (J39 0 83) 12 from ⟨show 0 ≤ (J39 0 83).toInt from by omega, show (J39 0 83).toInt < 12 from by omega⟩) ?_
          have hR95 := mR_a (k := 58) (j := (J39 0 83).toInt.toNat) (x := J39 0 84) hR82 (by exact f_rng _)
          have hF95 := f_fr_up (k := 58) (r := upd (J39 58) ((J39 0 83).toInt.toNat) (J39 0 84)) hF82 rfl
          have hO95 := f_fo_ne (k := 58) (r := upd (J39 58) ((J39 0 83).toInt.toNat) (J39 0 84)) hO82 (by decide)
          have hmL95 := f_depo_up mL_dep (k := 58) (r := upd (J39 58) ((J39 0 83).toInt.toNat) (J39 0 84)) hmL82 rfl (by decide)
          have hmK95 := f_depo_up mK_dep (k := 58) (r := upd (J39 58) ((J39 0 83).toInt.toNat) (J39 0 84)) hmK82 rfl (by decide)
          refine And.intro (show f_in (J39 0 83) 12 from ⟨show 0 ≤ (J39 0 83).toInt from by omega, show (J39 0 83).toInt < 12 from by omega⟩) ?_
          have hR105 := mR_a (k := 59) (j := (J39 0 83).toInt.toNat) (x := Int32.ofInt (-1)) hR95 (by exact f_rng _)
          have hF105 := f_fr_up (k := 59) (r := upd (J39 59) ((J39 0 83).toInt.toNat) (Int32.ofInt (-1))) hF95 rfl
          have hO105 := f_fo_ne (k := 59) (r := upd (J39 59) ((J39 0 83).toInt.toNat) (Int32.ofInt (-1))) hO95 (by decide)
          have hmL105 := f_depo_up mL_dep (k := 59) (r := upd (J39 59) ((J39 0 83).toInt.toNat) (Int32.ofInt (-1))) hmL95 rfl (by decide)
          have hmK105 := f_depo_up mK_dep (k := 59) (r := upd (J39 59) ((J39 0 83).toInt.toNat) (Int32.ofInt (-1))) hmK95 rfl (by decide)
          intro z112 q112 _ hq112 hl112 hu112
          have hq112 : z112.toInt = (J39 0 83).toInt + 1 + 4294967296 * q112 := hq112
          try have hz112 : z112.toInt = (J39 0 83).toInt + 1 := by omega
          have hR113 := mR_f (k := 0) (j := 83) (x := z112) hR105 (show 0 ≤ z112.toInt ∧ z112.toInt ≤ 12 from ⟨by omega, by omega⟩)
          have hF113 := f_fr_up (k := 0) (r := va_up (J39 0) 83 z112) hF105 rfl
          have hO113 := f_fo_up (j := 83) (x := z112) hO105 rfl
          have hmL113 := f_depo_up0 mL_dep (j := 83) (x := z112) hmL105 rfl rfl
          have hmK113 := f_depo_up0 mK_dep (j := 83) (x := z112) hmK105 rfl rfl
          have hmW113 : mW (va_up (va_up (va_up (va_up J39 60 (upd (J39 60) ((J39 0 83).toInt.toNat) (vp_nar .boolean r))) 58 (upd (J39 58) ((J39 0 83).toInt.toNat) (J39 0 84))) 59 (upd (J39 59) ((J39 0 83).toInt.toNat) (Int32.ofInt (-1)))) 0 (va_up (J39 0) 83 z112)) := by
            have m56 : ∀ j, (I 56 j).toInt ≤ 6 := fun j => (hR 56 j).2
            have e24 : J39 0 24 = I 0 24 := hO39c 24 rfl
            refine ⟨fun j hj => ?_, fun m j h1 h2 h3 => ?_, ?_⟩
            · have hj : (j : Int) < (J39 0 30).toInt := hj
              show (J39 19 j).toInt < (J39 9 (J39 0 24).toInt.toNat).toInt
              rw [hF39c 19 rfl, hF39c 9 rfl, e24]
              exact hmW.1 j (by omega)
            · have h1 : (m : Int) < z112.toInt := h1
              have h3 : (j : Int) < 6 * m + (J39 56 m).toInt := h3
              show (J39 57 j).toInt < (J39 9 (J39 0 24).toInt.toNat).toInt
              rw [hF39c 9 rfl, e24]
              rw [u39_6] at h3
              by_cases q : m = (I 0 83).toInt.toNat
              · rw [q, pk_us] at h3
                exact u39_8 j (by omega) (by omega)
              · rw [pk_un q] at h3
                have := m56 m
                rw [u39_7 j (by omega)]
                exact hmW.2.1 m j (by omega) h2 h3
            · show ∀ b : Nat, b < 3 → 0 ≤ (J39 63 b).toInt → (∀ i : Nat, 8 * b ≤ i → (i : Int) < 8 * b + (J39 64 b).toInt → (J39 65 i).toInt < (J39 9 (J39 0 24).toInt.toNat).toInt) ∧ (∀ n i : Nat, 12 * b ≤ n → (n : Int) < 12 * b + (J39 63 b).toInt → 6 * n ≤ i → (i : Int) < 6 * n + (J39 66 n).toInt → (J39 67 i).toInt < (J39 9 (J39 0 24).toInt.toNat).toInt)
              rw [hF39c 63 rfl, hF39c 64 rfl, hF39c 65 rfl, hF39c 66 rfl, hF39c 67 rfl, hF39c 9 rfl, e24]
              exact hmW.2.2
          intro z121 q121 _ hq121 hl121 hu121
          have hq121 : z121.toInt = z112.toInt - 1 + 4294967296 * q121 := hq121
          try have hz121 : z121.toInt = z112.toInt - 1 := by omega
          exact ⟨hR113, hmL113, hmK113, hmW113, hO113, hF113, rfl⟩
        · intro h44
          have h44 : i.toInt < (J39 0 30).toInt := h44
          have w47 : (J39 19 i.toInt.toNat).toInt < (I 9 (I 0 24).toInt.toNat).toInt := by rw [hF39c 19 rfl]; exact hmW.1 i.toInt.toNat (by omega)
          have r54_3 : 0 ≤ (J39 0 83).toInt ∧ (J39 0 83).toInt ≤ 12 := hR39c 0 83
          intro z57 q57 _ hq57 hl57 hu57
          have hq57 : z57.toInt = 6 * (J39 0 83).toInt + 4294967296 * q57 := hq57
          try have hz57 : z57.toInt = 6 * (J39 0 83).toInt := by omega
          intro z59 q59 _ hq59 hl59 hu59
          have hq59 : z59.toInt = z57.toInt + i.toInt + 4294967296 * q59 := hq59
          try have hz59 : z59.toInt = z57.toInt + i.toInt := by omega
          refine And.intro (show f_in i 8 from ⟨show 0 ≤ i.toInt from by omega, show i.toInt < 8 from by omega⟩) ?_
          have r65_4 : 0 ≤ (J39 19 (i.toInt.toNat)).toInt ∧ (J39 19 (i.toInt.toNat)).toInt ≤ 11 := hR39c 19 (i.toInt.toNat)
          have e65_5 : (J39 19 (i.toInt.toNat)).toInt = (I 19 (i.toInt.toNat)).toInt := congrArg Int32.toInt (congrFun (hF39c 19 rfl) (i.toInt.toNat))
          refine And.intro (show f_in z59 72 from ⟨show 0 ≤ z59.toInt from by omega, show z59.toInt < 72 from by omega⟩) ?_
          have hR66 := mR_a (k := 57) (j := z59.toInt.toNat) (x := J39 19 (i.toInt.toNat)) hR39c (show 0 ≤ (J39 19 (i.toInt.toNat)).toInt ∧ (J39 19 (i.toInt.toNat)).toInt ≤ 11 from ⟨by omega, by omega⟩)
          have hF66 := f_fr_up (k := 57) (r := upd (J39 57) (z59.toInt.toNat) (J39 19 (i.toInt.toNat))) hF39c rfl
          have hO66 := f_fo_ne (k := 57) (r := upd (J39 57) (z59.toInt.toNat) (J39 19 (i.toInt.toNat))) hO39c (by decide)
          have hmL66 := f_depo_up mL_dep (k := 57) (r := upd (J39 57) (z59.toInt.toNat) (J39 19 (i.toInt.toNat))) hmL39c rfl (by decide)
          have hmK66 := f_depo_up mK_dep (k := 57) (r := upd (J39 57) (z59.toInt.toNat) (J39 19 (i.toInt.toNat))) hmK39c rfl (by decide)
          intro z67 q67 _ hq67 hl67 hu67
          have hq67 : z67.toInt = i.toInt + 1 + 4294967296 * q67 := hq67
          try have hz67 : z67.toInt = i.toInt + 1 := by omega
          have q67 : ∀ j : Nat, ¬ (6 * (I 0 83).toInt ≤ j ∧ (j : Int) < 6 * (I 0 83).toInt + 6) → (upd (J39 57) z59.toInt.toNat (J39 19 i.toInt.toNat)) j = I 57 j := fun j hj => by rw [pk_un (by omega)]; exact u39_7 j hj
          have s67 : ∀ j : Nat, 6 * (I 0 83).toInt ≤ j → (j : Int) < 6 * (I 0 83).toInt + z67.toInt → ((upd (J39 57) z59.toInt.toNat (J39 19 i.toInt.toNat)) j).toInt < (I 9 (I 0 24).toInt.toNat).toInt := fun j h1 h2 => by
            by_cases q : j = z59.toInt.toNat
            · rw [q, pk_us]; exact w47
            · rw [pk_un q]; exact u39_8 j h1 (by omega)
          exact ⟨z67, (by intro q9 h9; simp only [List.mem_cons, List.not_mem_nil, or_false] at h9; rcases h9 with h9 | h9 | h9 <;> subst h9 <;> repeat (first | exact List.mem_cons_self | apply List.mem_cons_of_mem)), rfl, rfl, hR66, hF66, hO66, hmL66, hmK66, (show 0 ≤ z67.toInt from by first | assumption | omega), (show z67.toInt ≤ (I 0 30).toInt from by first | assumption | omega), (show (I 0 30).toInt ≤ 6 from by first | assumption | omega), (show J39 0 83 = I 0 83 from by first | assumption | omega | rfl), (show (I 0 83).toInt ≤ 11 from by first | assumption | omega), (show J39 56 = upd (I 56) (I 0 83).toInt.toNat (I 0 30) from by first | assumption | omega | rfl), (show (∀ j : Nat, ¬ (6 * (I 0 83).toInt ≤ j ∧ (j : Int) < 6 * (I 0 83).toInt + 6) → (upd (J39 57) (z59.toInt.toNat) (J39 19 (i.toInt.toNat))) j = I 57 j) from by first | assumption | omega | exact fun _ _ => rfl | exact fun _ _ => ⟨rfl, rfl⟩ | exact fun _ _ => ⟨rfl, rfl, rfl⟩ | (intro j9 hj9; omega)), (show (∀ j : Nat, 6 * (I 0 83).toInt ≤ j → (j : Int) < 6 * (I 0 83).toInt + z67.toInt → ((upd (J39 57) (z59.toInt.toNat) (J39 19 (i.toInt.toNat))) j).toInt < (I 9 (I 0 24).toInt.toNat).toInt) from by first | assumption | omega | exact fun _ _ => rfl | exact fun _ _ => ⟨rfl, rfl⟩ | exact fun _ _ => ⟨rfl, rfl, rfl⟩ | (intro j9 hj9; omega)), (show (8 - z67.toInt) < n39 from by omega)⟩
    refine f_wp_ok C f_cl flX12_ok fiX12_ok fjX12_ok (sn := none) (fun j h => by cases h) (cs := (fun _ => none)) (cz := (f_cnl [(366, (3, 3, 11, pX12_isIn, qX12_isIn))])) (fun j S h => by cases h) (f_cnl_of (P := fun j S => f_cok pP l eP (f_rm 1) sP mP aP bP hP9 cP mY 71 a cy dC dI 3 _ _ (.invokestatic j) false S) (List.forall_mem_cons.mpr ⟨f_cokS C (mX12_isIn hinj) (List.forall_mem_cons.mpr ⟨(mlX12_ok _ (List.mem_of_getElem? (i := 27) rfl)), kc_X12_isIn⟩) (by decide +kernel) ⟨Nat.le_of_ble_eq_true rfl, Nat.le_of_ble_eq_true rfl⟩, fun _ h => absurd h List.not_mem_nil⟩)) tX12_example_ok (cut := (f_cnl [(39, (fun (ls' : fLs) (st' : List Value) (I' : fM) (L' : fN) => ∃ i : Int32, (∀ q ∈ ([(2, .int i), (1, .int r), (0, .ref 0)] : fLs), q ∈ ls') ∧ st' = [] ∧ L' = L ∧ (mR I' ∧ f_fr [0, 56, 57, 58, 59, 60] I I' ∧ f_fo [83] I I' ∧ mL I' ∧ mK I' ∧ (0 ≤ i.toInt) ∧ (i.toInt ≤ (I 0 30).toInt) ∧ ((I 0 30).toInt ≤ 6) ∧ (I' 0 83 = I 0 83) ∧ ((I 0 83).toInt ≤ 11) ∧ (I' 56 = upd (I 56) (I 0 83).toInt.toNat (I 0 30)) ∧ ((∀ j : Nat, ¬ (6 * (I 0 83).toInt ≤ j ∧ (j : Int) < 6 * (I 0 83).toInt + 6) → I' 57 j = I 57 j)) ∧ ((∀ j : Nat, 6 * (I 0 83).toInt ≤ j → (j : Int) < 6 * (I 0 83).toInt + i.toInt → (I' 57 j).toInt < (I 9 (I 0 24).toInt.toNat).toInt)) ∧ (8 - i.toInt) < 9)))])) (f_cnl_of (P := fun (tQ : Nat) (P : fLs → List Value → fM → fN → Prop) => ∀ ls' st' I' L', P ls' st' I' L' → f_W pP l eP (f_rm 1) sP mP aP bP hP9 cP mY 71 a cy dC dI 3 (f_K 1 (qX12_exampleb [.ref 0, .int r] I L)) tQ ls' st' I' L') (List.forall_mem_cons.mpr ⟨(fun ls' st' I' L' h => by obtain ⟨i, hs, e1, e3, h9⟩ := h; rw [e1, e3]; exact f_W_sub hs (lp39 9 i I' h9)), fun _ h => absurd h List.not_mem_nil⟩)) 22 0 tX12_example tX12_example_ok _ _ _ _ ?_
    have r1_1 : 0 ≤ (I 0 30).toInt ∧ (I 0 30).toInt ≤ 8 := hR 0 30
    refine And.intro trivial ?_
    intro x7 I7 L7 hq7
    have hq7 : I7 = I ∧ L7 = L ∧ ((x7.toInt = 1 ∧ (1 : Int) ≤ (I 0 30).toInt ∧ (I 0 30).toInt ≤ (6 : Int) ∨ x7.toInt = 0 ∧ ((I 0 30).toInt < (1 : Int) ∨ (6 : Int) < (I 0 30).toInt))) := hq7
    obtain ⟨eI7, eL7, c7_2⟩ := hq7
    replace eI7 := eI7.symm
    subst eI7
    replace eL7 := eL7.symm
    subst eL7
    apply And.intro
    · intro h10
      have h10 : x7.toInt = 0 := h10
      exact ⟨hR, hmL, hmK, hmW, hO0, hF0, rfl⟩
    · intro h10
      have h10 : ¬ x7.toInt = 0 := h10
      have r14_2 : 0 ≤ (I 0 83).toInt ∧ (I 0 83).toInt ≤ 12 := hR 0 83
      apply And.intro
      · intro h19
        have h19 : ¬ (I 0 83).toInt = 12 := h19
        refine And.intro (show f_in (I 0 83) 12 from ⟨show 0 ≤ (I 0 83).toInt from by omega, show (I 0 83).toInt < 12 from by omega⟩) ?_
        have hR36 := mR_a (k := 56) (j := (I 0 83).toInt.toNat) (x := I 0 30) hR (show 0 ≤ (I 0 30).toInt ∧ (I 0 30).toInt ≤ 6 from ⟨by omega, by omega⟩)
        have hF36 := f_fr_up (k := 56) (r := upd (I 56) ((I 0 83).toInt.toNat) (I 0 30)) hF0 rfl
        have hO36 := f_fo_ne (k := 56) (r := upd (I 56) ((I 0 83).toInt.toNat) (I 0 30)) hO0 (by decide)
        have hmL36 := f_depo_up mL_dep (k := 56) (r := upd (I 56) ((I 0 83).toInt.toNat) (I 0 30)) hmL rfl (by decide)
        have hmK36 := f_depo_up mK_dep (k := 56) (r := upd (I 56) ((I 0 83).toInt.toNat) (I 0 30)) hmK rfl (by decide)
        exact ⟨Int32.ofInt 0, (by intro q9 h9; simp only [List.mem_cons, List.not_mem_nil, or_false] at h9; rcases h9 with h9 | h9 | h9 <;> subst h9 <;> repeat (first | exact List.mem_cons_self | apply List.mem_cons_of_mem)), rfl, rfl, hR36, hF36, hO36, hmL36, hmK36, (show 0 ≤ (0 : Int) from by first | assumption | omega), (show (0 : Int) ≤ (I 0 30).toInt from by first | assumption | omega), (show (I 0 30).toInt ≤ 6 from by first | assumption | omega), (show I 0 83 = I 0 83 from by first | assumption | omega | rfl), (show (I 0 83).toInt ≤ 11 from by first | assumption | omega), (show (upd (I 56) ((I 0 83).toInt.toNat) (I 0 30)) = upd (I 56) (I 0 83).toInt.toNat (I 0 30) from by first | assumption | omega | rfl), (show (∀ j : Nat, ¬ (6 * (I 0 83).toInt ≤ j ∧ (j : Int) < 6 * (I 0 83).toInt + 6) → I 57 j = I 57 j) from by first | assumption | omega | exact fun _ _ => rfl | exact fun _ _ => ⟨rfl, rfl⟩ | exact fun _ _ => ⟨rfl, rfl, rfl⟩ | (intro j9 hj9; omega)), (show (∀ j : Nat, 6 * (I 0 83).toInt ≤ j → (j : Int) < 6 * (I 0 83).toInt + (0 : Int) → (I 57 j).toInt < (I 9 (I 0 24).toInt.toNat).toInt) from by first | assumption | omega | exact fun _ _ => rfl | exact fun _ _ => ⟨rfl, rfl⟩ | exact fun _ _ => ⟨rfl, rfl, rfl⟩ | (intro j9 hj9; omega)), (show (8 - (0 : Int)) < 9 from by omega)⟩
      · intro h19
        have h19 : (I 0 83).toInt = 12 := h19
        exact ⟨hR, hmL, hmK, hmW, hO0, hF0, rfl⟩
def pX12_imageb (av : List Value) (I : fM) (L : fN) : Prop := match av with
  | [.ref 0, .int b] => mR I ∧ mL I ∧ mK I ∧ mW I
  | _ => False
def qX12_imageb (av : List Value) (I : fM) (L : fN) (r : Value) (I' : fM) (L' : fN) : Prop := match av, r with
  | [.ref 0, .int b], .int x => mR I' ∧ mL I' ∧ mK I' ∧ mW I' ∧ f_fr [63, 64, 65, 66, 67, 68, 69, 70] I I' ∧ L' = L
  | _, _ => False
set_option maxHeartbeats 40000000 in
set_option maxRecDepth 100000 in
theorem mX12_imageb {l : Launch} {a : Nat → Nat} {cy dC : Nat → ClassId} {dI : Nat → Nat → Nat} (hinj : ∀ i j, i < 71 → j < 71 → a i = a j → i = j) : f_Met (fun _ => True) l mY 71 a cy dC dI yX12_image cX12_image 5 1 1 pX12_imageb qX12_imageb := by
  refine f_met_of (f_Ec_T 71 a) hinj mY_hi (by decide) (fun av I L h => by unfold pX12_imageb at h; split at h <;> first | exact Nat.le_of_ble_eq_true rfl | exact h.elim) ?_
  intro pP eP sP mP aP bP hP9 cP C av I L hp
  unfold pX12_imageb at hp
  split at hp
  case h_2 => exact hp.elim
  case h_1 b =>
    obtain ⟨hR, hmL, hmK, hmW⟩ := hp
    have hx : 0 ≤ (I 0 83).toInt ∧ (I 0 83).toInt ≤ 12 := hR 0 83
    have hF0 : f_fr [63, 64, 65, 66, 67, 68, 69, 70] I I := f_fr_rf
    have lp64 : ∀ (n64 : Nat), ∀ (n : Int32) (J64 : fM), mR J64 ∧ f_fr [63, 64, 65, 66, 67, 68, 69, 70] I J64 ∧ mL J64 ∧ mK J64 ∧ (0 ≤ b.toInt) ∧ (b.toInt ≤ 2) ∧ (0 ≤ n.toInt) ∧ (n.toInt ≤ (I 0 83).toInt) ∧ (J64 63 = upd (I 63) b.toInt.toNat (I 0 83)) ∧ (J64 64 = upd (I 64) b.toInt.toNat (I 0 30)) ∧ ((∀ j : Nat, ¬ (8 * b.toInt ≤ j ∧ (j : Int) < 8 * b.toInt + 8) → J64 65 j = I 65 j)) ∧ ((∀ j : Nat, ¬ (12 * b.toInt ≤ j ∧ (j : Int) < 12 * b.toInt + 12) → J64 66 j = I 66 j)) ∧ ((∀ j : Nat, ¬ (72 * b.toInt ≤ j ∧ (j : Int) < 72 * b.toInt + 72) → J64 67 j = I 67 j)) ∧ ((∀ j : Nat, 8 * b.toInt ≤ j → (j : Int) < 8 * b.toInt + 8 → J64 65 j = I 19 (j - 8 * b.toInt.toNat))) ∧ ((∀ j : Nat, 12 * b.toInt ≤ j → (j : Int) < 12 * b.toInt + n.toInt → J64 66 j = I 56 (j - 12 * b.toInt.toNat))) ∧ ((∀ j : Nat, 72 * b.toInt ≤ j → (j : Int) < 72 * b.toInt + 6 * n.toInt → J64 67 j = I 57 (j - 72 * b.toInt.toNat))) ∧ (12 - n.toInt) < n64 → f_W pP l eP (f_rm 1) sP mP aP bP hP9 cP mY 71 a cy dC dI 5 (f_K 1 (qX12_imageb [.ref 0, .int b] I L)) 64 [(2, .int n), (1, .int b), (0, .ref 0)] [] J64 L := by
      intro n64
      induction n64 with
      | zero =>
        intro n J64 h9
        obtain ⟨hR64c, hF64c, hmL64c, hmK64c, u64_1, u64_2, u64_3, u64_4, u64_5, u64_6, u64_7, u64_8, u64_9, u64_10, u64_11, u64_12, hm64⟩ := h9
        omega
      | succ n64 ih64 =>
        intro n J64 h9
        obtain ⟨hR64c, hF64c, hmL64c, hmK64c, u64_1, u64_2, u64_3, u64_4, u64_5, u64_6, u64_7, u64_8, u64_9, u64_10, u64_11, u64_12, hm64⟩ := h9
        have f64 : (J64 0 83).toInt = (I 0 83).toInt := congrArg Int32.toInt (congrFun (hF64c 0 rfl) 83)
        have lp130 : ∀ (n130 : Nat), ∀ (k : Int32) (i : Int32) (J130 : fM), mR J130 ∧ f_fr [63, 64, 65, 66, 67, 68, 69, 70] I J130 ∧ mL J130 ∧ mK J130 ∧ (n.toInt < (I 0 83).toInt) ∧ (k.toInt = 12 * b.toInt + n.toInt) ∧ (0 ≤ i.toInt) ∧ (i.toInt ≤ 6) ∧ (J130 63 = upd (I 63) b.toInt.toNat (I 0 83)) ∧ (J130 64 = upd (I 64) b.toInt.toNat (I 0 30)) ∧ ((∀ j : Nat, ¬ (8 * b.toInt ≤ j ∧ (j : Int) < 8 * b.toInt + 8) → J130 65 j = I 65 j)) ∧ ((∀ j : Nat, ¬ (12 * b.toInt ≤ j ∧ (j : Int) < 12 * b.toInt + 12) → J130 66 j = I 66 j)) ∧ ((∀ j : Nat, ¬ (72 * b.toInt ≤ j ∧ (j : Int) < 72 * b.toInt + 72) → J130 67 j = I 67 j)) ∧ ((∀ j : Nat, 8 * b.toInt ≤ j → (j : Int) < 8 * b.toInt + 8 → J130 65 j = I 19 (j - 8 * b.toInt.toNat))) ∧ ((∀ j : Nat, 12 * b.toInt ≤ j → (j : Int) < 12 * b.toInt + n.toInt + 1 → J130 66 j = I 56 (j - 12 * b.toInt.toNat))) ∧ ((∀ j : Nat, 72 * b.toInt ≤ j → (j : Int) < 72 * b.toInt + 6 * n.toInt + i.toInt → J130 67 j = I 57 (j - 72 * b.toInt.toNat))) ∧ (6 - i.toInt) < n130 → f_W pP l eP (f_rm 1) sP mP aP bP hP9 cP mY 71 a cy dC dI 5 (f_K 1 (qX12_imageb [.ref 0, .int b] I L)) 130 [(4, .int i), (3, .int k), (2, .int n), (1, .int b), (0, .ref 0)] [] J130 L := by
          intro n130
          induction n130 with
          | zero =>
            intro k i J130 h9
            obtain ⟨hR130c, hF130c, hmL130c, hmK130c, u130_1, u130_2, u130_3, u130_4, u130_5, u130_6, u130_7, u130_8, u130_9, u130_10, u130_11, u130_12, hm130⟩ := h9
            omega
          | succ n130 ih130 =>
            intro k i J130 h9
            obtain ⟨hR130c, hF130c, hmL130c, hmK130c, u130_1, u130_2, u130_3, u130_4, u130_5, u130_6, u130_7, u130_8, u130_9, u130_10, u130_11, u130_12, hm130⟩ := h9
            refine f_wp_ok C f_cl flX12_ok fiX12_ok fjX12_ok (sn := none) (fun j h => by cases h) (cs := (fun _ => none)) (cz := (f_cnl [(366, (3, 3, 11, pX12_isIn, qX12_isIn))])) (fun j S h => by cases h) (f_cnl_of (P := fun j S => f_cok pP l eP (f_rm 1) sP mP aP bP hP9 cP mY 71 a cy dC dI 5 _ _ (.invokestatic j) false S) (List.forall_mem_cons.mpr ⟨f_cokS C (mX12_isIn hinj) (List.forall_mem_cons.mpr ⟨(mlX12_ok _ (List.mem_of_getElem? (i := 27) rfl)), kc_X12_isIn⟩) (by decide +kernel) ⟨Nat.le_of_ble_eq_true rfl, Nat.le_of_ble_eq_true rfl⟩, fun _ h => absurd h List.not_mem_nil⟩)) tX12_image_ok (cut := (f_cnl [(64, (fun (ls' : fLs) (st' : List Value) (I' : fM) (L' : fN) => ∃ n : Int32, (∀ q ∈ ([(2, .int n), (1, .int b), (0, .ref 0)] : fLs), q ∈ ls') ∧ st' = [] ∧ L' = L ∧ (mR I' ∧ f_fr [63, 64, 65, 66, 67, 68, 69, 70] I I' ∧ mL I' ∧ mK I' ∧ (0 ≤ b.toInt) ∧ (b.toInt ≤ 2) ∧ (0 ≤ n.toInt) ∧ (n.toInt ≤ (I 0 83).toInt) ∧ (I' 63 = upd (I 63) b.toInt.toNat (I 0 83)) ∧ (I' 64 = upd (I 64) b.toInt.toNat (I 0 30)) ∧ ((∀ j : Nat, ¬ (8 * b.toInt ≤ j ∧ (j : Int) < 8 * b.toInt + 8) → I' 65 j = I 65 j)) ∧ ((∀ j : Nat, ¬ (12 * b.toInt ≤ j ∧ (j : Int) < 12 * b.toInt + 12) → I' 66 j = I 66 j)) ∧ ((∀ j : Nat, ¬ (72 * b.toInt ≤ j ∧ (j : Int) < 72 * b.toInt + 72) → I' 67 j = I 67 j)) ∧ ((∀ j : Nat, 8 * b.toInt ≤ j → (j : Int) < 8 * b.toInt + 8 → I' 65 j = I 19 (j - 8 * b.toInt.toNat))) ∧ ((∀ j : Nat, 12 * b.toInt ≤ j → (j : Int) < 12 * b.toInt + n.toInt → I' 66 j = I 56 (j - 12 * b.toInt.toNat))) ∧ ((∀ j : Nat, 72 * b.toInt ≤ j → (j : Int) < 72 * b.toInt + 6 * n.toInt → I' 67 j = I 57 (j - 72 * b.toInt.toNat))) ∧ (12 - n.toInt) < n64))), (130, (fun (ls' : fLs) (st' : List Value) (I' : fM) (L' : fN) => ∃ k : Int32, ∃ i : Int32, (∀ q ∈ ([(4, .int i), (3, .int k), (2, .int n), (1, .int b), (0, .ref 0)] : fLs), q ∈ ls') ∧ st' = [] ∧ L' = L ∧ (mR I' ∧ f_fr [63, 64, 65, 66, 67, 68, 69, 70] I I' ∧ mL I' ∧ mK I' ∧ (n.toInt < (I 0 83).toInt) ∧ (k.toInt = 12 * b.toInt + n.toInt) ∧ (0 ≤ i.toInt) ∧ (i.toInt ≤ 6) ∧ (I' 63 = upd (I 63) b.toInt.toNat (I 0 83)) ∧ (I' 64 = upd (I 64) b.toInt.toNat (I 0 30)) ∧ ((∀ j : Nat, ¬ (8 * b.toInt ≤ j ∧ (j : Int) < 8 * b.toInt + 8) → I' 65 j = I 65 j)) ∧ ((∀ j : Nat, ¬ (12 * b.toInt ≤ j ∧ (j : Int) < 12 * b.toInt + 12) → I' 66 j = I 66 j)) ∧ ((∀ j : Nat, ¬ (72 * b.toInt ≤ j ∧ (j : Int) < 72 * b.toInt + 72) → I' 67 j = I 67 j)) ∧ ((∀ j : Nat, 8 * b.toInt ≤ j → (j : Int) < 8 * b.toInt + 8 → I' 65 j = I 19 (j - 8 * b.toInt.toNat))) ∧ ((∀ j : Nat, 12 * b.toInt ≤ j → (j : Int) < 12 * b.toInt + n.toInt + 1 → I' 66 j = I 56 (j - 12 * b.toInt.toNat))) ∧ ((∀ j : Nat, 72 * b.toInt ≤ j → (j : Int) < 72 * b.toInt + 6 * n.toInt + i.toInt → I' 67 j = I 57 (j - 72 * b.toInt.toNat))) ∧ (6 - i.toInt) < n130)))])) (f_cnl_of (P := fun (tQ : Nat) (P : fLs → List Value → fM → fN → Prop) => ∀ ls' st' I' L', P ls' st' I' L' → f_W pP l eP (f_rm 1) sP mP aP bP hP9 cP mY 71 a cy dC dI 5 (f_K 1 (qX12_imageb [.ref 0, .int b] I L)) tQ ls' st' I' L') (List.forall_mem_cons.mpr ⟨(fun ls' st' I' L' h => by obtain ⟨n, hs, e1, e3, h9⟩ := h; rw [e1, e3]; exact f_W_sub hs (ih64 n I' h9)), List.forall_mem_cons.mpr ⟨(fun ls' st' I' L' h => by obtain ⟨k, i, hs, e1, e3, h9⟩ := h; rw [e1, e3]; exact f_W_sub hs (ih130 k i I' h9)), fun _ h => absurd h List.not_mem_nil⟩⟩)) 24 130 (f_seek 130 0 tX12_image) (f_seek_ok 130 0 tX12_image tX12_image_ok) _ _ _ _ ?_
            apply And.intro
            · intro h134
              have h134 : 6 ≤ i.toInt := h134
              intro z167 q167 _ hq167 hl167 hu167
              have hq167 : z167.toInt = n.toInt + 1 + 4294967296 * q167 := hq167
              try have hz167 : z167.toInt = n.toInt + 1 := by omega
              have q167 : ∀ j : Nat, 12 * b.toInt ≤ j → (j : Int) < 12 * b.toInt + z167.toInt → J130 66 j = I 56 (j - 12 * b.toInt.toNat) := fun j h1 h2 => u130_11 j h1 (by omega)
              have r167 : ∀ j : Nat, 72 * b.toInt ≤ j → (j : Int) < 72 * b.toInt + 6 * z167.toInt → J130 67 j = I 57 (j - 72 * b.toInt.toNat) := fun j h1 h2 => u130_12 j h1 (by omega)
              exact ⟨z167, (by intro q9 h9; simp only [List.mem_cons, List.not_mem_nil, or_false] at h9; rcases h9 with h9 | h9 | h9 <;> subst h9 <;> repeat (first | exact List.mem_cons_self | apply List.mem_cons_of_mem)), rfl, rfl, hR130c, hF130c, hmL130c, hmK130c, (show 0 ≤ b.toInt from by first | assumption | omega), (show b.toInt ≤ 2 from by first | assumption | omega), (show 0 ≤ z167.toInt from by first | assumption | omega), (show z167.toInt ≤ (I 0 83).toInt from by first | assumption | omega), (show J130 63 = upd (I 63) b.toInt.toNat (I 0 83) from by first | assumption | omega | rfl), (show J130 64 = upd (I 64) b.toInt.toNat (I 0 30) from by first | assumption | omega | rfl), (show (∀ j : Nat, ¬ (8 * b.toInt ≤ j ∧ (j : Int) < 8 * b.toInt + 8) → J130 65 j = I 65 j) from by first | assumption | omega | exact fun _ _ => rfl | exact fun _ _ => ⟨rfl, rfl⟩ | exact fun _ _ => ⟨rfl, rfl, rfl⟩ | (intro j9 hj9; omega)), (show (∀ j : Nat, ¬ (12 * b.toInt ≤ j ∧ (j : Int) < 12 * b.toInt + 12) → J130 66 j = I 66 j) from by first | assumption | omega | exact fun _ _ => rfl | exact fun _ _ => ⟨rfl, rfl⟩ | exact fun _ _ => ⟨rfl, rfl, rfl⟩ | (intro j9 hj9; omega)), (show (∀ j : Nat, ¬ (72 * b.toInt ≤ j ∧ (j : Int) < 72 * b.toInt + 72) → J130 67 j = I 67 j) from by first | assumption | omega | exact fun _ _ => rfl | exact fun _ _ => ⟨rfl, rfl⟩ | exact fun _ _ => ⟨rfl, rfl, rfl⟩ | (intro j9 hj9; omega)), (show (∀ j : Nat, 8 * b.toInt ≤ j → (j : Int) < 8 * b.toInt + 8 → J130 65 j = I 19 (j - 8 * b.toInt.toNat)) from by first | assumption | omega | exact fun _ _ => rfl | exact fun _ _ => ⟨rfl, rfl⟩ | exact fun _ _ => ⟨rfl, rfl, rfl⟩ | (intro j9 hj9; omega)), (show (∀ j : Nat, 12 * b.toInt ≤ j → (j : Int) < 12 * b.toInt + z167.toInt → J130 66 j = I 56 (j - 12 * b.toInt.toNat)) from by first | assumption | omega | exact fun _ _ => rfl | exact fun _ _ => ⟨rfl, rfl⟩ | exact fun _ _ => ⟨rfl, rfl, rfl⟩ | (intro j9 hj9; omega)), (show (∀ j : Nat, 72 * b.toInt ≤ j → (j : Int) < 72 * b.toInt + 6 * z167.toInt → J130 67 j = I 57 (j - 72 * b.toInt.toNat)) from by first | assumption | omega | exact fun _ _ => rfl | exact fun _ _ => ⟨rfl, rfl⟩ | exact fun _ _ => ⟨rfl, rfl, rfl⟩ | (intro j9 hj9; omega)), (show (12 - z167.toInt) < n64 from by omega)⟩
            · intro h134
              have h134 : i.toInt < 6 := h134
              intro z144 q144 _ hq144 hl144 hu144
              have hq144 : z144.toInt = 6 * k.toInt + 4294967296 * q144 := hq144
              try have hz144 : z144.toInt = 6 * k.toInt := by omega
              intro z147 q147 _ hq147 hl147 hu147
              have hq147 : z147.toInt = z144.toInt + i.toInt + 4294967296 * q147 := hq147
              try have hz147 : z147.toInt = z144.toInt + i.toInt := by omega
              intro z155 q155 _ hq155 hl155 hu155
              have hq155 : z155.toInt = 6 * n.toInt + 4294967296 * q155 := hq155
              try have hz155 : z155.toInt = 6 * n.toInt := by omega
              intro z158 q158 _ hq158 hl158 hu158
              have hq158 : z158.toInt = z155.toInt + i.toInt + 4294967296 * q158 := hq158
              try have hz158 : z158.toInt = z155.toInt + i.toInt := by omega
              refine And.intro (show f_in z158 72 from ⟨show 0 ≤ z158.toInt from by omega, show z158.toInt < 72 from by omega⟩) ?_
              have r159_1 : 0 ≤ (J130 57 (z158.toInt.toNat)).toInt ∧ (J130 57 (z158.toInt.toNat)).toInt ≤ 11 := hR130c 57 (z158.toInt.toNat)
              have e159_2 : (J130 57 (z158.toInt.toNat)).toInt = (I 57 (z158.toInt.toNat)).toInt := congrArg Int32.toInt (congrFun (hF130c 57 rfl) (z158.toInt.toNat))
              refine And.intro (show f_in z147 216 from ⟨show 0 ≤ z147.toInt from by omega, show z147.toInt < 216 from by omega⟩) ?_
              have hR160 := mR_a (k := 67) (j := z147.toInt.toNat) (x := J130 57 (z158.toInt.toNat)) hR130c (show 0 ≤ (J130 57 (z158.toInt.toNat)).toInt ∧ (J130 57 (z158.toInt.toNat)).toInt ≤ 11 from ⟨by omega, by omega⟩)
              have hF160 := f_fr_up (k := 67) (r := upd (J130 67) (z147.toInt.toNat) (J130 57 (z158.toInt.toNat))) hF130c rfl
              have hmL160 := f_depo_up mL_dep (k := 67) (r := upd (J130 67) (z147.toInt.toNat) (J130 57 (z158.toInt.toNat))) hmL130c rfl (by decide)
              have hmK160 := f_depo_up mK_dep (k := 67) (r := upd (J130 67) (z147.toInt.toNat) (J130 57 (z158.toInt.toNat))) hmK130c rfl (by decide)
              intro z161 q161 _ hq161 hl161 hu161
              have hq161 : z161.toInt = i.toInt + 1 + 4294967296 * q161 := hq161
              try have hz161 : z161.toInt = i.toInt + 1 := by omega
              have q161 : ∀ j : Nat, ¬ (72 * b.toInt ≤ j ∧ (j : Int) < 72 * b.toInt + 72) → (upd (J130 67) z147.toInt.toNat (J130 57 z158.toInt.toNat)) j = I 67 j := fun j hj => by rw [pk_un (by omega)]; exact u130_9 j hj
              have r161 : ∀ j : Nat, 72 * b.toInt ≤ j → (j : Int) < 72 * b.toInt + 6 * n.toInt + z161.toInt → (upd (J130 67) z147.toInt.toNat (J130 57 z158.toInt.toNat)) j = I 57 (j - 72 * b.toInt.toNat) := fun j h1 h2 => by
                by_cases q : j = z147.toInt.toNat
                · rw [q, pk_us, hF130c 57 rfl, show z147.toInt.toNat - 72 * b.toInt.toNat = z158.toInt.toNat by omega]
                · rw [pk_un q]; exact u130_12 j h1 (by omega)
              exact ⟨k, z161, (by intro q9 h9; simp only [List.mem_cons, List.not_mem_nil, or_false] at h9; rcases h9 with h9 | h9 | h9 | h9 | h9 <;> subst h9 <;> repeat (first | exact List.mem_cons_self | apply List.mem_cons_of_mem)), rfl, rfl, hR160, hF160, hmL160, hmK160, (show n.toInt < (I 0 83).toInt from by first | assumption | omega), (show k.toInt = 12 * b.toInt + n.toInt from by first | assumption | omega | rfl), (show 0 ≤ z161.toInt from by first | assumption | omega), (show z161.toInt ≤ 6 from by first | assumption | omega), (show J130 63 = upd (I 63) b.toInt.toNat (I 0 83) from by first | assumption | omega | rfl), (show J130 64 = upd (I 64) b.toInt.toNat (I 0 30) from by first | assumption | omega | rfl), (show (∀ j : Nat, ¬ (8 * b.toInt ≤ j ∧ (j : Int) < 8 * b.toInt + 8) → J130 65 j = I 65 j) from by first | assumption | omega | exact fun _ _ => rfl | exact fun _ _ => ⟨rfl, rfl⟩ | exact fun _ _ => ⟨rfl, rfl, rfl⟩ | (intro j9 hj9; omega)), (show (∀ j : Nat, ¬ (12 * b.toInt ≤ j ∧ (j : Int) < 12 * b.toInt + 12) → J130 66 j = I 66 j) from by first | assumption | omega | exact fun _ _ => rfl | exact fun _ _ => ⟨rfl, rfl⟩ | exact fun _ _ => ⟨rfl, rfl, rfl⟩ | (intro j9 hj9; omega)), (show (∀ j : Nat, ¬ (72 * b.toInt ≤ j ∧ (j : Int) < 72 * b.toInt + 72) → (upd (J130 67) (z147.toInt.toNat) (J130 57 (z158.toInt.toNat))) j = I 67 j) from by first | assumption | omega | exact fun _ _ => rfl | exact fun _ _ => ⟨rfl, rfl⟩ | exact fun _ _ => ⟨rfl, rfl, rfl⟩ | (intro j9 hj9; omega)), (show (∀ j : Nat, 8 * b.toInt ≤ j → (j : Int) < 8 * b.toInt + 8 → J130 65 j = I 19 (j - 8 * b.toInt.toNat)) from by first | assumption | omega | exact fun _ _ => rfl | exact fun _ _ => ⟨rfl, rfl⟩ | exact fun _ _ => ⟨rfl, rfl, rfl⟩ | (intro j9 hj9; omega)), (show (∀ j : Nat, 12 * b.toInt ≤ j → (j : Int) < 12 * b.toInt + n.toInt + 1 → J130 66 j = I 56 (j - 12 * b.toInt.toNat)) from by first | assumption | omega | exact fun _ _ => rfl | exact fun _ _ => ⟨rfl, rfl⟩ | exact fun _ _ => ⟨rfl, rfl, rfl⟩ | (intro j9 hj9; omega)), (show (∀ j : Nat, 72 * b.toInt ≤ j → (j : Int) < 72 * b.toInt + 6 * n.toInt + z161.toInt → (upd (J130 67) (z147.toInt.toNat) (J130 57 (z158.toInt.toNat))) j = I 57 (j - 72 * b.toInt.toNat)) from by first | assumption | omega | exact fun _ _ => rfl | exact fun _ _ => ⟨rfl, rfl⟩ | exact fun _ _ => ⟨rfl, rfl, rfl⟩ | (intro j9 hj9; omega)), (show (6 - z161.toInt) < n130 from by omega)⟩
        refine f_wp_ok C f_cl flX12_ok fiX12_ok fjX12_ok (sn := none) (fun j h => by cases h) (cs := (fun _ => none)) (cz := (f_cnl [(366, (3, 3, 11, pX12_isIn, qX12_isIn))])) (fun j S h => by cases h) (f_cnl_of (P := fun j S => f_cok pP l eP (f_rm 1) sP mP aP bP hP9 cP mY 71 a cy dC dI 5 _ _ (.invokestatic j) false S) (List.forall_mem_cons.mpr ⟨f_cokS C (mX12_isIn hinj) (List.forall_mem_cons.mpr ⟨(mlX12_ok _ (List.mem_of_getElem? (i := 27) rfl)), kc_X12_isIn⟩) (by decide +kernel) ⟨Nat.le_of_ble_eq_true rfl, Nat.le_of_ble_eq_true rfl⟩, fun _ h => absurd h List.not_mem_nil⟩)) tX12_image_ok (cut := (f_cnl [(130, (fun (ls' : fLs) (st' : List Value) (I' : fM) (L' : fN) => ∃ k : Int32, ∃ i : Int32, (∀ q ∈ ([(4, .int i), (3, .int k), (2, .int n), (1, .int b), (0, .ref 0)] : fLs), q ∈ ls') ∧ st' = [] ∧ L' = L ∧ (mR I' ∧ f_fr [63, 64, 65, 66, 67, 68, 69, 70] I I' ∧ mL I' ∧ mK I' ∧ (n.toInt < (I 0 83).toInt) ∧ (k.toInt = 12 * b.toInt + n.toInt) ∧ (0 ≤ i.toInt) ∧ (i.toInt ≤ 6) ∧ (I' 63 = upd (I 63) b.toInt.toNat (I 0 83)) ∧ (I' 64 = upd (I 64) b.toInt.toNat (I 0 30)) ∧ ((∀ j : Nat, ¬ (8 * b.toInt ≤ j ∧ (j : Int) < 8 * b.toInt + 8) → I' 65 j = I 65 j)) ∧ ((∀ j : Nat, ¬ (12 * b.toInt ≤ j ∧ (j : Int) < 12 * b.toInt + 12) → I' 66 j = I 66 j)) ∧ ((∀ j : Nat, ¬ (72 * b.toInt ≤ j ∧ (j : Int) < 72 * b.toInt + 72) → I' 67 j = I 67 j)) ∧ ((∀ j : Nat, 8 * b.toInt ≤ j → (j : Int) < 8 * b.toInt + 8 → I' 65 j = I 19 (j - 8 * b.toInt.toNat))) ∧ ((∀ j : Nat, 12 * b.toInt ≤ j → (j : Int) < 12 * b.toInt + n.toInt + 1 → I' 66 j = I 56 (j - 12 * b.toInt.toNat))) ∧ ((∀ j : Nat, 72 * b.toInt ≤ j → (j : Int) < 72 * b.toInt + 6 * n.toInt + i.toInt → I' 67 j = I 57 (j - 72 * b.toInt.toNat))) ∧ (6 - i.toInt) < 7)))])) (f_cnl_of (P := fun (tQ : Nat) (P : fLs → List Value → fM → fN → Prop) => ∀ ls' st' I' L', P ls' st' I' L' → f_W pP l eP (f_rm 1) sP mP aP bP hP9 cP mY 71 a cy dC dI 5 (f_K 1 (qX12_imageb [.ref 0, .int b] I L)) tQ ls' st' I' L') (List.forall_mem_cons.mpr ⟨(fun ls' st' I' L' h => by obtain ⟨k, i, hs, e1, e3, h9⟩ := h; rw [e1, e3]; exact f_W_sub hs (lp130 7 k i I' h9)), fun _ h => absurd h List.not_mem_nil⟩)) 47 64 (f_seek 64 0 tX12_image) (f_seek_ok 64 0 tX12_image tX12_image_ok) _ _ _ _ ?_
        have r66_1 : 0 ≤ (J64 0 83).toInt ∧ (J64 0 83).toInt ≤ 12 := hR64c 0 83
        have e66_2 : (J64 0 83).toInt = (I 0 83).toInt := congrArg Int32.toInt (congrFun (hF64c 0 rfl) 83)
        apply And.intro
        · intro h69
          have h69 : (J64 0 83).toInt ≤ n.toInt := h69
          have hmW173 : mW J64 := by
            have m30 : (I 0 30).toInt ≤ 8 := (hR 0 30).2
            have m56 : ∀ j, (I 56 j).toInt ≤ 6 := fun j => (hR 56 j).2
            have m66 : ∀ j, (I 66 j).toInt ≤ 6 := fun j => (hR 66 j).2
            have m63 : ∀ j, (I 63 j).toInt ≤ 12 := fun j => (hR 63 j).2
            have m64 : ∀ j, (I 64 j).toInt ≤ 8 := fun j => (hR 64 j).2
            unfold mW
            rw [congrFun (hF64c 0 rfl) 24, congrFun (hF64c 0 rfl) 30, congrFun (hF64c 0 rfl) 83, hF64c 9 rfl, hF64c 19 rfl, hF64c 56 rfl, hF64c 57 rfl]
            refine ⟨hmW.1, hmW.2.1, fun c hc h0 => ?_⟩
            rw [u64_5] at h0
            rw [u64_5, u64_6]
            by_cases q : c = b.toInt.toNat
            · subst q
              rw [pk_us, pk_us]
              refine ⟨fun j h1 h2 => ?_, fun m j h1 h2 h3 h4 => ?_⟩
              · rw [u64_10 j (by omega) (by omega)]
                exact hmW.1 _ (by omega)
              · rw [u64_11 m (by omega) (by omega)] at h4
                have := m56 (m - 12 * b.toInt.toNat)
                rw [u64_12 j (by omega) (by omega)]
                exact hmW.2.1 (m - 12 * b.toInt.toNat) (j - 72 * b.toInt.toNat) (by omega) (by omega) (by omega)
            · rw [pk_un q] at h0
              rw [pk_un q, pk_un q]
              have := m63 c
              have := m64 c
              refine ⟨fun j h1 h2 => ?_, fun m j h1 h2 h3 h4 => ?_⟩
              · rw [u64_7 j (by omega)]
                exact (hmW.2.2 c hc h0).1 j h1 h2
              · rw [u64_8 m (by omega)] at h4
                have := m66 m
                rw [u64_9 j (by omega)]
                exact (hmW.2.2 c hc h0).2 m j h1 h2 h3 h4
          exact ⟨hR64c, hmL64c, hmK64c, (by assumption), hF64c, rfl⟩
        · intro h69
          have h69 : n.toInt < (J64 0 83).toInt := h69
          intro z75 q75 _ hq75 hl75 hu75
          have hq75 : z75.toInt = 12 * b.toInt + 4294967296 * q75 := hq75
          try have hz75 : z75.toInt = 12 * b.toInt := by omega
          intro z77 q77 _ hq77 hl77 hu77
          have hq77 : z77.toInt = z75.toInt + n.toInt + 4294967296 * q77 := hq77
          try have hz77 : z77.toInt = z75.toInt + n.toInt := by omega
          refine And.intro (show f_in n 12 from ⟨show 0 ≤ n.toInt from by omega, show n.toInt < 12 from by omega⟩) ?_
          have r89_3 : 0 ≤ (J64 56 (n.toInt.toNat)).toInt ∧ (J64 56 (n.toInt.toNat)).toInt ≤ 6 := hR64c 56 (n.toInt.toNat)
          have e89_4 : (J64 56 (n.toInt.toNat)).toInt = (I 56 (n.toInt.toNat)).toInt := congrArg Int32.toInt (congrFun (hF64c 56 rfl) (n.toInt.toNat))
          refine And.intro (show f_in z77 36 from ⟨show 0 ≤ z77.toInt from by omega, show z77.toInt < 36 from by omega⟩) ?_
          have hR90 := mR_a (k := 66) (j := z77.toInt.toNat) (x := J64 56 (n.toInt.toNat)) hR64c (show 0 ≤ (J64 56 (n.toInt.toNat)).toInt ∧ (J64 56 (n.toInt.toNat)).toInt ≤ 6 from ⟨by omega, by omega⟩)
          have hF90 := f_fr_up (k := 66) (r := upd (J64 66) (z77.toInt.toNat) (J64 56 (n.toInt.toNat))) hF64c rfl
          have hmL90 := f_depo_up mL_dep (k := 66) (r := upd (J64 66) (z77.toInt.toNat) (J64 56 (n.toInt.toNat))) hmL64c rfl (by decide)
          have hmK90 := f_depo_up mK_dep (k := 66) (r := upd (J64 66) (z77.toInt.toNat) (J64 56 (n.toInt.toNat))) hmK64c rfl (by decide)
          have q90 : ∀ j : Nat, ¬ (12 * b.toInt ≤ j ∧ (j : Int) < 12 * b.toInt + 12) → (upd (J64 66) z77.toInt.toNat (J64 56 n.toInt.toNat)) j = I 66 j := fun j hj => by rw [pk_un (by omega)]; exact u64_8 j hj
          have r90 : ∀ j : Nat, 12 * b.toInt ≤ j → (j : Int) < 12 * b.toInt + n.toInt + 1 → (upd (J64 66) z77.toInt.toNat (J64 56 n.toInt.toNat)) j = I 56 (j - 12 * b.toInt.toNat) := fun j h1 h2 => by
            by_cases q : j = z77.toInt.toNat
            · rw [q, pk_us, hF64c 56 rfl, show z77.toInt.toNat - 12 * b.toInt.toNat = n.toInt.toNat by omega]
            · rw [pk_un q]; exact u64_11 j h1 (by omega)
          have t90 : ∀ j : Nat, 72 * b.toInt ≤ j → (j : Int) < 72 * b.toInt + 6 * n.toInt + (0 : Int) → J64 67 j = I 57 (j - 72 * b.toInt.toNat) := fun j h1 h2 => u64_12 j h1 (by omega)
          refine And.intro (show f_in n 12 from ⟨show 0 ≤ n.toInt from by omega, show n.toInt < 12 from by omega⟩) ?_
          have e101_6 : (J64 58 (n.toInt.toNat)).toInt = (I 58 (n.toInt.toNat)).toInt := congrArg Int32.toInt (congrFun (hF64c 58 rfl) (n.toInt.toNat))
          refine And.intro (show f_in z77 36 from ⟨show 0 ≤ z77.toInt from by omega, show z77.toInt < 36 from by omega⟩) ?_
          have hR102 := mR_a (k := 68) (j := z77.toInt.toNat) (x := J64 58 (n.toInt.toNat)) hR90 (by exact f_rng _)
          have hF102 := f_fr_up (k := 68) (r := upd (J64 68) (z77.toInt.toNat) (J64 58 (n.toInt.toNat))) hF90 rfl
          have hmL102 := f_depo_up mL_dep (k := 68) (r := upd (J64 68) (z77.toInt.toNat) (J64 58 (n.toInt.toNat))) hmL90 rfl (by decide)
          have hmK102 := f_depo_up mK_dep (k := 68) (r := upd (J64 68) (z77.toInt.toNat) (J64 58 (n.toInt.toNat))) hmK90 rfl (by decide)
          refine And.intro (show f_in n 12 from ⟨show 0 ≤ n.toInt from by omega, show n.toInt < 12 from by omega⟩) ?_
          have e113_8 : (J64 59 (n.toInt.toNat)).toInt = (I 59 (n.toInt.toNat)).toInt := congrArg Int32.toInt (congrFun (hF64c 59 rfl) (n.toInt.toNat))
          refine And.intro (show f_in z77 36 from ⟨show 0 ≤ z77.toInt from by omega, show z77.toInt < 36 from by omega⟩) ?_
          have hR114 := mR_a (k := 69) (j := z77.toInt.toNat) (x := J64 59 (n.toInt.toNat)) hR102 (by exact f_rng _)
          have hF114 := f_fr_up (k := 69) (r := upd (J64 69) (z77.toInt.toNat) (J64 59 (n.toInt.toNat))) hF102 rfl
          have hmL114 := f_depo_up mL_dep (k := 69) (r := upd (J64 69) (z77.toInt.toNat) (J64 59 (n.toInt.toNat))) hmL102 rfl (by decide)
          have hmK114 := f_depo_up mK_dep (k := 69) (r := upd (J64 69) (z77.toInt.toNat) (J64 59 (n.toInt.toNat))) hmK102 rfl (by decide)
          refine And.intro (show f_in n 12 from ⟨show 0 ≤ n.toInt from by omega, show n.toInt < 12 from by omega⟩) ?_
          have e125_10 : (J64 60 (n.toInt.toNat)).toInt = (I 60 (n.toInt.toNat)).toInt := congrArg Int32.toInt (congrFun (hF64c 60 rfl) (n.toInt.toNat))
          refine And.intro (show f_in z77 36 from ⟨show 0 ≤ z77.toInt from by omega, show z77.toInt < 36 from by omega⟩) ?_
          have nb126 : 0 ≤ (vp_nar .boolean (J64 60 (n.toInt.toNat))).toInt ∧ (vp_nar .boolean (J64 60 (n.toInt.toNat))).toInt ≤ 1 := f_narb _
          have hR126 := mR_a (k := 70) (j := z77.toInt.toNat) (x := vp_nar .boolean (J64 60 (n.toInt.toNat))) hR114 (by exact f_rng _)
          have hF126 := f_fr_up (k := 70) (r := upd (J64 70) (z77.toInt.toNat) (vp_nar .boolean (J64 60 (n.toInt.toNat)))) hF114 rfl
          have hmL126 := f_depo_up mL_dep (k := 70) (r := upd (J64 70) (z77.toInt.toNat) (vp_nar .boolean (J64 60 (n.toInt.toNat)))) hmL114 rfl (by decide)
          have hmK126 := f_depo_up mK_dep (k := 70) (r := upd (J64 70) (z77.toInt.toNat) (vp_nar .boolean (J64 60 (n.toInt.toNat)))) hmK114 rfl (by decide)
          exact ⟨z77, Int32.ofInt 0, (by intro q9 h9; simp only [List.mem_cons, List.not_mem_nil, or_false] at h9; rcases h9 with h9 | h9 | h9 | h9 | h9 <;> subst h9 <;> repeat (first | exact List.mem_cons_self | apply List.mem_cons_of_mem)), rfl, rfl, hR126, hF126, hmL126, hmK126, (show n.toInt < (I 0 83).toInt from by first | assumption | omega), (show z77.toInt = 12 * b.toInt + n.toInt from by first | assumption | omega | rfl), (show 0 ≤ (0 : Int) from by first | assumption | omega), (show (0 : Int) ≤ 6 from by first | assumption | omega), (show J64 63 = upd (I 63) b.toInt.toNat (I 0 83) from by first | assumption | omega | rfl), (show J64 64 = upd (I 64) b.toInt.toNat (I 0 30) from by first | assumption | omega | rfl), (show (∀ j : Nat, ¬ (8 * b.toInt ≤ j ∧ (j : Int) < 8 * b.toInt + 8) → J64 65 j = I 65 j) from by first | assumption | omega | exact fun _ _ => rfl | exact fun _ _ => ⟨rfl, rfl⟩ | exact fun _ _ => ⟨rfl, rfl, rfl⟩ | (intro j9 hj9; omega)), (show (∀ j : Nat, ¬ (12 * b.toInt ≤ j ∧ (j : Int) < 12 * b.toInt + 12) → (upd (J64 66) (z77.toInt.toNat) (J64 56 (n.toInt.toNat))) j = I 66 j) from by first | assumption | omega | exact fun _ _ => rfl | exact fun _ _ => ⟨rfl, rfl⟩ | exact fun _ _ => ⟨rfl, rfl, rfl⟩ | (intro j9 hj9; omega)), (show (∀ j : Nat, ¬ (72 * b.toInt ≤ j ∧ (j : Int) < 72 * b.toInt + 72) → J64 67 j = I 67 j) from by first | assumption | omega | exact fun _ _ => rfl | exact fun _ _ => ⟨rfl, rfl⟩ | exact fun _ _ => ⟨rfl, rfl, rfl⟩ | (intro j9 hj9; omega)), (show (∀ j : Nat, 8 * b.toInt ≤ j → (j : Int) < 8 * b.toInt + 8 → J64 65 j = I 19 (j - 8 * b.toInt.toNat)) from by first | assumption | omega | exact fun _ _ => rfl | exact fun _ _ => ⟨rfl, rfl⟩ | exact fun _ _ => ⟨rfl, rfl, rfl⟩ | (intro j9 hj9; omega)), (show (∀ j : Nat, 12 * b.toInt ≤ j → (j : Int) < 12 * b.toInt + n.toInt + 1 → (upd (J64 66) (z77.toInt.toNat) (J64 56 (n.toInt.toNat))) j = I 56 (j - 12 * b.toInt.toNat)) from by first | assumption | omega | exact fun _ _ => rfl | exact fun _ _ => ⟨rfl, rfl⟩ | exact fun _ _ => ⟨rfl, rfl, rfl⟩ | (intro j9 hj9; omega)), (show (∀ j : Nat, 72 * b.toInt ≤ j → (j : Int) < 72 * b.toInt + 6 * n.toInt + (0 : Int) → J64 67 j = I 57 (j - 72 * b.toInt.toNat)) from by first | assumption | omega | exact fun _ _ => rfl | exact fun _ _ => ⟨rfl, rfl⟩ | exact fun _ _ => ⟨rfl, rfl, rfl⟩ | (intro j9 hj9; omega)), (show (6 - (0 : Int)) < 7 from by omega)⟩
    have lp33 : ∀ (n33 : Nat), ∀ (i : Int32) (J33 : fM), mR J33 ∧ f_fr [63, 64, 65, 66, 67, 68, 69, 70] I J33 ∧ mL J33 ∧ mK J33 ∧ (0 ≤ b.toInt) ∧ (b.toInt ≤ 2) ∧ (0 ≤ i.toInt) ∧ (i.toInt ≤ 8) ∧ (J33 63 = upd (I 63) b.toInt.toNat (I 0 83)) ∧ (J33 64 = upd (I 64) b.toInt.toNat (I 0 30)) ∧ ((∀ j : Nat, ¬ (8 * b.toInt ≤ j ∧ (j : Int) < 8 * b.toInt + 8) → J33 65 j = I 65 j)) ∧ ((∀ j : Nat, ¬ (12 * b.toInt ≤ j ∧ (j : Int) < 12 * b.toInt + 12) → J33 66 j = I 66 j)) ∧ ((∀ j : Nat, ¬ (72 * b.toInt ≤ j ∧ (j : Int) < 72 * b.toInt + 72) → J33 67 j = I 67 j)) ∧ ((∀ j : Nat, 8 * b.toInt ≤ j → (j : Int) < 8 * b.toInt + i.toInt → J33 65 j = I 19 (j - 8 * b.toInt.toNat))) ∧ (8 - i.toInt) < n33 → f_W pP l eP (f_rm 1) sP mP aP bP hP9 cP mY 71 a cy dC dI 5 (f_K 1 (qX12_imageb [.ref 0, .int b] I L)) 33 [(2, .int i), (1, .int b), (0, .ref 0)] [] J33 L := by
      intro n33
      induction n33 with
      | zero =>
        intro i J33 h9
        obtain ⟨hR33c, hF33c, hmL33c, hmK33c, u33_1, u33_2, u33_3, u33_4, u33_5, u33_6, u33_7, u33_8, u33_9, u33_10, hm33⟩ := h9
        omega
      | succ n33 ih33 =>
        intro i J33 h9
        obtain ⟨hR33c, hF33c, hmL33c, hmK33c, u33_1, u33_2, u33_3, u33_4, u33_5, u33_6, u33_7, u33_8, u33_9, u33_10, hm33⟩ := h9
        refine f_wp_ok C f_cl flX12_ok fiX12_ok fjX12_ok (sn := none) (fun j h => by cases h) (cs := (fun _ => none)) (cz := (f_cnl [(366, (3, 3, 11, pX12_isIn, qX12_isIn))])) (fun j S h => by cases h) (f_cnl_of (P := fun j S => f_cok pP l eP (f_rm 1) sP mP aP bP hP9 cP mY 71 a cy dC dI 5 _ _ (.invokestatic j) false S) (List.forall_mem_cons.mpr ⟨f_cokS C (mX12_isIn hinj) (List.forall_mem_cons.mpr ⟨(mlX12_ok _ (List.mem_of_getElem? (i := 27) rfl)), kc_X12_isIn⟩) (by decide +kernel) ⟨Nat.le_of_ble_eq_true rfl, Nat.le_of_ble_eq_true rfl⟩, fun _ h => absurd h List.not_mem_nil⟩)) tX12_image_ok (cut := (f_cnl [(33, (fun (ls' : fLs) (st' : List Value) (I' : fM) (L' : fN) => ∃ i : Int32, (∀ q ∈ ([(2, .int i), (1, .int b), (0, .ref 0)] : fLs), q ∈ ls') ∧ st' = [] ∧ L' = L ∧ (mR I' ∧ f_fr [63, 64, 65, 66, 67, 68, 69, 70] I I' ∧ mL I' ∧ mK I' ∧ (0 ≤ b.toInt) ∧ (b.toInt ≤ 2) ∧ (0 ≤ i.toInt) ∧ (i.toInt ≤ 8) ∧ (I' 63 = upd (I 63) b.toInt.toNat (I 0 83)) ∧ (I' 64 = upd (I 64) b.toInt.toNat (I 0 30)) ∧ ((∀ j : Nat, ¬ (8 * b.toInt ≤ j ∧ (j : Int) < 8 * b.toInt + 8) → I' 65 j = I 65 j)) ∧ ((∀ j : Nat, ¬ (12 * b.toInt ≤ j ∧ (j : Int) < 12 * b.toInt + 12) → I' 66 j = I 66 j)) ∧ ((∀ j : Nat, ¬ (72 * b.toInt ≤ j ∧ (j : Int) < 72 * b.toInt + 72) → I' 67 j = I 67 j)) ∧ ((∀ j : Nat, 8 * b.toInt ≤ j → (j : Int) < 8 * b.toInt + i.toInt → I' 65 j = I 19 (j - 8 * b.toInt.toNat))) ∧ (8 - i.toInt) < n33))), (64, (fun (ls' : fLs) (st' : List Value) (I' : fM) (L' : fN) => ∃ n : Int32, (∀ q ∈ ([(2, .int n), (1, .int b), (0, .ref 0)] : fLs), q ∈ ls') ∧ st' = [] ∧ L' = L ∧ (mR I' ∧ f_fr [63, 64, 65, 66, 67, 68, 69, 70] I I' ∧ mL I' ∧ mK I' ∧ (0 ≤ b.toInt) ∧ (b.toInt ≤ 2) ∧ (0 ≤ n.toInt) ∧ (n.toInt ≤ (I 0 83).toInt) ∧ (I' 63 = upd (I 63) b.toInt.toNat (I 0 83)) ∧ (I' 64 = upd (I 64) b.toInt.toNat (I 0 30)) ∧ ((∀ j : Nat, ¬ (8 * b.toInt ≤ j ∧ (j : Int) < 8 * b.toInt + 8) → I' 65 j = I 65 j)) ∧ ((∀ j : Nat, ¬ (12 * b.toInt ≤ j ∧ (j : Int) < 12 * b.toInt + 12) → I' 66 j = I 66 j)) ∧ ((∀ j : Nat, ¬ (72 * b.toInt ≤ j ∧ (j : Int) < 72 * b.toInt + 72) → I' 67 j = I 67 j)) ∧ ((∀ j : Nat, 8 * b.toInt ≤ j → (j : Int) < 8 * b.toInt + 8 → I' 65 j = I 19 (j - 8 * b.toInt.toNat))) ∧ ((∀ j : Nat, 12 * b.toInt ≤ j → (j : Int) < 12 * b.toInt + n.toInt → I' 66 j = I 56 (j - 12 * b.toInt.toNat))) ∧ ((∀ j : Nat, 72 * b.toInt ≤ j → (j : Int) < 72 * b.toInt + 6 * n.toInt → I' 67 j = I 57 (j - 72 * b.toInt.toNat))) ∧ (12 - n.toInt) < 13)))])) (f_cnl_of (P := fun (tQ : Nat) (P : fLs → List Value → fM → fN → Prop) => ∀ ls' st' I' L', P ls' st' I' L' → f_W pP l eP (f_rm 1) sP mP aP bP hP9 cP mY 71 a cy dC dI 5 (f_K 1 (qX12_imageb [.ref 0, .int b] I L)) tQ ls' st' I' L') (List.forall_mem_cons.mpr ⟨(fun ls' st' I' L' h => by obtain ⟨i, hs, e1, e3, h9⟩ := h; rw [e1, e3]; exact f_W_sub hs (ih33 i I' h9)), List.forall_mem_cons.mpr ⟨(fun ls' st' I' L' h => by obtain ⟨n, hs, e1, e3, h9⟩ := h; rw [e1, e3]; exact f_W_sub hs (lp64 13 n I' h9)), fun _ h => absurd h List.not_mem_nil⟩⟩)) 20 33 (f_seek 33 0 tX12_image) (f_seek_ok 33 0 tX12_image tX12_image_ok) _ _ _ _ ?_
        apply And.intro
        · intro h36
          have h36 : 8 ≤ i.toInt := h36
          have s62 : ∀ j : Nat, 8 * b.toInt ≤ j → (j : Int) < 8 * b.toInt + 8 → J33 65 j = I 19 (j - 8 * b.toInt.toNat) := fun j h1 h2 => u33_10 j h1 (by omega)
          have s63 : ∀ j : Nat, 12 * b.toInt ≤ j → (j : Int) < 12 * b.toInt + (0 : Int) → J33 66 j = I 56 (j - 12 * b.toInt.toNat) := fun j h1 h2 => by omega
          have s64 : ∀ j : Nat, 72 * b.toInt ≤ j → (j : Int) < 72 * b.toInt + 6 * (0 : Int) → J33 67 j = I 57 (j - 72 * b.toInt.toNat) := fun j h1 h2 => by omega
          exact ⟨Int32.ofInt 0, (by intro q9 h9; simp only [List.mem_cons, List.not_mem_nil, or_false] at h9; rcases h9 with h9 | h9 | h9 <;> subst h9 <;> repeat (first | exact List.mem_cons_self | apply List.mem_cons_of_mem)), rfl, rfl, hR33c, hF33c, hmL33c, hmK33c, (show 0 ≤ b.toInt from by first | assumption | omega), (show b.toInt ≤ 2 from by first | assumption | omega), (show 0 ≤ (0 : Int) from by first | assumption | omega), (show (0 : Int) ≤ (I 0 83).toInt from by first | assumption | omega), (show J33 63 = upd (I 63) b.toInt.toNat (I 0 83) from by first | assumption | omega | rfl), (show J33 64 = upd (I 64) b.toInt.toNat (I 0 30) from by first | assumption | omega | rfl), (show (∀ j : Nat, ¬ (8 * b.toInt ≤ j ∧ (j : Int) < 8 * b.toInt + 8) → J33 65 j = I 65 j) from by first | assumption | omega | exact fun _ _ => rfl | exact fun _ _ => ⟨rfl, rfl⟩ | exact fun _ _ => ⟨rfl, rfl, rfl⟩ | (intro j9 hj9; omega)), (show (∀ j : Nat, ¬ (12 * b.toInt ≤ j ∧ (j : Int) < 12 * b.toInt + 12) → J33 66 j = I 66 j) from by first | assumption | omega | exact fun _ _ => rfl | exact fun _ _ => ⟨rfl, rfl⟩ | exact fun _ _ => ⟨rfl, rfl, rfl⟩ | (intro j9 hj9; omega)), (show (∀ j : Nat, ¬ (72 * b.toInt ≤ j ∧ (j : Int) < 72 * b.toInt + 72) → J33 67 j = I 67 j) from by first | assumption | omega | exact fun _ _ => rfl | exact fun _ _ => ⟨rfl, rfl⟩ | exact fun _ _ => ⟨rfl, rfl, rfl⟩ | (intro j9 hj9; omega)), (show (∀ j : Nat, 8 * b.toInt ≤ j → (j : Int) < 8 * b.toInt + 8 → J33 65 j = I 19 (j - 8 * b.toInt.toNat)) from by first | assumption | omega | exact fun _ _ => rfl | exact fun _ _ => ⟨rfl, rfl⟩ | exact fun _ _ => ⟨rfl, rfl, rfl⟩ | (intro j9 hj9; omega)), (show (∀ j : Nat, 12 * b.toInt ≤ j → (j : Int) < 12 * b.toInt + (0 : Int) → J33 66 j = I 56 (j - 12 * b.toInt.toNat)) from by first | assumption | omega | exact fun _ _ => rfl | exact fun _ _ => ⟨rfl, rfl⟩ | exact fun _ _ => ⟨rfl, rfl, rfl⟩ | (intro j9 hj9; omega)), (show (∀ j : Nat, 72 * b.toInt ≤ j → (j : Int) < 72 * b.toInt + 6 * (0 : Int) → J33 67 j = I 57 (j - 72 * b.toInt.toNat)) from by first | assumption | omega | exact fun _ _ => rfl | exact fun _ _ => ⟨rfl, rfl⟩ | exact fun _ _ => ⟨rfl, rfl, rfl⟩ | (intro j9 hj9; omega)), (show (12 - (0 : Int)) < 13 from by omega)⟩
        · intro h36
          have h36 : i.toInt < 8 := h36
          intro z46 q46 _ hq46 hl46 hu46
          have hq46 : z46.toInt = 8 * b.toInt + 4294967296 * q46 := hq46
          try have hz46 : z46.toInt = 8 * b.toInt := by omega
          intro z48 q48 _ hq48 hl48 hu48
          have hq48 : z48.toInt = z46.toInt + i.toInt + 4294967296 * q48 := hq48
          try have hz48 : z48.toInt = z46.toInt + i.toInt := by omega
          refine And.intro (show f_in i 8 from ⟨show 0 ≤ i.toInt from by omega, show i.toInt < 8 from by omega⟩) ?_
          have r54_1 : 0 ≤ (J33 19 (i.toInt.toNat)).toInt ∧ (J33 19 (i.toInt.toNat)).toInt ≤ 11 := hR33c 19 (i.toInt.toNat)
          have e54_2 : (J33 19 (i.toInt.toNat)).toInt = (I 19 (i.toInt.toNat)).toInt := congrArg Int32.toInt (congrFun (hF33c 19 rfl) (i.toInt.toNat))
          refine And.intro (show f_in z48 24 from ⟨show 0 ≤ z48.toInt from by omega, show z48.toInt < 24 from by omega⟩) ?_
          have hR55 := mR_a (k := 65) (j := z48.toInt.toNat) (x := J33 19 (i.toInt.toNat)) hR33c (show 0 ≤ (J33 19 (i.toInt.toNat)).toInt ∧ (J33 19 (i.toInt.toNat)).toInt ≤ 11 from ⟨by omega, by omega⟩)
          have hF55 := f_fr_up (k := 65) (r := upd (J33 65) (z48.toInt.toNat) (J33 19 (i.toInt.toNat))) hF33c rfl
          have hmL55 := f_depo_up mL_dep (k := 65) (r := upd (J33 65) (z48.toInt.toNat) (J33 19 (i.toInt.toNat))) hmL33c rfl (by decide)
          have hmK55 := f_depo_up mK_dep (k := 65) (r := upd (J33 65) (z48.toInt.toNat) (J33 19 (i.toInt.toNat))) hmK33c rfl (by decide)
          intro z56 q56 _ hq56 hl56 hu56
          have hq56 : z56.toInt = i.toInt + 1 + 4294967296 * q56 := hq56
          try have hz56 : z56.toInt = i.toInt + 1 := by omega
          have q56 : ∀ j : Nat, ¬ (8 * b.toInt ≤ j ∧ (j : Int) < 8 * b.toInt + 8) → (upd (J33 65) z48.toInt.toNat (J33 19 i.toInt.toNat)) j = I 65 j := fun j hj => by rw [pk_un (by omega)]; exact u33_7 j hj
          have r56 : ∀ j : Nat, 8 * b.toInt ≤ j → (j : Int) < 8 * b.toInt + z56.toInt → (upd (J33 65) z48.toInt.toNat (J33 19 i.toInt.toNat)) j = I 19 (j - 8 * b.toInt.toNat) := fun j h1 h2 => by
            by_cases q : j = z48.toInt.toNat
            · rw [q, pk_us, hF33c 19 rfl, show z48.toInt.toNat - 8 * b.toInt.toNat = i.toInt.toNat by omega]
            · rw [pk_un q]; exact u33_10 j h1 (by omega)
          exact ⟨z56, (by intro q9 h9; simp only [List.mem_cons, List.not_mem_nil, or_false] at h9; rcases h9 with h9 | h9 | h9 <;> subst h9 <;> repeat (first | exact List.mem_cons_self | apply List.mem_cons_of_mem)), rfl, rfl, hR55, hF55, hmL55, hmK55, (show 0 ≤ b.toInt from by first | assumption | omega), (show b.toInt ≤ 2 from by first | assumption | omega), (show 0 ≤ z56.toInt from by first | assumption | omega), (show z56.toInt ≤ 8 from by first | assumption | omega), (show J33 63 = upd (I 63) b.toInt.toNat (I 0 83) from by first | assumption | omega | rfl), (show J33 64 = upd (I 64) b.toInt.toNat (I 0 30) from by first | assumption | omega | rfl), (show (∀ j : Nat, ¬ (8 * b.toInt ≤ j ∧ (j : Int) < 8 * b.toInt + 8) → (upd (J33 65) (z48.toInt.toNat) (J33 19 (i.toInt.toNat))) j = I 65 j) from by first | assumption | omega | exact fun _ _ => rfl | exact fun _ _ => ⟨rfl, rfl⟩ | exact fun _ _ => ⟨rfl, rfl, rfl⟩ | (intro j9 hj9; omega)), (show (∀ j : Nat, ¬ (12 * b.toInt ≤ j ∧ (j : Int) < 12 * b.toInt + 12) → J33 66 j = I 66 j) from by first | assumption | omega | exact fun _ _ => rfl | exact fun _ _ => ⟨rfl, rfl⟩ | exact fun _ _ => ⟨rfl, rfl, rfl⟩ | (intro j9 hj9; omega)), (show (∀ j : Nat, ¬ (72 * b.toInt ≤ j ∧ (j : Int) < 72 * b.toInt + 72) → J33 67 j = I 67 j) from by first | assumption | omega | exact fun _ _ => rfl | exact fun _ _ => ⟨rfl, rfl⟩ | exact fun _ _ => ⟨rfl, rfl, rfl⟩ | (intro j9 hj9; omega)), (show (∀ j : Nat, 8 * b.toInt ≤ j → (j : Int) < 8 * b.toInt + z56.toInt → (upd (J33 65) (z48.toInt.toNat) (J33 19 (i.toInt.toNat))) j = I 19 (j - 8 * b.toInt.toNat)) from by first | assumption | omega | exact fun _ _ => rfl | exact fun _ _ => ⟨rfl, rfl⟩ | exact fun _ _ => ⟨rfl, rfl, rfl⟩ | (intro j9 hj9; omega)), (show (8 - z56.toInt) < n33 from by omega)⟩
    refine f_wp_ok C f_cl flX12_ok fiX12_ok fjX12_ok (sn := none) (fun j h => by cases h) (cs := (fun _ => none)) (cz := (f_cnl [(366, (3, 3, 11, pX12_isIn, qX12_isIn))])) (fun j S h => by cases h) (f_cnl_of (P := fun j S => f_cok pP l eP (f_rm 1) sP mP aP bP hP9 cP mY 71 a cy dC dI 5 _ _ (.invokestatic j) false S) (List.forall_mem_cons.mpr ⟨f_cokS C (mX12_isIn hinj) (List.forall_mem_cons.mpr ⟨(mlX12_ok _ (List.mem_of_getElem? (i := 27) rfl)), kc_X12_isIn⟩) (by decide +kernel) ⟨Nat.le_of_ble_eq_true rfl, Nat.le_of_ble_eq_true rfl⟩, fun _ h => absurd h List.not_mem_nil⟩)) tX12_image_ok (cut := (f_cnl [(33, (fun (ls' : fLs) (st' : List Value) (I' : fM) (L' : fN) => ∃ i : Int32, (∀ q ∈ ([(2, .int i), (1, .int b), (0, .ref 0)] : fLs), q ∈ ls') ∧ st' = [] ∧ L' = L ∧ (mR I' ∧ f_fr [63, 64, 65, 66, 67, 68, 69, 70] I I' ∧ mL I' ∧ mK I' ∧ (0 ≤ b.toInt) ∧ (b.toInt ≤ 2) ∧ (0 ≤ i.toInt) ∧ (i.toInt ≤ 8) ∧ (I' 63 = upd (I 63) b.toInt.toNat (I 0 83)) ∧ (I' 64 = upd (I 64) b.toInt.toNat (I 0 30)) ∧ ((∀ j : Nat, ¬ (8 * b.toInt ≤ j ∧ (j : Int) < 8 * b.toInt + 8) → I' 65 j = I 65 j)) ∧ ((∀ j : Nat, ¬ (12 * b.toInt ≤ j ∧ (j : Int) < 12 * b.toInt + 12) → I' 66 j = I 66 j)) ∧ ((∀ j : Nat, ¬ (72 * b.toInt ≤ j ∧ (j : Int) < 72 * b.toInt + 72) → I' 67 j = I 67 j)) ∧ ((∀ j : Nat, 8 * b.toInt ≤ j → (j : Int) < 8 * b.toInt + i.toInt → I' 65 j = I 19 (j - 8 * b.toInt.toNat))) ∧ (8 - i.toInt) < 9)))])) (f_cnl_of (P := fun (tQ : Nat) (P : fLs → List Value → fM → fN → Prop) => ∀ ls' st' I' L', P ls' st' I' L' → f_W pP l eP (f_rm 1) sP mP aP bP hP9 cP mY 71 a cy dC dI 5 (f_K 1 (qX12_imageb [.ref 0, .int b] I L)) tQ ls' st' I' L') (List.forall_mem_cons.mpr ⟨(fun ls' st' I' L' h => by obtain ⟨i, hs, e1, e3, h9⟩ := h; rw [e1, e3]; exact f_W_sub hs (lp33 9 i I' h9)), fun _ h => absurd h List.not_mem_nil⟩)) 22 0 tX12_image tX12_image_ok _ _ _ _ ?_
    refine And.intro trivial ?_
    intro x3 I3 L3 hq3
    have hq3 : I3 = I ∧ L3 = L ∧ ((x3.toInt = 1 ∧ (0 : Int) ≤ b.toInt ∧ b.toInt ≤ (2 : Int) ∨ x3.toInt = 0 ∧ (b.toInt < (0 : Int) ∨ (2 : Int) < b.toInt))) := hq3
    obtain ⟨eI3, eL3, c3_2⟩ := hq3
    replace eI3 := eI3.symm
    subst eI3
    replace eL3 := eL3.symm
    subst eL3
    apply And.intro
    · intro h6
      have h6 : ¬ x3.toInt = 0 := h6
      have r17_1 : 0 ≤ (I 0 83).toInt ∧ (I 0 83).toInt ≤ 12 := hR 0 83
      refine And.intro (show f_in b 3 from ⟨show 0 ≤ b.toInt from by omega, show b.toInt < 3 from by omega⟩) ?_
      have hR20 := mR_a (k := 63) (j := b.toInt.toNat) (x := I 0 83) hR (show -1 ≤ (I 0 83).toInt ∧ (I 0 83).toInt ≤ 12 from ⟨by omega, by omega⟩)
      have hF20 := f_fr_up (k := 63) (r := upd (I 63) (b.toInt.toNat) (I 0 83)) hF0 rfl
      have hmL20 := f_depo_up mL_dep (k := 63) (r := upd (I 63) (b.toInt.toNat) (I 0 83)) hmL rfl (by decide)
      have hmK20 := f_depo_up mK_dep (k := 63) (r := upd (I 63) (b.toInt.toNat) (I 0 83)) hmK rfl (by decide)
      have r27_2 : 0 ≤ (I 0 30).toInt ∧ (I 0 30).toInt ≤ 8 := hR20 0 30
      refine And.intro (show f_in b 3 from ⟨show 0 ≤ b.toInt from by omega, show b.toInt < 3 from by omega⟩) ?_
      have hR30 := mR_a (k := 64) (j := b.toInt.toNat) (x := I 0 30) hR20 (show 0 ≤ (I 0 30).toInt ∧ (I 0 30).toInt ≤ 8 from ⟨by omega, by omega⟩)
      have hF30 := f_fr_up (k := 64) (r := upd (I 64) (b.toInt.toNat) (I 0 30)) hF20 rfl
      have hmL30 := f_depo_up mL_dep (k := 64) (r := upd (I 64) (b.toInt.toNat) (I 0 30)) hmL20 rfl (by decide)
      have hmK30 := f_depo_up mK_dep (k := 64) (r := upd (I 64) (b.toInt.toNat) (I 0 30)) hmK20 rfl (by decide)
      exact ⟨Int32.ofInt 0, (by intro q9 h9; simp only [List.mem_cons, List.not_mem_nil, or_false] at h9; rcases h9 with h9 | h9 | h9 <;> subst h9 <;> repeat (first | exact List.mem_cons_self | apply List.mem_cons_of_mem)), rfl, rfl, hR30, hF30, hmL30, hmK30, (show 0 ≤ b.toInt from by first | assumption | omega), (show b.toInt ≤ 2 from by first | assumption | omega), (show 0 ≤ (0 : Int) from by first | assumption | omega), (show (0 : Int) ≤ 8 from by first | assumption | omega), (show (upd (I 63) (b.toInt.toNat) (I 0 83)) = upd (I 63) b.toInt.toNat (I 0 83) from by first | assumption | omega | rfl), (show (upd (I 64) (b.toInt.toNat) (I 0 30)) = upd (I 64) b.toInt.toNat (I 0 30) from by first | assumption | omega | rfl), (show (∀ j : Nat, ¬ (8 * b.toInt ≤ j ∧ (j : Int) < 8 * b.toInt + 8) → I 65 j = I 65 j) from by first | assumption | omega | exact fun _ _ => rfl | exact fun _ _ => ⟨rfl, rfl⟩ | exact fun _ _ => ⟨rfl, rfl, rfl⟩ | (intro j9 hj9; omega)), (show (∀ j : Nat, ¬ (12 * b.toInt ≤ j ∧ (j : Int) < 12 * b.toInt + 12) → I 66 j = I 66 j) from by first | assumption | omega | exact fun _ _ => rfl | exact fun _ _ => ⟨rfl, rfl⟩ | exact fun _ _ => ⟨rfl, rfl, rfl⟩ | (intro j9 hj9; omega)), (show (∀ j : Nat, ¬ (72 * b.toInt ≤ j ∧ (j : Int) < 72 * b.toInt + 72) → I 67 j = I 67 j) from by first | assumption | omega | exact fun _ _ => rfl | exact fun _ _ => ⟨rfl, rfl⟩ | exact fun _ _ => ⟨rfl, rfl, rfl⟩ | (intro j9 hj9; omega)), (show (∀ j : Nat, 8 * b.toInt ≤ j → (j : Int) < 8 * b.toInt + (0 : Int) → I 65 j = I 19 (j - 8 * b.toInt.toNat)) from by first | assumption | omega | exact fun _ _ => rfl | exact fun _ _ => ⟨rfl, rfl⟩ | exact fun _ _ => ⟨rfl, rfl, rfl⟩ | (intro j9 hj9; omega)), (show (8 - (0 : Int)) < 9 from by omega)⟩
    · intro h6
      have h6 : x3.toInt = 0 := h6
      exact ⟨hR, hmL, hmK, hmW, hF0, rfl⟩
def pX12_backb (av : List Value) (I : fM) (L : fN) : Prop := match av with
  | [.ref 0, .int b] => mR I ∧ mL I ∧ mK I ∧ mW I
  | _ => False
def qX12_backb (av : List Value) (I : fM) (L : fN) (r : Value) (I' : fM) (L' : fN) : Prop := match av, r with
  | [.ref 0, .int b], .int x => mR I' ∧ mL I' ∧ mK I' ∧ mW I' ∧ f_fo [30, 70, 83] I I' ∧ f_fr [0, 19, 56, 57, 58, 59, 60] I I' ∧ L' = L
  | _, _ => False
set_option maxHeartbeats 40000000 in
set_option maxRecDepth 100000 in
theorem mX12_backb {l : Launch} {a : Nat → Nat} {cy dC : Nat → ClassId} {dI : Nat → Nat → Nat} (hinj : ∀ i j, i < 71 → j < 71 → a i = a j → i = j) : f_Met (fun _ => True) l mY 71 a cy dC dI yX12_back cX12_back 5 1 1 pX12_backb qX12_backb := by
  refine f_met_of (f_Ec_T 71 a) hinj mY_hi (by decide) (fun av I L h => by unfold pX12_backb at h; split at h <;> first | exact Nat.le_of_ble_eq_true rfl | exact h.elim) ?_
  intro pP eP sP mP aP bP hP9 cP C av I L hp
  unfold pX12_backb at hp
  split at hp
  case h_2 => exact hp.elim
  case h_1 b =>
    obtain ⟨hR, hmL, hmK, hmW⟩ := hp
    have hx : (I 63 b.toInt.toNat).toInt ≤ 12 := (hR 63 _).2
    have hF0 : f_fr [0, 19, 56, 57, 58, 59, 60] I I := f_fr_rf
    have hO0 : f_fo [30, 70, 83] I I := f_fo_rf
    have lp73 : ∀ (n73 : Nat), ∀ (n : Int32) (J73 : fM), mR J73 ∧ f_fr [0, 19, 56, 57, 58, 59, 60] I J73 ∧ f_fo [30, 70, 83] I J73 ∧ mL J73 ∧ mK J73 ∧ (0 ≤ b.toInt) ∧ (b.toInt ≤ 2) ∧ (0 ≤ n.toInt) ∧ (n.toInt ≤ (I 63 b.toInt.toNat).toInt) ∧ (0 ≤ (I 63 b.toInt.toNat).toInt) ∧ (J73 0 83 = I 63 b.toInt.toNat) ∧ (J73 0 30 = I 64 b.toInt.toNat) ∧ ((∀ j : Nat, (j : Int) < 8 → J73 19 j = I 65 (8 * b.toInt.toNat + j))) ∧ ((∀ j : Nat, (j : Int) < n.toInt → J73 56 j = I 66 (12 * b.toInt.toNat + j))) ∧ ((∀ j : Nat, (j : Int) < 6 * n.toInt → J73 57 j = I 67 (72 * b.toInt.toNat + j))) ∧ (12 - n.toInt) < n73 → f_W pP l eP (f_rm 1) sP mP aP bP hP9 cP mY 71 a cy dC dI 5 (f_K 1 (qX12_backb [.ref 0, .int b] I L)) 73 [(2, .int n), (1, .int b), (0, .ref 0)] [] J73 L := by
      intro n73
      induction n73 with
      | zero =>
        intro n J73 h9
        obtain ⟨hR73c, hF73c, hO73c, hmL73c, hmK73c, u73_1, u73_2, u73_3, u73_4, u73_5, u73_6, u73_7, u73_8, u73_9, u73_10, hm73⟩ := h9
        omega
      | succ n73 ih73 =>
        intro n J73 h9
        obtain ⟨hR73c, hF73c, hO73c, hmL73c, hmK73c, u73_1, u73_2, u73_3, u73_4, u73_5, u73_6, u73_7, u73_8, u73_9, u73_10, hm73⟩ := h9
        have f73 : (J73 0 83).toInt = (I 63 b.toInt.toNat).toInt := by rw [u73_6]
        have lp139 : ∀ (n139 : Nat), ∀ (k : Int32) (i : Int32) (J139 : fM), mR J139 ∧ f_fr [0, 19, 56, 57, 58, 59, 60] I J139 ∧ f_fo [30, 70, 83] I J139 ∧ mL J139 ∧ mK J139 ∧ (n.toInt < (I 63 b.toInt.toNat).toInt) ∧ (k.toInt = 12 * b.toInt + n.toInt) ∧ (0 ≤ i.toInt) ∧ (i.toInt ≤ 6) ∧ (J139 0 83 = I 63 b.toInt.toNat) ∧ (J139 0 30 = I 64 b.toInt.toNat) ∧ ((∀ j : Nat, (j : Int) < 8 → J139 19 j = I 65 (8 * b.toInt.toNat + j))) ∧ ((∀ j : Nat, (j : Int) < n.toInt + 1 → J139 56 j = I 66 (12 * b.toInt.toNat + j))) ∧ ((∀ j : Nat, (j : Int) < 6 * n.toInt + i.toInt → J139 57 j = I 67 (72 * b.toInt.toNat + j))) ∧ (6 - i.toInt) < n139 → f_W pP l eP (f_rm 1) sP mP aP bP hP9 cP mY 71 a cy dC dI 5 (f_K 1 (qX12_backb [.ref 0, .int b] I L)) 139 [(4, .int i), (3, .int k), (2, .int n), (1, .int b), (0, .ref 0)] [] J139 L := by
          intro n139
          induction n139 with
          | zero =>
            intro k i J139 h9
            obtain ⟨hR139c, hF139c, hO139c, hmL139c, hmK139c, u139_1, u139_2, u139_3, u139_4, u139_5, u139_6, u139_7, u139_8, u139_9, hm139⟩ := h9
            omega
          | succ n139 ih139 =>
            intro k i J139 h9
            obtain ⟨hR139c, hF139c, hO139c, hmL139c, hmK139c, u139_1, u139_2, u139_3, u139_4, u139_5, u139_6, u139_7, u139_8, u139_9, hm139⟩ := h9
            refine f_wp_ok C f_cl flX12_ok fiX12_ok fjX12_ok (sn := none) (fun j h => by cases h) (cs := (fun _ => none)) (cz := (f_cnl [(366, (3, 3, 11, pX12_isIn, qX12_isIn))])) (fun j S h => by cases h) (f_cnl_of (P := fun j S => f_cok pP l eP (f_rm 1) sP mP aP bP hP9 cP mY 71 a cy dC dI 5 _ _ (.invokestatic j) false S) (List.forall_mem_cons.mpr ⟨f_cokS C (mX12_isIn hinj) (List.forall_mem_cons.mpr ⟨(mlX12_ok _ (List.mem_of_getElem? (i := 27) rfl)), kc_X12_isIn⟩) (by decide +kernel) ⟨Nat.le_of_ble_eq_true rfl, Nat.le_of_ble_eq_true rfl⟩, fun _ h => absurd h List.not_mem_nil⟩)) tX12_back_ok (cut := (f_cnl [(73, (fun (ls' : fLs) (st' : List Value) (I' : fM) (L' : fN) => ∃ n : Int32, (∀ q ∈ ([(2, .int n), (1, .int b), (0, .ref 0)] : fLs), q ∈ ls') ∧ st' = [] ∧ L' = L ∧ (mR I' ∧ f_fr [0, 19, 56, 57, 58, 59, 60] I I' ∧ f_fo [30, 70, 83] I I' ∧ mL I' ∧ mK I' ∧ (0 ≤ b.toInt) ∧ (b.toInt ≤ 2) ∧ (0 ≤ n.toInt) ∧ (n.toInt ≤ (I 63 b.toInt.toNat).toInt) ∧ (0 ≤ (I 63 b.toInt.toNat).toInt) ∧ (I' 0 83 = I 63 b.toInt.toNat) ∧ (I' 0 30 = I 64 b.toInt.toNat) ∧ ((∀ j : Nat, (j : Int) < 8 → I' 19 j = I 65 (8 * b.toInt.toNat + j))) ∧ ((∀ j : Nat, (j : Int) < n.toInt → I' 56 j = I 66 (12 * b.toInt.toNat + j))) ∧ ((∀ j : Nat, (j : Int) < 6 * n.toInt → I' 57 j = I 67 (72 * b.toInt.toNat + j))) ∧ (12 - n.toInt) < n73))), (139, (fun (ls' : fLs) (st' : List Value) (I' : fM) (L' : fN) => ∃ k : Int32, ∃ i : Int32, (∀ q ∈ ([(4, .int i), (3, .int k), (2, .int n), (1, .int b), (0, .ref 0)] : fLs), q ∈ ls') ∧ st' = [] ∧ L' = L ∧ (mR I' ∧ f_fr [0, 19, 56, 57, 58, 59, 60] I I' ∧ f_fo [30, 70, 83] I I' ∧ mL I' ∧ mK I' ∧ (n.toInt < (I 63 b.toInt.toNat).toInt) ∧ (k.toInt = 12 * b.toInt + n.toInt) ∧ (0 ≤ i.toInt) ∧ (i.toInt ≤ 6) ∧ (I' 0 83 = I 63 b.toInt.toNat) ∧ (I' 0 30 = I 64 b.toInt.toNat) ∧ ((∀ j : Nat, (j : Int) < 8 → I' 19 j = I 65 (8 * b.toInt.toNat + j))) ∧ ((∀ j : Nat, (j : Int) < n.toInt + 1 → I' 56 j = I 66 (12 * b.toInt.toNat + j))) ∧ ((∀ j : Nat, (j : Int) < 6 * n.toInt + i.toInt → I' 57 j = I 67 (72 * b.toInt.toNat + j))) ∧ (6 - i.toInt) < n139)))])) (f_cnl_of (P := fun (tQ : Nat) (P : fLs → List Value → fM → fN → Prop) => ∀ ls' st' I' L', P ls' st' I' L' → f_W pP l eP (f_rm 1) sP mP aP bP hP9 cP mY 71 a cy dC dI 5 (f_K 1 (qX12_backb [.ref 0, .int b] I L)) tQ ls' st' I' L') (List.forall_mem_cons.mpr ⟨(fun ls' st' I' L' h => by obtain ⟨n, hs, e1, e3, h9⟩ := h; rw [e1, e3]; exact f_W_sub hs (ih73 n I' h9)), List.forall_mem_cons.mpr ⟨(fun ls' st' I' L' h => by obtain ⟨k, i, hs, e1, e3, h9⟩ := h; rw [e1, e3]; exact f_W_sub hs (ih139 k i I' h9)), fun _ h => absurd h List.not_mem_nil⟩⟩)) 24 139 (f_seek 139 0 tX12_back) (f_seek_ok 139 0 tX12_back tX12_back_ok) _ _ _ _ ?_
            apply And.intro
            · intro h143
              have h143 : 6 ≤ i.toInt := h143
              intro z176 q176 _ hq176 hl176 hu176
              have hq176 : z176.toInt = n.toInt + 1 + 4294967296 * q176 := hq176
              try have hz176 : z176.toInt = n.toInt + 1 := by omega
              have q176 : ∀ j : Nat, (j : Int) < z176.toInt → J139 56 j = I 66 (12 * b.toInt.toNat + j) := fun j hj => u139_8 j (by omega)
              have r176 : ∀ j : Nat, (j : Int) < 6 * z176.toInt → J139 57 j = I 67 (72 * b.toInt.toNat + j) := fun j hj => u139_9 j (by omega)
              exact ⟨z176, (by intro q9 h9; simp only [List.mem_cons, List.not_mem_nil, or_false] at h9; rcases h9 with h9 | h9 | h9 <;> subst h9 <;> repeat (first | exact List.mem_cons_self | apply List.mem_cons_of_mem)), rfl, rfl, hR139c, hF139c, hO139c, hmL139c, hmK139c, (show 0 ≤ b.toInt from by first | assumption | omega), (show b.toInt ≤ 2 from by first | assumption | omega), (show 0 ≤ z176.toInt from by first | assumption | omega), (show z176.toInt ≤ (I 63 b.toInt.toNat).toInt from by first | assumption | omega), (show 0 ≤ (I 63 b.toInt.toNat).toInt from by first | assumption | omega), (show J139 0 83 = I 63 b.toInt.toNat from by first | assumption | omega | rfl), (show J139 0 30 = I 64 b.toInt.toNat from by first | assumption | omega | rfl), (show (∀ j : Nat, (j : Int) < 8 → J139 19 j = I 65 (8 * b.toInt.toNat + j)) from by first | assumption | omega | exact fun _ _ => rfl | exact fun _ _ => ⟨rfl, rfl⟩ | exact fun _ _ => ⟨rfl, rfl, rfl⟩ | (intro j9 hj9; omega)), (show (∀ j : Nat, (j : Int) < z176.toInt → J139 56 j = I 66 (12 * b.toInt.toNat + j)) from by first | assumption | omega | exact fun _ _ => rfl | exact fun _ _ => ⟨rfl, rfl⟩ | exact fun _ _ => ⟨rfl, rfl, rfl⟩ | (intro j9 hj9; omega)), (show (∀ j : Nat, (j : Int) < 6 * z176.toInt → J139 57 j = I 67 (72 * b.toInt.toNat + j)) from by first | assumption | omega | exact fun _ _ => rfl | exact fun _ _ => ⟨rfl, rfl⟩ | exact fun _ _ => ⟨rfl, rfl, rfl⟩ | (intro j9 hj9; omega)), (show (12 - z176.toInt) < n73 from by omega)⟩
            · intro h143
              have h143 : i.toInt < 6 := h143
              intro z153 q153 _ hq153 hl153 hu153
              have hq153 : z153.toInt = 6 * n.toInt + 4294967296 * q153 := hq153
              try have hz153 : z153.toInt = 6 * n.toInt := by omega
              intro z156 q156 _ hq156 hl156 hu156
              have hq156 : z156.toInt = z153.toInt + i.toInt + 4294967296 * q156 := hq156
              try have hz156 : z156.toInt = z153.toInt + i.toInt := by omega
              intro z164 q164 _ hq164 hl164 hu164
              have hq164 : z164.toInt = 6 * k.toInt + 4294967296 * q164 := hq164
              try have hz164 : z164.toInt = 6 * k.toInt := by omega
              intro z167 q167 _ hq167 hl167 hu167
              have hq167 : z167.toInt = z164.toInt + i.toInt + 4294967296 * q167 := hq167
              try have hz167 : z167.toInt = z164.toInt + i.toInt := by omega
              refine And.intro (show f_in z167 216 from ⟨show 0 ≤ z167.toInt from by omega, show z167.toInt < 216 from by omega⟩) ?_
              have r168_1 : 0 ≤ (J139 67 (z167.toInt.toNat)).toInt ∧ (J139 67 (z167.toInt.toNat)).toInt ≤ 11 := hR139c 67 (z167.toInt.toNat)
              have e168_2 : (J139 67 (z167.toInt.toNat)).toInt = (I 67 (z167.toInt.toNat)).toInt := congrArg Int32.toInt (congrFun (hF139c 67 rfl) (z167.toInt.toNat))
              refine And.intro (show f_in z156 72 from ⟨show 0 ≤ z156.toInt from by omega, show z156.toInt < 72 from by omega⟩) ?_
              have hR169 := mR_a (k := 57) (j := z156.toInt.toNat) (x := J139 67 (z167.toInt.toNat)) hR139c (show 0 ≤ (J139 67 (z167.toInt.toNat)).toInt ∧ (J139 67 (z167.toInt.toNat)).toInt ≤ 11 from ⟨by omega, by omega⟩)
              have hF169 := f_fr_up (k := 57) (r := upd (J139 57) (z156.toInt.toNat) (J139 67 (z167.toInt.toNat))) hF139c rfl
              have hO169 := f_fo_ne (k := 57) (r := upd (J139 57) (z156.toInt.toNat) (J139 67 (z167.toInt.toNat))) hO139c (by decide)
              have hmL169 := f_depo_up mL_dep (k := 57) (r := upd (J139 57) (z156.toInt.toNat) (J139 67 (z167.toInt.toNat))) hmL139c rfl (by decide)
              have hmK169 := f_depo_up mK_dep (k := 57) (r := upd (J139 57) (z156.toInt.toNat) (J139 67 (z167.toInt.toNat))) hmK139c rfl (by decide)
              intro z170 q170 _ hq170 hl170 hu170
              have hq170 : z170.toInt = i.toInt + 1 + 4294967296 * q170 := hq170
              try have hz170 : z170.toInt = i.toInt + 1 := by omega
              have q170 : ∀ j : Nat, (j : Int) < 6 * n.toInt + z170.toInt → (upd (J139 57) z156.toInt.toNat (J139 67 z167.toInt.toNat)) j = I 67 (72 * b.toInt.toNat + j) := fun j hj => by
                by_cases q : j = z156.toInt.toNat
                · rw [q, pk_us, hF139c 67 rfl, show z167.toInt.toNat = 72 * b.toInt.toNat + z156.toInt.toNat by omega]
                · rw [pk_un q]; exact u139_9 j (by omega)
              exact ⟨k, z170, (by intro q9 h9; simp only [List.mem_cons, List.not_mem_nil, or_false] at h9; rcases h9 with h9 | h9 | h9 | h9 | h9 <;> subst h9 <;> repeat (first | exact List.mem_cons_self | apply List.mem_cons_of_mem)), rfl, rfl, hR169, hF169, hO169, hmL169, hmK169, (show n.toInt < (I 63 b.toInt.toNat).toInt from by first | assumption | omega), (show k.toInt = 12 * b.toInt + n.toInt from by first | assumption | omega | rfl), (show 0 ≤ z170.toInt from by first | assumption | omega), (show z170.toInt ≤ 6 from by first | assumption | omega), (show J139 0 83 = I 63 b.toInt.toNat from by first | assumption | omega | rfl), (show J139 0 30 = I 64 b.toInt.toNat from by first | assumption | omega | rfl), (show (∀ j : Nat, (j : Int) < 8 → J139 19 j = I 65 (8 * b.toInt.toNat + j)) from by first | assumption | omega | exact fun _ _ => rfl | exact fun _ _ => ⟨rfl, rfl⟩ | exact fun _ _ => ⟨rfl, rfl, rfl⟩ | (intro j9 hj9; omega)), (show (∀ j : Nat, (j : Int) < n.toInt + 1 → J139 56 j = I 66 (12 * b.toInt.toNat + j)) from by first | assumption | omega | exact fun _ _ => rfl | exact fun _ _ => ⟨rfl, rfl⟩ | exact fun _ _ => ⟨rfl, rfl, rfl⟩ | (intro j9 hj9; omega)), (show (∀ j : Nat, (j : Int) < 6 * n.toInt + z170.toInt → (upd (J139 57) (z156.toInt.toNat) (J139 67 (z167.toInt.toNat))) j = I 67 (72 * b.toInt.toNat + j)) from by first | assumption | omega | exact fun _ _ => rfl | exact fun _ _ => ⟨rfl, rfl⟩ | exact fun _ _ => ⟨rfl, rfl, rfl⟩ | (intro j9 hj9; omega)), (show (6 - z170.toInt) < n139 from by omega)⟩
        refine f_wp_ok C f_cl flX12_ok fiX12_ok fjX12_ok (sn := none) (fun j h => by cases h) (cs := (fun _ => none)) (cz := (f_cnl [(366, (3, 3, 11, pX12_isIn, qX12_isIn))])) (fun j S h => by cases h) (f_cnl_of (P := fun j S => f_cok pP l eP (f_rm 1) sP mP aP bP hP9 cP mY 71 a cy dC dI 5 _ _ (.invokestatic j) false S) (List.forall_mem_cons.mpr ⟨f_cokS C (mX12_isIn hinj) (List.forall_mem_cons.mpr ⟨(mlX12_ok _ (List.mem_of_getElem? (i := 27) rfl)), kc_X12_isIn⟩) (by decide +kernel) ⟨Nat.le_of_ble_eq_true rfl, Nat.le_of_ble_eq_true rfl⟩, fun _ h => absurd h List.not_mem_nil⟩)) tX12_back_ok (cut := (f_cnl [(139, (fun (ls' : fLs) (st' : List Value) (I' : fM) (L' : fN) => ∃ k : Int32, ∃ i : Int32, (∀ q ∈ ([(4, .int i), (3, .int k), (2, .int n), (1, .int b), (0, .ref 0)] : fLs), q ∈ ls') ∧ st' = [] ∧ L' = L ∧ (mR I' ∧ f_fr [0, 19, 56, 57, 58, 59, 60] I I' ∧ f_fo [30, 70, 83] I I' ∧ mL I' ∧ mK I' ∧ (n.toInt < (I 63 b.toInt.toNat).toInt) ∧ (k.toInt = 12 * b.toInt + n.toInt) ∧ (0 ≤ i.toInt) ∧ (i.toInt ≤ 6) ∧ (I' 0 83 = I 63 b.toInt.toNat) ∧ (I' 0 30 = I 64 b.toInt.toNat) ∧ ((∀ j : Nat, (j : Int) < 8 → I' 19 j = I 65 (8 * b.toInt.toNat + j))) ∧ ((∀ j : Nat, (j : Int) < n.toInt + 1 → I' 56 j = I 66 (12 * b.toInt.toNat + j))) ∧ ((∀ j : Nat, (j : Int) < 6 * n.toInt + i.toInt → I' 57 j = I 67 (72 * b.toInt.toNat + j))) ∧ (6 - i.toInt) < 7)))])) (f_cnl_of (P := fun (tQ : Nat) (P : fLs → List Value → fM → fN → Prop) => ∀ ls' st' I' L', P ls' st' I' L' → f_W pP l eP (f_rm 1) sP mP aP bP hP9 cP mY 71 a cy dC dI 5 (f_K 1 (qX12_backb [.ref 0, .int b] I L)) tQ ls' st' I' L') (List.forall_mem_cons.mpr ⟨(fun ls' st' I' L' h => by obtain ⟨k, i, hs, e1, e3, h9⟩ := h; rw [e1, e3]; exact f_W_sub hs (lp139 7 k i I' h9)), fun _ h => absurd h List.not_mem_nil⟩)) 47 73 (f_seek 73 0 tX12_back) (f_seek_ok 73 0 tX12_back tX12_back_ok) _ _ _ _ ?_
        have r75_1 : 0 ≤ (J73 0 83).toInt ∧ (J73 0 83).toInt ≤ 12 := hR73c 0 83
        apply And.intro
        · intro h78
          have h78 : (J73 0 83).toInt ≤ n.toInt := h78
          refine And.intro (Or.inl rfl) ?_
          have hR184 := mR_f (k := 0) (j := 70) (x := Int32.ofInt 0) hR73c (by exact f_rng _)
          have hF184 := f_fr_up (k := 0) (r := va_up (J73 0) 70 (Int32.ofInt 0)) hF73c rfl
          have hO184 := f_fo_up (j := 70) (x := Int32.ofInt 0) hO73c rfl
          have hmL184 := f_depo_up0 mL_dep (j := 70) (x := Int32.ofInt 0) hmL73c rfl rfl
          have hmK184 := f_depo_up0 mK_dep (j := 70) (x := Int32.ofInt 0) hmK73c rfl rfl
          have hmW184 : mW (va_up J73 0 (va_up (J73 0) 70 (Int32.ofInt 0))) := by
            have m66 : ∀ j, (I 66 j).toInt ≤ 6 := fun j => (hR 66 j).2
            have m64 : (I 64 b.toInt.toNat).toInt ≤ 8 := (hR 64 _).2
            have hbx := hmW.2.2 b.toInt.toNat (by omega) u73_5
            have e : mW J73 := by
              unfold mW
              rw [hO73c 24 rfl, u73_6, u73_7, hF73c 9 rfl, hF73c 63 rfl, hF73c 64 rfl, hF73c 65 rfl, hF73c 66 rfl, hF73c 67 rfl]
              refine ⟨fun j hj => ?_, fun m j h1 h2 h3 => ?_, hmW.2.2⟩
              · rw [u73_8 j (by omega)]
                exact hbx.1 _ (by omega) (by omega)
              · rw [u73_9 m (by omega)] at h3
                have := m66 (12 * b.toInt.toNat + m)
                rw [u73_10 j (by omega)]
                exact hbx.2 (12 * b.toInt.toNat + m) _ (by omega) (by omega) (by omega) (by omega)
            exact f_depo_up0 mW_dep e rfl rfl
          exact ⟨hR184, hmL184, hmK184, hmW184, hO184, hF184, rfl⟩
        · intro h78
          have h78 : n.toInt < (J73 0 83).toInt := h78
          intro z84 q84 _ hq84 hl84 hu84
          have hq84 : z84.toInt = 12 * b.toInt + 4294967296 * q84 := hq84
          try have hz84 : z84.toInt = 12 * b.toInt := by omega
          intro z86 q86 _ hq86 hl86 hu86
          have hq86 : z86.toInt = z84.toInt + n.toInt + 4294967296 * q86 := hq86
          try have hz86 : z86.toInt = z84.toInt + n.toInt := by omega
          refine And.intro (show f_in z86 36 from ⟨show 0 ≤ z86.toInt from by omega, show z86.toInt < 36 from by omega⟩) ?_
          have r98_2 : 0 ≤ (J73 66 (z86.toInt.toNat)).toInt ∧ (J73 66 (z86.toInt.toNat)).toInt ≤ 6 := hR73c 66 (z86.toInt.toNat)
          have e98_3 : (J73 66 (z86.toInt.toNat)).toInt = (I 66 (z86.toInt.toNat)).toInt := congrArg Int32.toInt (congrFun (hF73c 66 rfl) (z86.toInt.toNat))
          refine And.intro (show f_in n 12 from ⟨show 0 ≤ n.toInt from by omega, show n.toInt < 12 from by omega⟩) ?_
          have hR99 := mR_a (k := 56) (j := n.toInt.toNat) (x := J73 66 (z86.toInt.toNat)) hR73c (show 0 ≤ (J73 66 (z86.toInt.toNat)).toInt ∧ (J73 66 (z86.toInt.toNat)).toInt ≤ 6 from ⟨by omega, by omega⟩)
          have hF99 := f_fr_up (k := 56) (r := upd (J73 56) (n.toInt.toNat) (J73 66 (z86.toInt.toNat))) hF73c rfl
          have hO99 := f_fo_ne (k := 56) (r := upd (J73 56) (n.toInt.toNat) (J73 66 (z86.toInt.toNat))) hO73c (by decide)
          have hmL99 := f_depo_up mL_dep (k := 56) (r := upd (J73 56) (n.toInt.toNat) (J73 66 (z86.toInt.toNat))) hmL73c rfl (by decide)
          have hmK99 := f_depo_up mK_dep (k := 56) (r := upd (J73 56) (n.toInt.toNat) (J73 66 (z86.toInt.toNat))) hmK73c rfl (by decide)
          have q99 : ∀ j : Nat, (j : Int) < n.toInt + 1 → (upd (J73 56) n.toInt.toNat (J73 66 z86.toInt.toNat)) j = I 66 (12 * b.toInt.toNat + j) := fun j hj => by
            by_cases q : j = n.toInt.toNat
            · rw [q, pk_us, hF73c 66 rfl, show z86.toInt.toNat = 12 * b.toInt.toNat + n.toInt.toNat by omega]
            · rw [pk_un q]; exact u73_9 j (by omega)
          have t99 : ∀ j : Nat, (j : Int) < 6 * n.toInt + (0 : Int) → J73 57 j = I 67 (72 * b.toInt.toNat + j) := fun j hj => u73_10 j (by omega)
          refine And.intro (show f_in z86 36 from ⟨show 0 ≤ z86.toInt from by omega, show z86.toInt < 36 from by omega⟩) ?_
          have e110_5 : (J73 68 (z86.toInt.toNat)).toInt = (I 68 (z86.toInt.toNat)).toInt := congrArg Int32.toInt (congrFun (hF73c 68 rfl) (z86.toInt.toNat))
          refine And.intro (show f_in n 12 from ⟨show 0 ≤ n.toInt from by omega, show n.toInt < 12 from by omega⟩) ?_
          have hR111 := mR_a (k := 58) (j := n.toInt.toNat) (x := J73 68 (z86.toInt.toNat)) hR99 (by exact f_rng _)
          have hF111 := f_fr_up (k := 58) (r := upd (J73 58) (n.toInt.toNat) (J73 68 (z86.toInt.toNat))) hF99 rfl
          have hO111 := f_fo_ne (k := 58) (r := upd (J73 58) (n.toInt.toNat) (J73 68 (z86.toInt.toNat))) hO99 (by decide)
          have hmL111 := f_depo_up mL_dep (k := 58) (r := upd (J73 58) (n.toInt.toNat) (J73 68 (z86.toInt.toNat))) hmL99 rfl (by decide)
          have hmK111 := f_depo_up mK_dep (k := 58) (r := upd (J73 58) (n.toInt.toNat) (J73 68 (z86.toInt.toNat))) hmK99 rfl (by decide)
          refine And.intro (show f_in z86 36 from ⟨show 0 ≤ z86.toInt from by omega, show z86.toInt < 36 from by omega⟩) ?_
          have e122_7 : (J73 69 (z86.toInt.toNat)).toInt = (I 69 (z86.toInt.toNat)).toInt := congrArg Int32.toInt (congrFun (hF73c 69 rfl) (z86.toInt.toNat))
          refine And.intro (show f_in n 12 from ⟨show 0 ≤ n.toInt from by omega, show n.toInt < 12 from by omega⟩) ?_
          have hR123 := mR_a (k := 59) (j := n.toInt.toNat) (x := J73 69 (z86.toInt.toNat)) hR111 (by exact f_rng _)
          have hF123 := f_fr_up (k := 59) (r := upd (J73 59) (n.toInt.toNat) (J73 69 (z86.toInt.toNat))) hF111 rfl
          have hO123 := f_fo_ne (k := 59) (r := upd (J73 59) (n.toInt.toNat) (J73 69 (z86.toInt.toNat))) hO111 (by decide)
          have hmL123 := f_depo_up mL_dep (k := 59) (r := upd (J73 59) (n.toInt.toNat) (J73 69 (z86.toInt.toNat))) hmL111 rfl (by decide)
          have hmK123 := f_depo_up mK_dep (k := 59) (r := upd (J73 59) (n.toInt.toNat) (J73 69 (z86.toInt.toNat))) hmK111 rfl (by decide)
          refine And.intro (show f_in z86 36 from ⟨show 0 ≤ z86.toInt from by omega, show z86.toInt < 36 from by omega⟩) ?_
          have e134_9 : (J73 70 (z86.toInt.toNat)).toInt = (I 70 (z86.toInt.toNat)).toInt := congrArg Int32.toInt (congrFun (hF73c 70 rfl) (z86.toInt.toNat))
          refine And.intro (show f_in n 12 from ⟨show 0 ≤ n.toInt from by omega, show n.toInt < 12 from by omega⟩) ?_
          have nb135 : 0 ≤ (vp_nar .boolean (J73 70 (z86.toInt.toNat))).toInt ∧ (vp_nar .boolean (J73 70 (z86.toInt.toNat))).toInt ≤ 1 := f_narb _
          have hR135 := mR_a (k := 60) (j := n.toInt.toNat) (x := vp_nar .boolean (J73 70 (z86.toInt.toNat))) hR123 (by exact f_rng _)
          have hF135 := f_fr_up (k := 60) (r := upd (J73 60) (n.toInt.toNat) (vp_nar .boolean (J73 70 (z86.toInt.toNat)))) hF123 rfl
          have hO135 := f_fo_ne (k := 60) (r := upd (J73 60) (n.toInt.toNat) (vp_nar .boolean (J73 70 (z86.toInt.toNat)))) hO123 (by decide)
          have hmL135 := f_depo_up mL_dep (k := 60) (r := upd (J73 60) (n.toInt.toNat) (vp_nar .boolean (J73 70 (z86.toInt.toNat)))) hmL123 rfl (by decide)
          have hmK135 := f_depo_up mK_dep (k := 60) (r := upd (J73 60) (n.toInt.toNat) (vp_nar .boolean (J73 70 (z86.toInt.toNat)))) hmK123 rfl (by decide)
          exact ⟨z86, Int32.ofInt 0, (by intro q9 h9; simp only [List.mem_cons, List.not_mem_nil, or_false] at h9; rcases h9 with h9 | h9 | h9 | h9 | h9 <;> subst h9 <;> repeat (first | exact List.mem_cons_self | apply List.mem_cons_of_mem)), rfl, rfl, hR135, hF135, hO135, hmL135, hmK135, (show n.toInt < (I 63 b.toInt.toNat).toInt from by first | assumption | omega), (show z86.toInt = 12 * b.toInt + n.toInt from by first | assumption | omega | rfl), (show 0 ≤ (0 : Int) from by first | assumption | omega), (show (0 : Int) ≤ 6 from by first | assumption | omega), (show J73 0 83 = I 63 b.toInt.toNat from by first | assumption | omega | rfl), (show J73 0 30 = I 64 b.toInt.toNat from by first | assumption | omega | rfl), (show (∀ j : Nat, (j : Int) < 8 → J73 19 j = I 65 (8 * b.toInt.toNat + j)) from by first | assumption | omega | exact fun _ _ => rfl | exact fun _ _ => ⟨rfl, rfl⟩ | exact fun _ _ => ⟨rfl, rfl, rfl⟩ | (intro j9 hj9; omega)), (show (∀ j : Nat, (j : Int) < n.toInt + 1 → (upd (J73 56) (n.toInt.toNat) (J73 66 (z86.toInt.toNat))) j = I 66 (12 * b.toInt.toNat + j)) from by first | assumption | omega | exact fun _ _ => rfl | exact fun _ _ => ⟨rfl, rfl⟩ | exact fun _ _ => ⟨rfl, rfl, rfl⟩ | (intro j9 hj9; omega)), (show (∀ j : Nat, (j : Int) < 6 * n.toInt + (0 : Int) → J73 57 j = I 67 (72 * b.toInt.toNat + j)) from by first | assumption | omega | exact fun _ _ => rfl | exact fun _ _ => ⟨rfl, rfl⟩ | exact fun _ _ => ⟨rfl, rfl, rfl⟩ | (intro j9 hj9; omega)), (show (6 - (0 : Int)) < 7 from by omega)⟩
    have lp42 : ∀ (n42 : Nat), ∀ (i : Int32) (J42 : fM), mR J42 ∧ f_fr [0, 19, 56, 57, 58, 59, 60] I J42 ∧ f_fo [30, 70, 83] I J42 ∧ mL J42 ∧ mK J42 ∧ (0 ≤ b.toInt) ∧ (b.toInt ≤ 2) ∧ (0 ≤ i.toInt) ∧ (i.toInt ≤ 8) ∧ (0 ≤ (I 63 b.toInt.toNat).toInt) ∧ (J42 0 83 = I 63 b.toInt.toNat) ∧ (J42 0 30 = I 64 b.toInt.toNat) ∧ ((∀ j : Nat, (j : Int) < i.toInt → J42 19 j = I 65 (8 * b.toInt.toNat + j))) ∧ (8 - i.toInt) < n42 → f_W pP l eP (f_rm 1) sP mP aP bP hP9 cP mY 71 a cy dC dI 5 (f_K 1 (qX12_backb [.ref 0, .int b] I L)) 42 [(2, .int i), (1, .int b), (0, .ref 0)] [] J42 L := by
      intro n42
      induction n42 with
      | zero =>
        intro i J42 h9
        obtain ⟨hR42c, hF42c, hO42c, hmL42c, hmK42c, u42_1, u42_2, u42_3, u42_4, u42_5, u42_6, u42_7, u42_8, hm42⟩ := h9
        omega
      | succ n42 ih42 =>
        intro i J42 h9
        obtain ⟨hR42c, hF42c, hO42c, hmL42c, hmK42c, u42_1, u42_2, u42_3, u42_4, u42_5, u42_6, u42_7, u42_8, hm42⟩ := h9
        refine f_wp_ok C f_cl flX12_ok fiX12_ok fjX12_ok (sn := none) (fun j h => by cases h) (cs := (fun _ => none)) (cz := (f_cnl [(366, (3, 3, 11, pX12_isIn, qX12_isIn))])) (fun j S h => by cases h) (f_cnl_of (P := fun j S => f_cok pP l eP (f_rm 1) sP mP aP bP hP9 cP mY 71 a cy dC dI 5 _ _ (.invokestatic j) false S) (List.forall_mem_cons.mpr ⟨f_cokS C (mX12_isIn hinj) (List.forall_mem_cons.mpr ⟨(mlX12_ok _ (List.mem_of_getElem? (i := 27) rfl)), kc_X12_isIn⟩) (by decide +kernel) ⟨Nat.le_of_ble_eq_true rfl, Nat.le_of_ble_eq_true rfl⟩, fun _ h => absurd h List.not_mem_nil⟩)) tX12_back_ok (cut := (f_cnl [(42, (fun (ls' : fLs) (st' : List Value) (I' : fM) (L' : fN) => ∃ i : Int32, (∀ q ∈ ([(2, .int i), (1, .int b), (0, .ref 0)] : fLs), q ∈ ls') ∧ st' = [] ∧ L' = L ∧ (mR I' ∧ f_fr [0, 19, 56, 57, 58, 59, 60] I I' ∧ f_fo [30, 70, 83] I I' ∧ mL I' ∧ mK I' ∧ (0 ≤ b.toInt) ∧ (b.toInt ≤ 2) ∧ (0 ≤ i.toInt) ∧ (i.toInt ≤ 8) ∧ (0 ≤ (I 63 b.toInt.toNat).toInt) ∧ (I' 0 83 = I 63 b.toInt.toNat) ∧ (I' 0 30 = I 64 b.toInt.toNat) ∧ ((∀ j : Nat, (j : Int) < i.toInt → I' 19 j = I 65 (8 * b.toInt.toNat + j))) ∧ (8 - i.toInt) < n42))), (73, (fun (ls' : fLs) (st' : List Value) (I' : fM) (L' : fN) => ∃ n : Int32, (∀ q ∈ ([(2, .int n), (1, .int b), (0, .ref 0)] : fLs), q ∈ ls') ∧ st' = [] ∧ L' = L ∧ (mR I' ∧ f_fr [0, 19, 56, 57, 58, 59, 60] I I' ∧ f_fo [30, 70, 83] I I' ∧ mL I' ∧ mK I' ∧ (0 ≤ b.toInt) ∧ (b.toInt ≤ 2) ∧ (0 ≤ n.toInt) ∧ (n.toInt ≤ (I 63 b.toInt.toNat).toInt) ∧ (0 ≤ (I 63 b.toInt.toNat).toInt) ∧ (I' 0 83 = I 63 b.toInt.toNat) ∧ (I' 0 30 = I 64 b.toInt.toNat) ∧ ((∀ j : Nat, (j : Int) < 8 → I' 19 j = I 65 (8 * b.toInt.toNat + j))) ∧ ((∀ j : Nat, (j : Int) < n.toInt → I' 56 j = I 66 (12 * b.toInt.toNat + j))) ∧ ((∀ j : Nat, (j : Int) < 6 * n.toInt → I' 57 j = I 67 (72 * b.toInt.toNat + j))) ∧ (12 - n.toInt) < 13)))])) (f_cnl_of (P := fun (tQ : Nat) (P : fLs → List Value → fM → fN → Prop) => ∀ ls' st' I' L', P ls' st' I' L' → f_W pP l eP (f_rm 1) sP mP aP bP hP9 cP mY 71 a cy dC dI 5 (f_K 1 (qX12_backb [.ref 0, .int b] I L)) tQ ls' st' I' L') (List.forall_mem_cons.mpr ⟨(fun ls' st' I' L' h => by obtain ⟨i, hs, e1, e3, h9⟩ := h; rw [e1, e3]; exact f_W_sub hs (ih42 i I' h9)), List.forall_mem_cons.mpr ⟨(fun ls' st' I' L' h => by obtain ⟨n, hs, e1, e3, h9⟩ := h; rw [e1, e3]; exact f_W_sub hs (lp73 13 n I' h9)), fun _ h => absurd h List.not_mem_nil⟩⟩)) 20 42 (f_seek 42 0 tX12_back) (f_seek_ok 42 0 tX12_back tX12_back_ok) _ _ _ _ ?_
        apply And.intro
        · intro h45
          have h45 : 8 ≤ i.toInt := h45
          have s71 : ∀ j : Nat, (j : Int) < 8 → J42 19 j = I 65 (8 * b.toInt.toNat + j) := fun j hj => u42_8 j (by omega)
          have s72 : ∀ j : Nat, (j : Int) < (0 : Int) → J42 56 j = I 66 (12 * b.toInt.toNat + j) := fun j hj => by omega
          have s73 : ∀ j : Nat, (j : Int) < 6 * (0 : Int) → J42 57 j = I 67 (72 * b.toInt.toNat + j) := fun j hj => by omega
          exact ⟨Int32.ofInt 0, (by intro q9 h9; simp only [List.mem_cons, List.not_mem_nil, or_false] at h9; rcases h9 with h9 | h9 | h9 <;> subst h9 <;> repeat (first | exact List.mem_cons_self | apply List.mem_cons_of_mem)), rfl, rfl, hR42c, hF42c, hO42c, hmL42c, hmK42c, (show 0 ≤ b.toInt from by first | assumption | omega), (show b.toInt ≤ 2 from by first | assumption | omega), (show 0 ≤ (0 : Int) from by first | assumption | omega), (show (0 : Int) ≤ (I 63 b.toInt.toNat).toInt from by first | assumption | omega), (show 0 ≤ (I 63 b.toInt.toNat).toInt from by first | assumption | omega), (show J42 0 83 = I 63 b.toInt.toNat from by first | assumption | omega | rfl), (show J42 0 30 = I 64 b.toInt.toNat from by first | assumption | omega | rfl), (show (∀ j : Nat, (j : Int) < 8 → J42 19 j = I 65 (8 * b.toInt.toNat + j)) from by first | assumption | omega | exact fun _ _ => rfl | exact fun _ _ => ⟨rfl, rfl⟩ | exact fun _ _ => ⟨rfl, rfl, rfl⟩ | (intro j9 hj9; omega)), (show (∀ j : Nat, (j : Int) < (0 : Int) → J42 56 j = I 66 (12 * b.toInt.toNat + j)) from by first | assumption | omega | exact fun _ _ => rfl | exact fun _ _ => ⟨rfl, rfl⟩ | exact fun _ _ => ⟨rfl, rfl, rfl⟩ | (intro j9 hj9; omega)), (show (∀ j : Nat, (j : Int) < 6 * (0 : Int) → J42 57 j = I 67 (72 * b.toInt.toNat + j)) from by first | assumption | omega | exact fun _ _ => rfl | exact fun _ _ => ⟨rfl, rfl⟩ | exact fun _ _ => ⟨rfl, rfl, rfl⟩ | (intro j9 hj9; omega)), (show (12 - (0 : Int)) < 13 from by omega)⟩
        · intro h45
          have h45 : i.toInt < 8 := h45
          intro z60 q60 _ hq60 hl60 hu60
          have hq60 : z60.toInt = 8 * b.toInt + 4294967296 * q60 := hq60
          try have hz60 : z60.toInt = 8 * b.toInt := by omega
          intro z62 q62 _ hq62 hl62 hu62
          have hq62 : z62.toInt = z60.toInt + i.toInt + 4294967296 * q62 := hq62
          try have hz62 : z62.toInt = z60.toInt + i.toInt := by omega
          refine And.intro (show f_in z62 24 from ⟨show 0 ≤ z62.toInt from by omega, show z62.toInt < 24 from by omega⟩) ?_
          have r63_1 : 0 ≤ (J42 65 (z62.toInt.toNat)).toInt ∧ (J42 65 (z62.toInt.toNat)).toInt ≤ 11 := hR42c 65 (z62.toInt.toNat)
          have e63_2 : (J42 65 (z62.toInt.toNat)).toInt = (I 65 (z62.toInt.toNat)).toInt := congrArg Int32.toInt (congrFun (hF42c 65 rfl) (z62.toInt.toNat))
          refine And.intro (show f_in i 8 from ⟨show 0 ≤ i.toInt from by omega, show i.toInt < 8 from by omega⟩) ?_
          have hR64 := mR_a (k := 19) (j := i.toInt.toNat) (x := J42 65 (z62.toInt.toNat)) hR42c (show 0 ≤ (J42 65 (z62.toInt.toNat)).toInt ∧ (J42 65 (z62.toInt.toNat)).toInt ≤ 11 from ⟨by omega, by omega⟩)
          have hF64 := f_fr_up (k := 19) (r := upd (J42 19) (i.toInt.toNat) (J42 65 (z62.toInt.toNat))) hF42c rfl
          have hO64 := f_fo_ne (k := 19) (r := upd (J42 19) (i.toInt.toNat) (J42 65 (z62.toInt.toNat))) hO42c (by decide)
          have hmL64 := f_depo_up mL_dep (k := 19) (r := upd (J42 19) (i.toInt.toNat) (J42 65 (z62.toInt.toNat))) hmL42c rfl (by decide)
          have hmK64 := f_depo_up mK_dep (k := 19) (r := upd (J42 19) (i.toInt.toNat) (J42 65 (z62.toInt.toNat))) hmK42c rfl (by decide)
          intro z65 q65 _ hq65 hl65 hu65
          have hq65 : z65.toInt = i.toInt + 1 + 4294967296 * q65 := hq65
          try have hz65 : z65.toInt = i.toInt + 1 := by omega
          have q65 : ∀ j : Nat, (j : Int) < z65.toInt → (upd (J42 19) i.toInt.toNat (J42 65 z62.toInt.toNat)) j = I 65 (8 * b.toInt.toNat + j) := fun j hj => by
            by_cases q : j = i.toInt.toNat
            · rw [q, pk_us, hF42c 65 rfl, show z62.toInt.toNat = 8 * b.toInt.toNat + i.toInt.toNat by omega]
            · rw [pk_un q]; exact u42_8 j (by omega)
          exact ⟨z65, (by intro q9 h9; simp only [List.mem_cons, List.not_mem_nil, or_false] at h9; rcases h9 with h9 | h9 | h9 <;> subst h9 <;> repeat (first | exact List.mem_cons_self | apply List.mem_cons_of_mem)), rfl, rfl, hR64, hF64, hO64, hmL64, hmK64, (show 0 ≤ b.toInt from by first | assumption | omega), (show b.toInt ≤ 2 from by first | assumption | omega), (show 0 ≤ z65.toInt from by first | assumption | omega), (show z65.toInt ≤ 8 from by first | assumption | omega), (show 0 ≤ (I 63 b.toInt.toNat).toInt from by first | assumption | omega), (show J42 0 83 = I 63 b.toInt.toNat from by first | assumption | omega | rfl), (show J42 0 30 = I 64 b.toInt.toNat from by first | assumption | omega | rfl), (show (∀ j : Nat, (j : Int) < z65.toInt → (upd (J42 19) (i.toInt.toNat) (J42 65 (z62.toInt.toNat))) j = I 65 (8 * b.toInt.toNat + j)) from by first | assumption | omega | exact fun _ _ => rfl | exact fun _ _ => ⟨rfl, rfl⟩ | exact fun _ _ => ⟨rfl, rfl, rfl⟩ | (intro j9 hj9; omega)), (show (8 - z65.toInt) < n42 from by omega)⟩
    refine f_wp_ok C f_cl flX12_ok fiX12_ok fjX12_ok (sn := none) (fun j h => by cases h) (cs := (fun _ => none)) (cz := (f_cnl [(366, (3, 3, 11, pX12_isIn, qX12_isIn))])) (fun j S h => by cases h) (f_cnl_of (P := fun j S => f_cok pP l eP (f_rm 1) sP mP aP bP hP9 cP mY 71 a cy dC dI 5 _ _ (.invokestatic j) false S) (List.forall_mem_cons.mpr ⟨f_cokS C (mX12_isIn hinj) (List.forall_mem_cons.mpr ⟨(mlX12_ok _ (List.mem_of_getElem? (i := 27) rfl)), kc_X12_isIn⟩) (by decide +kernel) ⟨Nat.le_of_ble_eq_true rfl, Nat.le_of_ble_eq_true rfl⟩, fun _ h => absurd h List.not_mem_nil⟩)) tX12_back_ok (cut := (f_cnl [(42, (fun (ls' : fLs) (st' : List Value) (I' : fM) (L' : fN) => ∃ i : Int32, (∀ q ∈ ([(2, .int i), (1, .int b), (0, .ref 0)] : fLs), q ∈ ls') ∧ st' = [] ∧ L' = L ∧ (mR I' ∧ f_fr [0, 19, 56, 57, 58, 59, 60] I I' ∧ f_fo [30, 70, 83] I I' ∧ mL I' ∧ mK I' ∧ (0 ≤ b.toInt) ∧ (b.toInt ≤ 2) ∧ (0 ≤ i.toInt) ∧ (i.toInt ≤ 8) ∧ (0 ≤ (I 63 b.toInt.toNat).toInt) ∧ (I' 0 83 = I 63 b.toInt.toNat) ∧ (I' 0 30 = I 64 b.toInt.toNat) ∧ ((∀ j : Nat, (j : Int) < i.toInt → I' 19 j = I 65 (8 * b.toInt.toNat + j))) ∧ (8 - i.toInt) < 9)))])) (f_cnl_of (P := fun (tQ : Nat) (P : fLs → List Value → fM → fN → Prop) => ∀ ls' st' I' L', P ls' st' I' L' → f_W pP l eP (f_rm 1) sP mP aP bP hP9 cP mY 71 a cy dC dI 5 (f_K 1 (qX12_backb [.ref 0, .int b] I L)) tQ ls' st' I' L') (List.forall_mem_cons.mpr ⟨(fun ls' st' I' L' h => by obtain ⟨i, hs, e1, e3, h9⟩ := h; rw [e1, e3]; exact f_W_sub hs (lp42 9 i I' h9)), fun _ h => absurd h List.not_mem_nil⟩)) 27 0 tX12_back tX12_back_ok _ _ _ _ ?_
    refine And.intro trivial ?_
    intro x3 I3 L3 hq3
    have hq3 : I3 = I ∧ L3 = L ∧ ((x3.toInt = 1 ∧ (0 : Int) ≤ b.toInt ∧ b.toInt ≤ (2 : Int) ∨ x3.toInt = 0 ∧ (b.toInt < (0 : Int) ∨ (2 : Int) < b.toInt))) := hq3
    obtain ⟨eI3, eL3, c3_2⟩ := hq3
    replace eI3 := eI3.symm
    subst eI3
    replace eL3 := eL3.symm
    subst eL3
    apply And.intro
    · intro h6
      have h6 : x3.toInt = 0 := h6
      exact ⟨hR, hmL, hmK, hmW, hO0, hF0, rfl⟩
    · intro h6
      have h6 : ¬ x3.toInt = 0 := h6
      refine And.intro (show f_in b 3 from ⟨show 0 ≤ b.toInt from by omega, show b.toInt < 3 from by omega⟩) ?_
      have r14_1 : -1 ≤ (I 63 (b.toInt.toNat)).toInt ∧ (I 63 (b.toInt.toNat)).toInt ≤ 12 := hR 63 (b.toInt.toNat)
      apply And.intro
      · intro h15
        have h15 : 0 ≤ (I 63 (b.toInt.toNat)).toInt := h15
        refine And.intro (show f_in b 3 from ⟨show 0 ≤ b.toInt from by omega, show b.toInt < 3 from by omega⟩) ?_
        have hR27 := mR_f (k := 0) (j := 83) (x := I 63 (b.toInt.toNat)) hR (show 0 ≤ (I 63 (b.toInt.toNat)).toInt ∧ (I 63 (b.toInt.toNat)).toInt ≤ 12 from ⟨by omega, by omega⟩)
        have hF27 := f_fr_up (k := 0) (r := va_up (I 0) 83 (I 63 (b.toInt.toNat))) hF0 rfl
        have hO27 := f_fo_up (j := 83) (x := I 63 (b.toInt.toNat)) hO0 rfl
        have hmL27 := f_depo_up0 mL_dep (j := 83) (x := I 63 (b.toInt.toNat)) hmL rfl rfl
        have hmK27 := f_depo_up0 mK_dep (j := 83) (x := I 63 (b.toInt.toNat)) hmK rfl rfl
        refine And.intro (show f_in b 3 from ⟨show 0 ≤ b.toInt from by omega, show b.toInt < 3 from by omega⟩) ?_
        have r36_2 : 0 ≤ (I 64 (b.toInt.toNat)).toInt ∧ (I 64 (b.toInt.toNat)).toInt ≤ 8 := hR27 64 (b.toInt.toNat)
        have hR37 := mR_f (k := 0) (j := 30) (x := I 64 (b.toInt.toNat)) hR27 (show 0 ≤ (I 64 (b.toInt.toNat)).toInt ∧ (I 64 (b.toInt.toNat)).toInt ≤ 8 from ⟨by omega, by omega⟩)
        have hF37 := f_fr_up (k := 0) (r := va_up (va_up (I 0) 83 (I 63 (b.toInt.toNat))) 30 (I 64 (b.toInt.toNat))) hF27 rfl
        have hO37 := f_fo_up (j := 30) (x := I 64 (b.toInt.toNat)) hO27 rfl
        have hmL37 := f_depo_up0 mL_dep (j := 30) (x := I 64 (b.toInt.toNat)) hmL27 rfl rfl
        have hmK37 := f_depo_up0 mK_dep (j := 30) (x := I 64 (b.toInt.toNat)) hmK27 rfl rfl
        have z37 : ∀ j : Nat, (j : Int) < (0 : Int) → I 19 j = I 65 (8 * b.toInt.toNat + j) := fun j hj => by omega
        exact ⟨Int32.ofInt 0, (by intro q9 h9; simp only [List.mem_cons, List.not_mem_nil, or_false] at h9; rcases h9 with h9 | h9 | h9 <;> subst h9 <;> repeat (first | exact List.mem_cons_self | apply List.mem_cons_of_mem)), rfl, rfl, hR37, hF37, hO37, hmL37, hmK37, (show 0 ≤ b.toInt from by first | assumption | omega), (show b.toInt ≤ 2 from by first | assumption | omega), (show 0 ≤ (0 : Int) from by first | assumption | omega), (show (0 : Int) ≤ 8 from by first | assumption | omega), (show 0 ≤ (I 63 b.toInt.toNat).toInt from by first | assumption | omega), (show I 63 (b.toInt.toNat) = I 63 b.toInt.toNat from by first | assumption | omega | rfl), (show I 64 (b.toInt.toNat) = I 64 b.toInt.toNat from by first | assumption | omega | rfl), (show (∀ j : Nat, (j : Int) < (0 : Int) → I 19 j = I 65 (8 * b.toInt.toNat + j)) from by first | assumption | omega | exact fun _ _ => rfl | exact fun _ _ => ⟨rfl, rfl⟩ | exact fun _ _ => ⟨rfl, rfl, rfl⟩ | (intro j9 hj9; omega)), (show (8 - (0 : Int)) < 9 from by omega)⟩
      · intro h15
        have h15 : (I 63 (b.toInt.toNat)).toInt < 0 := h15
        exact ⟨hR, hmL, hmK, hmW, hO0, hF0, rfl⟩
