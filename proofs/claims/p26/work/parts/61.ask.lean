theorem mO_all {I J : fM} (hL : mL I) (h24 : J 0 24 = I 0 24) (h8 : J 8 = I 8) (h11 : J 11 = I 11) (h53 : ∀ j : Nat, (j : Int) < (J 0 53).toInt → oK J j) (h54 : (J 0 54).toInt = (I 10 (I 0 24).toInt.toNat).toInt) : mO J := by
  refine ⟨h53, ?_⟩
  rw [lvn_eq h24 h8 h11, h54]
  exact hL.2.2.2.1
def tX12_even : List (Instr × Nat) := [(.aload_n 0, 1), (.invokevirtual 466, 3), (.aload_n 0, 1), (.getfield 416, 3), (.ifCond .ge 5, 3), (.iconst 0, 1), (.ireturn, 1), (.aload_n 0, 1), (.invokevirtual 436, 3), (.iconst 0, 1), (.istore_n 1, 1), (.iconst 1, 1), (.istore_n 2, 1), (.iload_n 2, 1), (.ifCond .eq 26, 3), (.iload_n 1, 1), (.aload_n 0, 1), (.invokevirtual 439, 3), (.ifCond .eq 7, 3), (.iconst 1, 1), (.goto 4, 3), (.iconst 0, 1), (.iadd, 1), (.istore_n 1, 1), (.aload_n 0, 1), (.invokevirtual 457, 3), (.istore_n 2, 1), (.goto (-24), 3), (.iload_n 1, 1), (.ireturn, 1)]
theorem tX12_even_ok : f_chk cX12_even 0 tX12_even = true := by decide +kernel
def pX12_even (av : List Value) (I : fM) (L : fN) : Prop := match av with
  | [.ref 0] => mR I ∧ mL I ∧ mK I ∧ mW I
  | _ => False
def qX12_even (av : List Value) (I : fM) (L : fN) (r : Value) (I' : fM) (L' : fN) : Prop := match av, r with
  | [.ref 0], .int x => mR I' ∧ mL I' ∧ mK I' ∧ mW I' ∧ f_fo [53, 54] I I' ∧ f_fr [0, 35, 36, 37, 38] I I' ∧ L' = L
  | _, _ => False
set_option maxHeartbeats 40000000 in
set_option maxRecDepth 100000 in
theorem mX12_even {l : Launch} {a : Nat → Nat} {cy dC : Nat → ClassId} {dI : Nat → Nat → Nat} (hinj : ∀ i j, i < 71 → j < 71 → a i = a j → i = j) : f_Met (fun _ => True) l mY 71 a cy dC dI yX12_even cX12_even 3 1 2 pX12_even qX12_even := by
  refine f_met_of (f_Ec_T 71 a) hinj mY_hi (by decide) (fun av I L h => by unfold pX12_even at h; split at h <;> first | exact Nat.le_of_ble_eq_true rfl | exact h.elim) ?_
  intro pP eP sP mP aP bP hP9 cP C av I L hp
  unfold pX12_even at hp
  split at hp
  case h_2 => exact hp.elim
  case h_1 =>
    obtain ⟨hR, hmL, hmK, hmW⟩ := hp
    have hF0 : f_fr [0, 35, 36, 37, 38] I I := f_fr_rf
    have hO0 : f_fo [53, 54] I I := f_fo_rf
    have lp21 : ∀ (n21 : Nat), ∀ (n : Int32) (more : Int32) (J21 : fM), mR J21 ∧ f_fr [0, 35, 36, 37, 38] I J21 ∧ f_fo [53, 54] I J21 ∧ mL J21 ∧ mK J21 ∧ mW J21 ∧ (mO J21) ∧ (pK J21) ∧ (0 ≤ (J21 0 53).toInt) ∧ ((J21 0 53).toInt ≤ 10) ∧ (more.toInt = 0 ∨ more.toInt = 1) ∧ (0 ≤ gm (1 - more.toInt) (59049 - pvl (J21 37) (J21 0 53).toInt.toNat)) ∧ (gm (1 - more.toInt) (59049 - pvl (J21 37) (J21 0 53).toInt.toNat)) < n21 → f_W pP l eP (f_rm 2) sP mP aP bP hP9 cP mY 71 a cy dC dI 3 (f_K 1 (qX12_even [.ref 0] I L)) 21 [(2, .int more), (1, .int n), (0, .ref 0)] [] J21 L := by
      intro n21
      induction n21 with
      | zero =>
        intro n more J21 h9
        obtain ⟨hR21c, hF21c, hO21c, hmL21c, hmK21c, hmW21c, u21_1, u21_2, u21_3, u21_4, u21_5, u21_6, hm21⟩ := h9
        omega
      | succ n21 ih21 =>
        intro n more J21 h9
        obtain ⟨hR21c, hF21c, hO21c, hmL21c, hmK21c, hmW21c, u21_1, u21_2, u21_3, u21_4, u21_5, u21_6, hm21⟩ := h9
        have v21 := pvl_10 (P := J21 37) (fun j => hR21c 37 j) (n := (J21 0 53).toInt.toNat) (by omega)
        refine f_wp_ok C f_cl flX12_ok fiX12_ok fjX12_ok (sn := none) (fun j h => by cases h) (cs := (f_cnl [(466, (1, 0, 11, pX12_layRow, qX12_layRow)), (436, (1, 0, 11, pX12_firstPick, qX12_firstPick)), (439, (1, 3, 11, pX12_isEven, qX12_isEven)), (457, (1, 3, 11, pX12_nextPick, qX12_nextPick))])) (cz := (fun _ => none)) (f_cnl_of (P := fun j S => f_cok pP l eP (f_rm 2) sP mP aP bP hP9 cP mY 71 a cy dC dI 3 _ _ (.invokevirtual j) true S) (List.forall_mem_cons.mpr ⟨f_cokV C (mX12_layRow hinj) (ci := 11) rfl (List.forall_mem_cons.mpr ⟨(mlX12_ok _ (List.mem_of_getElem? (i := 49) rfl)), kc_X12_layRow⟩) (by decide +kernel) ⟨Nat.le_of_ble_eq_true rfl, Nat.le_of_ble_eq_true rfl⟩, List.forall_mem_cons.mpr ⟨f_cokV C (mX12_firstPick hinj) (ci := 11) rfl (List.forall_mem_cons.mpr ⟨(mlX12_ok _ (List.mem_of_getElem? (i := 41) rfl)), kc_X12_firstPick⟩) (by decide +kernel) ⟨Nat.le_of_ble_eq_true rfl, Nat.le_of_ble_eq_true rfl⟩, List.forall_mem_cons.mpr ⟨f_cokV C (mX12_isEven hinj) (ci := 11) rfl (List.forall_mem_cons.mpr ⟨(mlX12_ok _ (List.mem_of_getElem? (i := 42) rfl)), kc_X12_isEven⟩) (by decide +kernel) ⟨Nat.le_of_ble_eq_true rfl, Nat.le_of_ble_eq_true rfl⟩, List.forall_mem_cons.mpr ⟨f_cokV C (mX12_nextPick hinj) (ci := 11) rfl (List.forall_mem_cons.mpr ⟨(mlX12_ok _ (List.mem_of_getElem? (i := 48) rfl)), kc_X12_nextPick⟩) (by decide +kernel) ⟨Nat.le_of_ble_eq_true rfl, Nat.le_of_ble_eq_true rfl⟩, fun _ h => absurd h List.not_mem_nil⟩⟩⟩⟩)) (fun j S h => by cases h) tX12_even_ok (cut := (f_cnl [(21, (fun (ls' : fLs) (st' : List Value) (I' : fM) (L' : fN) => ∃ n : Int32, ∃ more : Int32, (∀ q ∈ ([(2, .int more), (1, .int n), (0, .ref 0)] : fLs), q ∈ ls') ∧ st' = [] ∧ L' = L ∧ (mR I' ∧ f_fr [0, 35, 36, 37, 38] I I' ∧ f_fo [53, 54] I I' ∧ mL I' ∧ mK I' ∧ mW I' ∧ (mO I') ∧ (pK I') ∧ (0 ≤ (I' 0 53).toInt) ∧ ((I' 0 53).toInt ≤ 10) ∧ (more.toInt = 0 ∨ more.toInt = 1) ∧ (0 ≤ gm (1 - more.toInt) (59049 - pvl (I' 37) (I' 0 53).toInt.toNat)) ∧ (gm (1 - more.toInt) (59049 - pvl (I' 37) (I' 0 53).toInt.toNat)) < n21)))])) (f_cnl_of (P := fun (tQ : Nat) (P : fLs → List Value → fM → fN → Prop) => ∀ ls' st' I' L', P ls' st' I' L' → f_W pP l eP (f_rm 2) sP mP aP bP hP9 cP mY 71 a cy dC dI 3 (f_K 1 (qX12_even [.ref 0] I L)) tQ ls' st' I' L') (List.forall_mem_cons.mpr ⟨(fun ls' st' I' L' h => by obtain ⟨n, more, hs, e1, e3, h9⟩ := h; rw [e1, e3]; exact f_W_sub hs (ih21 n more I' h9)), fun _ h => absurd h List.not_mem_nil⟩)) 17 21 (f_seek 21 0 tX12_even) (f_seek_ok 21 0 tX12_even tX12_even_ok) _ _ _ _ ?_
        apply And.intro
        · intro h22
          have h22 : more.toInt = 0 := h22
          exact ⟨hR21c, hmL21c, hmK21c, hmW21c, hO21c, hF21c, rfl⟩
        · intro h22
          have h22 : ¬ more.toInt = 0 := h22
          refine And.intro hR21c ?_
          intro x27 I27 L27 hq27
          have hq27 : I27 = J21 ∧ L27 = L ∧ ((x27.toInt = 0 ∨ x27.toInt = 1)) := hq27
          obtain ⟨eI27, eL27, c27_2⟩ := hq27
          replace eI27 := eI27.symm
          subst eI27
          replace eL27 := eL27.symm
          subst eL27
          apply And.intro
          · intro h30
            have h30 : x27.toInt = 0 := h30
            intro z38 q38 _ hq38 hl38 hu38
            have hq38 : z38.toInt = n.toInt + 0 + 4294967296 * q38 := hq38
            try have hz38 : z38.toInt = n.toInt + 0 := by omega
            refine And.intro ⟨hR21c, u21_1, u21_2⟩ ?_
            intro x41 I41 L41 hq41
            have hq41 : mR I41 ∧ mO I41 ∧ pK I41 ∧ f_fr [37, 38] J21 I41 ∧ L41 = L ∧ ((x41.toInt = 0 ∨ x41.toInt = 1)) ∧ ((x41.toInt = 1 → pvl (J21 37) (J21 0 53).toInt.toNat < pvl (I41 37) (J21 0 53).toInt.toNat)) := hq41
            obtain ⟨c41_0, c41_1, c41_2, c41_3, eL41, c41_5, c41_6⟩ := hq41
            replace eL41 := eL41.symm
            subst eL41
            have hO41 := f_fo_fr hO21c c41_3 rfl
            have hmL41 := f_depo_fr mL_dep hmL21c c41_3 rfl rfl
            have hmK41 := f_depo_fr mK_dep hmK21c c41_3 rfl rfl
            have hmW41 := f_depo_fr mW_dep hmW21c c41_3 rfl rfl
            have hF41 := f_fr_tr hF21c c41_3 rfl
            have f41 : I41 0 53 = J21 0 53 := congrFun (c41_3 0 rfl) 53
            have i41 : (I41 0 53).toInt = (J21 0 53).toInt := by rw [f41]
            have g41 : gm (1 - more.toInt) (59049 - pvl (J21 37) (J21 0 53).toInt.toNat) = 59049 - pvl (J21 37) (J21 0 53).toInt.toNat + 1 := gm_1 (by omega)
            have v41 := pvl_10 (P := I41 37) (fun j => c41_0 37 j) (n := (I41 0 53).toInt.toNat) (by omega)
            have m41 : 0 ≤ gm (1 - x41.toInt) (59049 - pvl (I41 37) (I41 0 53).toInt.toNat) ∧ gm (1 - x41.toInt) (59049 - pvl (I41 37) (I41 0 53).toInt.toNat) < gm (1 - more.toInt) (59049 - pvl (J21 37) (J21 0 53).toInt.toNat) := by
              rw [g41]
              by_cases h : x41.toInt = 1
              · rw [gm_1 (by omega)]
                have q := c41_6 h
                rw [← f41] at q ⊢
                omega
              · rw [gm_0 (by omega)]; omega
            have r21_1 : 0 ≤ (I41 0 53).toInt ∧ (I41 0 53).toInt ≤ 10 := c41_0 0 53
            have e21_2 : (I41 0 53).toInt = (J21 0 53).toInt := congrArg Int32.toInt (congrFun (c41_3 0 rfl) 53)
            exact ⟨z38, x41, (by intro q9 h9; simp only [List.mem_cons, List.not_mem_nil, or_false] at h9; rcases h9 with h9 | h9 | h9 <;> subst h9 <;> repeat (first | exact List.mem_cons_self | apply List.mem_cons_of_mem)), rfl, rfl, c41_0, hF41, hO41, hmL41, hmK41, hmW41, c41_1, c41_2, (show 0 ≤ (I41 0 53).toInt from by first | assumption | omega), (show (I41 0 53).toInt ≤ 10 from by first | assumption | omega), (show x41.toInt = 0 ∨ x41.toInt = 1 from by first | assumption | omega | rfl), (show 0 ≤ gm (1 - x41.toInt) (59049 - pvl (I41 37) (I41 0 53).toInt.toNat) from by first | assumption | omega), (show (gm (1 - x41.toInt) (59049 - pvl (I41 37) (I41 0 53).toInt.toNat)) < n21 from by omega)⟩
          · intro h30
            have h30 : ¬ x27.toInt = 0 := h30
            intro z38 q38 _ hq38 hl38 hu38
            have hq38 : z38.toInt = n.toInt + 1 + 4294967296 * q38 := hq38
            try have hz38 : z38.toInt = n.toInt + 1 := by omega
            refine And.intro ⟨hR21c, u21_1, u21_2⟩ ?_
            intro x41 I41 L41 hq41
            have hq41 : mR I41 ∧ mO I41 ∧ pK I41 ∧ f_fr [37, 38] J21 I41 ∧ L41 = L ∧ ((x41.toInt = 0 ∨ x41.toInt = 1)) ∧ ((x41.toInt = 1 → pvl (J21 37) (J21 0 53).toInt.toNat < pvl (I41 37) (J21 0 53).toInt.toNat)) := hq41
            obtain ⟨c41_0, c41_1, c41_2, c41_3, eL41, c41_5, c41_6⟩ := hq41
            replace eL41 := eL41.symm
            subst eL41
            have hO41 := f_fo_fr hO21c c41_3 rfl
            have hmL41 := f_depo_fr mL_dep hmL21c c41_3 rfl rfl
            have hmK41 := f_depo_fr mK_dep hmK21c c41_3 rfl rfl
            have hmW41 := f_depo_fr mW_dep hmW21c c41_3 rfl rfl
            have hF41 := f_fr_tr hF21c c41_3 rfl
            have f41 : I41 0 53 = J21 0 53 := congrFun (c41_3 0 rfl) 53
            have i41 : (I41 0 53).toInt = (J21 0 53).toInt := by rw [f41]
            have g41 : gm (1 - more.toInt) (59049 - pvl (J21 37) (J21 0 53).toInt.toNat) = 59049 - pvl (J21 37) (J21 0 53).toInt.toNat + 1 := gm_1 (by omega)
            have v41 := pvl_10 (P := I41 37) (fun j => c41_0 37 j) (n := (I41 0 53).toInt.toNat) (by omega)
            have m41 : 0 ≤ gm (1 - x41.toInt) (59049 - pvl (I41 37) (I41 0 53).toInt.toNat) ∧ gm (1 - x41.toInt) (59049 - pvl (I41 37) (I41 0 53).toInt.toNat) < gm (1 - more.toInt) (59049 - pvl (J21 37) (J21 0 53).toInt.toNat) := by
              rw [g41]
              by_cases h : x41.toInt = 1
              · rw [gm_1 (by omega)]
                have q := c41_6 h
                rw [← f41] at q ⊢
                omega
              · rw [gm_0 (by omega)]; omega
            have r21_1 : 0 ≤ (I41 0 53).toInt ∧ (I41 0 53).toInt ≤ 10 := c41_0 0 53
            have e21_2 : (I41 0 53).toInt = (J21 0 53).toInt := congrArg Int32.toInt (congrFun (c41_3 0 rfl) 53)
            exact ⟨z38, x41, (by intro q9 h9; simp only [List.mem_cons, List.not_mem_nil, or_false] at h9; rcases h9 with h9 | h9 | h9 <;> subst h9 <;> repeat (first | exact List.mem_cons_self | apply List.mem_cons_of_mem)), rfl, rfl, c41_0, hF41, hO41, hmL41, hmK41, hmW41, c41_1, c41_2, (show 0 ≤ (I41 0 53).toInt from by first | assumption | omega), (show (I41 0 53).toInt ≤ 10 from by first | assumption | omega), (show x41.toInt = 0 ∨ x41.toInt = 1 from by first | assumption | omega | rfl), (show 0 ≤ gm (1 - x41.toInt) (59049 - pvl (I41 37) (I41 0 53).toInt.toNat) from by first | assumption | omega), (show (gm (1 - x41.toInt) (59049 - pvl (I41 37) (I41 0 53).toInt.toNat)) < n21 from by omega)⟩
    refine f_wp_ok C f_cl flX12_ok fiX12_ok fjX12_ok (sn := none) (fun j h => by cases h) (cs := (f_cnl [(466, (1, 0, 11, pX12_layRow, qX12_layRow)), (436, (1, 0, 11, pX12_firstPick, qX12_firstPick)), (439, (1, 3, 11, pX12_isEven, qX12_isEven)), (457, (1, 3, 11, pX12_nextPick, qX12_nextPick))])) (cz := (fun _ => none)) (f_cnl_of (P := fun j S => f_cok pP l eP (f_rm 2) sP mP aP bP hP9 cP mY 71 a cy dC dI 3 _ _ (.invokevirtual j) true S) (List.forall_mem_cons.mpr ⟨f_cokV C (mX12_layRow hinj) (ci := 11) rfl (List.forall_mem_cons.mpr ⟨(mlX12_ok _ (List.mem_of_getElem? (i := 49) rfl)), kc_X12_layRow⟩) (by decide +kernel) ⟨Nat.le_of_ble_eq_true rfl, Nat.le_of_ble_eq_true rfl⟩, List.forall_mem_cons.mpr ⟨f_cokV C (mX12_firstPick hinj) (ci := 11) rfl (List.forall_mem_cons.mpr ⟨(mlX12_ok _ (List.mem_of_getElem? (i := 41) rfl)), kc_X12_firstPick⟩) (by decide +kernel) ⟨Nat.le_of_ble_eq_true rfl, Nat.le_of_ble_eq_true rfl⟩, List.forall_mem_cons.mpr ⟨f_cokV C (mX12_isEven hinj) (ci := 11) rfl (List.forall_mem_cons.mpr ⟨(mlX12_ok _ (List.mem_of_getElem? (i := 42) rfl)), kc_X12_isEven⟩) (by decide +kernel) ⟨Nat.le_of_ble_eq_true rfl, Nat.le_of_ble_eq_true rfl⟩, List.forall_mem_cons.mpr ⟨f_cokV C (mX12_nextPick hinj) (ci := 11) rfl (List.forall_mem_cons.mpr ⟨(mlX12_ok _ (List.mem_of_getElem? (i := 48) rfl)), kc_X12_nextPick⟩) (by decide +kernel) ⟨Nat.le_of_ble_eq_true rfl, Nat.le_of_ble_eq_true rfl⟩, fun _ h => absurd h List.not_mem_nil⟩⟩⟩⟩)) (fun j S h => by cases h) tX12_even_ok (cut := (f_cnl [(21, (fun (ls' : fLs) (st' : List Value) (I' : fM) (L' : fN) => ∃ n : Int32, ∃ more : Int32, (∀ q ∈ ([(2, .int more), (1, .int n), (0, .ref 0)] : fLs), q ∈ ls') ∧ st' = [] ∧ L' = L ∧ (mR I' ∧ f_fr [0, 35, 36, 37, 38] I I' ∧ f_fo [53, 54] I I' ∧ mL I' ∧ mK I' ∧ mW I' ∧ (mO I') ∧ (pK I') ∧ (0 ≤ (I' 0 53).toInt) ∧ ((I' 0 53).toInt ≤ 10) ∧ (more.toInt = 0 ∨ more.toInt = 1) ∧ (0 ≤ gm (1 - more.toInt) (59049 - pvl (I' 37) (I' 0 53).toInt.toNat)) ∧ (gm (1 - more.toInt) (59049 - pvl (I' 37) (I' 0 53).toInt.toNat)) < 60000)))])) (f_cnl_of (P := fun (tQ : Nat) (P : fLs → List Value → fM → fN → Prop) => ∀ ls' st' I' L', P ls' st' I' L' → f_W pP l eP (f_rm 2) sP mP aP bP hP9 cP mY 71 a cy dC dI 3 (f_K 1 (qX12_even [.ref 0] I L)) tQ ls' st' I' L') (List.forall_mem_cons.mpr ⟨(fun ls' st' I' L' h => by obtain ⟨n, more, hs, e1, e3, h9⟩ := h; rw [e1, e3]; exact f_W_sub hs (lp21 60000 n more I' h9)), fun _ h => absurd h List.not_mem_nil⟩)) 14 0 tX12_even tX12_even_ok _ _ _ _ ?_
    refine And.intro ⟨hR, hmL, hmW⟩ ?_
    intro I1 L1 hq1
    have hq1 : mR I1 ∧ mL I1 ∧ mW I1 ∧ f_fo [53, 54] I I1 ∧ f_fr [0, 35, 36] I I1 ∧ L1 = L ∧ mO I1 ∧ (I1 0 53).toInt = (I 0 30).toInt ∧ (I1 0 54).toInt = (I 10 (I 0 24).toInt.toNat).toInt := hq1
    obtain ⟨c1_0, c1_1, c1_2, c1_3, c1_4, eL1, c1_6, c1_7, c1_8⟩ := hq1
    replace eL1 := eL1.symm
    subst eL1
    have hO1 := f_fo_tr hO0 c1_3 rfl
    have hmK1 := f_depo_fo mK_dep hmK c1_4 c1_3 rfl rfl
    have hF1 := f_fr_tr hF0 c1_4 rfl
    have r1_1 : -1 ≤ (I1 0 54).toInt ∧ (I1 0 54).toInt ≤ 1599 := c1_0 0 54
    apply And.intro
    · intro h8
      have h8 : 0 ≤ (I1 0 54).toInt := h8
      refine And.intro ⟨c1_0, c1_6⟩ ?_
      intro I14 L14 hq14
      have hq14 : mR I14 ∧ mO I14 ∧ f_fr [37, 38] I1 I14 ∧ L14 = L ∧ pK I14 := hq14
      obtain ⟨c14_0, c14_1, c14_2, eL14, c14_4⟩ := hq14
      replace eL14 := eL14.symm
      subst eL14
      have hO14 := f_fo_fr hO1 c14_2 rfl
      have hmL14 := f_depo_fr mL_dep c1_1 c14_2 rfl rfl
      have hmK14 := f_depo_fr mK_dep hmK1 c14_2 rfl rfl
      have hmW14 := f_depo_fr mW_dep c1_2 c14_2 rfl rfl
      have hF14 := f_fr_tr hF1 c14_2 rfl
      have r14 : 0 ≤ (I14 0 53).toInt ∧ (I14 0 53).toInt ≤ 10 := c14_0 0 53
      have v14 := pvl_10 (P := I14 37) (fun j => c14_0 37 j) (n := (I14 0 53).toInt.toNat) (by omega)
      have g14 : gm (1 - (1 : Int)) (59049 - pvl (I14 37) (I14 0 53).toInt.toNat) = 59049 - pvl (I14 37) (I14 0 53).toInt.toNat + 1 := gm_1 (by omega)
      have r21_2 : 0 ≤ (I14 0 53).toInt ∧ (I14 0 53).toInt ≤ 10 := c14_0 0 53
      have e21_3 : (I14 0 53).toInt = (I1 0 53).toInt := congrArg Int32.toInt (congrFun (c14_2 0 rfl) 53)
      exact ⟨Int32.ofInt 0, Int32.ofInt 1, (by intro q9 h9; simp only [List.mem_cons, List.not_mem_nil, or_false] at h9; rcases h9 with h9 | h9 | h9 <;> subst h9 <;> repeat (first | exact List.mem_cons_self | apply List.mem_cons_of_mem)), rfl, rfl, c14_0, hF14, hO14, hmL14, hmK14, hmW14, c14_1, c14_4, (show 0 ≤ (I14 0 53).toInt from by first | assumption | omega), (show (I14 0 53).toInt ≤ 10 from by first | assumption | omega), (show (1 : Int) = 0 ∨ (1 : Int) = 1 from by first | assumption | omega | rfl), (show 0 ≤ gm (1 - (1 : Int)) (59049 - pvl (I14 37) (I14 0 53).toInt.toNat) from by first | assumption | omega), (show (gm (1 - (1 : Int)) (59049 - pvl (I14 37) (I14 0 53).toInt.toNat)) < 60000 from by omega)⟩
    · intro h8
      have h8 : (I1 0 54).toInt < 0 := h8
      exact ⟨c1_0, c1_1, hmK1, c1_2, hO1, hF1, rfl⟩
def tX12_lacks : List (Instr × Nat) := [(.iload_n 1, 1), (.iconst 0, 1), (.aload_n 0, 1), (.getfield 36, 3), (.aload_n 0, 1), (.getfield 300, 3), (.iaload, 1), (.iconst 1, 1), (.isub, 1), (.invokestatic 366, 3), (.ifCond .ne 7, 3), (.sipush (-1000), 3), (.ireturn, 1), (.aload_n 0, 1), (.invokevirtual 466, 3), (.aload_n 0, 1), (.getfield 33, 3), (.iconst 5, 1), (.aload_n 0, 1), (.getfield 416, 3), (.imul, 1), (.iload_n 1, 1), (.iadd, 1), (.iaload, 1), (.istore_n 2, 1), (.iconst 0, 1), (.istore_n 3, 1), (.iload_n 3, 1), (.aload_n 0, 1), (.getfield 407, 3), (.if_icmp .ge 77, 3), (.sipush (-1000), 3), (.istore 4, 2), (.iconst 0, 1), (.istore 5, 2), (.iload 5, 2), (.aload_n 0, 1), (.getfield 119, 3), (.iload_n 3, 1), (.iaload, 1), (.if_icmp .ge 47, 3), (.aload_n 0, 1), (.getfield 33, 3), (.iconst 5, 1), (.aload_n 0, 1), (.getfield 122, 3), (.iconst 3, 1), (.iload_n 3, 1), (.imul, 1), (.iload 5, 2), (.iadd, 1), (.iaload, 1), (.imul, 1), (.iload_n 1, 1), (.iadd, 1), (.iaload, 1), (.istore 6, 2), (.iload 6, 2), (.iload 4, 2), (.if_icmp .le 8, 3), (.iload 6, 2), (.goto 5, 3), (.iload 4, 2), (.istore 4, 2), (.iinc 5 1, 3), (.goto (-52), 3), (.iload_n 2, 1), (.iload 4, 2), (.isub, 1), (.istore_n 2, 1), (.iinc 3 1, 3), (.goto (-79), 3), (.iload_n 2, 1), (.ireturn, 1)]
theorem tX12_lacks_ok : f_chk cX12_lacks 0 tX12_lacks = true := by decide +kernel
def pX12_lacks (av : List Value) (I : fM) (L : fN) : Prop := match av with
  | [.ref 0, .int kd] => mR I ∧ mL I ∧ mK I ∧ mW I
  | _ => False
def qX12_lacks (av : List Value) (I : fM) (L : fN) (r : Value) (I' : fM) (L' : fN) : Prop := match av, r with
  | [.ref 0, .int kd], .int x => mR I' ∧ mL I' ∧ mK I' ∧ mW I' ∧ f_fo [53, 54] I I' ∧ f_fr [0, 35, 36] I I' ∧ L' = L
  | _, _ => False
set_option maxHeartbeats 40000000 in
set_option maxRecDepth 100000 in
theorem mX12_lacks {l : Launch} {a : Nat → Nat} {cy dC : Nat → ClassId} {dI : Nat → Nat → Nat} (hinj : ∀ i j, i < 71 → j < 71 → a i = a j → i = j) : f_Met (fun _ => True) l mY 71 a cy dC dI yX12_lacks cX12_lacks 7 1 2 pX12_lacks qX12_lacks := by
  refine f_met_of (f_Ec_T 71 a) hinj mY_hi (by decide) (fun av I L h => by unfold pX12_lacks at h; split at h <;> first | exact Nat.le_of_ble_eq_true rfl | exact h.elim) ?_
  intro pP eP sP mP aP bP hP9 cP C av I L hp
  unfold pX12_lacks at hp
  split at hp
  case h_2 => exact hp.elim
  case h_1 kd =>
    obtain ⟨hR, hmL, hmK, hmW⟩ := hp
    have hk : (I 8 (I 0 24).toInt.toNat).toInt ≤ 5 := (hR 8 _).2
    have hF0 : f_fr [0, 35, 36] I I := f_fr_rf
    have hO0 : f_fo [53, 54] I I := f_fo_rf
    have lp43 : ∀ (n43 : Nat), ∀ (s : Int32) (i : Int32) (J43 : fM), mR J43 ∧ f_fr [0, 35, 36] I J43 ∧ f_fo [53, 54] I J43 ∧ mL J43 ∧ mK J43 ∧ mW J43 ∧ (mO J43) ∧ (0 ≤ kd.toInt) ∧ (kd.toInt ≤ 4) ∧ (0 ≤ i.toInt) ∧ (i.toInt ≤ 10) ∧ (10 - i.toInt) < n43 → f_W pP l eP (f_rm 2) sP mP aP bP hP9 cP mY 71 a cy dC dI 7 (f_K 1 (qX12_lacks [.ref 0, .int kd] I L)) 43 [(3, .int i), (2, .int s), (1, .int kd), (0, .ref 0)] [] J43 L := by
      intro n43
      induction n43 with
      | zero =>
        intro s i J43 h9
        obtain ⟨hR43c, hF43c, hO43c, hmL43c, hmK43c, hmW43c, u43_1, u43_2, u43_3, u43_4, u43_5, hm43⟩ := h9
        omega
      | succ n43 ih43 =>
        intro s i J43 h9
        obtain ⟨hR43c, hF43c, hO43c, hmL43c, hmK43c, hmW43c, u43_1, u43_2, u43_3, u43_4, u43_5, hm43⟩ := h9
        have num43 : (J43 0 53).toInt ≤ 10 := (hR43c 0 53).2
        have lp59 : ∀ (n59 : Nat), ∀ (most : Int32) (t : Int32) (J59 : fM), mR J59 ∧ f_fr [0, 35, 36] I J59 ∧ f_fo [53, 54] I J59 ∧ mL J59 ∧ mK J59 ∧ mW J59 ∧ (i.toInt < (J43 0 53).toInt) ∧ (mO J59) ∧ (J59 0 53 = J43 0 53) ∧ (0 ≤ t.toInt) ∧ (t.toInt ≤ 3) ∧ (3 - t.toInt) < n59 → f_W pP l eP (f_rm 2) sP mP aP bP hP9 cP mY 71 a cy dC dI 7 (f_K 1 (qX12_lacks [.ref 0, .int kd] I L)) 59 [(5, .int t), (4, .int most), (3, .int i), (2, .int s), (1, .int kd), (0, .ref 0)] [] J59 L := by
          intro n59
          induction n59 with
          | zero =>
            intro most t J59 h9
            obtain ⟨hR59c, hF59c, hO59c, hmL59c, hmK59c, hmW59c, u59_1, u59_2, u59_3, u59_4, u59_5, hm59⟩ := h9
            omega
          | succ n59 ih59 =>
            intro most t J59 h9
            obtain ⟨hR59c, hF59c, hO59c, hmL59c, hmK59c, hmW59c, u59_1, u59_2, u59_3, u59_4, u59_5, hm59⟩ := h9
            have m59 : (J59 35 i.toInt.toNat).toInt ≤ 3 := (hR59c 35 _).2
            have f59 : (J59 0 53).toInt = (J43 0 53).toInt := by rw [u59_3]
            refine f_wp_ok C f_cl flX12_ok fiX12_ok fjX12_ok (sn := none) (fun j h => by cases h) (cs := (f_cnl [(466, (1, 0, 11, pX12_layRow, qX12_layRow))])) (cz := (f_cnl [(366, (3, 3, 11, pX12_isIn, qX12_isIn))])) (f_cnl_of (P := fun j S => f_cok pP l eP (f_rm 2) sP mP aP bP hP9 cP mY 71 a cy dC dI 7 _ _ (.invokevirtual j) true S) (List.forall_mem_cons.mpr ⟨f_cokV C (mX12_layRow hinj) (ci := 11) rfl (List.forall_mem_cons.mpr ⟨(mlX12_ok _ (List.mem_of_getElem? (i := 49) rfl)), kc_X12_layRow⟩) (by decide +kernel) ⟨Nat.le_of_ble_eq_true rfl, Nat.le_of_ble_eq_true rfl⟩, fun _ h => absurd h List.not_mem_nil⟩)) (f_cnl_of (P := fun j S => f_cok pP l eP (f_rm 2) sP mP aP bP hP9 cP mY 71 a cy dC dI 7 _ _ (.invokestatic j) false S) (List.forall_mem_cons.mpr ⟨f_cokS C (mX12_isIn hinj) (List.forall_mem_cons.mpr ⟨(mlX12_ok _ (List.mem_of_getElem? (i := 27) rfl)), kc_X12_isIn⟩) (by decide +kernel) ⟨Nat.le_of_ble_eq_true rfl, Nat.le_of_ble_eq_true rfl⟩, fun _ h => absurd h List.not_mem_nil⟩)) tX12_lacks_ok (cut := (f_cnl [(43, (fun (ls' : fLs) (st' : List Value) (I' : fM) (L' : fN) => ∃ s : Int32, ∃ i : Int32, (∀ q ∈ ([(3, .int i), (2, .int s), (1, .int kd), (0, .ref 0)] : fLs), q ∈ ls') ∧ st' = [] ∧ L' = L ∧ (mR I' ∧ f_fr [0, 35, 36] I I' ∧ f_fo [53, 54] I I' ∧ mL I' ∧ mK I' ∧ mW I' ∧ (mO I') ∧ (0 ≤ kd.toInt) ∧ (kd.toInt ≤ 4) ∧ (0 ≤ i.toInt) ∧ (i.toInt ≤ 10) ∧ (10 - i.toInt) < n43))), (59, (fun (ls' : fLs) (st' : List Value) (I' : fM) (L' : fN) => ∃ most : Int32, ∃ t : Int32, (∀ q ∈ ([(5, .int t), (4, .int most), (3, .int i), (2, .int s), (1, .int kd), (0, .ref 0)] : fLs), q ∈ ls') ∧ st' = [] ∧ L' = L ∧ (mR I' ∧ f_fr [0, 35, 36] I I' ∧ f_fo [53, 54] I I' ∧ mL I' ∧ mK I' ∧ mW I' ∧ (i.toInt < (J43 0 53).toInt) ∧ (mO I') ∧ (I' 0 53 = J43 0 53) ∧ (0 ≤ t.toInt) ∧ (t.toInt ≤ 3) ∧ (3 - t.toInt) < n59)))])) (f_cnl_of (P := fun (tQ : Nat) (P : fLs → List Value → fM → fN → Prop) => ∀ ls' st' I' L', P ls' st' I' L' → f_W pP l eP (f_rm 2) sP mP aP bP hP9 cP mY 71 a cy dC dI 7 (f_K 1 (qX12_lacks [.ref 0, .int kd] I L)) tQ ls' st' I' L') (List.forall_mem_cons.mpr ⟨(fun ls' st' I' L' h => by obtain ⟨s, i, hs, e1, e3, h9⟩ := h; rw [e1, e3]; exact f_W_sub hs (ih43 s i I' h9)), List.forall_mem_cons.mpr ⟨(fun ls' st' I' L' h => by obtain ⟨most, t, hs, e1, e3, h9⟩ := h; rw [e1, e3]; exact f_W_sub hs (ih59 most t I' h9)), fun _ h => absurd h List.not_mem_nil⟩⟩)) 33 59 (f_seek 59 0 tX12_lacks) (f_seek_ok 59 0 tX12_lacks tX12_lacks_ok) _ _ _ _ ?_
            refine And.intro (show f_in i 10 from ⟨show 0 ≤ i.toInt from by omega, show i.toInt < 10 from by omega⟩) ?_
            have r66_1 : 0 ≤ (J59 35 (i.toInt.toNat)).toInt ∧ (J59 35 (i.toInt.toNat)).toInt ≤ 3 := hR59c 35 (i.toInt.toNat)
            apply And.intro
            · intro h67
              have h67 : (J59 35 (i.toInt.toNat)).toInt ≤ t.toInt := h67
              intro z117 q117 _ hq117 hl117 hu117
              have hq117 : z117.toInt = s.toInt - most.toInt + 4294967296 * q117 := hq117
              try have hz117 : z117.toInt = s.toInt - most.toInt := by omega
              intro z119 q119 _ hq119 hl119 hu119
              have hq119 : z119.toInt = i.toInt + 1 + 4294967296 * q119 := hq119
              try have hz119 : z119.toInt = i.toInt + 1 := by omega
              exact ⟨z117, z119, (by intro q9 h9; simp only [List.mem_cons, List.not_mem_nil, or_false] at h9; rcases h9 with h9 | h9 | h9 | h9 <;> subst h9 <;> repeat (first | exact List.mem_cons_self | apply List.mem_cons_of_mem)), rfl, rfl, hR59c, hF59c, hO59c, hmL59c, hmK59c, hmW59c, u59_2, (show 0 ≤ kd.toInt from by first | assumption | omega), (show kd.toInt ≤ 4 from by first | assumption | omega), (show 0 ≤ z119.toInt from by first | assumption | omega), (show z119.toInt ≤ 10 from by first | assumption | omega), (show (10 - z119.toInt) < n43 from by omega)⟩
            · intro h67
              have h67 : t.toInt < (J59 35 (i.toInt.toNat)).toInt := h67
              intro z81 q81 _ hq81 hl81 hu81
              have hq81 : z81.toInt = 3 * i.toInt + 4294967296 * q81 := hq81
              try have hz81 : z81.toInt = 3 * i.toInt := by omega
              intro z84 q84 _ hq84 hl84 hu84
              have hq84 : z84.toInt = z81.toInt + t.toInt + 4294967296 * q84 := hq84
              try have hz84 : z84.toInt = z81.toInt + t.toInt := by omega
              refine And.intro (show f_in z84 30 from ⟨show 0 ≤ z84.toInt from by omega, show z84.toInt < 30 from by omega⟩) ?_
              have r85_2 : -1 ≤ (J59 36 (z84.toInt.toNat)).toInt ∧ (J59 36 (z84.toInt.toNat)).toInt ≤ 1599 := hR59c 36 (z84.toInt.toNat)
              have k85 := lvn_rng hR59c ((u59_2.1 i.toInt.toNat (by omega)).2 z84.toInt.toNat (by omega) (by omega))
              intro z86 q86 _ hq86 hl86 hu86
              have hq86 : z86.toInt = 5 * (J59 36 (z84.toInt.toNat)).toInt + 4294967296 * q86 := hq86
              try have hz86 : z86.toInt = 5 * (J59 36 (z84.toInt.toNat)).toInt := by omega
              intro z88 q88 _ hq88 hl88 hu88
              have hq88 : z88.toInt = z86.toInt + kd.toInt + 4294967296 * q88 := hq88
              try have hz88 : z88.toInt = z86.toInt + kd.toInt := by omega
              refine And.intro (show f_in z88 8000 from ⟨show 0 ≤ z88.toInt from by omega, show z88.toInt < 8000 from by omega⟩) ?_
              have e89_4 : (J59 7 (z88.toInt.toNat)).toInt = (I 7 (z88.toInt.toNat)).toInt := congrArg Int32.toInt (congrFun (hF59c 7 rfl) (z88.toInt.toNat))
              apply And.intro
              · intro h96
                have h96 : (J59 7 (z88.toInt.toNat)).toInt ≤ most.toInt := h96
                intro z108 q108 _ hq108 hl108 hu108
                have hq108 : z108.toInt = t.toInt + 1 + 4294967296 * q108 := hq108
                try have hz108 : z108.toInt = t.toInt + 1 := by omega
                exact ⟨most, z108, (by intro q9 h9; simp only [List.mem_cons, List.not_mem_nil, or_false] at h9; rcases h9 with h9 | h9 | h9 | h9 | h9 | h9 <;> subst h9 <;> repeat (first | exact List.mem_cons_self | apply List.mem_cons_of_mem)), rfl, rfl, hR59c, hF59c, hO59c, hmL59c, hmK59c, hmW59c, (show i.toInt < (J43 0 53).toInt from by first | assumption | omega), u59_2, (show J59 0 53 = J43 0 53 from by first | assumption | omega | rfl), (show 0 ≤ z108.toInt from by first | assumption | omega), (show z108.toInt ≤ 3 from by first | assumption | omega), (show (3 - z108.toInt) < n59 from by omega)⟩
              · intro h96
                have h96 : most.toInt < (J59 7 (z88.toInt.toNat)).toInt := h96
                intro z108 q108 _ hq108 hl108 hu108
                have hq108 : z108.toInt = t.toInt + 1 + 4294967296 * q108 := hq108
                try have hz108 : z108.toInt = t.toInt + 1 := by omega
                exact ⟨J59 7 (z88.toInt.toNat), z108, (by intro q9 h9; simp only [List.mem_cons, List.not_mem_nil, or_false] at h9; rcases h9 with h9 | h9 | h9 | h9 | h9 | h9 <;> subst h9 <;> repeat (first | exact List.mem_cons_self | apply List.mem_cons_of_mem)), rfl, rfl, hR59c, hF59c, hO59c, hmL59c, hmK59c, hmW59c, (show i.toInt < (J43 0 53).toInt from by first | assumption | omega), u59_2, (show J59 0 53 = J43 0 53 from by first | assumption | omega | rfl), (show 0 ≤ z108.toInt from by first | assumption | omega), (show z108.toInt ≤ 3 from by first | assumption | omega), (show (3 - z108.toInt) < n59 from by omega)⟩
        refine f_wp_ok C f_cl flX12_ok fiX12_ok fjX12_ok (sn := none) (fun j h => by cases h) (cs := (f_cnl [(466, (1, 0, 11, pX12_layRow, qX12_layRow))])) (cz := (f_cnl [(366, (3, 3, 11, pX12_isIn, qX12_isIn))])) (f_cnl_of (P := fun j S => f_cok pP l eP (f_rm 2) sP mP aP bP hP9 cP mY 71 a cy dC dI 7 _ _ (.invokevirtual j) true S) (List.forall_mem_cons.mpr ⟨f_cokV C (mX12_layRow hinj) (ci := 11) rfl (List.forall_mem_cons.mpr ⟨(mlX12_ok _ (List.mem_of_getElem? (i := 49) rfl)), kc_X12_layRow⟩) (by decide +kernel) ⟨Nat.le_of_ble_eq_true rfl, Nat.le_of_ble_eq_true rfl⟩, fun _ h => absurd h List.not_mem_nil⟩)) (f_cnl_of (P := fun j S => f_cok pP l eP (f_rm 2) sP mP aP bP hP9 cP mY 71 a cy dC dI 7 _ _ (.invokestatic j) false S) (List.forall_mem_cons.mpr ⟨f_cokS C (mX12_isIn hinj) (List.forall_mem_cons.mpr ⟨(mlX12_ok _ (List.mem_of_getElem? (i := 27) rfl)), kc_X12_isIn⟩) (by decide +kernel) ⟨Nat.le_of_ble_eq_true rfl, Nat.le_of_ble_eq_true rfl⟩, fun _ h => absurd h List.not_mem_nil⟩)) tX12_lacks_ok (cut := (f_cnl [(59, (fun (ls' : fLs) (st' : List Value) (I' : fM) (L' : fN) => ∃ most : Int32, ∃ t : Int32, (∀ q ∈ ([(5, .int t), (4, .int most), (3, .int i), (2, .int s), (1, .int kd), (0, .ref 0)] : fLs), q ∈ ls') ∧ st' = [] ∧ L' = L ∧ (mR I' ∧ f_fr [0, 35, 36] I I' ∧ f_fo [53, 54] I I' ∧ mL I' ∧ mK I' ∧ mW I' ∧ (i.toInt < (J43 0 53).toInt) ∧ (mO I') ∧ (I' 0 53 = J43 0 53) ∧ (0 ≤ t.toInt) ∧ (t.toInt ≤ 3) ∧ (3 - t.toInt) < 4)))])) (f_cnl_of (P := fun (tQ : Nat) (P : fLs → List Value → fM → fN → Prop) => ∀ ls' st' I' L', P ls' st' I' L' → f_W pP l eP (f_rm 2) sP mP aP bP hP9 cP mY 71 a cy dC dI 7 (f_K 1 (qX12_lacks [.ref 0, .int kd] I L)) tQ ls' st' I' L') (List.forall_mem_cons.mpr ⟨(fun ls' st' I' L' h => by obtain ⟨most, t, hs, e1, e3, h9⟩ := h; rw [e1, e3]; exact f_W_sub hs (lp59 4 most t I' h9)), fun _ h => absurd h List.not_mem_nil⟩)) 11 43 (f_seek 43 0 tX12_lacks) (f_seek_ok 43 0 tX12_lacks tX12_lacks_ok) _ _ _ _ ?_
        have r45_1 : 0 ≤ (J43 0 53).toInt ∧ (J43 0 53).toInt ≤ 10 := hR43c 0 53
        apply And.intro
        · intro h48
          have h48 : (J43 0 53).toInt ≤ i.toInt := h48
          exact ⟨hR43c, hmL43c, hmK43c, hmW43c, hO43c, hF43c, rfl⟩
        · intro h48
          have h48 : i.toInt < (J43 0 53).toInt := h48
          have cn59_most : (Int32.ofInt (-1000)).toInt = -1000 := rfl
          exact ⟨Int32.ofInt (-1000), Int32.ofInt 0, (by intro q9 h9; simp only [List.mem_cons, List.not_mem_nil, or_false] at h9; rcases h9 with h9 | h9 | h9 | h9 | h9 | h9 <;> subst h9 <;> repeat (first | exact List.mem_cons_self | apply List.mem_cons_of_mem)), rfl, rfl, hR43c, hF43c, hO43c, hmL43c, hmK43c, hmW43c, (show i.toInt < (J43 0 53).toInt from by first | assumption | omega), u43_1, (show J43 0 53 = J43 0 53 from by first | assumption | omega | rfl), (show 0 ≤ (0 : Int) from by first | assumption | omega), (show (0 : Int) ≤ 3 from by first | assumption | omega), (show (3 - (0 : Int)) < 4 from by omega)⟩
    refine f_wp_ok C f_cl flX12_ok fiX12_ok fjX12_ok (sn := none) (fun j h => by cases h) (cs := (f_cnl [(466, (1, 0, 11, pX12_layRow, qX12_layRow))])) (cz := (f_cnl [(366, (3, 3, 11, pX12_isIn, qX12_isIn))])) (f_cnl_of (P := fun j S => f_cok pP l eP (f_rm 2) sP mP aP bP hP9 cP mY 71 a cy dC dI 7 _ _ (.invokevirtual j) true S) (List.forall_mem_cons.mpr ⟨f_cokV C (mX12_layRow hinj) (ci := 11) rfl (List.forall_mem_cons.mpr ⟨(mlX12_ok _ (List.mem_of_getElem? (i := 49) rfl)), kc_X12_layRow⟩) (by decide +kernel) ⟨Nat.le_of_ble_eq_true rfl, Nat.le_of_ble_eq_true rfl⟩, fun _ h => absurd h List.not_mem_nil⟩)) (f_cnl_of (P := fun j S => f_cok pP l eP (f_rm 2) sP mP aP bP hP9 cP mY 71 a cy dC dI 7 _ _ (.invokestatic j) false S) (List.forall_mem_cons.mpr ⟨f_cokS C (mX12_isIn hinj) (List.forall_mem_cons.mpr ⟨(mlX12_ok _ (List.mem_of_getElem? (i := 27) rfl)), kc_X12_isIn⟩) (by decide +kernel) ⟨Nat.le_of_ble_eq_true rfl, Nat.le_of_ble_eq_true rfl⟩, fun _ h => absurd h List.not_mem_nil⟩)) tX12_lacks_ok (cut := (f_cnl [(43, (fun (ls' : fLs) (st' : List Value) (I' : fM) (L' : fN) => ∃ s : Int32, ∃ i : Int32, (∀ q ∈ ([(3, .int i), (2, .int s), (1, .int kd), (0, .ref 0)] : fLs), q ∈ ls') ∧ st' = [] ∧ L' = L ∧ (mR I' ∧ f_fr [0, 35, 36] I I' ∧ f_fo [53, 54] I I' ∧ mL I' ∧ mK I' ∧ mW I' ∧ (mO I') ∧ (0 ≤ kd.toInt) ∧ (kd.toInt ≤ 4) ∧ (0 ≤ i.toInt) ∧ (i.toInt ≤ 10) ∧ (10 - i.toInt) < 11)))])) (f_cnl_of (P := fun (tQ : Nat) (P : fLs → List Value → fM → fN → Prop) => ∀ ls' st' I' L', P ls' st' I' L' → f_W pP l eP (f_rm 2) sP mP aP bP hP9 cP mY 71 a cy dC dI 7 (f_K 1 (qX12_lacks [.ref 0, .int kd] I L)) tQ ls' st' I' L') (List.forall_mem_cons.mpr ⟨(fun ls' st' I' L' h => by obtain ⟨s, i, hs, e1, e3, h9⟩ := h; rw [e1, e3]; exact f_W_sub hs (lp43 11 s i I' h9)), fun _ h => absurd h List.not_mem_nil⟩)) 28 0 tX12_lacks tX12_lacks_ok _ _ _ _ ?_
    have r7_1 : 0 ≤ (I 0 24).toInt ∧ (I 0 24).toInt ≤ 1 := hR 0 24
    refine And.intro (show f_in (I 0 24) 2 from ⟨show 0 ≤ (I 0 24).toInt from by omega, show (I 0 24).toInt < 2 from by omega⟩) ?_
    have r10_2 : 0 ≤ (I 8 ((I 0 24).toInt.toNat)).toInt ∧ (I 8 ((I 0 24).toInt.toNat)).toInt ≤ 5 := hR 8 ((I 0 24).toInt.toNat)
    intro z12 q12 _ hq12 hl12 hu12
    have hq12 : z12.toInt = (I 8 ((I 0 24).toInt.toNat)).toInt - 1 + 4294967296 * q12 := hq12
    try have hz12 : z12.toInt = (I 8 ((I 0 24).toInt.toNat)).toInt - 1 := by omega
    refine And.intro trivial ?_
    intro x13 I13 L13 hq13
    have hq13 : I13 = I ∧ L13 = L ∧ ((x13.toInt = 1 ∧ (0 : Int) ≤ kd.toInt ∧ kd.toInt ≤ z12.toInt ∨ x13.toInt = 0 ∧ (kd.toInt < (0 : Int) ∨ z12.toInt < kd.toInt))) := hq13
    obtain ⟨eI13, eL13, c13_2⟩ := hq13
    replace eI13 := eI13.symm
    subst eI13
    replace eL13 := eL13.symm
    subst eL13
    apply And.intro
    · intro h16
      have h16 : ¬ x13.toInt = 0 := h16
      refine And.intro ⟨hR, hmL, hmW⟩ ?_
      intro I24 L24 hq24
      have hq24 : mR I24 ∧ mL I24 ∧ mW I24 ∧ f_fo [53, 54] I I24 ∧ f_fr [0, 35, 36] I I24 ∧ L24 = L ∧ mO I24 ∧ (I24 0 53).toInt = (I 0 30).toInt ∧ (I24 0 54).toInt = (I 10 (I 0 24).toInt.toNat).toInt := hq24
      obtain ⟨c24_0, c24_1, c24_2, c24_3, c24_4, eL24, c24_6, c24_7, c24_8⟩ := hq24
      replace eL24 := eL24.symm
      subst eL24
      have hO24 := f_fo_tr hO0 c24_3 rfl
      have hmK24 := f_depo_fo mK_dep hmK c24_4 c24_3 rfl rfl
      have hF24 := f_fr_tr hF0 c24_4 rfl
      have r24_3 : -1 ≤ (I24 0 54).toInt ∧ (I24 0 54).toInt ≤ 1599 := c24_0 0 54
      have g24 : 0 ≤ (I24 0 54).toInt := by have := hmL.2.2.2.2.1 (by omega); omega
      intro z36 q36 _ hq36 hl36 hu36
      have hq36 : z36.toInt = 5 * (I24 0 54).toInt + 4294967296 * q36 := hq36
      try have hz36 : z36.toInt = 5 * (I24 0 54).toInt := by omega
      intro z38 q38 _ hq38 hl38 hu38
      have hq38 : z38.toInt = z36.toInt + kd.toInt + 4294967296 * q38 := hq38
      try have hz38 : z38.toInt = z36.toInt + kd.toInt := by omega
      refine And.intro (show f_in z38 8000 from ⟨show 0 ≤ z38.toInt from by omega, show z38.toInt < 8000 from by omega⟩) ?_
      have e39_5 : (I24 7 (z38.toInt.toNat)).toInt = (I 7 (z38.toInt.toNat)).toInt := congrArg Int32.toInt (congrFun (c24_4 7 rfl) (z38.toInt.toNat))
      exact ⟨I24 7 (z38.toInt.toNat), Int32.ofInt 0, (by intro q9 h9; simp only [List.mem_cons, List.not_mem_nil, or_false] at h9; rcases h9 with h9 | h9 | h9 | h9 <;> subst h9 <;> repeat (first | exact List.mem_cons_self | apply List.mem_cons_of_mem)), rfl, rfl, c24_0, hF24, hO24, c24_1, hmK24, c24_2, c24_6, (show 0 ≤ kd.toInt from by first | assumption | omega), (show kd.toInt ≤ 4 from by first | assumption | omega), (show 0 ≤ (0 : Int) from by first | assumption | omega), (show (0 : Int) ≤ 10 from by first | assumption | omega), (show (10 - (0 : Int)) < 11 from by omega)⟩
    · intro h16
      have h16 : x13.toInt = 0 := h16
      exact ⟨hR, hmL, hmK, hmW, hO0, hF0, rfl⟩
theorem shl8 {r : Int32} (h : 0 ≤ r.toInt ∧ r.toInt ≤ 8) : 1 ≤ ((Int32.ofInt 1) <<< (r &&& 31)).toInt ∧ ((Int32.ofInt 1) <<< (r &&& 31)).toInt ≤ 256 := by
  have q : r.toInt = 0 ∨ r.toInt = 1 ∨ r.toInt = 2 ∨ r.toInt = 3 ∨ r.toInt = 4 ∨ r.toInt = 5 ∨ r.toInt = 6 ∨ r.toInt = 7 ∨ r.toInt = 8 := by omega
  have e : r = 0 ∨ r = 1 ∨ r = 2 ∨ r = 3 ∨ r = 4 ∨ r = 5 ∨ r = 6 ∨ r = 7 ∨ r = 8 := by
    rcases q with q | q | q | q | q | q | q | q | q
    · exact Or.inl (Int32.toInt_inj.mp q)
    · exact Or.inr (Or.inl (Int32.toInt_inj.mp q))
    · exact Or.inr (Or.inr (Or.inl (Int32.toInt_inj.mp q)))
    · exact Or.inr (Or.inr (Or.inr (Or.inl (Int32.toInt_inj.mp q))))
    · exact Or.inr (Or.inr (Or.inr (Or.inr (Or.inl (Int32.toInt_inj.mp q)))))
    · exact Or.inr (Or.inr (Or.inr (Or.inr (Or.inr (Or.inl (Int32.toInt_inj.mp q))))))
    · exact Or.inr (Or.inr (Or.inr (Or.inr (Or.inr (Or.inr (Or.inl (Int32.toInt_inj.mp q)))))))
    · exact Or.inr (Or.inr (Or.inr (Or.inr (Or.inr (Or.inr (Or.inr (Or.inl (Int32.toInt_inj.mp q))))))))
    · exact Or.inr (Or.inr (Or.inr (Or.inr (Or.inr (Or.inr (Or.inr (Or.inr (Int32.toInt_inj.mp q))))))))
  rcases e with rfl | rfl | rfl | rfl | rfl | rfl | rfl | rfl | rfl <;> decide
def tX12_lost : List (Instr × Nat) := [(.iconst (-1), 1), (.istore_n 1, 1), (.iconst 0, 1), (.istore_n 2, 1), (.iload_n 2, 1), (.iconst 1, 1), (.aload_n 0, 1), (.getfield 309, 3), (.ishl, 1), (.iconst 1, 1), (.isub, 1), (.if_icmp .ge 106, 3), (.iload_n 1, 1), (.ifCond .lt 17, 3), (.iload_n 2, 1), (.invokestatic 491, 3), (.iload_n 1, 1), (.invokestatic 491, 3), (.if_icmp .lt 6, 3), (.goto 82, 3), (.aload_n 0, 1), (.iconst 0, 1), (.putfield 407, 3), (.aload_n 0, 1), (.aload_n 0, 1), (.getfield 42, 3), (.aload_n 0, 1), (.getfield 300, 3), (.iaload, 1), (.putfield 416, 3), (.iconst 0, 1), (.istore_n 3, 1), (.iload_n 3, 1), (.aload_n 0, 1), (.getfield 309, 3), (.if_icmp .ge 45, 3), (.iload_n 2, 1), (.iload_n 3, 1), (.ishr, 1), (.iconst 1, 1), (.iand, 1), (.iconst 1, 1), (.if_icmp .ne 6, 3), (.goto 27, 3), (.aload_n 0, 1), (.aload_n 0, 1), (.getfield 407, 3), (.aload_n 0, 1), (.getfield 71, 3), (.iload_n 3, 1), (.iaload, 1), (.invokevirtual 419, 3), (.aload_n 0, 1), (.dup, 1), (.getfield 407, 3), (.iconst 1, 1), (.iadd, 1), (.putfield 407, 3), (.iinc 3 1, 3), (.goto (-47), 3), (.aload_n 0, 1), (.invokevirtual 494, 3), (.ifCond .eq 5, 3), (.iload_n 2, 1), (.istore_n 1, 1), (.iinc 2 1, 3), (.goto (-112), 3), (.iload_n 1, 1), (.ireturn, 1)]
theorem tX12_lost_ok : f_chk cX12_lost 0 tX12_lost = true := by decide +kernel
def pX12_lost (av : List Value) (I : fM) (L : fN) : Prop := match av with
  | [.ref 0] => mR I ∧ mL I ∧ mK I ∧ mW I
  | _ => False
def qX12_lost (av : List Value) (I : fM) (L : fN) (r : Value) (I' : fM) (L' : fN) : Prop := match av, r with
  | [.ref 0], .int x => mR I' ∧ mL I' ∧ mK I' ∧ mW I' ∧ f_fo [45, 46, 47, 48, 53, 54, 55, 59] I I' ∧ f_fr [0, 21, 22, 23, 24, 25, 26, 27, 28, 29, 30, 31, 32, 33, 34, 35, 36, 37, 38, 39, 40, 41, 42, 43, 44] I I' ∧ L' = L
  | _, _ => False
set_option maxHeartbeats 40000000 in
set_option maxRecDepth 100000 in
theorem mX12_lost {l : Launch} {a : Nat → Nat} {cy dC : Nat → ClassId} {dI : Nat → Nat → Nat} (hinj : ∀ i j, i < 71 → j < 71 → a i = a j → i = j) : f_Met (fun _ => True) l mY 71 a cy dC dI yX12_lost cX12_lost 4 1 4 pX12_lost qX12_lost := by
  refine f_met_of (f_Ec_T 71 a) hinj mY_hi (by decide) (fun av I L h => by unfold pX12_lost at h; split at h <;> first | exact Nat.le_of_ble_eq_true rfl | exact h.elim) ?_
  intro pP eP sP mP aP bP hP9 cP C av I L hp
  unfold pX12_lost at hp
  split at hp
  case h_2 => exact hp.elim
  case h_1 =>
    obtain ⟨hR, hmL, hmK, hmW⟩ := hp
    have hr : 0 ≤ (I 0 30).toInt ∧ (I 0 30).toInt ≤ 8 := hR 0 30
    have hF0 : f_fr [0, 21, 22, 23, 24, 25, 26, 27, 28, 29, 30, 31, 32, 33, 34, 35, 36, 37, 38, 39, 40, 41, 42, 43, 44] I I := f_fr_rf
    have hO0 : f_fo [45, 46, 47, 48, 53, 54, 55, 59] I I := f_fo_rf
    have lp4 : ∀ (n4 : Nat), ∀ (best : Int32) (set : Int32) (J4 : fM), mR J4 ∧ f_fr [0, 21, 22, 23, 24, 25, 26, 27, 28, 29, 30, 31, 32, 33, 34, 35, 36, 37, 38, 39, 40, 41, 42, 43, 44] I J4 ∧ f_fo [45, 46, 47, 48, 53, 54, 55, 59] I J4 ∧ mL J4 ∧ mK J4 ∧ mW J4 ∧ (0 ≤ set.toInt) ∧ (set.toInt ≤ 256) ∧ (256 - set.toInt) < n4 → f_W pP l eP (f_rm 4) sP mP aP bP hP9 cP mY 71 a cy dC dI 4 (f_K 1 (qX12_lost [.ref 0] I L)) 4 [(2, .int set), (1, .int best), (0, .ref 0)] [] J4 L := by
      intro n4
      induction n4 with
      | zero =>
        intro best set J4 h9
        obtain ⟨hR4c, hF4c, hO4c, hmL4c, hmK4c, hmW4c, u4_1, u4_2, hm4⟩ := h9
        omega
      | succ n4 ih4 =>
        intro best set J4 h9
        obtain ⟨hR4c, hF4c, hO4c, hmL4c, hmK4c, hmW4c, u4_1, u4_2, hm4⟩ := h9
        have e4 : J4 0 30 = I 0 30 := hO4c 30 rfl
        have lp54 : ∀ (n54 : Nat), ∀ (i : Int32) (J54 : fM), mR J54 ∧ f_fr [0, 21, 22, 23, 24, 25, 26, 27, 28, 29, 30, 31, 32, 33, 34, 35, 36, 37, 38, 39, 40, 41, 42, 43, 44] I J54 ∧ f_fo [45, 46, 47, 48, 53, 54, 55, 59] I J54 ∧ mL J54 ∧ mK J54 ∧ mW J54 ∧ (set.toInt ≤ 255) ∧ (0 ≤ i.toInt) ∧ (i.toInt ≤ (I 0 30).toInt) ∧ (0 ≤ (J54 0 53).toInt) ∧ ((J54 0 53).toInt ≤ i.toInt) ∧ ((∀ j : Nat, (j : Int) < (J54 0 53).toInt → oK J54 j)) ∧ ((J54 0 54).toInt = (I 10 (I 0 24).toInt.toNat).toInt) ∧ ((I 0 30).toInt - i.toInt) < n54 → f_W pP l eP (f_rm 4) sP mP aP bP hP9 cP mY 71 a cy dC dI 4 (f_K 1 (qX12_lost [.ref 0] I L)) 54 [(3, .int i), (2, .int set), (1, .int best), (0, .ref 0)] [] J54 L := by
          intro n54
          induction n54 with
          | zero =>
            intro i J54 h9
            obtain ⟨hR54c, hF54c, hO54c, hmL54c, hmK54c, hmW54c, u54_1, u54_2, u54_3, u54_4, u54_5, u54_6, u54_7, hm54⟩ := h9
            omega
          | succ n54 ih54 =>
            intro i J54 h9
            obtain ⟨hR54c, hF54c, hO54c, hmL54c, hmK54c, hmW54c, u54_1, u54_2, u54_3, u54_4, u54_5, u54_6, u54_7, hm54⟩ := h9
            have e54 : (J54 0 30).toInt = (I 0 30).toInt := congrArg Int32.toInt (hO54c 30 rfl)
            refine f_wp_ok C f_cl flX12_ok fiX12_ok fjX12_ok (sn := none) (fun j h => by cases h) (cs := (f_cnl [(419, (3, 0, 11, pX12_layWord, qX12_layWord)), (494, (1, 3, 11, pX12_isSentence, qX12_isSentence))])) (cz := (f_cnl [(491, (1, 1, 11, pX12_bitsOf, qX12_bitsOf))])) (f_cnl_of (P := fun j S => f_cok pP l eP (f_rm 4) sP mP aP bP hP9 cP mY 71 a cy dC dI 4 _ _ (.invokevirtual j) true S) (List.forall_mem_cons.mpr ⟨f_cokV C (mX12_layWord hinj) (ci := 11) rfl (List.forall_mem_cons.mpr ⟨(mlX12_ok _ (List.mem_of_getElem? (i := 37) rfl)), kc_X12_layWord⟩) (by decide +kernel) ⟨Nat.le_of_ble_eq_true rfl, Nat.le_of_ble_eq_true rfl⟩, List.forall_mem_cons.mpr ⟨f_cokV C (mX12_isSentence hinj) (ci := 11) rfl (List.forall_mem_cons.mpr ⟨(mlX12_ok _ (List.mem_of_getElem? (i := 57) rfl)), kc_X12_isSentence⟩) (by decide +kernel) ⟨Nat.le_of_ble_eq_true rfl, Nat.le_of_ble_eq_true rfl⟩, fun _ h => absurd h List.not_mem_nil⟩⟩)) (f_cnl_of (P := fun j S => f_cok pP l eP (f_rm 4) sP mP aP bP hP9 cP mY 71 a cy dC dI 4 _ _ (.invokestatic j) false S) (List.forall_mem_cons.mpr ⟨f_cokS C (mX12_bitsOf hinj) (List.forall_mem_cons.mpr ⟨(mlX12_ok _ (List.mem_of_getElem? (i := 56) rfl)), kc_X12_bitsOf⟩) (by decide +kernel) ⟨Nat.le_of_ble_eq_true rfl, Nat.le_of_ble_eq_true rfl⟩, fun _ h => absurd h List.not_mem_nil⟩)) tX12_lost_ok (cut := (f_cnl [(4, (fun (ls' : fLs) (st' : List Value) (I' : fM) (L' : fN) => ∃ best : Int32, ∃ set : Int32, (∀ q ∈ ([(2, .int set), (1, .int best), (0, .ref 0)] : fLs), q ∈ ls') ∧ st' = [] ∧ L' = L ∧ (mR I' ∧ f_fr [0, 21, 22, 23, 24, 25, 26, 27, 28, 29, 30, 31, 32, 33, 34, 35, 36, 37, 38, 39, 40, 41, 42, 43, 44] I I' ∧ f_fo [45, 46, 47, 48, 53, 54, 55, 59] I I' ∧ mL I' ∧ mK I' ∧ mW I' ∧ (0 ≤ set.toInt) ∧ (set.toInt ≤ 256) ∧ (256 - set.toInt) < n4))), (54, (fun (ls' : fLs) (st' : List Value) (I' : fM) (L' : fN) => ∃ i : Int32, (∀ q ∈ ([(3, .int i), (2, .int set), (1, .int best), (0, .ref 0)] : fLs), q ∈ ls') ∧ st' = [] ∧ L' = L ∧ (mR I' ∧ f_fr [0, 21, 22, 23, 24, 25, 26, 27, 28, 29, 30, 31, 32, 33, 34, 35, 36, 37, 38, 39, 40, 41, 42, 43, 44] I I' ∧ f_fo [45, 46, 47, 48, 53, 54, 55, 59] I I' ∧ mL I' ∧ mK I' ∧ mW I' ∧ (set.toInt ≤ 255) ∧ (0 ≤ i.toInt) ∧ (i.toInt ≤ (I 0 30).toInt) ∧ (0 ≤ (I' 0 53).toInt) ∧ ((I' 0 53).toInt ≤ i.toInt) ∧ ((∀ j : Nat, (j : Int) < (I' 0 53).toInt → oK I' j)) ∧ ((I' 0 54).toInt = (I 10 (I 0 24).toInt.toNat).toInt) ∧ ((I 0 30).toInt - i.toInt) < n54)))])) (f_cnl_of (P := fun (tQ : Nat) (P : fLs → List Value → fM → fN → Prop) => ∀ ls' st' I' L', P ls' st' I' L' → f_W pP l eP (f_rm 4) sP mP aP bP hP9 cP mY 71 a cy dC dI 4 (f_K 1 (qX12_lost [.ref 0] I L)) tQ ls' st' I' L') (List.forall_mem_cons.mpr ⟨(fun ls' st' I' L' h => by obtain ⟨best, set, hs, e1, e3, h9⟩ := h; rw [e1, e3]; exact f_W_sub hs (ih4 best set I' h9)), List.forall_mem_cons.mpr ⟨(fun ls' st' I' L' h => by obtain ⟨i, hs, e1, e3, h9⟩ := h; rw [e1, e3]; exact f_W_sub hs (ih54 i I' h9)), fun _ h => absurd h List.not_mem_nil⟩⟩)) 30 54 (f_seek 54 0 tX12_lost) (f_seek_ok 54 0 tX12_lost tX12_lost_ok) _ _ _ _ ?_
            have r56_1 : 0 ≤ (J54 0 30).toInt ∧ (J54 0 30).toInt ≤ 8 := hR54c 0 30
            have e56_2 : (J54 0 30).toInt = (I 0 30).toInt := congrArg Int32.toInt (hO54c 30 rfl)
            apply And.intro
            · intro h59
              have h59 : (J54 0 30).toInt ≤ i.toInt := h59
              refine And.intro ⟨hR54c, hmL54c, hmK54c, (mO_all hmL (hO54c 24 rfl) (hF54c 8 rfl) (hF54c 11 rfl) u54_6 u54_7)⟩ ?_
              intro x105 I105 L105 hq105
              have hq105 : mR I105 ∧ mL I105 ∧ mK I105 ∧ mO I105 ∧ f_fo [45, 46, 47, 48, 55, 59] J54 I105 ∧ f_fr [0, 21, 22, 23, 24, 25, 26, 27, 28, 29, 30, 31, 32, 33, 34, 37, 38, 39, 40, 41, 42, 43, 44] J54 I105 ∧ L105 = L ∧ ((x105.toInt = 0 ∨ x105.toInt = 1)) := hq105
              obtain ⟨c105_0, c105_1, c105_2, c105_3, c105_4, c105_5, eL105, c105_7⟩ := hq105
              replace eL105 := eL105.symm
              subst eL105
              have hO105 := f_fo_tr hO54c c105_4 rfl
              have hmW105 := f_depo_fo mW_dep hmW54c c105_5 c105_4 rfl rfl
              have hF105 := f_fr_tr hF54c c105_5 rfl
              apply And.intro
              · intro h108
                have h108 : x105.toInt = 0 := h108
                intro z113 q113 _ hq113 hl113 hu113
                have hq113 : z113.toInt = set.toInt + 1 + 4294967296 * q113 := hq113
                try have hz113 : z113.toInt = set.toInt + 1 := by omega
                exact ⟨best, z113, (by intro q9 h9; simp only [List.mem_cons, List.not_mem_nil, or_false] at h9; rcases h9 with h9 | h9 | h9 <;> subst h9 <;> repeat (first | exact List.mem_cons_self | apply List.mem_cons_of_mem)), rfl, rfl, c105_0, hF105, hO105, c105_1, c105_2, hmW105, (show 0 ≤ z113.toInt from by first | assumption | omega), (show z113.toInt ≤ 256 from by first | assumption | omega), (show (256 - z113.toInt) < n4 from by omega)⟩
              · intro h108
                have h108 : ¬ x105.toInt = 0 := h108
                intro z113 q113 _ hq113 hl113 hu113
                have hq113 : z113.toInt = set.toInt + 1 + 4294967296 * q113 := hq113
                try have hz113 : z113.toInt = set.toInt + 1 := by omega
                exact ⟨set, z113, (by intro q9 h9; simp only [List.mem_cons, List.not_mem_nil, or_false] at h9; rcases h9 with h9 | h9 | h9 <;> subst h9 <;> repeat (first | exact List.mem_cons_self | apply List.mem_cons_of_mem)), rfl, rfl, c105_0, hF105, hO105, c105_1, c105_2, hmW105, (show 0 ≤ z113.toInt from by first | assumption | omega), (show z113.toInt ≤ 256 from by first | assumption | omega), (show (256 - z113.toInt) < n4 from by omega)⟩
            · intro h59
              have h59 : i.toInt < (J54 0 30).toInt := h59
              have b66 : 0 ≤ ((set >>> (i &&& 31)) &&& (Int32.ofInt 1)).toInt ∧ ((set >>> (i &&& 31)) &&& (Int32.ofInt 1)).toInt ≤ 1 := f_andc (set >>> (i &&& 31)) 1 (by decide) (by decide)
              apply And.intro
              · intro h68
                have h68 : ¬ ((set >>> (i &&& 31)) &&& (Int32.ofInt 1)).toInt = 1 := h68
                have r76_3 : 0 ≤ (J54 0 53).toInt ∧ (J54 0 53).toInt ≤ 10 := hR54c 0 53
                refine And.intro (show f_in i 8 from ⟨show 0 ≤ i.toInt from by omega, show i.toInt < 8 from by omega⟩) ?_
                have r84_4 : 0 ≤ (J54 19 (i.toInt.toNat)).toInt ∧ (J54 19 (i.toInt.toNat)).toInt ≤ 11 := hR54c 19 (i.toInt.toNat)
                have e84_5 : (J54 19 (i.toInt.toNat)).toInt = (I 19 (i.toInt.toNat)).toInt := congrArg Int32.toInt (congrFun (hF54c 19 rfl) (i.toInt.toNat))
                have w85 : (J54 19 i.toInt.toNat).toInt < (J54 9 (J54 0 24).toInt.toNat).toInt := hmW54c.1 i.toInt.toNat (by omega)
                have r85_6 : 0 ≤ (J54 9 ((J54 0 24).toInt.toNat)).toInt ∧ (J54 9 ((J54 0 24).toInt.toNat)).toInt ≤ 12 := hR54c 9 ((J54 0 24).toInt.toNat)
                have e85_7 : (J54 9 ((J54 0 24).toInt.toNat)).toInt = (J54 9 ((I 0 24).toInt.toNat)).toInt := by rw [(hO54c 24 rfl)]
                have e85_8 : (J54 9 ((I 0 24).toInt.toNat)).toInt = (I 9 ((I 0 24).toInt.toNat)).toInt := congrArg Int32.toInt (congrFun (hF54c 9 rfl) ((I 0 24).toInt.toNat))
                have r85_9 : 0 ≤ (J54 0 24).toInt ∧ (J54 0 24).toInt ≤ 1 := hR54c 0 24
                have e85_10 : (J54 0 24).toInt = (I 0 24).toInt := congrArg Int32.toInt (hO54c 24 rfl)
                refine And.intro ⟨hR54c, hmL54c, (show 0 ≤ (J54 0 53).toInt from by first | assumption | omega), (show (J54 0 53).toInt ≤ 9 from by first | assumption | omega), (show 0 ≤ (J54 19 (i.toInt.toNat)).toInt from by first | assumption | omega), (show (J54 19 (i.toInt.toNat)).toInt < (J54 9 (J54 0 24).toInt.toNat).toInt from by first | assumption | omega)⟩ ?_
                intro I85 L85 hq85
                have hq85 : mR I85 ∧ f_fr [35, 36] J54 I85 ∧ L85 = L ∧ oK I85 (J54 0 53).toInt.toNat ∧ ((∀ j : Nat, ¬ j = (J54 0 53).toInt.toNat → oK J54 j → oK I85 j)) := hq85
                obtain ⟨c85_0, c85_1, eL85, c85_3, c85_4⟩ := hq85
                replace eL85 := eL85.symm
                subst eL85
                have hO85 := f_fo_fr hO54c c85_1 rfl
                have hmL85 := f_depo_fr mL_dep hmL54c c85_1 rfl rfl
                have hmK85 := f_depo_fr mK_dep hmK54c c85_1 rfl rfl
                have hmW85 := f_depo_fr mW_dep hmW54c c85_1 rfl rfl
                have hF85 := f_fr_tr hF54c c85_1 rfl
                have r90_11 : 0 ≤ (I85 0 53).toInt ∧ (I85 0 53).toInt ≤ 10 := c85_0 0 53
                have e90_12 : (I85 0 53).toInt = (J54 0 53).toInt := congrArg Int32.toInt (congrFun (c85_1 0 rfl) 53)
                intro z94 q94 _ hq94 hl94 hu94
                have hq94 : z94.toInt = (I85 0 53).toInt + 1 + 4294967296 * q94 := hq94
                try have hz94 : z94.toInt = (I85 0 53).toInt + 1 := by omega
                have hR95 := mR_f (k := 0) (j := 53) (x := z94) c85_0 (show 0 ≤ z94.toInt ∧ z94.toInt ≤ 10 from ⟨by omega, by omega⟩)
                have hF95 := f_fr_up (k := 0) (r := va_up (I85 0) 53 z94) hF85 rfl
                have hO95 := f_fo_up (j := 53) (x := z94) hO85 rfl
                have hmL95 := f_depo_up0 mL_dep (j := 53) (x := z94) hmL85 rfl rfl
                have hmK95 := f_depo_up0 mK_dep (j := 53) (x := z94) hmK85 rfl rfl
                have hmW95 := f_depo_up0 mW_dep (j := 53) (x := z94) hmW85 rfl rfl
                have q95 : ∀ j : Nat, (j : Int) < z94.toInt → oK (va_up I85 0 (va_up (I85 0) 53 z94)) j := fun j hj => by
                  show oK I85 j
                  have e : (I85 0 53).toInt = (J54 0 53).toInt := congrArg Int32.toInt (congrFun (c85_1 0 rfl) 53)
                  by_cases q : j = (J54 0 53).toInt.toNat
                  · rw [q]; exact c85_3
                  · exact c85_4 j q (u54_6 j (by omega))
                intro z98 q98 _ hq98 hl98 hu98
                have hq98 : z98.toInt = i.toInt + 1 + 4294967296 * q98 := hq98
                try have hz98 : z98.toInt = i.toInt + 1 := by omega
                have e54_13 : (I85 0 54).toInt = (J54 0 54).toInt := congrArg Int32.toInt (congrFun (c85_1 0 rfl) 54)
                exact ⟨z98, (by intro q9 h9; simp only [List.mem_cons, List.not_mem_nil, or_false] at h9; rcases h9 with h9 | h9 | h9 | h9 <;> subst h9 <;> repeat (first | exact List.mem_cons_self | apply List.mem_cons_of_mem)), rfl, rfl, hR95, hF95, hO95, hmL95, hmK95, hmW95, (show set.toInt ≤ 255 from by first | assumption | omega), (show 0 ≤ z98.toInt from by first | assumption | omega), (show z98.toInt ≤ (I 0 30).toInt from by first | assumption | omega), (show 0 ≤ z94.toInt from by first | assumption | omega), (show z94.toInt ≤ z98.toInt from by first | assumption | omega), (show (∀ j : Nat, (j : Int) < z94.toInt → oK (va_up I85 0 (va_up (I85 0) 53 z94)) j) from by first | assumption | omega | exact fun _ _ => rfl | exact fun _ _ => ⟨rfl, rfl⟩ | exact fun _ _ => ⟨rfl, rfl, rfl⟩ | (intro j9 hj9; omega)), (show (I85 0 54).toInt = (I 10 (I 0 24).toInt.toNat).toInt from by first | assumption | omega | rfl), (show ((I 0 30).toInt - z98.toInt) < n54 from by omega)⟩
              · intro h68
                have h68 : ((set >>> (i &&& 31)) &&& (Int32.ofInt 1)).toInt = 1 := h68
                intro z98 q98 _ hq98 hl98 hu98
                have hq98 : z98.toInt = i.toInt + 1 + 4294967296 * q98 := hq98
                try have hz98 : z98.toInt = i.toInt + 1 := by omega
                have r54_3 : 0 ≤ (J54 0 53).toInt ∧ (J54 0 53).toInt ≤ 10 := hR54c 0 53
                have r54_4 : -1 ≤ (J54 0 54).toInt ∧ (J54 0 54).toInt ≤ 1599 := hR54c 0 54
                exact ⟨z98, (by intro q9 h9; simp only [List.mem_cons, List.not_mem_nil, or_false] at h9; rcases h9 with h9 | h9 | h9 | h9 <;> subst h9 <;> repeat (first | exact List.mem_cons_self | apply List.mem_cons_of_mem)), rfl, rfl, hR54c, hF54c, hO54c, hmL54c, hmK54c, hmW54c, (show set.toInt ≤ 255 from by first | assumption | omega), (show 0 ≤ z98.toInt from by first | assumption | omega), (show z98.toInt ≤ (I 0 30).toInt from by first | assumption | omega), (show 0 ≤ (J54 0 53).toInt from by first | assumption | omega), (show (J54 0 53).toInt ≤ z98.toInt from by first | assumption | omega), (show (∀ j : Nat, (j : Int) < (J54 0 53).toInt → oK J54 j) from by first | assumption | omega | exact fun _ _ => rfl | exact fun _ _ => ⟨rfl, rfl⟩ | exact fun _ _ => ⟨rfl, rfl, rfl⟩ | (intro j9 hj9; omega)), (show (J54 0 54).toInt = (I 10 (I 0 24).toInt.toNat).toInt from by first | assumption | omega | rfl), (show ((I 0 30).toInt - z98.toInt) < n54 from by omega)⟩
        refine f_wp_ok C f_cl flX12_ok fiX12_ok fjX12_ok (sn := none) (fun j h => by cases h) (cs := (f_cnl [(419, (3, 0, 11, pX12_layWord, qX12_layWord)), (494, (1, 3, 11, pX12_isSentence, qX12_isSentence))])) (cz := (f_cnl [(491, (1, 1, 11, pX12_bitsOf, qX12_bitsOf))])) (f_cnl_of (P := fun j S => f_cok pP l eP (f_rm 4) sP mP aP bP hP9 cP mY 71 a cy dC dI 4 _ _ (.invokevirtual j) true S) (List.forall_mem_cons.mpr ⟨f_cokV C (mX12_layWord hinj) (ci := 11) rfl (List.forall_mem_cons.mpr ⟨(mlX12_ok _ (List.mem_of_getElem? (i := 37) rfl)), kc_X12_layWord⟩) (by decide +kernel) ⟨Nat.le_of_ble_eq_true rfl, Nat.le_of_ble_eq_true rfl⟩, List.forall_mem_cons.mpr ⟨f_cokV C (mX12_isSentence hinj) (ci := 11) rfl (List.forall_mem_cons.mpr ⟨(mlX12_ok _ (List.mem_of_getElem? (i := 57) rfl)), kc_X12_isSentence⟩) (by decide +kernel) ⟨Nat.le_of_ble_eq_true rfl, Nat.le_of_ble_eq_true rfl⟩, fun _ h => absurd h List.not_mem_nil⟩⟩)) (f_cnl_of (P := fun j S => f_cok pP l eP (f_rm 4) sP mP aP bP hP9 cP mY 71 a cy dC dI 4 _ _ (.invokestatic j) false S) (List.forall_mem_cons.mpr ⟨f_cokS C (mX12_bitsOf hinj) (List.forall_mem_cons.mpr ⟨(mlX12_ok _ (List.mem_of_getElem? (i := 56) rfl)), kc_X12_bitsOf⟩) (by decide +kernel) ⟨Nat.le_of_ble_eq_true rfl, Nat.le_of_ble_eq_true rfl⟩, fun _ h => absurd h List.not_mem_nil⟩)) tX12_lost_ok (cut := (f_cnl [(4, (fun (ls' : fLs) (st' : List Value) (I' : fM) (L' : fN) => ∃ best : Int32, ∃ set : Int32, (∀ q ∈ ([(2, .int set), (1, .int best), (0, .ref 0)] : fLs), q ∈ ls') ∧ st' = [] ∧ L' = L ∧ (mR I' ∧ f_fr [0, 21, 22, 23, 24, 25, 26, 27, 28, 29, 30, 31, 32, 33, 34, 35, 36, 37, 38, 39, 40, 41, 42, 43, 44] I I' ∧ f_fo [45, 46, 47, 48, 53, 54, 55, 59] I I' ∧ mL I' ∧ mK I' ∧ mW I' ∧ (0 ≤ set.toInt) ∧ (set.toInt ≤ 256) ∧ (256 - set.toInt) < n4))), (54, (fun (ls' : fLs) (st' : List Value) (I' : fM) (L' : fN) => ∃ i : Int32, (∀ q ∈ ([(3, .int i), (2, .int set), (1, .int best), (0, .ref 0)] : fLs), q ∈ ls') ∧ st' = [] ∧ L' = L ∧ (mR I' ∧ f_fr [0, 21, 22, 23, 24, 25, 26, 27, 28, 29, 30, 31, 32, 33, 34, 35, 36, 37, 38, 39, 40, 41, 42, 43, 44] I I' ∧ f_fo [45, 46, 47, 48, 53, 54, 55, 59] I I' ∧ mL I' ∧ mK I' ∧ mW I' ∧ (set.toInt ≤ 255) ∧ (0 ≤ i.toInt) ∧ (i.toInt ≤ (I 0 30).toInt) ∧ (0 ≤ (I' 0 53).toInt) ∧ ((I' 0 53).toInt ≤ i.toInt) ∧ ((∀ j : Nat, (j : Int) < (I' 0 53).toInt → oK I' j)) ∧ ((I' 0 54).toInt = (I 10 (I 0 24).toInt.toNat).toInt) ∧ ((I 0 30).toInt - i.toInt) < 9)))])) (f_cnl_of (P := fun (tQ : Nat) (P : fLs → List Value → fM → fN → Prop) => ∀ ls' st' I' L', P ls' st' I' L' → f_W pP l eP (f_rm 4) sP mP aP bP hP9 cP mY 71 a cy dC dI 4 (f_K 1 (qX12_lost [.ref 0] I L)) tQ ls' st' I' L') (List.forall_mem_cons.mpr ⟨(fun ls' st' I' L' h => by obtain ⟨best, set, hs, e1, e3, h9⟩ := h; rw [e1, e3]; exact f_W_sub hs (ih4 best set I' h9)), List.forall_mem_cons.mpr ⟨(fun ls' st' I' L' h => by obtain ⟨i, hs, e1, e3, h9⟩ := h; rw [e1, e3]; exact f_W_sub hs (lp54 9 i I' h9)), fun _ h => absurd h List.not_mem_nil⟩⟩)) 30 4 (f_seek 4 0 tX12_lost) (f_seek_ok 4 0 tX12_lost tX12_lost_ok) _ _ _ _ ?_
        have r7_1 : 0 ≤ (J4 0 30).toInt ∧ (J4 0 30).toInt ≤ 8 := hR4c 0 30
        have e7_2 : (J4 0 30).toInt = (I 0 30).toInt := congrArg Int32.toInt (hO4c 30 rfl)
        have s12 := shl8 (r := J4 0 30) (by rw [e4]; exact hr)
        intro z12 q12 _ hq12 hl12 hu12
        have hq12 : z12.toInt = ((Int32.ofInt 1) <<< ((J4 0 30) &&& 31)).toInt - 1 + 4294967296 * q12 := hq12
        try have hz12 : z12.toInt = ((Int32.ofInt 1) <<< ((J4 0 30) &&& 31)).toInt - 1 := by omega
        apply And.intro
        · intro h13
          have h13 : z12.toInt ≤ set.toInt := h13
          exact ⟨hR4c, hmL4c, hmK4c, hmW4c, hO4c, hF4c, rfl⟩
        · intro h13
          have h13 : set.toInt < z12.toInt := h13
          apply And.intro
          · intro h17
            have h17 : best.toInt < 0 := h17
            have hR36 := mR_f (k := 0) (j := 53) (x := Int32.ofInt 0) hR4c (show 0 ≤ 0 ∧ 0 ≤ 10 from ⟨by omega, by omega⟩)
            have hF36 := f_fr_up (k := 0) (r := va_up (J4 0) 53 (Int32.ofInt 0)) hF4c rfl
            have hO36 := f_fo_up (j := 53) (x := Int32.ofInt 0) hO4c rfl
            have hmL36 := f_depo_up0 mL_dep (j := 53) (x := Int32.ofInt 0) hmL4c rfl rfl
            have hmK36 := f_depo_up0 mK_dep (j := 53) (x := Int32.ofInt 0) hmK4c rfl rfl
            have hmW36 := f_depo_up0 mW_dep (j := 53) (x := Int32.ofInt 0) hmW4c rfl rfl
            have r45_3 : 0 ≤ (J4 0 24).toInt ∧ (J4 0 24).toInt ≤ 1 := hR36 0 24
            have e45_4 : (J4 0 24).toInt = (I 0 24).toInt := congrArg Int32.toInt (hO4c 24 rfl)
            refine And.intro (show f_in (J4 0 24) 2 from ⟨show 0 ≤ (J4 0 24).toInt from by omega, show (J4 0 24).toInt < 2 from by omega⟩) ?_
            have r48_5 : -1 ≤ (J4 10 ((J4 0 24).toInt.toNat)).toInt ∧ (J4 10 ((J4 0 24).toInt.toNat)).toInt ≤ 1599 := hR36 10 ((J4 0 24).toInt.toNat)
            have e48_6 : (J4 10 ((J4 0 24).toInt.toNat)).toInt = (J4 10 ((I 0 24).toInt.toNat)).toInt := by rw [(hO4c 24 rfl)]
            have e48_7 : (J4 10 ((I 0 24).toInt.toNat)).toInt = (I 10 ((I 0 24).toInt.toNat)).toInt := congrArg Int32.toInt (congrFun (hF4c 10 rfl) ((I 0 24).toInt.toNat))
            have hR49 := mR_f (k := 0) (j := 54) (x := J4 10 ((J4 0 24).toInt.toNat)) hR36 (show -1 ≤ (J4 10 ((J4 0 24).toInt.toNat)).toInt ∧ (J4 10 ((J4 0 24).toInt.toNat)).toInt ≤ 1599 from ⟨by omega, by omega⟩)
            have hF49 := f_fr_up (k := 0) (r := va_up (va_up (J4 0) 53 (Int32.ofInt 0)) 54 (J4 10 ((J4 0 24).toInt.toNat))) hF36 rfl
            have hO49 := f_fo_up (j := 54) (x := J4 10 ((J4 0 24).toInt.toNat)) hO36 rfl
            have hmL49 := f_depo_up0 mL_dep (j := 54) (x := J4 10 ((J4 0 24).toInt.toNat)) hmL36 rfl rfl
            have hmK49 := f_depo_up0 mK_dep (j := 54) (x := J4 10 ((J4 0 24).toInt.toNat)) hmK36 rfl rfl
            have hmW49 := f_depo_up0 mW_dep (j := 54) (x := J4 10 ((J4 0 24).toInt.toNat)) hmW36 rfl rfl
            have a49 : (J4 10 (J4 0 24).toInt.toNat).toInt = (I 10 (I 0 24).toInt.toNat).toInt := by rw [hO4c 24 rfl, hF4c 10 rfl]
            exact ⟨Int32.ofInt 0, (by intro q9 h9; simp only [List.mem_cons, List.not_mem_nil, or_false] at h9; rcases h9 with h9 | h9 | h9 | h9 <;> subst h9 <;> repeat (first | exact List.mem_cons_self | apply List.mem_cons_of_mem)), rfl, rfl, hR49, hF49, hO49, hmL49, hmK49, hmW49, (show set.toInt ≤ 255 from by first | assumption | omega), (show 0 ≤ (0 : Int) from by first | assumption | omega), (show (0 : Int) ≤ (I 0 30).toInt from by first | assumption | omega), (show 0 ≤ (0 : Int) from by first | assumption | omega), (show (0 : Int) ≤ (0 : Int) from by first | assumption | omega), (show (∀ j : Nat, (j : Int) < (0 : Int) → oK (va_up (va_up J4 0 (va_up (J4 0) 53 (Int32.ofInt 0))) 0 (va_up (va_up (J4 0) 53 (Int32.ofInt 0)) 54 (J4 10 ((J4 0 24).toInt.toNat)))) j) from by first | assumption | omega | exact fun _ _ => rfl | exact fun _ _ => ⟨rfl, rfl⟩ | exact fun _ _ => ⟨rfl, rfl, rfl⟩ | (intro j9 hj9; omega)), (show (J4 10 ((J4 0 24).toInt.toNat)).toInt = (I 10 (I 0 24).toInt.toNat).toInt from by first | assumption | omega | rfl), (show ((I 0 30).toInt - (0 : Int)) < 9 from by omega)⟩
          · intro h17
            have h17 : 0 ≤ best.toInt := h17
            refine And.intro trivial ?_
            intro x21 I21 L21 hq21
            have hq21 : I21 = J4 ∧ L21 = L := hq21
            obtain ⟨eI21, eL21⟩ := hq21
            replace eI21 := eI21.symm
            subst eI21
            replace eL21 := eL21.symm
            subst eL21
            refine And.intro trivial ?_
            intro x25 I25 L25 hq25
            have hq25 : I25 = J4 ∧ L25 = L := hq25
            obtain ⟨eI25, eL25⟩ := hq25
            replace eI25 := eI25.symm
            subst eI25
            replace eL25 := eL25.symm
            subst eL25
            apply And.intro
            · intro h28
              have h28 : x21.toInt < x25.toInt := h28
              have hR36 := mR_f (k := 0) (j := 53) (x := Int32.ofInt 0) hR4c (show 0 ≤ 0 ∧ 0 ≤ 10 from ⟨by omega, by omega⟩)
              have hF36 := f_fr_up (k := 0) (r := va_up (J4 0) 53 (Int32.ofInt 0)) hF4c rfl
              have hO36 := f_fo_up (j := 53) (x := Int32.ofInt 0) hO4c rfl
              have hmL36 := f_depo_up0 mL_dep (j := 53) (x := Int32.ofInt 0) hmL4c rfl rfl
              have hmK36 := f_depo_up0 mK_dep (j := 53) (x := Int32.ofInt 0) hmK4c rfl rfl
              have hmW36 := f_depo_up0 mW_dep (j := 53) (x := Int32.ofInt 0) hmW4c rfl rfl
              have r45_3 : 0 ≤ (J4 0 24).toInt ∧ (J4 0 24).toInt ≤ 1 := hR36 0 24
              have e45_4 : (J4 0 24).toInt = (I 0 24).toInt := congrArg Int32.toInt (hO4c 24 rfl)
              refine And.intro (show f_in (J4 0 24) 2 from ⟨show 0 ≤ (J4 0 24).toInt from by omega, show (J4 0 24).toInt < 2 from by omega⟩) ?_
              have r48_5 : -1 ≤ (J4 10 ((J4 0 24).toInt.toNat)).toInt ∧ (J4 10 ((J4 0 24).toInt.toNat)).toInt ≤ 1599 := hR36 10 ((J4 0 24).toInt.toNat)
              have e48_6 : (J4 10 ((J4 0 24).toInt.toNat)).toInt = (J4 10 ((I 0 24).toInt.toNat)).toInt := by rw [(hO4c 24 rfl)]
              have e48_7 : (J4 10 ((I 0 24).toInt.toNat)).toInt = (I 10 ((I 0 24).toInt.toNat)).toInt := congrArg Int32.toInt (congrFun (hF4c 10 rfl) ((I 0 24).toInt.toNat))
              have hR49 := mR_f (k := 0) (j := 54) (x := J4 10 ((J4 0 24).toInt.toNat)) hR36 (show -1 ≤ (J4 10 ((J4 0 24).toInt.toNat)).toInt ∧ (J4 10 ((J4 0 24).toInt.toNat)).toInt ≤ 1599 from ⟨by omega, by omega⟩)
              have hF49 := f_fr_up (k := 0) (r := va_up (va_up (J4 0) 53 (Int32.ofInt 0)) 54 (J4 10 ((J4 0 24).toInt.toNat))) hF36 rfl
              have hO49 := f_fo_up (j := 54) (x := J4 10 ((J4 0 24).toInt.toNat)) hO36 rfl
              have hmL49 := f_depo_up0 mL_dep (j := 54) (x := J4 10 ((J4 0 24).toInt.toNat)) hmL36 rfl rfl
              have hmK49 := f_depo_up0 mK_dep (j := 54) (x := J4 10 ((J4 0 24).toInt.toNat)) hmK36 rfl rfl
              have hmW49 := f_depo_up0 mW_dep (j := 54) (x := J4 10 ((J4 0 24).toInt.toNat)) hmW36 rfl rfl
              have a49 : (J4 10 (J4 0 24).toInt.toNat).toInt = (I 10 (I 0 24).toInt.toNat).toInt := by rw [hO4c 24 rfl, hF4c 10 rfl]
              exact ⟨Int32.ofInt 0, (by intro q9 h9; simp only [List.mem_cons, List.not_mem_nil, or_false] at h9; rcases h9 with h9 | h9 | h9 | h9 <;> subst h9 <;> repeat (first | exact List.mem_cons_self | apply List.mem_cons_of_mem)), rfl, rfl, hR49, hF49, hO49, hmL49, hmK49, hmW49, (show set.toInt ≤ 255 from by first | assumption | omega), (show 0 ≤ (0 : Int) from by first | assumption | omega), (show (0 : Int) ≤ (I 0 30).toInt from by first | assumption | omega), (show 0 ≤ (0 : Int) from by first | assumption | omega), (show (0 : Int) ≤ (0 : Int) from by first | assumption | omega), (show (∀ j : Nat, (j : Int) < (0 : Int) → oK (va_up (va_up J4 0 (va_up (J4 0) 53 (Int32.ofInt 0))) 0 (va_up (va_up (J4 0) 53 (Int32.ofInt 0)) 54 (J4 10 ((J4 0 24).toInt.toNat)))) j) from by first | assumption | omega | exact fun _ _ => rfl | exact fun _ _ => ⟨rfl, rfl⟩ | exact fun _ _ => ⟨rfl, rfl, rfl⟩ | (intro j9 hj9; omega)), (show (J4 10 ((J4 0 24).toInt.toNat)).toInt = (I 10 (I 0 24).toInt.toNat).toInt from by first | assumption | omega | rfl), (show ((I 0 30).toInt - (0 : Int)) < 9 from by omega)⟩
            · intro h28
              have h28 : x25.toInt ≤ x21.toInt := h28
              intro z113 q113 _ hq113 hl113 hu113
              have hq113 : z113.toInt = set.toInt + 1 + 4294967296 * q113 := hq113
              try have hz113 : z113.toInt = set.toInt + 1 := by omega
              exact ⟨best, z113, (by intro q9 h9; simp only [List.mem_cons, List.not_mem_nil, or_false] at h9; rcases h9 with h9 | h9 | h9 <;> subst h9 <;> repeat (first | exact List.mem_cons_self | apply List.mem_cons_of_mem)), rfl, rfl, hR4c, hF4c, hO4c, hmL4c, hmK4c, hmW4c, (show 0 ≤ z113.toInt from by first | assumption | omega), (show z113.toInt ≤ 256 from by first | assumption | omega), (show (256 - z113.toInt) < n4 from by omega)⟩
    refine f_wp_ok C f_cl flX12_ok fiX12_ok fjX12_ok (sn := none) (fun j h => by cases h) (cs := (f_cnl [(419, (3, 0, 11, pX12_layWord, qX12_layWord)), (494, (1, 3, 11, pX12_isSentence, qX12_isSentence))])) (cz := (f_cnl [(491, (1, 1, 11, pX12_bitsOf, qX12_bitsOf))])) (f_cnl_of (P := fun j S => f_cok pP l eP (f_rm 4) sP mP aP bP hP9 cP mY 71 a cy dC dI 4 _ _ (.invokevirtual j) true S) (List.forall_mem_cons.mpr ⟨f_cokV C (mX12_layWord hinj) (ci := 11) rfl (List.forall_mem_cons.mpr ⟨(mlX12_ok _ (List.mem_of_getElem? (i := 37) rfl)), kc_X12_layWord⟩) (by decide +kernel) ⟨Nat.le_of_ble_eq_true rfl, Nat.le_of_ble_eq_true rfl⟩, List.forall_mem_cons.mpr ⟨f_cokV C (mX12_isSentence hinj) (ci := 11) rfl (List.forall_mem_cons.mpr ⟨(mlX12_ok _ (List.mem_of_getElem? (i := 57) rfl)), kc_X12_isSentence⟩) (by decide +kernel) ⟨Nat.le_of_ble_eq_true rfl, Nat.le_of_ble_eq_true rfl⟩, fun _ h => absurd h List.not_mem_nil⟩⟩)) (f_cnl_of (P := fun j S => f_cok pP l eP (f_rm 4) sP mP aP bP hP9 cP mY 71 a cy dC dI 4 _ _ (.invokestatic j) false S) (List.forall_mem_cons.mpr ⟨f_cokS C (mX12_bitsOf hinj) (List.forall_mem_cons.mpr ⟨(mlX12_ok _ (List.mem_of_getElem? (i := 56) rfl)), kc_X12_bitsOf⟩) (by decide +kernel) ⟨Nat.le_of_ble_eq_true rfl, Nat.le_of_ble_eq_true rfl⟩, fun _ h => absurd h List.not_mem_nil⟩)) tX12_lost_ok (cut := (f_cnl [(4, (fun (ls' : fLs) (st' : List Value) (I' : fM) (L' : fN) => ∃ best : Int32, ∃ set : Int32, (∀ q ∈ ([(2, .int set), (1, .int best), (0, .ref 0)] : fLs), q ∈ ls') ∧ st' = [] ∧ L' = L ∧ (mR I' ∧ f_fr [0, 21, 22, 23, 24, 25, 26, 27, 28, 29, 30, 31, 32, 33, 34, 35, 36, 37, 38, 39, 40, 41, 42, 43, 44] I I' ∧ f_fo [45, 46, 47, 48, 53, 54, 55, 59] I I' ∧ mL I' ∧ mK I' ∧ mW I' ∧ (0 ≤ set.toInt) ∧ (set.toInt ≤ 256) ∧ (256 - set.toInt) < 257)))])) (f_cnl_of (P := fun (tQ : Nat) (P : fLs → List Value → fM → fN → Prop) => ∀ ls' st' I' L', P ls' st' I' L' → f_W pP l eP (f_rm 4) sP mP aP bP hP9 cP mY 71 a cy dC dI 4 (f_K 1 (qX12_lost [.ref 0] I L)) tQ ls' st' I' L') (List.forall_mem_cons.mpr ⟨(fun ls' st' I' L' h => by obtain ⟨best, set, hs, e1, e3, h9⟩ := h; rw [e1, e3]; exact f_W_sub hs (lp4 257 best set I' h9)), fun _ h => absurd h List.not_mem_nil⟩)) 7 0 tX12_lost tX12_lost_ok _ _ _ _ ?_
    have cn4_best : (Int32.ofInt (-1)).toInt = -1 := rfl
    exact ⟨Int32.ofInt (-1), Int32.ofInt 0, (by intro q9 h9; simp only [List.mem_cons, List.not_mem_nil, or_false] at h9; rcases h9 with h9 | h9 | h9 <;> subst h9 <;> repeat (first | exact List.mem_cons_self | apply List.mem_cons_of_mem)), rfl, rfl, hR, hF0, hO0, hmL, hmK, hmW, (show 0 ≤ (0 : Int) from by first | assumption | omega), (show (0 : Int) ≤ 256 from by first | assumption | omega), (show (256 - (0 : Int)) < 257 from by omega)⟩
/-- an order of the row's places -/
def dsx (P : Nat → Int32) (n : Int) : Prop := (∀ i : Nat, (i : Int) < n → 0 ≤ (P i).toInt ∧ (P i).toInt < n) ∧ (∀ i j : Nat, i < j → (j : Int) < n → ¬ (P i).toInt = (P j).toInt)
theorem dsx_ne {P : Nat → Int32} {n : Int} (h : dsx P n) {i j : Nat} (hi : (i : Int) < n) (hj : (j : Int) < n) (hij : ¬ i = j) : ¬ (P i).toInt = (P j).toInt := by
  rcases Nat.lt_or_ge i j with q | q
  · exact h.2 i j q hj
  · exact fun e => h.2 j i (by omega) hi e.symm
theorem dsx_swap {P : Nat → Int32} {n : Int} {a b : Nat} (h : dsx P n) (ha : (a : Int) < n) (hb : (b : Int) < n) (hab : ¬ a = b) : dsx (upd (upd P a (P b)) b (P a)) n := by
  have v : ∀ i : Nat, (upd (upd P a (P b)) b (P a)) i = P (if i = b then a else if i = a then b else i) := fun i => by
    by_cases q : i = b
    · rw [q, pk_us, if_pos rfl]
    · rw [pk_un q, if_neg q]
      by_cases q' : i = a
      · rw [q', pk_us, if_pos rfl]
      · rw [pk_un q', if_neg q']
  refine ⟨fun i hi => ?_, fun i j hij hj => ?_⟩
  · rw [v]
    exact h.1 _ (by split; omega; split <;> omega)
  · rw [v, v]
    refine dsx_ne h ?_ ?_ ?_
    · split; omega; split <;> omega
    · split; omega; split <;> omega
    · split <;> split <;> (try split) <;> (try split) <;> omega
def ovl (P : Nat → Int32) : Nat → Int
  | 0 => 0
  | n + 1 => 8 * ovl P n + (P n).toInt
theorem ovl_rng {P : Nat → Int32} (h : ∀ j, 0 ≤ (P j).toInt ∧ (P j).toInt ≤ 7) : ∀ n : Nat, 0 ≤ ovl P n ∧ ovl P n < 8 ^ n
  | 0 => ⟨by simp [ovl], by simp [ovl]⟩
  | n + 1 => by
    have q := ovl_rng h n
    have w := h n
    have e : (8 : Int) ^ (n + 1) = 8 * 8 ^ n := by rw [Int.pow_succ, Int.mul_comm]
    simp only [ovl]
    omega
theorem ovl_8 {P : Nat → Int32} (h : ∀ j, 0 ≤ (P j).toInt ∧ (P j).toInt ≤ 7) {n : Nat} (hn : n ≤ 8) : 0 ≤ ovl P n ∧ ovl P n < 16777216 := by
  have q := ovl_rng h n
  have w : (8 : Int) ^ n ≤ 8 ^ 8 := by
    have := Nat.pow_le_pow_right (n := 8) (by decide) hn
    exact_mod_cast this
  have e : (8 : Int) ^ 8 = 16777216 := by decide
  omega
theorem ovl_same {P P' : Nat → Int32} : ∀ {n : Nat}, (∀ j, j < n → P' j = P j) → ovl P' n = ovl P n
  | 0, _ => rfl
  | n + 1, h => by
    simp only [ovl]
    rw [ovl_same (fun j hj => h j (by omega)), h n (by omega)]
theorem ovl_lt {P P' : Nat → Int32} (h2 : ∀ j, 0 ≤ (P j).toInt ∧ (P j).toInt ≤ 7) (h2' : ∀ j, 0 ≤ (P' j).toInt ∧ (P' j).toInt ≤ 7) {i : Nat} (hb : ∀ j, j < i → P' j = P j) (hi : (P i).toInt < (P' i).toInt) : ∀ {n : Nat}, i < n → ovl P n < ovl P' n
  | 0, h => by omega
  | n + 1, h => by
    simp only [ovl]
    by_cases e : i = n
    · subst e
      rw [ovl_same hb]
      omega
    · have q := ovl_lt h2 h2' hb hi (n := n) (by omega)
      have w := h2 n
      have w' := h2' n
      omega
def tX12_nextOrder : List (Instr × Nat) := [(.aload_n 0, 1), (.getfield 309, 3), (.istore_n 1, 1), (.iload_n 1, 1), (.iconst 2, 1), (.isub, 1), (.istore_n 2, 1), (.iload_n 2, 1), (.ifCond .lt 26, 3), (.aload_n 0, 1), (.getfield 173, 3), (.iload_n 2, 1), (.iaload, 1), (.aload_n 0, 1), (.getfield 173, 3), (.iload_n 2, 1), (.iconst 1, 1), (.iadd, 1), (.iaload, 1), (.if_icmp .le 9, 3), (.iinc 2 (-1), 3), (.goto (-24), 3), (.iload_n 2, 1), (.ifCond .ge 5, 3), (.iconst 0, 1), (.ireturn, 1), (.iload_n 1, 1), (.iconst 1, 1), (.isub, 1), (.istore_n 3, 1), (.aload_n 0, 1), (.getfield 173, 3), (.iload_n 3, 1), (.iaload, 1), (.aload_n 0, 1), (.getfield 173, 3), (.iload_n 2, 1), (.iaload, 1), (.if_icmp .ge 9, 3), (.iinc 3 (-1), 3), (.goto (-18), 3), (.aload_n 0, 1), (.getfield 173, 3), (.iload_n 2, 1), (.iaload, 1), (.istore 4, 2), (.aload_n 0, 1), (.getfield 173, 3), (.iload_n 2, 1), (.aload_n 0, 1), (.getfield 173, 3), (.iload_n 3, 1), (.iaload, 1), (.iastore, 1), (.aload_n 0, 1), (.getfield 173, 3), (.iload_n 3, 1), (.iload 4, 2), (.iastore, 1), (.iload_n 1, 1), (.iconst 1, 1), (.isub, 1), (.istore 5, 2), (.iload_n 2, 1), (.iconst 1, 1), (.iadd, 1), (.istore 6, 2), (.iload 6, 2), (.iload 5, 2), (.if_icmp .ge 44, 3), (.aload_n 0, 1), (.getfield 173, 3), (.iload 6, 2), (.iaload, 1), (.istore 4, 2), (.aload_n 0, 1), (.getfield 173, 3), (.iload 6, 2), (.aload_n 0, 1), (.getfield 173, 3), (.iload 5, 2), (.iaload, 1), (.iastore, 1), (.aload_n 0, 1), (.getfield 173, 3), (.iload 5, 2), (.iload 4, 2), (.iastore, 1), (.iinc 5 (-1), 3), (.iinc 6 1, 3), (.goto (-45), 3), (.iconst 1, 1), (.ireturn, 1)]
theorem tX12_nextOrder_ok : f_chk cX12_nextOrder 0 tX12_nextOrder = true := by decide +kernel
def pX12_nextOrder (av : List Value) (I : fM) (L : fN) : Prop := match av with
  | [.ref 0] => mR I ∧ dsx (I 53) (I 0 30).toInt
  | _ => False
def qX12_nextOrder (av : List Value) (I : fM) (L : fN) (r : Value) (I' : fM) (L' : fN) : Prop := match av, r with
  | [.ref 0], .int x => mR I' ∧ f_fr [53] I I' ∧ L' = L ∧ (x.toInt = 0 ∨ x.toInt = 1) ∧ (x.toInt = 1 → dsx (I' 53) (I 0 30).toInt ∧ ovl (I 53) (I 0 30).toInt.toNat < ovl (I' 53) (I 0 30).toInt.toNat)
  | _, _ => False
set_option maxHeartbeats 40000000 in
set_option maxRecDepth 100000 in
theorem mX12_nextOrder {l : Launch} {a : Nat → Nat} {cy dC : Nat → ClassId} {dI : Nat → Nat → Nat} (hinj : ∀ i j, i < 71 → j < 71 → a i = a j → i = j) : f_Met (fun _ => True) l mY 71 a cy dC dI yX12_nextOrder cX12_nextOrder 7 3 0 pX12_nextOrder qX12_nextOrder := by
  refine f_met_of (f_Ec_T 71 a) hinj mY_hi (by decide) (fun av I L h => by unfold pX12_nextOrder at h; split at h <;> first | exact Nat.le_of_ble_eq_true rfl | exact h.elim) ?_
  intro pP eP sP mP aP bP hP9 cP C av I L hp
  unfold pX12_nextOrder at hp
  split at hp
  case h_2 => exact hp.elim
  case h_1 =>
    obtain ⟨hR, p1⟩ := hp
    have hr : 0 ≤ (I 0 30).toInt ∧ (I 0 30).toInt ≤ 8 := hR 0 30
    have hF0 : f_fr [53] I I := f_fr_rf
    have lp105 : ∀ (n105 : Nat), ∀ (n : Int32) (i : Int32) (v : Int32) (ub : Int32) (ua : Int32) (J105 : fM), mR J105 ∧ f_fr [53] I J105 ∧ (n.toInt = (I 0 30).toInt) ∧ (0 ≤ i.toInt) ∧ (i.toInt ≤ (I 0 30).toInt - 2) ∧ (i.toInt < ua.toInt) ∧ (ub.toInt ≤ (I 0 30).toInt - 1) ∧ (ua.toInt ≤ ub.toInt + 2) ∧ (dsx (J105 53) (I 0 30).toInt) ∧ ((∀ k : Nat, (k : Int) < i.toInt → J105 53 k = I 53 k)) ∧ ((I 53 i.toInt.toNat).toInt < (J105 53 i.toInt.toNat).toInt) ∧ (ub.toInt - ua.toInt + 2) < n105 → f_W pP l eP (f_rm 0) sP mP aP bP hP9 cP mY 71 a cy dC dI 7 (f_K 3 (qX12_nextOrder [.ref 0] I L)) 105 [(6, .int ua), (5, .int ub), (4, .int v), (2, .int i), (1, .int n), (0, .ref 0)] [] J105 L := by
      intro n105
      induction n105 with
      | zero =>
        intro n i v ub ua J105 h9
        obtain ⟨hR105c, hF105c, u105_1, u105_2, u105_3, u105_4, u105_5, u105_6, u105_7, u105_8, u105_9, hm105⟩ := h9
        omega
      | succ n105 ih105 =>
        intro n i v ub ua J105 h9
        obtain ⟨hR105c, hF105c, u105_1, u105_2, u105_3, u105_4, u105_5, u105_6, u105_7, u105_8, u105_9, hm105⟩ := h9
        refine f_wp_ok C f_cl flX12_ok fiX12_ok fjX12_ok (sn := none) (fun j h => by cases h) (cs := (fun _ => none)) (cz := (fun _ => none)) (fun j S h => by cases h) (fun j S h => by cases h) tX12_nextOrder_ok (cut := (f_cnl [(105, (fun (ls' : fLs) (st' : List Value) (I' : fM) (L' : fN) => ∃ n : Int32, ∃ i : Int32, ∃ v : Int32, ∃ ub : Int32, ∃ ua : Int32, (∀ q ∈ ([(6, .int ua), (5, .int ub), (4, .int v), (2, .int i), (1, .int n), (0, .ref 0)] : fLs), q ∈ ls') ∧ st' = [] ∧ L' = L ∧ (mR I' ∧ f_fr [53] I I' ∧ (n.toInt = (I 0 30).toInt) ∧ (0 ≤ i.toInt) ∧ (i.toInt ≤ (I 0 30).toInt - 2) ∧ (i.toInt < ua.toInt) ∧ (ub.toInt ≤ (I 0 30).toInt - 1) ∧ (ua.toInt ≤ ub.toInt + 2) ∧ (dsx (I' 53) (I 0 30).toInt) ∧ ((∀ k : Nat, (k : Int) < i.toInt → I' 53 k = I 53 k)) ∧ ((I 53 i.toInt.toNat).toInt < (I' 53 i.toInt.toNat).toInt) ∧ (ub.toInt - ua.toInt + 2) < n105)))])) (f_cnl_of (P := fun (tQ : Nat) (P : fLs → List Value → fM → fN → Prop) => ∀ ls' st' I' L', P ls' st' I' L' → f_W pP l eP (f_rm 0) sP mP aP bP hP9 cP mY 71 a cy dC dI 7 (f_K 3 (qX12_nextOrder [.ref 0] I L)) tQ ls' st' I' L') (List.forall_mem_cons.mpr ⟨(fun ls' st' I' L' h => by obtain ⟨n, i, v, ub, ua, hs, e1, e3, h9⟩ := h; rw [e1, e3]; exact f_W_sub hs (ih105 n i v ub ua I' h9)), fun _ h => absurd h List.not_mem_nil⟩)) 27 105 (f_seek 105 0 tX12_nextOrder) (f_seek_ok 105 0 tX12_nextOrder tX12_nextOrder_ok) _ _ _ _ ?_
        apply And.intro
        · intro h109
          have h109 : ub.toInt ≤ ua.toInt := h109
          exact ⟨Or.inr rfl, hR105c, hF105c, rfl, (show ((1 : Int) = 0 ∨ (1 : Int) = 1) from by first | assumption | omega | rfl), (show ((1 : Int) = 1 → dsx (J105 53) (I 0 30).toInt ∧ ovl (I 53) (I 0 30).toInt.toNat < ovl (J105 53) (I 0 30).toInt.toNat) from fun _ => ⟨u105_7, ovl_lt (fun j => hR 53 j) (fun j => hR105c 53 j) (i := i.toInt.toNat) (fun k hk => u105_8 k (by omega)) u105_9 (by omega)⟩)⟩
        · intro h109
          have h109 : ua.toInt < ub.toInt := h109
          refine And.intro (show f_in ua 8 from ⟨show 0 ≤ ua.toInt from by omega, show ua.toInt < 8 from by omega⟩) ?_
          have r118_1 : 0 ≤ (J105 53 (ua.toInt.toNat)).toInt ∧ (J105 53 (ua.toInt.toNat)).toInt ≤ 7 := hR105c 53 (ua.toInt.toNat)
          refine And.intro (show f_in ub 8 from ⟨show 0 ≤ ub.toInt from by omega, show ub.toInt < 8 from by omega⟩) ?_
          have r133_2 : 0 ≤ (J105 53 (ub.toInt.toNat)).toInt ∧ (J105 53 (ub.toInt.toNat)).toInt ≤ 7 := hR105c 53 (ub.toInt.toNat)
          refine And.intro (show f_in ua 8 from ⟨show 0 ≤ ua.toInt from by omega, show ua.toInt < 8 from by omega⟩) ?_
          have hR134 := mR_a (k := 53) (j := ua.toInt.toNat) (x := J105 53 (ub.toInt.toNat)) hR105c (show 0 ≤ (J105 53 (ub.toInt.toNat)).toInt ∧ (J105 53 (ub.toInt.toNat)).toInt ≤ 7 from ⟨by omega, by omega⟩)
          have hF134 := f_fr_up (k := 53) (r := upd (J105 53) (ua.toInt.toNat) (J105 53 (ub.toInt.toNat))) hF105c rfl
          refine And.intro (show f_in ub 8 from ⟨show 0 ≤ ub.toInt from by omega, show ub.toInt < 8 from by omega⟩) ?_
          have hR143 := mR_a (k := 53) (j := ub.toInt.toNat) (x := J105 53 (ua.toInt.toNat)) hR134 (show 0 ≤ (J105 53 (ua.toInt.toNat)).toInt ∧ (J105 53 (ua.toInt.toNat)).toInt ≤ 7 from ⟨by omega, by omega⟩)
          have hF143 := f_fr_up (k := 53) (r := upd (upd (J105 53) (ua.toInt.toNat) (J105 53 (ub.toInt.toNat))) (ub.toInt.toNat) (J105 53 (ua.toInt.toNat))) hF134 rfl
          have d143 : dsx (upd (upd (J105 53) ua.toInt.toNat (J105 53 ub.toInt.toNat)) ub.toInt.toNat (J105 53 ua.toInt.toNat)) (I 0 30).toInt := dsx_swap u105_7 (by omega) (by omega) (by omega)
          have k143 : ∀ k : Nat, (k : Int) < i.toInt → (upd (upd (J105 53) ua.toInt.toNat (J105 53 ub.toInt.toNat)) ub.toInt.toNat (J105 53 ua.toInt.toNat)) k = I 53 k := fun k hk => by rw [pk_un (by omega), pk_un (by omega)]; exact u105_8 k hk
          have g143 : (I 53 i.toInt.toNat).toInt < ((upd (upd (J105 53) ua.toInt.toNat (J105 53 ub.toInt.toNat)) ub.toInt.toNat (J105 53 ua.toInt.toNat)) i.toInt.toNat).toInt := by rw [pk_un (by omega), pk_un (by omega)]; exact u105_9
          intro z144 q144 _ hq144 hl144 hu144
          have hq144 : z144.toInt = ub.toInt + (-1) + 4294967296 * q144 := hq144
          try have hz144 : z144.toInt = ub.toInt + (-1) := by omega
          intro z147 q147 _ hq147 hl147 hu147
          have hq147 : z147.toInt = ua.toInt + 1 + 4294967296 * q147 := hq147
          try have hz147 : z147.toInt = ua.toInt + 1 := by omega
          exact ⟨n, i, J105 53 (ua.toInt.toNat), z144, z147, (by intro q9 h9; simp only [List.mem_cons, List.not_mem_nil, or_false] at h9; rcases h9 with h9 | h9 | h9 | h9 | h9 | h9 <;> subst h9 <;> repeat (first | exact List.mem_cons_self | apply List.mem_cons_of_mem)), rfl, rfl, hR143, hF143, (show n.toInt = (I 0 30).toInt from by first | assumption | omega | rfl), (show 0 ≤ i.toInt from by first | assumption | omega), (show i.toInt ≤ (I 0 30).toInt - 2 from by first | assumption | omega), (show i.toInt < z147.toInt from by first | assumption | omega), (show z144.toInt ≤ (I 0 30).toInt - 1 from by first | assumption | omega), (show z147.toInt ≤ z144.toInt + 2 from by first | assumption | omega), (show dsx ((upd (upd (J105 53) (ua.toInt.toNat) (J105 53 (ub.toInt.toNat))) (ub.toInt.toNat) (J105 53 (ua.toInt.toNat)))) (I 0 30).toInt from by first | assumption | omega), (show (∀ k : Nat, (k : Int) < i.toInt → (upd (upd (J105 53) (ua.toInt.toNat) (J105 53 (ub.toInt.toNat))) (ub.toInt.toNat) (J105 53 (ua.toInt.toNat))) k = I 53 k) from by first | assumption | omega | exact fun _ _ => rfl | exact fun _ _ => ⟨rfl, rfl⟩ | exact fun _ _ => ⟨rfl, rfl, rfl⟩ | (intro j9 hj9; omega)), (show (I 53 i.toInt.toNat).toInt < ((upd (upd (J105 53) (ua.toInt.toNat) (J105 53 (ub.toInt.toNat))) (ub.toInt.toNat) (J105 53 (ua.toInt.toNat))) i.toInt.toNat).toInt from by first | assumption | omega), (show (z144.toInt - z147.toInt + 2) < n105 from by omega)⟩
    have lp46 : ∀ (n46 : Nat), ∀ (n : Int32) (i : Int32) (j : Int32), (n.toInt = (I 0 30).toInt) ∧ (0 ≤ i.toInt) ∧ (i.toInt ≤ (I 0 30).toInt - 2) ∧ (i.toInt + 1 ≤ j.toInt) ∧ (j.toInt ≤ (I 0 30).toInt - 1) ∧ ((I 53 i.toInt.toNat).toInt ≤ (I 53 (i.toInt.toNat + 1)).toInt) ∧ (j.toInt) < n46 → f_W pP l eP (f_rm 0) sP mP aP bP hP9 cP mY 71 a cy dC dI 7 (f_K 3 (qX12_nextOrder [.ref 0] I L)) 46 [(3, .int j), (2, .int i), (1, .int n), (0, .ref 0)] [] I L := by
      intro n46
      induction n46 with
      | zero =>
        intro n i j h9
        obtain ⟨u46_1, u46_2, u46_3, u46_4, u46_5, u46_6, hm46⟩ := h9
        omega
      | succ n46 ih46 =>
        intro n i j h9
        obtain ⟨u46_1, u46_2, u46_3, u46_4, u46_5, u46_6, hm46⟩ := h9
        refine f_wp_ok C f_cl flX12_ok fiX12_ok fjX12_ok (sn := none) (fun j h => by cases h) (cs := (fun _ => none)) (cz := (fun _ => none)) (fun j S h => by cases h) (fun j S h => by cases h) tX12_nextOrder_ok (cut := (f_cnl [(46, (fun (ls' : fLs) (st' : List Value) (I' : fM) (L' : fN) => ∃ n : Int32, ∃ i : Int32, ∃ j : Int32, (∀ q ∈ ([(3, .int j), (2, .int i), (1, .int n), (0, .ref 0)] : fLs), q ∈ ls') ∧ st' = [] ∧ I' = I ∧ L' = L ∧ ((n.toInt = (I 0 30).toInt) ∧ (0 ≤ i.toInt) ∧ (i.toInt ≤ (I 0 30).toInt - 2) ∧ (i.toInt + 1 ≤ j.toInt) ∧ (j.toInt ≤ (I 0 30).toInt - 1) ∧ ((I 53 i.toInt.toNat).toInt ≤ (I 53 (i.toInt.toNat + 1)).toInt) ∧ (j.toInt) < n46))), (105, (fun (ls' : fLs) (st' : List Value) (I' : fM) (L' : fN) => ∃ n : Int32, ∃ i : Int32, ∃ v : Int32, ∃ ub : Int32, ∃ ua : Int32, (∀ q ∈ ([(6, .int ua), (5, .int ub), (4, .int v), (2, .int i), (1, .int n), (0, .ref 0)] : fLs), q ∈ ls') ∧ st' = [] ∧ L' = L ∧ (mR I' ∧ f_fr [53] I I' ∧ (n.toInt = (I 0 30).toInt) ∧ (0 ≤ i.toInt) ∧ (i.toInt ≤ (I 0 30).toInt - 2) ∧ (i.toInt < ua.toInt) ∧ (ub.toInt ≤ (I 0 30).toInt - 1) ∧ (ua.toInt ≤ ub.toInt + 2) ∧ (dsx (I' 53) (I 0 30).toInt) ∧ ((∀ k : Nat, (k : Int) < i.toInt → I' 53 k = I 53 k)) ∧ ((I 53 i.toInt.toNat).toInt < (I' 53 i.toInt.toNat).toInt) ∧ (ub.toInt - ua.toInt + 2) < 12)))])) (f_cnl_of (P := fun (tQ : Nat) (P : fLs → List Value → fM → fN → Prop) => ∀ ls' st' I' L', P ls' st' I' L' → f_W pP l eP (f_rm 0) sP mP aP bP hP9 cP mY 71 a cy dC dI 7 (f_K 3 (qX12_nextOrder [.ref 0] I L)) tQ ls' st' I' L') (List.forall_mem_cons.mpr ⟨(fun ls' st' I' L' h => by obtain ⟨n, i, j, hs, e1, e2, e3, h9⟩ := h; rw [e1, e2, e3]; exact f_W_sub hs (ih46 n i j h9)), List.forall_mem_cons.mpr ⟨(fun ls' st' I' L' h => by obtain ⟨n, i, v, ub, ua, hs, e1, e3, h9⟩ := h; rw [e1, e3]; exact f_W_sub hs (lp105 12 n i v ub ua I' h9)), fun _ h => absurd h List.not_mem_nil⟩⟩)) 38 46 (f_seek 46 0 tX12_nextOrder) (f_seek_ok 46 0 tX12_nextOrder tX12_nextOrder_ok) _ _ _ _ ?_
        refine And.intro (show f_in j 8 from ⟨show 0 ≤ j.toInt from by omega, show j.toInt < 8 from by omega⟩) ?_
        have r51_1 : 0 ≤ (I 53 (j.toInt.toNat)).toInt ∧ (I 53 (j.toInt.toNat)).toInt ≤ 7 := hR 53 (j.toInt.toNat)
        refine And.intro (show f_in i 8 from ⟨show 0 ≤ i.toInt from by omega, show i.toInt < 8 from by omega⟩) ?_
        have r57_2 : 0 ≤ (I 53 (i.toInt.toNat)).toInt ∧ (I 53 (i.toInt.toNat)).toInt ≤ 7 := hR 53 (i.toInt.toNat)
        apply And.intro
        · intro h58
          have h58 : (I 53 (i.toInt.toNat)).toInt ≤ (I 53 (j.toInt.toNat)).toInt := h58
          have g67 : (I 53 i.toInt.toNat).toInt < (I 53 j.toInt.toNat).toInt := by
            have q := dsx_ne p1 (i := i.toInt.toNat) (j := j.toInt.toNat) (by omega) (by omega) (by omega)
            omega
          refine And.intro (show f_in i 8 from ⟨show 0 ≤ i.toInt from by omega, show i.toInt < 8 from by omega⟩) ?_
          refine And.intro (show f_in j 8 from ⟨show 0 ≤ j.toInt from by omega, show j.toInt < 8 from by omega⟩) ?_
          refine And.intro (show f_in i 8 from ⟨show 0 ≤ i.toInt from by omega, show i.toInt < 8 from by omega⟩) ?_
          have hR86 := mR_a (k := 53) (j := i.toInt.toNat) (x := I 53 (j.toInt.toNat)) hR (show 0 ≤ (I 53 (j.toInt.toNat)).toInt ∧ (I 53 (j.toInt.toNat)).toInt ≤ 7 from ⟨by omega, by omega⟩)
          have hF86 := f_fr_up (k := 53) (r := upd (I 53) (i.toInt.toNat) (I 53 (j.toInt.toNat))) hF0 rfl
          refine And.intro (show f_in j 8 from ⟨show 0 ≤ j.toInt from by omega, show j.toInt < 8 from by omega⟩) ?_
          have hR94 := mR_a (k := 53) (j := j.toInt.toNat) (x := I 53 (i.toInt.toNat)) hR86 (show 0 ≤ (I 53 (i.toInt.toNat)).toInt ∧ (I 53 (i.toInt.toNat)).toInt ≤ 7 from ⟨by omega, by omega⟩)
          have hF94 := f_fr_up (k := 53) (r := upd (upd (I 53) (i.toInt.toNat) (I 53 (j.toInt.toNat))) (j.toInt.toNat) (I 53 (i.toInt.toNat))) hF86 rfl
          intro z97 q97 _ hq97 hl97 hu97
          have hq97 : z97.toInt = n.toInt - 1 + 4294967296 * q97 := hq97
          try have hz97 : z97.toInt = n.toInt - 1 := by omega
          intro z102 q102 _ hq102 hl102 hu102
          have hq102 : z102.toInt = i.toInt + 1 + 4294967296 * q102 := hq102
          try have hz102 : z102.toInt = i.toInt + 1 := by omega
          have d102 : dsx (upd (upd (I 53) i.toInt.toNat (I 53 j.toInt.toNat)) j.toInt.toNat (I 53 i.toInt.toNat)) (I 0 30).toInt := dsx_swap p1 (by omega) (by omega) (by omega)
          have k102 : ∀ k : Nat, (k : Int) < i.toInt → (upd (upd (I 53) i.toInt.toNat (I 53 j.toInt.toNat)) j.toInt.toNat (I 53 i.toInt.toNat)) k = I 53 k := fun k hk => by rw [pk_un (by omega), pk_un (by omega)]
          have g102 : (I 53 i.toInt.toNat).toInt < ((upd (upd (I 53) i.toInt.toNat (I 53 j.toInt.toNat)) j.toInt.toNat (I 53 i.toInt.toNat)) i.toInt.toNat).toInt := by rw [pk_un (by omega), pk_us]; exact g67
          exact ⟨n, i, I 53 (i.toInt.toNat), z97, z102, (by intro q9 h9; simp only [List.mem_cons, List.not_mem_nil, or_false] at h9; rcases h9 with h9 | h9 | h9 | h9 | h9 | h9 <;> subst h9 <;> repeat (first | exact List.mem_cons_self | apply List.mem_cons_of_mem)), rfl, rfl, hR94, hF94, (show n.toInt = (I 0 30).toInt from by first | assumption | omega | rfl), (show 0 ≤ i.toInt from by first | assumption | omega), (show i.toInt ≤ (I 0 30).toInt - 2 from by first | assumption | omega), (show i.toInt < z102.toInt from by first | assumption | omega), (show z97.toInt ≤ (I 0 30).toInt - 1 from by first | assumption | omega), (show z102.toInt ≤ z97.toInt + 2 from by first | assumption | omega), (show dsx ((upd (upd (I 53) (i.toInt.toNat) (I 53 (j.toInt.toNat))) (j.toInt.toNat) (I 53 (i.toInt.toNat)))) (I 0 30).toInt from by first | assumption | omega), (show (∀ k : Nat, (k : Int) < i.toInt → (upd (upd (I 53) (i.toInt.toNat) (I 53 (j.toInt.toNat))) (j.toInt.toNat) (I 53 (i.toInt.toNat))) k = I 53 k) from by first | assumption | omega | exact fun _ _ => rfl | exact fun _ _ => ⟨rfl, rfl⟩ | exact fun _ _ => ⟨rfl, rfl, rfl⟩ | (intro j9 hj9; omega)), (show (I 53 i.toInt.toNat).toInt < ((upd (upd (I 53) (i.toInt.toNat) (I 53 (j.toInt.toNat))) (j.toInt.toNat) (I 53 (i.toInt.toNat))) i.toInt.toNat).toInt from by first | assumption | omega), (show (z97.toInt - z102.toInt + 2) < 12 from by omega)⟩
        · intro h58
          have h58 : (I 53 (j.toInt.toNat)).toInt < (I 53 (i.toInt.toNat)).toInt := h58
          have e61 : ¬ j.toInt = i.toInt + 1 := fun e => by
            rw [show i.toInt.toNat + 1 = j.toInt.toNat by omega] at u46_6
            omega
          intro z61 q61 _ hq61 hl61 hu61
          have hq61 : z61.toInt = j.toInt + (-1) + 4294967296 * q61 := hq61
          try have hz61 : z61.toInt = j.toInt + (-1) := by omega
          have r46_3 : 0 ≤ (I 0 30).toInt ∧ (I 0 30).toInt ≤ 8 := hR 0 30
          have r46_4 : 0 ≤ (I 53 (i.toInt.toNat + 1)).toInt ∧ (I 53 (i.toInt.toNat + 1)).toInt ≤ 7 := hR 53 (i.toInt.toNat + 1)
          exact ⟨n, i, z61, (by intro q9 h9; simp only [List.mem_cons, List.not_mem_nil, or_false] at h9; rcases h9 with h9 | h9 | h9 | h9 <;> subst h9 <;> repeat (first | exact List.mem_cons_self | apply List.mem_cons_of_mem)), rfl, rfl, rfl, (show n.toInt = (I 0 30).toInt from by first | assumption | omega | rfl), (show 0 ≤ i.toInt from by first | assumption | omega), (show i.toInt ≤ (I 0 30).toInt - 2 from by first | assumption | omega), (show i.toInt + 1 ≤ z61.toInt from by first | assumption | omega), (show z61.toInt ≤ (I 0 30).toInt - 1 from by first | assumption | omega), (show (I 53 i.toInt.toNat).toInt ≤ (I 53 (i.toInt.toNat + 1)).toInt from by first | assumption | omega), (show (z61.toInt) < n46 from by omega)⟩
    have lp9 : ∀ (n9 : Nat), ∀ (n : Int32) (i : Int32), (n.toInt = (I 0 30).toInt) ∧ (-2 ≤ i.toInt) ∧ (i.toInt ≤ (I 0 30).toInt - 2) ∧ (3 + i.toInt) < n9 → f_W pP l eP (f_rm 0) sP mP aP bP hP9 cP mY 71 a cy dC dI 7 (f_K 3 (qX12_nextOrder [.ref 0] I L)) 9 [(2, .int i), (1, .int n), (0, .ref 0)] [] I L := by
      intro n9
      induction n9 with
      | zero =>
        intro n i h9
        obtain ⟨u9_1, u9_2, u9_3, hm9⟩ := h9
        omega
      | succ n9 ih9 =>
        intro n i h9
        obtain ⟨u9_1, u9_2, u9_3, hm9⟩ := h9
        refine f_wp_ok C f_cl flX12_ok fiX12_ok fjX12_ok (sn := none) (fun j h => by cases h) (cs := (fun _ => none)) (cz := (fun _ => none)) (fun j S h => by cases h) (fun j S h => by cases h) tX12_nextOrder_ok (cut := (f_cnl [(9, (fun (ls' : fLs) (st' : List Value) (I' : fM) (L' : fN) => ∃ n : Int32, ∃ i : Int32, (∀ q ∈ ([(2, .int i), (1, .int n), (0, .ref 0)] : fLs), q ∈ ls') ∧ st' = [] ∧ I' = I ∧ L' = L ∧ ((n.toInt = (I 0 30).toInt) ∧ (-2 ≤ i.toInt) ∧ (i.toInt ≤ (I 0 30).toInt - 2) ∧ (3 + i.toInt) < n9))), (46, (fun (ls' : fLs) (st' : List Value) (I' : fM) (L' : fN) => ∃ n : Int32, ∃ i : Int32, ∃ j : Int32, (∀ q ∈ ([(3, .int j), (2, .int i), (1, .int n), (0, .ref 0)] : fLs), q ∈ ls') ∧ st' = [] ∧ I' = I ∧ L' = L ∧ ((n.toInt = (I 0 30).toInt) ∧ (0 ≤ i.toInt) ∧ (i.toInt ≤ (I 0 30).toInt - 2) ∧ (i.toInt + 1 ≤ j.toInt) ∧ (j.toInt ≤ (I 0 30).toInt - 1) ∧ ((I 53 i.toInt.toNat).toInt ≤ (I 53 (i.toInt.toNat + 1)).toInt) ∧ (j.toInt) < 9)))])) (f_cnl_of (P := fun (tQ : Nat) (P : fLs → List Value → fM → fN → Prop) => ∀ ls' st' I' L', P ls' st' I' L' → f_W pP l eP (f_rm 0) sP mP aP bP hP9 cP mY 71 a cy dC dI 7 (f_K 3 (qX12_nextOrder [.ref 0] I L)) tQ ls' st' I' L') (List.forall_mem_cons.mpr ⟨(fun ls' st' I' L' h => by obtain ⟨n, i, hs, e1, e2, e3, h9⟩ := h; rw [e1, e2, e3]; exact f_W_sub hs (ih9 n i h9)), List.forall_mem_cons.mpr ⟨(fun ls' st' I' L' h => by obtain ⟨n, i, j, hs, e1, e2, e3, h9⟩ := h; rw [e1, e2, e3]; exact f_W_sub hs (lp46 9 n i j h9)), fun _ h => absurd h List.not_mem_nil⟩⟩)) 22 9 (f_seek 9 0 tX12_nextOrder) (f_seek_ok 9 0 tX12_nextOrder tX12_nextOrder_ok) _ _ _ _ ?_
        apply And.intro
        · intro h10
          have h10 : i.toInt < 0 := h10
          apply And.intro
          · intro h37
            have h37 : 0 ≤ i.toInt := h37
            exfalso
            omega
          · intro h37
            have h37 : i.toInt < 0 := h37
            exact ⟨Or.inl rfl, hR, hF0, rfl, (show ((0 : Int) = 0 ∨ (0 : Int) = 1) from by first | assumption | omega | rfl), (show ((0 : Int) = 1 → dsx (I 53) (I 0 30).toInt ∧ ovl (I 53) (I 0 30).toInt.toNat < ovl (I 53) (I 0 30).toInt.toNat) from fun h => absurd h (by decide))⟩
        · intro h10
          have h10 : 0 ≤ i.toInt := h10
          refine And.intro (show f_in i 8 from ⟨show 0 ≤ i.toInt from by omega, show i.toInt < 8 from by omega⟩) ?_
          have r18_1 : 0 ≤ (I 53 (i.toInt.toNat)).toInt ∧ (I 53 (i.toInt.toNat)).toInt ≤ 7 := hR 53 (i.toInt.toNat)
          intro z25 q25 _ hq25 hl25 hu25
          have hq25 : z25.toInt = i.toInt + 1 + 4294967296 * q25 := hq25
          try have hz25 : z25.toInt = i.toInt + 1 := by omega
          refine And.intro (show f_in z25 8 from ⟨show 0 ≤ z25.toInt from by omega, show z25.toInt < 8 from by omega⟩) ?_
          have r26_2 : 0 ≤ (I 53 (z25.toInt.toNat)).toInt ∧ (I 53 (z25.toInt.toNat)).toInt ≤ 7 := hR 53 (z25.toInt.toNat)
          apply And.intro
          · intro h27
            have h27 : (I 53 (i.toInt.toNat)).toInt ≤ (I 53 (z25.toInt.toNat)).toInt := h27
            apply And.intro
            · intro h37
              have h37 : 0 ≤ i.toInt := h37
              have e42 : (I 53 i.toInt.toNat).toInt ≤ (I 53 (i.toInt.toNat + 1)).toInt := by rw [show i.toInt.toNat + 1 = z25.toInt.toNat by omega]; omega
              intro z44 q44 _ hq44 hl44 hu44
              have hq44 : z44.toInt = n.toInt - 1 + 4294967296 * q44 := hq44
              try have hz44 : z44.toInt = n.toInt - 1 := by omega
              have r46_3 : 0 ≤ (I 0 30).toInt ∧ (I 0 30).toInt ≤ 8 := hR 0 30
              have r46_4 : 0 ≤ (I 53 (i.toInt.toNat + 1)).toInt ∧ (I 53 (i.toInt.toNat + 1)).toInt ≤ 7 := hR 53 (i.toInt.toNat + 1)
              exact ⟨n, i, z44, (by intro q9 h9; simp only [List.mem_cons, List.not_mem_nil, or_false] at h9; rcases h9 with h9 | h9 | h9 | h9 <;> subst h9 <;> repeat (first | exact List.mem_cons_self | apply List.mem_cons_of_mem)), rfl, rfl, rfl, (show n.toInt = (I 0 30).toInt from by first | assumption | omega | rfl), (show 0 ≤ i.toInt from by first | assumption | omega), (show i.toInt ≤ (I 0 30).toInt - 2 from by first | assumption | omega), (show i.toInt + 1 ≤ z44.toInt from by first | assumption | omega), (show z44.toInt ≤ (I 0 30).toInt - 1 from by first | assumption | omega), (show (I 53 i.toInt.toNat).toInt ≤ (I 53 (i.toInt.toNat + 1)).toInt from by first | assumption | omega), (show (z44.toInt) < 9 from by omega)⟩
            · intro h37
              have h37 : i.toInt < 0 := h37
              exfalso
              omega
          · intro h27
            have h27 : (I 53 (z25.toInt.toNat)).toInt < (I 53 (i.toInt.toNat)).toInt := h27
            intro z30 q30 _ hq30 hl30 hu30
            have hq30 : z30.toInt = i.toInt + (-1) + 4294967296 * q30 := hq30
            try have hz30 : z30.toInt = i.toInt + (-1) := by omega
            have r9_3 : 0 ≤ (I 0 30).toInt ∧ (I 0 30).toInt ≤ 8 := hR 0 30
            exact ⟨n, z30, (by intro q9 h9; simp only [List.mem_cons, List.not_mem_nil, or_false] at h9; rcases h9 with h9 | h9 | h9 <;> subst h9 <;> repeat (first | exact List.mem_cons_self | apply List.mem_cons_of_mem)), rfl, rfl, rfl, (show n.toInt = (I 0 30).toInt from by first | assumption | omega | rfl), (show -2 ≤ z30.toInt from by first | assumption | omega), (show z30.toInt ≤ (I 0 30).toInt - 2 from by first | assumption | omega), (show (3 + z30.toInt) < n9 from by omega)⟩
    refine f_wp_ok C f_cl flX12_ok fiX12_ok fjX12_ok (sn := none) (fun j h => by cases h) (cs := (fun _ => none)) (cz := (fun _ => none)) (fun j S h => by cases h) (fun j S h => by cases h) tX12_nextOrder_ok (cut := (f_cnl [(9, (fun (ls' : fLs) (st' : List Value) (I' : fM) (L' : fN) => ∃ n : Int32, ∃ i : Int32, (∀ q ∈ ([(2, .int i), (1, .int n), (0, .ref 0)] : fLs), q ∈ ls') ∧ st' = [] ∧ I' = I ∧ L' = L ∧ ((n.toInt = (I 0 30).toInt) ∧ (-2 ≤ i.toInt) ∧ (i.toInt ≤ (I 0 30).toInt - 2) ∧ (3 + i.toInt) < 12)))])) (f_cnl_of (P := fun (tQ : Nat) (P : fLs → List Value → fM → fN → Prop) => ∀ ls' st' I' L', P ls' st' I' L' → f_W pP l eP (f_rm 0) sP mP aP bP hP9 cP mY 71 a cy dC dI 7 (f_K 3 (qX12_nextOrder [.ref 0] I L)) tQ ls' st' I' L') (List.forall_mem_cons.mpr ⟨(fun ls' st' I' L' h => by obtain ⟨n, i, hs, e1, e2, e3, h9⟩ := h; rw [e1, e2, e3]; exact f_W_sub hs (lp9 12 n i h9)), fun _ h => absurd h List.not_mem_nil⟩)) 10 0 tX12_nextOrder tX12_nextOrder_ok _ _ _ _ ?_
    have r1_1 : 0 ≤ (I 0 30).toInt ∧ (I 0 30).toInt ≤ 8 := hR 0 30
    intro z7 q7 _ hq7 hl7 hu7
    have hq7 : z7.toInt = (I 0 30).toInt - 2 + 4294967296 * q7 := hq7
    try have hz7 : z7.toInt = (I 0 30).toInt - 2 := by omega
    exact ⟨I 0 30, z7, (by intro q9 h9; simp only [List.mem_cons, List.not_mem_nil, or_false] at h9; rcases h9 with h9 | h9 | h9 <;> subst h9 <;> repeat (first | exact List.mem_cons_self | apply List.mem_cons_of_mem)), rfl, rfl, rfl, (show (I 0 30).toInt = (I 0 30).toInt from by first | assumption | omega | rfl), (show -2 ≤ z7.toInt from by first | assumption | omega), (show z7.toInt ≤ (I 0 30).toInt - 2 from by first | assumption | omega), (show (3 + z7.toInt) < 12 from by omega)⟩
def tX12_mended : List (Instr × Nat) := [(.iload_n 1, 1), (.iconst 0, 1), (.iconst 1, 1), (.invokestatic 366, 3), (.ifCond .ne 5, 3), (.iconst (-1), 1), (.ireturn, 1), (.aload_n 0, 1), (.getfield 309, 3), (.bipush 6, 2), (.if_icmp .le 6, 3), (.bipush (-2), 2), (.ireturn, 1), (.iconst 0, 1), (.istore_n 2, 1), (.iload_n 2, 1), (.aload_n 0, 1), (.getfield 309, 3), (.if_icmp .ge 16, 3), (.aload_n 0, 1), (.getfield 173, 3), (.iload_n 2, 1), (.iload_n 2, 1), (.iastore, 1), (.iinc 2 1, 3), (.goto (-18), 3), (.iconst (-1), 1), (.istore_n 2, 1), (.iconst 0, 1), (.istore_n 3, 1), (.aload_n 0, 1), (.getfield 309, 3), (.ifCond .le 7, 3), (.iconst 1, 1), (.goto 4, 3), (.iconst 0, 1), (.istore 4, 2), (.iload 4, 2), (.ifCond .eq 128, 3), (.iload_n 2, 1), (.ifCond .lt 11, 3), (.aload_n 0, 1), (.invokevirtual 497, 3), (.iload_n 3, 1), (.if_icmp .ge 107, 3), (.aload_n 0, 1), (.aload_n 0, 1), (.getfield 309, 3), (.putfield 407, 3), (.aload_n 0, 1), (.aload_n 0, 1), (.getfield 42, 3), (.aload_n 0, 1), (.getfield 300, 3), (.iaload, 1), (.putfield 416, 3), (.iconst 0, 1), (.istore 5, 2), (.iload 5, 2), (.aload_n 0, 1), (.getfield 309, 3), (.if_icmp .ge 27, 3), (.aload_n 0, 1), (.iload 5, 2), (.aload_n 0, 1), (.getfield 71, 3), (.aload_n 0, 1), (.getfield 173, 3), (.iload 5, 2), (.iaload, 1), (.iaload, 1), (.invokevirtual 419, 3), (.iinc 5 1, 3), (.goto (-30), 3), (.aload_n 0, 1), (.invokevirtual 494, 3), (.ifCond .eq 43, 3), (.aload_n 0, 1), (.invokevirtual 497, 3), (.istore_n 3, 1), (.iconst 0, 1), (.istore_n 2, 1), (.iconst 0, 1), (.istore 5, 2), (.iload 5, 2), (.aload_n 0, 1), (.getfield 309, 3), (.if_icmp .ge 24, 3), (.bipush 10, 2), (.iload_n 2, 1), (.imul, 1), (.aload_n 0, 1), (.getfield 173, 3), (.iload 5, 2), (.iaload, 1), (.iadd, 1), (.iconst 1, 1), (.iadd, 1), (.istore_n 2, 1), (.iinc 5 1, 3), (.goto (-27), 3), (.aload_n 0, 1), (.invokevirtual 500, 3), (.istore 4, 2), (.goto (-127), 3), (.iload_n 2, 1), (.ifCond .ge 7, 3), (.iconst (-1), 1), (.goto 12, 3), (.iload_n 1, 1), (.ifCond .ne 7, 3), (.iload_n 3, 1), (.goto 4, 3), (.iload_n 2, 1), (.ireturn, 1)]
theorem tX12_mended_ok : f_chk cX12_mended 0 tX12_mended = true := by decide +kernel
def pX12_mended (av : List Value) (I : fM) (L : fN) : Prop := match av with
  | [.ref 0, .int what] => mR I ∧ mL I ∧ mK I ∧ mW I
  | _ => False
def qX12_mended (av : List Value) (I : fM) (L : fN) (r : Value) (I' : fM) (L' : fN) : Prop := match av, r with
  | [.ref 0, .int what], .int x => mR I' ∧ mL I' ∧ mK I' ∧ mW I' ∧ f_fo [45, 46, 47, 48, 53, 54, 55, 59] I I' ∧ f_fr [0, 21, 22, 23, 24, 25, 26, 27, 28, 29, 30, 31, 32, 33, 34, 35, 36, 37, 38, 39, 40, 41, 42, 43, 44, 53] I I' ∧ L' = L
  | _, _ => False
set_option maxHeartbeats 40000000 in
set_option maxRecDepth 100000 in
theorem mX12_mended {l : Launch} {a : Nat → Nat} {cy dC : Nat → ClassId} {dI : Nat → Nat → Nat} (hinj : ∀ i j, i < 71 → j < 71 → a i = a j → i = j) : f_Met (fun _ => True) l mY 71 a cy dC dI yX12_mended cX12_mended 6 1 4 pX12_mended qX12_mended := by
  refine f_met_of (f_Ec_T 71 a) hinj mY_hi (by decide) (fun av I L h => by unfold pX12_mended at h; split at h <;> first | exact Nat.le_of_ble_eq_true rfl | exact h.elim) ?_
  intro pP eP sP mP aP bP hP9 cP C av I L hp
  unfold pX12_mended at hp
  split at hp
  case h_2 => exact hp.elim
  case h_1 what =>
    obtain ⟨hR, hmL, hmK, hmW⟩ := hp
    have hr : 0 ≤ (I 0 30).toInt ∧ (I 0 30).toInt ≤ 8 := hR 0 30
    have hF0 : f_fr [0, 21, 22, 23, 24, 25, 26, 27, 28, 29, 30, 31, 32, 33, 34, 35, 36, 37, 38, 39, 40, 41, 42, 43, 44, 53] I I := f_fr_rf
    have hO0 : f_fo [45, 46, 47, 48, 53, 54, 55, 59] I I := f_fo_rf
    have lp64 : ∀ (n64 : Nat), ∀ (best : Int32) (least : Int32) (more : Int32) (J64 : fM), mR J64 ∧ f_fr [0, 21, 22, 23, 24, 25, 26, 27, 28, 29, 30, 31, 32, 33, 34, 35, 36, 37, 38, 39, 40, 41, 42, 43, 44, 53] I J64 ∧ f_fo [45, 46, 47, 48, 53, 54, 55, 59] I J64 ∧ mL J64 ∧ mK J64 ∧ mW J64 ∧ ((I 0 30).toInt ≤ 6) ∧ ((more.toInt = 1 → dsx (J64 53) (I 0 30).toInt)) ∧ (more.toInt = 0 ∨ more.toInt = 1) ∧ (0 ≤ gm (1 - more.toInt) (16777216 - ovl (J64 53) (I 0 30).toInt.toNat)) ∧ (gm (1 - more.toInt) (16777216 - ovl (J64 53) (I 0 30).toInt.toNat)) < n64 → f_W pP l eP (f_rm 4) sP mP aP bP hP9 cP mY 71 a cy dC dI 6 (f_K 1 (qX12_mended [.ref 0, .int what] I L)) 64 [(4, .int more), (3, .int least), (2, .int best), (1, .int what), (0, .ref 0)] [] J64 L := by
      intro n64
      induction n64 with
      | zero =>
        intro best least more J64 h9
        obtain ⟨hR64c, hF64c, hO64c, hmL64c, hmK64c, hmW64c, u64_1, u64_2, u64_3, u64_4, hm64⟩ := h9
        omega
      | succ n64 ih64 =>
        intro best least more J64 h9
        obtain ⟨hR64c, hF64c, hO64c, hmL64c, hmK64c, hmW64c, u64_1, u64_2, u64_3, u64_4, hm64⟩ := h9
        have e64 : (J64 0 30).toInt = (I 0 30).toInt := congrArg Int32.toInt (hO64c 30 rfl)
        have v64 := ovl_8 (P := J64 53) (fun j => hR64c 53 j) (n := (I 0 30).toInt.toNat) (by omega)
        have a64 : (J64 10 (J64 0 24).toInt.toNat).toInt = (I 10 (I 0 24).toInt.toNat).toInt := by rw [hO64c 24 rfl, hF64c 10 rfl]
        have lp185 : ∀ (best3 : Int32) (least3 : Int32) (J185 : fM), mR J185 ∧ f_fr [0, 21, 22, 23, 24, 25, 26, 27, 28, 29, 30, 31, 32, 33, 34, 35, 36, 37, 38, 39, 40, 41, 42, 43, 44, 53] I J185 ∧ f_fo [45, 46, 47, 48, 53, 54, 55, 59] I J185 ∧ mL J185 ∧ mK J185 ∧ mW J185 ∧ (more.toInt = 1) ∧ (J185 53 = J64 53) → f_W pP l eP (f_rm 4) sP mP aP bP hP9 cP mY 71 a cy dC dI 6 (f_K 1 (qX12_mended [.ref 0, .int what] I L)) 185 [(4, .int more), (3, .int least3), (2, .int best3), (1, .int what), (0, .ref 0)] [] J185 L := by
          intro best3 least3 J185 h9
          obtain ⟨hR185c, hF185c, hO185c, hmL185c, hmK185c, hmW185c, u185_1, u185_2⟩ := h9
          have e185 : J185 0 30 = I 0 30 := hO185c 30 rfl
          refine f_wp_ok C f_cl flX12_ok fiX12_ok fjX12_ok (sn := none) (fun j h => by cases h) (cs := (f_cnl [(497, (1, 1, 11, pX12_pairs, qX12_pairs)), (419, (3, 0, 11, pX12_layWord, qX12_layWord)), (494, (1, 3, 11, pX12_isSentence, qX12_isSentence)), (500, (1, 3, 11, pX12_nextOrder, qX12_nextOrder))])) (cz := (f_cnl [(366, (3, 3, 11, pX12_isIn, qX12_isIn))])) (f_cnl_of (P := fun j S => f_cok pP l eP (f_rm 4) sP mP aP bP hP9 cP mY 71 a cy dC dI 6 _ _ (.invokevirtual j) true S) (List.forall_mem_cons.mpr ⟨f_cokV C (mX12_pairs hinj) (ci := 11) rfl (List.forall_mem_cons.mpr ⟨(mlX12_ok _ (List.mem_of_getElem? (i := 58) rfl)), kc_X12_pairs⟩) (by decide +kernel) ⟨Nat.le_of_ble_eq_true rfl, Nat.le_of_ble_eq_true rfl⟩, List.forall_mem_cons.mpr ⟨f_cokV C (mX12_layWord hinj) (ci := 11) rfl (List.forall_mem_cons.mpr ⟨(mlX12_ok _ (List.mem_of_getElem? (i := 37) rfl)), kc_X12_layWord⟩) (by decide +kernel) ⟨Nat.le_of_ble_eq_true rfl, Nat.le_of_ble_eq_true rfl⟩, List.forall_mem_cons.mpr ⟨f_cokV C (mX12_isSentence hinj) (ci := 11) rfl (List.forall_mem_cons.mpr ⟨(mlX12_ok _ (List.mem_of_getElem? (i := 57) rfl)), kc_X12_isSentence⟩) (by decide +kernel) ⟨Nat.le_of_ble_eq_true rfl, Nat.le_of_ble_eq_true rfl⟩, List.forall_mem_cons.mpr ⟨f_cokV C (mX12_nextOrder hinj) (ci := 11) rfl (List.forall_mem_cons.mpr ⟨(mlX12_ok _ (List.mem_of_getElem? (i := 59) rfl)), kc_X12_nextOrder⟩) (by decide +kernel) ⟨Nat.le_of_ble_eq_true rfl, Nat.le_of_ble_eq_true rfl⟩, fun _ h => absurd h List.not_mem_nil⟩⟩⟩⟩)) (f_cnl_of (P := fun j S => f_cok pP l eP (f_rm 4) sP mP aP bP hP9 cP mY 71 a cy dC dI 6 _ _ (.invokestatic j) false S) (List.forall_mem_cons.mpr ⟨f_cokS C (mX12_isIn hinj) (List.forall_mem_cons.mpr ⟨(mlX12_ok _ (List.mem_of_getElem? (i := 27) rfl)), kc_X12_isIn⟩) (by decide +kernel) ⟨Nat.le_of_ble_eq_true rfl, Nat.le_of_ble_eq_true rfl⟩, fun _ h => absurd h List.not_mem_nil⟩)) tX12_mended_ok (cut := (f_cnl [(64, (fun (ls' : fLs) (st' : List Value) (I' : fM) (L' : fN) => ∃ best : Int32, ∃ least : Int32, ∃ more : Int32, (∀ q ∈ ([(4, .int more), (3, .int least), (2, .int best), (1, .int what), (0, .ref 0)] : fLs), q ∈ ls') ∧ st' = [] ∧ L' = L ∧ (mR I' ∧ f_fr [0, 21, 22, 23, 24, 25, 26, 27, 28, 29, 30, 31, 32, 33, 34, 35, 36, 37, 38, 39, 40, 41, 42, 43, 44, 53] I I' ∧ f_fo [45, 46, 47, 48, 53, 54, 55, 59] I I' ∧ mL I' ∧ mK I' ∧ mW I' ∧ ((I 0 30).toInt ≤ 6) ∧ ((more.toInt = 1 → dsx (I' 53) (I 0 30).toInt)) ∧ (more.toInt = 0 ∨ more.toInt = 1) ∧ (0 ≤ gm (1 - more.toInt) (16777216 - ovl (I' 53) (I 0 30).toInt.toNat)) ∧ (gm (1 - more.toInt) (16777216 - ovl (I' 53) (I 0 30).toInt.toNat)) < n64)))])) (f_cnl_of (P := fun (tQ : Nat) (P : fLs → List Value → fM → fN → Prop) => ∀ ls' st' I' L', P ls' st' I' L' → f_W pP l eP (f_rm 4) sP mP aP bP hP9 cP mY 71 a cy dC dI 6 (f_K 1 (qX12_mended [.ref 0, .int what] I L)) tQ ls' st' I' L') (List.forall_mem_cons.mpr ⟨(fun ls' st' I' L' h => by obtain ⟨best, least, more, hs, e1, e3, h9⟩ := h; rw [e1, e3]; exact f_W_sub hs (ih64 best least more I' h9)), fun _ h => absurd h List.not_mem_nil⟩)) 7 185 (f_seek 185 0 tX12_mended) (f_seek_ok 185 0 tX12_mended tX12_mended_ok) _ _ _ _ ?_
          refine And.intro ⟨hR185c, (show dsx (J185 53) (J185 0 30).toInt from by rw [u185_2, e185]; exact u64_2 u185_1)⟩ ?_
          intro x186 I186 L186 hq186
          have hq186 : mR I186 ∧ f_fr [53] J185 I186 ∧ L186 = L ∧ ((x186.toInt = 0 ∨ x186.toInt = 1)) ∧ ((x186.toInt = 1 → dsx (I186 53) (J185 0 30).toInt ∧ ovl (J185 53) (J185 0 30).toInt.toNat < ovl (I186 53) (J185 0 30).toInt.toNat)) := hq186
          obtain ⟨c186_0, c186_1, eL186, c186_3, c186_4⟩ := hq186
          replace eL186 := eL186.symm
          subst eL186
          have hO186 := f_fo_fr hO185c c186_1 rfl
          have hmL186 := f_depo_fr mL_dep hmL185c c186_1 rfl rfl
          have hmK186 := f_depo_fr mK_dep hmK185c c186_1 rfl rfl
          have hmW186 := f_depo_fr mW_dep hmW185c c186_1 rfl rfl
          have hF186 := f_fr_tr hF185c c186_1 rfl
          have l186 : x186.toInt = 1 → dsx (I186 53) (I 0 30).toInt ∧ ovl (J64 53) (I 0 30).toInt.toNat < ovl (I186 53) (I 0 30).toInt.toNat := fun h => by
            have q := c186_4 h
            rw [u185_2, e185] at q
            exact q
          have v186 := ovl_8 (P := I186 53) (fun j => c186_0 53 j) (n := (I 0 30).toInt.toNat) (by omega)
          have g186 : gm (1 - more.toInt) (16777216 - ovl (J64 53) (I 0 30).toInt.toNat) = 16777216 - ovl (J64 53) (I 0 30).toInt.toNat + 1 := gm_1 (by omega)
          have m186 : 0 ≤ gm (1 - x186.toInt) (16777216 - ovl (I186 53) (I 0 30).toInt.toNat) ∧ gm (1 - x186.toInt) (16777216 - ovl (I186 53) (I 0 30).toInt.toNat) < gm (1 - more.toInt) (16777216 - ovl (J64 53) (I 0 30).toInt.toNat) := by
            rw [g186]
            by_cases h : x186.toInt = 1
            · rw [gm_1 (by omega)]
              have q := l186 h
              omega
            · rw [gm_0 (by omega)]; omega
          have d186 : x186.toInt = 1 → dsx (I186 53) (I 0 30).toInt := fun h => (l186 h).1
          exact ⟨best3, least3, x186, (by intro q9 h9; simp only [List.mem_cons, List.not_mem_nil, or_false] at h9; rcases h9 with h9 | h9 | h9 | h9 | h9 <;> subst h9 <;> repeat (first | exact List.mem_cons_self | apply List.mem_cons_of_mem)), rfl, rfl, c186_0, hF186, hO186, hmL186, hmK186, hmW186, (show (I 0 30).toInt ≤ 6 from by first | assumption | omega), (show (x186.toInt = 1 → dsx (I186 53) (I 0 30).toInt) from by first | assumption | omega | rfl), (show x186.toInt = 0 ∨ x186.toInt = 1 from by first | assumption | omega | rfl), (show 0 ≤ gm (1 - x186.toInt) (16777216 - ovl (I186 53) (I 0 30).toInt.toNat) from by first | assumption | omega), (show (gm (1 - x186.toInt) (16777216 - ovl (I186 53) (I 0 30).toInt.toNat)) < n64 from by omega)⟩
        have lp155 : ∀ (n155 : Nat), ∀ (best2 : Int32) (least2 : Int32) (i : Int32) (J155 : fM), mR J155 ∧ f_fr [0, 21, 22, 23, 24, 25, 26, 27, 28, 29, 30, 31, 32, 33, 34, 35, 36, 37, 38, 39, 40, 41, 42, 43, 44, 53] I J155 ∧ f_fo [45, 46, 47, 48, 53, 54, 55, 59] I J155 ∧ mL J155 ∧ mK J155 ∧ mW J155 ∧ (more.toInt = 1) ∧ (0 ≤ i.toInt) ∧ (i.toInt ≤ (I 0 30).toInt) ∧ (J155 53 = J64 53) ∧ ((I 0 30).toInt - i.toInt) < n155 → f_W pP l eP (f_rm 4) sP mP aP bP hP9 cP mY 71 a cy dC dI 6 (f_K 1 (qX12_mended [.ref 0, .int what] I L)) 155 [(5, .int i), (4, .int more), (3, .int least2), (2, .int best2), (1, .int what), (0, .ref 0)] [] J155 L := by
          intro n155
          induction n155 with
          | zero =>
            intro best2 least2 i J155 h9
            obtain ⟨hR155c, hF155c, hO155c, hmL155c, hmK155c, hmW155c, u155_1, u155_2, u155_3, u155_4, hm155⟩ := h9
            omega
          | succ n155 ih155 =>
            intro best2 least2 i J155 h9
            obtain ⟨hR155c, hF155c, hO155c, hmL155c, hmK155c, hmW155c, u155_1, u155_2, u155_3, u155_4, hm155⟩ := h9
            have e155 : (J155 0 30).toInt = (I 0 30).toInt := congrArg Int32.toInt (hO155c 30 rfl)
            refine f_wp_ok C f_cl flX12_ok fiX12_ok fjX12_ok (sn := none) (fun j h => by cases h) (cs := (f_cnl [(497, (1, 1, 11, pX12_pairs, qX12_pairs)), (419, (3, 0, 11, pX12_layWord, qX12_layWord)), (494, (1, 3, 11, pX12_isSentence, qX12_isSentence)), (500, (1, 3, 11, pX12_nextOrder, qX12_nextOrder))])) (cz := (f_cnl [(366, (3, 3, 11, pX12_isIn, qX12_isIn))])) (f_cnl_of (P := fun j S => f_cok pP l eP (f_rm 4) sP mP aP bP hP9 cP mY 71 a cy dC dI 6 _ _ (.invokevirtual j) true S) (List.forall_mem_cons.mpr ⟨f_cokV C (mX12_pairs hinj) (ci := 11) rfl (List.forall_mem_cons.mpr ⟨(mlX12_ok _ (List.mem_of_getElem? (i := 58) rfl)), kc_X12_pairs⟩) (by decide +kernel) ⟨Nat.le_of_ble_eq_true rfl, Nat.le_of_ble_eq_true rfl⟩, List.forall_mem_cons.mpr ⟨f_cokV C (mX12_layWord hinj) (ci := 11) rfl (List.forall_mem_cons.mpr ⟨(mlX12_ok _ (List.mem_of_getElem? (i := 37) rfl)), kc_X12_layWord⟩) (by decide +kernel) ⟨Nat.le_of_ble_eq_true rfl, Nat.le_of_ble_eq_true rfl⟩, List.forall_mem_cons.mpr ⟨f_cokV C (mX12_isSentence hinj) (ci := 11) rfl (List.forall_mem_cons.mpr ⟨(mlX12_ok _ (List.mem_of_getElem? (i := 57) rfl)), kc_X12_isSentence⟩) (by decide +kernel) ⟨Nat.le_of_ble_eq_true rfl, Nat.le_of_ble_eq_true rfl⟩, List.forall_mem_cons.mpr ⟨f_cokV C (mX12_nextOrder hinj) (ci := 11) rfl (List.forall_mem_cons.mpr ⟨(mlX12_ok _ (List.mem_of_getElem? (i := 59) rfl)), kc_X12_nextOrder⟩) (by decide +kernel) ⟨Nat.le_of_ble_eq_true rfl, Nat.le_of_ble_eq_true rfl⟩, fun _ h => absurd h List.not_mem_nil⟩⟩⟩⟩)) (f_cnl_of (P := fun j S => f_cok pP l eP (f_rm 4) sP mP aP bP hP9 cP mY 71 a cy dC dI 6 _ _ (.invokestatic j) false S) (List.forall_mem_cons.mpr ⟨f_cokS C (mX12_isIn hinj) (List.forall_mem_cons.mpr ⟨(mlX12_ok _ (List.mem_of_getElem? (i := 27) rfl)), kc_X12_isIn⟩) (by decide +kernel) ⟨Nat.le_of_ble_eq_true rfl, Nat.le_of_ble_eq_true rfl⟩, fun _ h => absurd h List.not_mem_nil⟩)) tX12_mended_ok (cut := (f_cnl [(155, (fun (ls' : fLs) (st' : List Value) (I' : fM) (L' : fN) => ∃ best2 : Int32, ∃ least2 : Int32, ∃ i : Int32, (∀ q ∈ ([(5, .int i), (4, .int more), (3, .int least2), (2, .int best2), (1, .int what), (0, .ref 0)] : fLs), q ∈ ls') ∧ st' = [] ∧ L' = L ∧ (mR I' ∧ f_fr [0, 21, 22, 23, 24, 25, 26, 27, 28, 29, 30, 31, 32, 33, 34, 35, 36, 37, 38, 39, 40, 41, 42, 43, 44, 53] I I' ∧ f_fo [45, 46, 47, 48, 53, 54, 55, 59] I I' ∧ mL I' ∧ mK I' ∧ mW I' ∧ (more.toInt = 1) ∧ (0 ≤ i.toInt) ∧ (i.toInt ≤ (I 0 30).toInt) ∧ (I' 53 = J64 53) ∧ ((I 0 30).toInt - i.toInt) < n155))), (185, (fun (ls' : fLs) (st' : List Value) (I' : fM) (L' : fN) => ∃ best3 : Int32, ∃ least3 : Int32, (∀ q ∈ ([(4, .int more), (3, .int least3), (2, .int best3), (1, .int what), (0, .ref 0)] : fLs), q ∈ ls') ∧ st' = [] ∧ L' = L ∧ (mR I' ∧ f_fr [0, 21, 22, 23, 24, 25, 26, 27, 28, 29, 30, 31, 32, 33, 34, 35, 36, 37, 38, 39, 40, 41, 42, 43, 44, 53] I I' ∧ f_fo [45, 46, 47, 48, 53, 54, 55, 59] I I' ∧ mL I' ∧ mK I' ∧ mW I' ∧ (more.toInt = 1) ∧ (I' 53 = J64 53))))])) (f_cnl_of (P := fun (tQ : Nat) (P : fLs → List Value → fM → fN → Prop) => ∀ ls' st' I' L', P ls' st' I' L' → f_W pP l eP (f_rm 4) sP mP aP bP hP9 cP mY 71 a cy dC dI 6 (f_K 1 (qX12_mended [.ref 0, .int what] I L)) tQ ls' st' I' L') (List.forall_mem_cons.mpr ⟨(fun ls' st' I' L' h => by obtain ⟨best2, least2, i, hs, e1, e3, h9⟩ := h; rw [e1, e3]; exact f_W_sub hs (ih155 best2 least2 i I' h9)), List.forall_mem_cons.mpr ⟨(fun ls' st' I' L' h => by obtain ⟨best3, least3, hs, e1, e3, h9⟩ := h; rw [e1, e3]; exact f_W_sub hs (lp185 best3 least3 I' h9)), fun _ h => absurd h List.not_mem_nil⟩⟩)) 20 155 (f_seek 155 0 tX12_mended) (f_seek_ok 155 0 tX12_mended tX12_mended_ok) _ _ _ _ ?_
            have r158_1 : 0 ≤ (J155 0 30).toInt ∧ (J155 0 30).toInt ≤ 8 := hR155c 0 30
            have e158_2 : (J155 0 30).toInt = (I 0 30).toInt := congrArg Int32.toInt (hO155c 30 rfl)
            apply And.intro
            · intro h161
              have h161 : (J155 0 30).toInt ≤ i.toInt := h161
              exact ⟨best2, least2, (by intro q9 h9; simp only [List.mem_cons, List.not_mem_nil, or_false] at h9; rcases h9 with h9 | h9 | h9 | h9 | h9 <;> subst h9 <;> repeat (first | exact List.mem_cons_self | apply List.mem_cons_of_mem)), rfl, rfl, hR155c, hF155c, hO155c, hmL155c, hmK155c, hmW155c, (show more.toInt = 1 from by first | assumption | omega | rfl), (show J155 53 = J64 53 from by first | assumption | omega | rfl)⟩
            · intro h161
              have h161 : i.toInt < (J155 0 30).toInt := h161
              intro z167 q167 _ hq167 hl167 hu167
              have hq167 : z167.toInt = 10 * best2.toInt + 4294967296 * q167 := hq167
              try have hz167 : z167.toInt = 10 * best2.toInt := by omega
              refine And.intro (show f_in i 8 from ⟨show 0 ≤ i.toInt from by omega, show i.toInt < 8 from by omega⟩) ?_
              have r174_3 : 0 ≤ (J155 53 (i.toInt.toNat)).toInt ∧ (J155 53 (i.toInt.toNat)).toInt ≤ 7 := hR155c 53 (i.toInt.toNat)
              intro z175 q175 _ hq175 hl175 hu175
              have hq175 : z175.toInt = z167.toInt + (J155 53 (i.toInt.toNat)).toInt + 4294967296 * q175 := hq175
              try have hz175 : z175.toInt = z167.toInt + (J155 53 (i.toInt.toNat)).toInt := by omega
              intro z177 q177 _ hq177 hl177 hu177
              have hq177 : z177.toInt = z175.toInt + 1 + 4294967296 * q177 := hq177
              try have hz177 : z177.toInt = z175.toInt + 1 := by omega
              intro z179 q179 _ hq179 hl179 hu179
              have hq179 : z179.toInt = i.toInt + 1 + 4294967296 * q179 := hq179
              try have hz179 : z179.toInt = i.toInt + 1 := by omega
              exact ⟨z177, least2, z179, (by intro q9 h9; simp only [List.mem_cons, List.not_mem_nil, or_false] at h9; rcases h9 with h9 | h9 | h9 | h9 | h9 | h9 <;> subst h9 <;> repeat (first | exact List.mem_cons_self | apply List.mem_cons_of_mem)), rfl, rfl, hR155c, hF155c, hO155c, hmL155c, hmK155c, hmW155c, (show more.toInt = 1 from by first | assumption | omega | rfl), (show 0 ≤ z179.toInt from by first | assumption | omega), (show z179.toInt ≤ (I 0 30).toInt from by first | assumption | omega), (show J155 53 = J64 53 from by first | assumption | omega | rfl), (show ((I 0 30).toInt - z179.toInt) < n155 from by omega)⟩
        have lp105 : ∀ (n105 : Nat), ∀ (i : Int32) (J105 : fM), mR J105 ∧ f_fr [0, 21, 22, 23, 24, 25, 26, 27, 28, 29, 30, 31, 32, 33, 34, 35, 36, 37, 38, 39, 40, 41, 42, 43, 44, 53] I J105 ∧ f_fo [45, 46, 47, 48, 53, 54, 55, 59] I J105 ∧ mL J105 ∧ mK J105 ∧ mW J105 ∧ (more.toInt = 1) ∧ (0 ≤ i.toInt) ∧ (i.toInt ≤ (I 0 30).toInt) ∧ ((J105 0 53).toInt = (I 0 30).toInt) ∧ ((J105 0 54).toInt = (I 10 (I 0 24).toInt.toNat).toInt) ∧ (J105 53 = J64 53) ∧ ((∀ j : Nat, (j : Int) < i.toInt → oK J105 j)) ∧ ((I 0 30).toInt - i.toInt) < n105 → f_W pP l eP (f_rm 4) sP mP aP bP hP9 cP mY 71 a cy dC dI 6 (f_K 1 (qX12_mended [.ref 0, .int what] I L)) 105 [(5, .int i), (4, .int more), (3, .int least), (2, .int best), (1, .int what), (0, .ref 0)] [] J105 L := by
          intro n105
          induction n105 with
          | zero =>
            intro i J105 h9
            obtain ⟨hR105c, hF105c, hO105c, hmL105c, hmK105c, hmW105c, u105_1, u105_2, u105_3, u105_4, u105_5, u105_6, u105_7, hm105⟩ := h9
            omega
          | succ n105 ih105 =>
            intro i J105 h9
            obtain ⟨hR105c, hF105c, hO105c, hmL105c, hmK105c, hmW105c, u105_1, u105_2, u105_3, u105_4, u105_5, u105_6, u105_7, hm105⟩ := h9
            have e105 : (J105 0 30).toInt = (I 0 30).toInt := congrArg Int32.toInt (hO105c 30 rfl)
            refine f_wp_ok C f_cl flX12_ok fiX12_ok fjX12_ok (sn := none) (fun j h => by cases h) (cs := (f_cnl [(497, (1, 1, 11, pX12_pairs, qX12_pairs)), (419, (3, 0, 11, pX12_layWord, qX12_layWord)), (494, (1, 3, 11, pX12_isSentence, qX12_isSentence)), (500, (1, 3, 11, pX12_nextOrder, qX12_nextOrder))])) (cz := (f_cnl [(366, (3, 3, 11, pX12_isIn, qX12_isIn))])) (f_cnl_of (P := fun j S => f_cok pP l eP (f_rm 4) sP mP aP bP hP9 cP mY 71 a cy dC dI 6 _ _ (.invokevirtual j) true S) (List.forall_mem_cons.mpr ⟨f_cokV C (mX12_pairs hinj) (ci := 11) rfl (List.forall_mem_cons.mpr ⟨(mlX12_ok _ (List.mem_of_getElem? (i := 58) rfl)), kc_X12_pairs⟩) (by decide +kernel) ⟨Nat.le_of_ble_eq_true rfl, Nat.le_of_ble_eq_true rfl⟩, List.forall_mem_cons.mpr ⟨f_cokV C (mX12_layWord hinj) (ci := 11) rfl (List.forall_mem_cons.mpr ⟨(mlX12_ok _ (List.mem_of_getElem? (i := 37) rfl)), kc_X12_layWord⟩) (by decide +kernel) ⟨Nat.le_of_ble_eq_true rfl, Nat.le_of_ble_eq_true rfl⟩, List.forall_mem_cons.mpr ⟨f_cokV C (mX12_isSentence hinj) (ci := 11) rfl (List.forall_mem_cons.mpr ⟨(mlX12_ok _ (List.mem_of_getElem? (i := 57) rfl)), kc_X12_isSentence⟩) (by decide +kernel) ⟨Nat.le_of_ble_eq_true rfl, Nat.le_of_ble_eq_true rfl⟩, List.forall_mem_cons.mpr ⟨f_cokV C (mX12_nextOrder hinj) (ci := 11) rfl (List.forall_mem_cons.mpr ⟨(mlX12_ok _ (List.mem_of_getElem? (i := 59) rfl)), kc_X12_nextOrder⟩) (by decide +kernel) ⟨Nat.le_of_ble_eq_true rfl, Nat.le_of_ble_eq_true rfl⟩, fun _ h => absurd h List.not_mem_nil⟩⟩⟩⟩)) (f_cnl_of (P := fun j S => f_cok pP l eP (f_rm 4) sP mP aP bP hP9 cP mY 71 a cy dC dI 6 _ _ (.invokestatic j) false S) (List.forall_mem_cons.mpr ⟨f_cokS C (mX12_isIn hinj) (List.forall_mem_cons.mpr ⟨(mlX12_ok _ (List.mem_of_getElem? (i := 27) rfl)), kc_X12_isIn⟩) (by decide +kernel) ⟨Nat.le_of_ble_eq_true rfl, Nat.le_of_ble_eq_true rfl⟩, fun _ h => absurd h List.not_mem_nil⟩)) tX12_mended_ok (cut := (f_cnl [(105, (fun (ls' : fLs) (st' : List Value) (I' : fM) (L' : fN) => ∃ i : Int32, (∀ q ∈ ([(5, .int i), (4, .int more), (3, .int least), (2, .int best), (1, .int what), (0, .ref 0)] : fLs), q ∈ ls') ∧ st' = [] ∧ L' = L ∧ (mR I' ∧ f_fr [0, 21, 22, 23, 24, 25, 26, 27, 28, 29, 30, 31, 32, 33, 34, 35, 36, 37, 38, 39, 40, 41, 42, 43, 44, 53] I I' ∧ f_fo [45, 46, 47, 48, 53, 54, 55, 59] I I' ∧ mL I' ∧ mK I' ∧ mW I' ∧ (more.toInt = 1) ∧ (0 ≤ i.toInt) ∧ (i.toInt ≤ (I 0 30).toInt) ∧ ((I' 0 53).toInt = (I 0 30).toInt) ∧ ((I' 0 54).toInt = (I 10 (I 0 24).toInt.toNat).toInt) ∧ (I' 53 = J64 53) ∧ ((∀ j : Nat, (j : Int) < i.toInt → oK I' j)) ∧ ((I 0 30).toInt - i.toInt) < n105))), (155, (fun (ls' : fLs) (st' : List Value) (I' : fM) (L' : fN) => ∃ best2 : Int32, ∃ least2 : Int32, ∃ i : Int32, (∀ q ∈ ([(5, .int i), (4, .int more), (3, .int least2), (2, .int best2), (1, .int what), (0, .ref 0)] : fLs), q ∈ ls') ∧ st' = [] ∧ L' = L ∧ (mR I' ∧ f_fr [0, 21, 22, 23, 24, 25, 26, 27, 28, 29, 30, 31, 32, 33, 34, 35, 36, 37, 38, 39, 40, 41, 42, 43, 44, 53] I I' ∧ f_fo [45, 46, 47, 48, 53, 54, 55, 59] I I' ∧ mL I' ∧ mK I' ∧ mW I' ∧ (more.toInt = 1) ∧ (0 ≤ i.toInt) ∧ (i.toInt ≤ (I 0 30).toInt) ∧ (I' 53 = J64 53) ∧ ((I 0 30).toInt - i.toInt) < 9))), (185, (fun (ls' : fLs) (st' : List Value) (I' : fM) (L' : fN) => ∃ best3 : Int32, ∃ least3 : Int32, (∀ q ∈ ([(4, .int more), (3, .int least3), (2, .int best3), (1, .int what), (0, .ref 0)] : fLs), q ∈ ls') ∧ st' = [] ∧ L' = L ∧ (mR I' ∧ f_fr [0, 21, 22, 23, 24, 25, 26, 27, 28, 29, 30, 31, 32, 33, 34, 35, 36, 37, 38, 39, 40, 41, 42, 43, 44, 53] I I' ∧ f_fo [45, 46, 47, 48, 53, 54, 55, 59] I I' ∧ mL I' ∧ mK I' ∧ mW I' ∧ (more.toInt = 1) ∧ (I' 53 = J64 53))))])) (f_cnl_of (P := fun (tQ : Nat) (P : fLs → List Value → fM → fN → Prop) => ∀ ls' st' I' L', P ls' st' I' L' → f_W pP l eP (f_rm 4) sP mP aP bP hP9 cP mY 71 a cy dC dI 6 (f_K 1 (qX12_mended [.ref 0, .int what] I L)) tQ ls' st' I' L') (List.forall_mem_cons.mpr ⟨(fun ls' st' I' L' h => by obtain ⟨i, hs, e1, e3, h9⟩ := h; rw [e1, e3]; exact f_W_sub hs (ih105 i I' h9)), List.forall_mem_cons.mpr ⟨(fun ls' st' I' L' h => by obtain ⟨best2, least2, i, hs, e1, e3, h9⟩ := h; rw [e1, e3]; exact f_W_sub hs (lp155 9 best2 least2 i I' h9)), List.forall_mem_cons.mpr ⟨(fun ls' st' I' L' h => by obtain ⟨best3, least3, hs, e1, e3, h9⟩ := h; rw [e1, e3]; exact f_W_sub hs (lp185 best3 least3 I' h9)), fun _ h => absurd h List.not_mem_nil⟩⟩⟩)) 19 105 (f_seek 105 0 tX12_mended) (f_seek_ok 105 0 tX12_mended tX12_mended_ok) _ _ _ _ ?_
            have r108_1 : 0 ≤ (J105 0 30).toInt ∧ (J105 0 30).toInt ≤ 8 := hR105c 0 30
            have e108_2 : (J105 0 30).toInt = (I 0 30).toInt := congrArg Int32.toInt (hO105c 30 rfl)
            apply And.intro
            · intro h111
              have h111 : (J105 0 30).toInt ≤ i.toInt := h111
              refine And.intro ⟨hR105c, hmL105c, hmK105c, (mO_all hmL (hO105c 24 rfl) (hF105c 8 rfl) (hF105c 11 rfl) (fun j hj => u105_7 j (by omega)) u105_5)⟩ ?_
              intro x139 I139 L139 hq139
              have hq139 : mR I139 ∧ mL I139 ∧ mK I139 ∧ mO I139 ∧ f_fo [45, 46, 47, 48, 55, 59] J105 I139 ∧ f_fr [0, 21, 22, 23, 24, 25, 26, 27, 28, 29, 30, 31, 32, 33, 34, 37, 38, 39, 40, 41, 42, 43, 44] J105 I139 ∧ L139 = L ∧ ((x139.toInt = 0 ∨ x139.toInt = 1)) := hq139
              obtain ⟨c139_0, c139_1, c139_2, c139_3, c139_4, c139_5, eL139, c139_7⟩ := hq139
              replace eL139 := eL139.symm
              subst eL139
              have hO139 := f_fo_tr hO105c c139_4 rfl
              have hmW139 := f_depo_fo mW_dep hmW105c c139_5 c139_4 rfl rfl
              have hF139 := f_fr_tr hF105c c139_5 rfl
              have p139 : I139 53 = J64 53 := (c139_5 53 rfl).trans u105_6
              apply And.intro
              · intro h142
                have h142 : x139.toInt = 0 := h142
                exact ⟨best, least, (by intro q9 h9; simp only [List.mem_cons, List.not_mem_nil, or_false] at h9; rcases h9 with h9 | h9 | h9 | h9 | h9 <;> subst h9 <;> repeat (first | exact List.mem_cons_self | apply List.mem_cons_of_mem)), rfl, rfl, c139_0, hF139, hO139, c139_1, c139_2, hmW139, (show more.toInt = 1 from by first | assumption | omega | rfl), (show I139 53 = J64 53 from by first | assumption | omega | rfl)⟩
              · intro h142
                have h142 : ¬ x139.toInt = 0 := h142
                refine And.intro c139_0 ?_
                intro x146 I146 L146 hq146
                have hq146 : I146 = I139 ∧ L146 = L := hq146
                obtain ⟨eI146, eL146⟩ := hq146
                replace eI146 := eI146.symm
                subst eI146
                replace eL146 := eL146.symm
                subst eL146
                exact ⟨Int32.ofInt 0, x146, Int32.ofInt 0, (by intro q9 h9; simp only [List.mem_cons, List.not_mem_nil, or_false] at h9; rcases h9 with h9 | h9 | h9 | h9 | h9 | h9 <;> subst h9 <;> repeat (first | exact List.mem_cons_self | apply List.mem_cons_of_mem)), rfl, rfl, c139_0, hF139, hO139, c139_1, c139_2, hmW139, (show more.toInt = 1 from by first | assumption | omega | rfl), (show 0 ≤ (0 : Int) from by first | assumption | omega), (show (0 : Int) ≤ (I 0 30).toInt from by first | assumption | omega), (show I139 53 = J64 53 from by first | assumption | omega | rfl), (show ((I 0 30).toInt - (0 : Int)) < 9 from by omega)⟩
            · intro h111
              have h111 : i.toInt < (J105 0 30).toInt := h111
              have o114 : 0 ≤ (J105 53 i.toInt.toNat).toInt ∧ (J105 53 i.toInt.toNat).toInt < (I 0 30).toInt := by rw [u105_6]; exact (u64_2 u105_1).1 i.toInt.toNat (by omega)
              refine And.intro (show f_in i 8 from ⟨show 0 ≤ i.toInt from by omega, show i.toInt < 8 from by omega⟩) ?_
              have r127_3 : 0 ≤ (J105 53 (i.toInt.toNat)).toInt ∧ (J105 53 (i.toInt.toNat)).toInt ≤ 7 := hR105c 53 (i.toInt.toNat)
              refine And.intro (show f_in (J105 53 (i.toInt.toNat)) 8 from ⟨show 0 ≤ (J105 53 (i.toInt.toNat)).toInt from by omega, show (J105 53 (i.toInt.toNat)).toInt < 8 from by omega⟩) ?_
              have r128_4 : 0 ≤ (J105 19 ((J105 53 (i.toInt.toNat)).toInt.toNat)).toInt ∧ (J105 19 ((J105 53 (i.toInt.toNat)).toInt.toNat)).toInt ≤ 11 := hR105c 19 ((J105 53 (i.toInt.toNat)).toInt.toNat)
              have e128_5 : (J105 19 ((J105 53 (i.toInt.toNat)).toInt.toNat)).toInt = (I 19 ((J105 53 (i.toInt.toNat)).toInt.toNat)).toInt := congrArg Int32.toInt (congrFun (hF105c 19 rfl) ((J105 53 (i.toInt.toNat)).toInt.toNat))
              have w129 : (J105 19 (J105 53 i.toInt.toNat).toInt.toNat).toInt < (J105 9 (J105 0 24).toInt.toNat).toInt := hmW105c.1 (J105 53 i.toInt.toNat).toInt.toNat (by omega)
              have r129_6 : 0 ≤ (J105 9 ((J105 0 24).toInt.toNat)).toInt ∧ (J105 9 ((J105 0 24).toInt.toNat)).toInt ≤ 12 := hR105c 9 ((J105 0 24).toInt.toNat)
              have e129_7 : (J105 9 ((J105 0 24).toInt.toNat)).toInt = (J105 9 ((I 0 24).toInt.toNat)).toInt := by rw [(hO105c 24 rfl)]
              have e129_8 : (J105 9 ((I 0 24).toInt.toNat)).toInt = (I 9 ((I 0 24).toInt.toNat)).toInt := congrArg Int32.toInt (congrFun (hF105c 9 rfl) ((I 0 24).toInt.toNat))
              have r129_9 : 0 ≤ (J105 0 24).toInt ∧ (J105 0 24).toInt ≤ 1 := hR105c 0 24
              have e129_10 : (J105 0 24).toInt = (I 0 24).toInt := congrArg Int32.toInt (hO105c 24 rfl)
              refine And.intro ⟨hR105c, hmL105c, (show 0 ≤ i.toInt from by first | assumption | omega), (show i.toInt ≤ 9 from by first | assumption | omega), (show 0 ≤ (J105 19 ((J105 53 (i.toInt.toNat)).toInt.toNat)).toInt from by first | assumption | omega), (show (J105 19 ((J105 53 (i.toInt.toNat)).toInt.toNat)).toInt < (J105 9 (J105 0 24).toInt.toNat).toInt from by first | assumption | omega)⟩ ?_
              intro I129 L129 hq129
              have hq129 : mR I129 ∧ f_fr [35, 36] J105 I129 ∧ L129 = L ∧ oK I129 i.toInt.toNat ∧ ((∀ j : Nat, ¬ j = i.toInt.toNat → oK J105 j → oK I129 j)) := hq129
              obtain ⟨c129_0, c129_1, eL129, c129_3, c129_4⟩ := hq129
              replace eL129 := eL129.symm
              subst eL129
              have hO129 := f_fo_fr hO105c c129_1 rfl
              have hmL129 := f_depo_fr mL_dep hmL105c c129_1 rfl rfl
              have hmK129 := f_depo_fr mK_dep hmK105c c129_1 rfl rfl
              have hmW129 := f_depo_fr mW_dep hmW105c c129_1 rfl rfl
              have hF129 := f_fr_tr hF105c c129_1 rfl
              have p129 : I129 53 = J64 53 := (c129_1 53 rfl).trans u105_6
              intro z132 q132 _ hq132 hl132 hu132
              have hq132 : z132.toInt = i.toInt + 1 + 4294967296 * q132 := hq132
              try have hz132 : z132.toInt = i.toInt + 1 := by omega
              have q132 : ∀ j : Nat, (j : Int) < z132.toInt → oK I129 j := fun j hj => by
                by_cases q : j = i.toInt.toNat
                · rw [q]; exact c129_3
                · exact c129_4 j q (u105_7 j (by omega))
              have r105_11 : 0 ≤ (I129 0 53).toInt ∧ (I129 0 53).toInt ≤ 10 := c129_0 0 53
              have e105_12 : (I129 0 53).toInt = (J105 0 53).toInt := congrArg Int32.toInt (congrFun (c129_1 0 rfl) 53)
              have r105_13 : -1 ≤ (I129 0 54).toInt ∧ (I129 0 54).toInt ≤ 1599 := c129_0 0 54
              have e105_14 : (I129 0 54).toInt = (J105 0 54).toInt := congrArg Int32.toInt (congrFun (c129_1 0 rfl) 54)
              exact ⟨z132, (by intro q9 h9; simp only [List.mem_cons, List.not_mem_nil, or_false] at h9; rcases h9 with h9 | h9 | h9 | h9 | h9 | h9 <;> subst h9 <;> repeat (first | exact List.mem_cons_self | apply List.mem_cons_of_mem)), rfl, rfl, c129_0, hF129, hO129, hmL129, hmK129, hmW129, (show more.toInt = 1 from by first | assumption | omega | rfl), (show 0 ≤ z132.toInt from by first | assumption | omega), (show z132.toInt ≤ (I 0 30).toInt from by first | assumption | omega), (show (I129 0 53).toInt = (I 0 30).toInt from by first | assumption | omega | rfl), (show (I129 0 54).toInt = (I 10 (I 0 24).toInt.toNat).toInt from by first | assumption | omega | rfl), (show I129 53 = J64 53 from by first | assumption | omega | rfl), (show (∀ j : Nat, (j : Int) < z132.toInt → oK I129 j) from by first | assumption | omega | exact fun _ _ => rfl | exact fun _ _ => ⟨rfl, rfl⟩ | exact fun _ _ => ⟨rfl, rfl, rfl⟩ | (intro j9 hj9; omega)), (show ((I 0 30).toInt - z132.toInt) < n105 from by omega)⟩
        refine f_wp_ok C f_cl flX12_ok fiX12_ok fjX12_ok (sn := none) (fun j h => by cases h) (cs := (f_cnl [(497, (1, 1, 11, pX12_pairs, qX12_pairs)), (419, (3, 0, 11, pX12_layWord, qX12_layWord)), (494, (1, 3, 11, pX12_isSentence, qX12_isSentence)), (500, (1, 3, 11, pX12_nextOrder, qX12_nextOrder))])) (cz := (f_cnl [(366, (3, 3, 11, pX12_isIn, qX12_isIn))])) (f_cnl_of (P := fun j S => f_cok pP l eP (f_rm 4) sP mP aP bP hP9 cP mY 71 a cy dC dI 6 _ _ (.invokevirtual j) true S) (List.forall_mem_cons.mpr ⟨f_cokV C (mX12_pairs hinj) (ci := 11) rfl (List.forall_mem_cons.mpr ⟨(mlX12_ok _ (List.mem_of_getElem? (i := 58) rfl)), kc_X12_pairs⟩) (by decide +kernel) ⟨Nat.le_of_ble_eq_true rfl, Nat.le_of_ble_eq_true rfl⟩, List.forall_mem_cons.mpr ⟨f_cokV C (mX12_layWord hinj) (ci := 11) rfl (List.forall_mem_cons.mpr ⟨(mlX12_ok _ (List.mem_of_getElem? (i := 37) rfl)), kc_X12_layWord⟩) (by decide +kernel) ⟨Nat.le_of_ble_eq_true rfl, Nat.le_of_ble_eq_true rfl⟩, List.forall_mem_cons.mpr ⟨f_cokV C (mX12_isSentence hinj) (ci := 11) rfl (List.forall_mem_cons.mpr ⟨(mlX12_ok _ (List.mem_of_getElem? (i := 57) rfl)), kc_X12_isSentence⟩) (by decide +kernel) ⟨Nat.le_of_ble_eq_true rfl, Nat.le_of_ble_eq_true rfl⟩, List.forall_mem_cons.mpr ⟨f_cokV C (mX12_nextOrder hinj) (ci := 11) rfl (List.forall_mem_cons.mpr ⟨(mlX12_ok _ (List.mem_of_getElem? (i := 59) rfl)), kc_X12_nextOrder⟩) (by decide +kernel) ⟨Nat.le_of_ble_eq_true rfl, Nat.le_of_ble_eq_true rfl⟩, fun _ h => absurd h List.not_mem_nil⟩⟩⟩⟩)) (f_cnl_of (P := fun j S => f_cok pP l eP (f_rm 4) sP mP aP bP hP9 cP mY 71 a cy dC dI 6 _ _ (.invokestatic j) false S) (List.forall_mem_cons.mpr ⟨f_cokS C (mX12_isIn hinj) (List.forall_mem_cons.mpr ⟨(mlX12_ok _ (List.mem_of_getElem? (i := 27) rfl)), kc_X12_isIn⟩) (by decide +kernel) ⟨Nat.le_of_ble_eq_true rfl, Nat.le_of_ble_eq_true rfl⟩, fun _ h => absurd h List.not_mem_nil⟩)) tX12_mended_ok (cut := (f_cnl [(105, (fun (ls' : fLs) (st' : List Value) (I' : fM) (L' : fN) => ∃ i : Int32, (∀ q ∈ ([(5, .int i), (4, .int more), (3, .int least), (2, .int best), (1, .int what), (0, .ref 0)] : fLs), q ∈ ls') ∧ st' = [] ∧ L' = L ∧ (mR I' ∧ f_fr [0, 21, 22, 23, 24, 25, 26, 27, 28, 29, 30, 31, 32, 33, 34, 35, 36, 37, 38, 39, 40, 41, 42, 43, 44, 53] I I' ∧ f_fo [45, 46, 47, 48, 53, 54, 55, 59] I I' ∧ mL I' ∧ mK I' ∧ mW I' ∧ (more.toInt = 1) ∧ (0 ≤ i.toInt) ∧ (i.toInt ≤ (I 0 30).toInt) ∧ ((I' 0 53).toInt = (I 0 30).toInt) ∧ ((I' 0 54).toInt = (I 10 (I 0 24).toInt.toNat).toInt) ∧ (I' 53 = J64 53) ∧ ((∀ j : Nat, (j : Int) < i.toInt → oK I' j)) ∧ ((I 0 30).toInt - i.toInt) < 9))), (185, (fun (ls' : fLs) (st' : List Value) (I' : fM) (L' : fN) => ∃ best3 : Int32, ∃ least3 : Int32, (∀ q ∈ ([(4, .int more), (3, .int least3), (2, .int best3), (1, .int what), (0, .ref 0)] : fLs), q ∈ ls') ∧ st' = [] ∧ L' = L ∧ (mR I' ∧ f_fr [0, 21, 22, 23, 24, 25, 26, 27, 28, 29, 30, 31, 32, 33, 34, 35, 36, 37, 38, 39, 40, 41, 42, 43, 44, 53] I I' ∧ f_fo [45, 46, 47, 48, 53, 54, 55, 59] I I' ∧ mL I' ∧ mK I' ∧ mW I' ∧ (more.toInt = 1) ∧ (I' 53 = J64 53))))])) (f_cnl_of (P := fun (tQ : Nat) (P : fLs → List Value → fM → fN → Prop) => ∀ ls' st' I' L', P ls' st' I' L' → f_W pP l eP (f_rm 4) sP mP aP bP hP9 cP mY 71 a cy dC dI 6 (f_K 1 (qX12_mended [.ref 0, .int what] I L)) tQ ls' st' I' L') (List.forall_mem_cons.mpr ⟨(fun ls' st' I' L' h => by obtain ⟨i, hs, e1, e3, h9⟩ := h; rw [e1, e3]; exact f_W_sub hs (lp105 9 i I' h9)), List.forall_mem_cons.mpr ⟨(fun ls' st' I' L' h => by obtain ⟨best3, least3, hs, e1, e3, h9⟩ := h; rw [e1, e3]; exact f_W_sub hs (lp185 best3 least3 I' h9)), fun _ h => absurd h List.not_mem_nil⟩⟩)) 24 64 (f_seek 64 0 tX12_mended) (f_seek_ok 64 0 tX12_mended tX12_mended_ok) _ _ _ _ ?_
        apply And.intro
        · intro h66
          have h66 : more.toInt = 0 := h66
          apply And.intro
          · intro h195
            have h195 : 0 ≤ best.toInt := h195
            apply And.intro
            · intro h203
              have h203 : ¬ what.toInt = 0 := h203
              exact ⟨hR64c, hmL64c, hmK64c, hmW64c, hO64c, hF64c, rfl⟩
            · intro h203
              have h203 : what.toInt = 0 := h203
              exact ⟨hR64c, hmL64c, hmK64c, hmW64c, hO64c, hF64c, rfl⟩
          · intro h195
            have h195 : best.toInt < 0 := h195
            exact ⟨hR64c, hmL64c, hmK64c, hmW64c, hO64c, hF64c, rfl⟩
        · intro h66
          have h66 : ¬ more.toInt = 0 := h66
          apply And.intro
          · intro h70
            have h70 : best.toInt < 0 := h70
            have r83_1 : 0 ≤ (J64 0 30).toInt ∧ (J64 0 30).toInt ≤ 8 := hR64c 0 30
            have e83_2 : (J64 0 30).toInt = (I 0 30).toInt := congrArg Int32.toInt (hO64c 30 rfl)
            have hR86 := mR_f (k := 0) (j := 53) (x := J64 0 30) hR64c (show 0 ≤ (J64 0 30).toInt ∧ (J64 0 30).toInt ≤ 10 from ⟨by omega, by omega⟩)
            have hF86 := f_fr_up (k := 0) (r := va_up (J64 0) 53 (J64 0 30)) hF64c rfl
            have hO86 := f_fo_up (j := 53) (x := J64 0 30) hO64c rfl
            have hmL86 := f_depo_up0 mL_dep (j := 53) (x := J64 0 30) hmL64c rfl rfl
            have hmK86 := f_depo_up0 mK_dep (j := 53) (x := J64 0 30) hmK64c rfl rfl
            have hmW86 := f_depo_up0 mW_dep (j := 53) (x := J64 0 30) hmW64c rfl rfl
            have r95_3 : 0 ≤ (J64 0 24).toInt ∧ (J64 0 24).toInt ≤ 1 := hR86 0 24
            have e95_4 : (J64 0 24).toInt = (I 0 24).toInt := congrArg Int32.toInt (hO64c 24 rfl)
            refine And.intro (show f_in (J64 0 24) 2 from ⟨show 0 ≤ (J64 0 24).toInt from by omega, show (J64 0 24).toInt < 2 from by omega⟩) ?_
            have r98_5 : -1 ≤ (J64 10 ((J64 0 24).toInt.toNat)).toInt ∧ (J64 10 ((J64 0 24).toInt.toNat)).toInt ≤ 1599 := hR86 10 ((J64 0 24).toInt.toNat)
            have e98_6 : (J64 10 ((J64 0 24).toInt.toNat)).toInt = (J64 10 ((I 0 24).toInt.toNat)).toInt := by rw [(hO64c 24 rfl)]
            have e98_7 : (J64 10 ((I 0 24).toInt.toNat)).toInt = (I 10 ((I 0 24).toInt.toNat)).toInt := congrArg Int32.toInt (congrFun (hF64c 10 rfl) ((I 0 24).toInt.toNat))
            have hR99 := mR_f (k := 0) (j := 54) (x := J64 10 ((J64 0 24).toInt.toNat)) hR86 (show -1 ≤ (J64 10 ((J64 0 24).toInt.toNat)).toInt ∧ (J64 10 ((J64 0 24).toInt.toNat)).toInt ≤ 1599 from ⟨by omega, by omega⟩)
            have hF99 := f_fr_up (k := 0) (r := va_up (va_up (J64 0) 53 (J64 0 30)) 54 (J64 10 ((J64 0 24).toInt.toNat))) hF86 rfl
            have hO99 := f_fo_up (j := 54) (x := J64 10 ((J64 0 24).toInt.toNat)) hO86 rfl
            have hmL99 := f_depo_up0 mL_dep (j := 54) (x := J64 10 ((J64 0 24).toInt.toNat)) hmL86 rfl rfl
            have hmK99 := f_depo_up0 mK_dep (j := 54) (x := J64 10 ((J64 0 24).toInt.toNat)) hmK86 rfl rfl
            have hmW99 := f_depo_up0 mW_dep (j := 54) (x := J64 10 ((J64 0 24).toInt.toNat)) hmW86 rfl rfl
            exact ⟨Int32.ofInt 0, (by intro q9 h9; simp only [List.mem_cons, List.not_mem_nil, or_false] at h9; rcases h9 with h9 | h9 | h9 | h9 | h9 | h9 <;> subst h9 <;> repeat (first | exact List.mem_cons_self | apply List.mem_cons_of_mem)), rfl, rfl, hR99, hF99, hO99, hmL99, hmK99, hmW99, (show more.toInt = 1 from by first | assumption | omega | rfl), (show 0 ≤ (0 : Int) from by first | assumption | omega), (show (0 : Int) ≤ (I 0 30).toInt from by first | assumption | omega), (show (J64 0 30).toInt = (I 0 30).toInt from by first | assumption | omega | rfl), (show (J64 10 ((J64 0 24).toInt.toNat)).toInt = (I 10 (I 0 24).toInt.toNat).toInt from by first | assumption | omega | rfl), (show J64 53 = J64 53 from by first | assumption | exact rfl), (show (∀ j : Nat, (j : Int) < (0 : Int) → oK (va_up (va_up J64 0 (va_up (J64 0) 53 (J64 0 30))) 0 (va_up (va_up (J64 0) 53 (J64 0 30)) 54 (J64 10 ((J64 0 24).toInt.toNat)))) j) from by first | assumption | omega | exact fun _ _ => rfl | exact fun _ _ => ⟨rfl, rfl⟩ | exact fun _ _ => ⟨rfl, rfl, rfl⟩ | (intro j9 hj9; omega)), (show ((I 0 30).toInt - (0 : Int)) < 9 from by omega)⟩
          · intro h70
            have h70 : 0 ≤ best.toInt := h70
            refine And.intro hR64c ?_
            intro x74 I74 L74 hq74
            have hq74 : I74 = J64 ∧ L74 = L := hq74
            obtain ⟨eI74, eL74⟩ := hq74
            replace eI74 := eI74.symm
            subst eI74
            replace eL74 := eL74.symm
            subst eL74
            apply And.intro
            · intro h78
              have h78 : least.toInt ≤ x74.toInt := h78
              exact ⟨best, least, (by intro q9 h9; simp only [List.mem_cons, List.not_mem_nil, or_false] at h9; rcases h9 with h9 | h9 | h9 | h9 | h9 <;> subst h9 <;> repeat (first | exact List.mem_cons_self | apply List.mem_cons_of_mem)), rfl, rfl, hR64c, hF64c, hO64c, hmL64c, hmK64c, hmW64c, (show more.toInt = 1 from by first | assumption | omega | rfl), (show J64 53 = J64 53 from by first | assumption | exact rfl)⟩
            · intro h78
              have h78 : x74.toInt < least.toInt := h78
              have r83_1 : 0 ≤ (J64 0 30).toInt ∧ (J64 0 30).toInt ≤ 8 := hR64c 0 30
              have e83_2 : (J64 0 30).toInt = (I 0 30).toInt := congrArg Int32.toInt (hO64c 30 rfl)
              have hR86 := mR_f (k := 0) (j := 53) (x := J64 0 30) hR64c (show 0 ≤ (J64 0 30).toInt ∧ (J64 0 30).toInt ≤ 10 from ⟨by omega, by omega⟩)
              have hF86 := f_fr_up (k := 0) (r := va_up (J64 0) 53 (J64 0 30)) hF64c rfl
              have hO86 := f_fo_up (j := 53) (x := J64 0 30) hO64c rfl
              have hmL86 := f_depo_up0 mL_dep (j := 53) (x := J64 0 30) hmL64c rfl rfl
              have hmK86 := f_depo_up0 mK_dep (j := 53) (x := J64 0 30) hmK64c rfl rfl
              have hmW86 := f_depo_up0 mW_dep (j := 53) (x := J64 0 30) hmW64c rfl rfl
              have r95_3 : 0 ≤ (J64 0 24).toInt ∧ (J64 0 24).toInt ≤ 1 := hR86 0 24
              have e95_4 : (J64 0 24).toInt = (I 0 24).toInt := congrArg Int32.toInt (hO64c 24 rfl)
              refine And.intro (show f_in (J64 0 24) 2 from ⟨show 0 ≤ (J64 0 24).toInt from by omega, show (J64 0 24).toInt < 2 from by omega⟩) ?_
              have r98_5 : -1 ≤ (J64 10 ((J64 0 24).toInt.toNat)).toInt ∧ (J64 10 ((J64 0 24).toInt.toNat)).toInt ≤ 1599 := hR86 10 ((J64 0 24).toInt.toNat)
              have e98_6 : (J64 10 ((J64 0 24).toInt.toNat)).toInt = (J64 10 ((I 0 24).toInt.toNat)).toInt := by rw [(hO64c 24 rfl)]
              have e98_7 : (J64 10 ((I 0 24).toInt.toNat)).toInt = (I 10 ((I 0 24).toInt.toNat)).toInt := congrArg Int32.toInt (congrFun (hF64c 10 rfl) ((I 0 24).toInt.toNat))
              have hR99 := mR_f (k := 0) (j := 54) (x := J64 10 ((J64 0 24).toInt.toNat)) hR86 (show -1 ≤ (J64 10 ((J64 0 24).toInt.toNat)).toInt ∧ (J64 10 ((J64 0 24).toInt.toNat)).toInt ≤ 1599 from ⟨by omega, by omega⟩)
              have hF99 := f_fr_up (k := 0) (r := va_up (va_up (J64 0) 53 (J64 0 30)) 54 (J64 10 ((J64 0 24).toInt.toNat))) hF86 rfl
              have hO99 := f_fo_up (j := 54) (x := J64 10 ((J64 0 24).toInt.toNat)) hO86 rfl
              have hmL99 := f_depo_up0 mL_dep (j := 54) (x := J64 10 ((J64 0 24).toInt.toNat)) hmL86 rfl rfl
              have hmK99 := f_depo_up0 mK_dep (j := 54) (x := J64 10 ((J64 0 24).toInt.toNat)) hmK86 rfl rfl
              have hmW99 := f_depo_up0 mW_dep (j := 54) (x := J64 10 ((J64 0 24).toInt.toNat)) hmW86 rfl rfl
              exact ⟨Int32.ofInt 0, (by intro q9 h9; simp only [List.mem_cons, List.not_mem_nil, or_false] at h9; rcases h9 with h9 | h9 | h9 | h9 | h9 | h9 <;> subst h9 <;> repeat (first | exact List.mem_cons_self | apply List.mem_cons_of_mem)), rfl, rfl, hR99, hF99, hO99, hmL99, hmK99, hmW99, (show more.toInt = 1 from by first | assumption | omega | rfl), (show 0 ≤ (0 : Int) from by first | assumption | omega), (show (0 : Int) ≤ (I 0 30).toInt from by first | assumption | omega), (show (J64 0 30).toInt = (I 0 30).toInt from by first | assumption | omega | rfl), (show (J64 10 ((J64 0 24).toInt.toNat)).toInt = (I 10 (I 0 24).toInt.toNat).toInt from by first | assumption | omega | rfl), (show J64 53 = J64 53 from by first | assumption | exact rfl), (show (∀ j : Nat, (j : Int) < (0 : Int) → oK (va_up (va_up J64 0 (va_up (J64 0) 53 (J64 0 30))) 0 (va_up (va_up (J64 0) 53 (J64 0 30)) 54 (J64 10 ((J64 0 24).toInt.toNat)))) j) from by first | assumption | omega | exact fun _ _ => rfl | exact fun _ _ => ⟨rfl, rfl⟩ | exact fun _ _ => ⟨rfl, rfl, rfl⟩ | (intro j9 hj9; omega)), (show ((I 0 30).toInt - (0 : Int)) < 9 from by omega)⟩
    have lp25 : ∀ (n25 : Nat), ∀ (i : Int32) (J25 : fM), mR J25 ∧ f_fr [0, 21, 22, 23, 24, 25, 26, 27, 28, 29, 30, 31, 32, 33, 34, 35, 36, 37, 38, 39, 40, 41, 42, 43, 44, 53] I J25 ∧ f_fo [45, 46, 47, 48, 53, 54, 55, 59] I J25 ∧ mL J25 ∧ mK J25 ∧ mW J25 ∧ ((I 0 30).toInt ≤ 6) ∧ (0 ≤ i.toInt) ∧ (i.toInt ≤ (I 0 30).toInt) ∧ ((∀ k : Nat, (k : Int) < i.toInt → (J25 53 k).toInt = k)) ∧ ((I 0 30).toInt - i.toInt) < n25 → f_W pP l eP (f_rm 4) sP mP aP bP hP9 cP mY 71 a cy dC dI 6 (f_K 1 (qX12_mended [.ref 0, .int what] I L)) 25 [(2, .int i), (1, .int what), (0, .ref 0)] [] J25 L := by
      intro n25
      induction n25 with
      | zero =>
        intro i J25 h9
        obtain ⟨hR25c, hF25c, hO25c, hmL25c, hmK25c, hmW25c, u25_1, u25_2, u25_3, u25_4, hm25⟩ := h9
        omega
      | succ n25 ih25 =>
        intro i J25 h9
        obtain ⟨hR25c, hF25c, hO25c, hmL25c, hmK25c, hmW25c, u25_1, u25_2, u25_3, u25_4, hm25⟩ := h9
        refine f_wp_ok C f_cl flX12_ok fiX12_ok fjX12_ok (sn := none) (fun j h => by cases h) (cs := (f_cnl [(497, (1, 1, 11, pX12_pairs, qX12_pairs)), (419, (3, 0, 11, pX12_layWord, qX12_layWord)), (494, (1, 3, 11, pX12_isSentence, qX12_isSentence)), (500, (1, 3, 11, pX12_nextOrder, qX12_nextOrder))])) (cz := (f_cnl [(366, (3, 3, 11, pX12_isIn, qX12_isIn))])) (f_cnl_of (P := fun j S => f_cok pP l eP (f_rm 4) sP mP aP bP hP9 cP mY 71 a cy dC dI 6 _ _ (.invokevirtual j) true S) (List.forall_mem_cons.mpr ⟨f_cokV C (mX12_pairs hinj) (ci := 11) rfl (List.forall_mem_cons.mpr ⟨(mlX12_ok _ (List.mem_of_getElem? (i := 58) rfl)), kc_X12_pairs⟩) (by decide +kernel) ⟨Nat.le_of_ble_eq_true rfl, Nat.le_of_ble_eq_true rfl⟩, List.forall_mem_cons.mpr ⟨f_cokV C (mX12_layWord hinj) (ci := 11) rfl (List.forall_mem_cons.mpr ⟨(mlX12_ok _ (List.mem_of_getElem? (i := 37) rfl)), kc_X12_layWord⟩) (by decide +kernel) ⟨Nat.le_of_ble_eq_true rfl, Nat.le_of_ble_eq_true rfl⟩, List.forall_mem_cons.mpr ⟨f_cokV C (mX12_isSentence hinj) (ci := 11) rfl (List.forall_mem_cons.mpr ⟨(mlX12_ok _ (List.mem_of_getElem? (i := 57) rfl)), kc_X12_isSentence⟩) (by decide +kernel) ⟨Nat.le_of_ble_eq_true rfl, Nat.le_of_ble_eq_true rfl⟩, List.forall_mem_cons.mpr ⟨f_cokV C (mX12_nextOrder hinj) (ci := 11) rfl (List.forall_mem_cons.mpr ⟨(mlX12_ok _ (List.mem_of_getElem? (i := 59) rfl)), kc_X12_nextOrder⟩) (by decide +kernel) ⟨Nat.le_of_ble_eq_true rfl, Nat.le_of_ble_eq_true rfl⟩, fun _ h => absurd h List.not_mem_nil⟩⟩⟩⟩)) (f_cnl_of (P := fun j S => f_cok pP l eP (f_rm 4) sP mP aP bP hP9 cP mY 71 a cy dC dI 6 _ _ (.invokestatic j) false S) (List.forall_mem_cons.mpr ⟨f_cokS C (mX12_isIn hinj) (List.forall_mem_cons.mpr ⟨(mlX12_ok _ (List.mem_of_getElem? (i := 27) rfl)), kc_X12_isIn⟩) (by decide +kernel) ⟨Nat.le_of_ble_eq_true rfl, Nat.le_of_ble_eq_true rfl⟩, fun _ h => absurd h List.not_mem_nil⟩)) tX12_mended_ok (cut := (f_cnl [(25, (fun (ls' : fLs) (st' : List Value) (I' : fM) (L' : fN) => ∃ i : Int32, (∀ q ∈ ([(2, .int i), (1, .int what), (0, .ref 0)] : fLs), q ∈ ls') ∧ st' = [] ∧ L' = L ∧ (mR I' ∧ f_fr [0, 21, 22, 23, 24, 25, 26, 27, 28, 29, 30, 31, 32, 33, 34, 35, 36, 37, 38, 39, 40, 41, 42, 43, 44, 53] I I' ∧ f_fo [45, 46, 47, 48, 53, 54, 55, 59] I I' ∧ mL I' ∧ mK I' ∧ mW I' ∧ ((I 0 30).toInt ≤ 6) ∧ (0 ≤ i.toInt) ∧ (i.toInt ≤ (I 0 30).toInt) ∧ ((∀ k : Nat, (k : Int) < i.toInt → (I' 53 k).toInt = k)) ∧ ((I 0 30).toInt - i.toInt) < n25))), (64, (fun (ls' : fLs) (st' : List Value) (I' : fM) (L' : fN) => ∃ best : Int32, ∃ least : Int32, ∃ more : Int32, (∀ q ∈ ([(4, .int more), (3, .int least), (2, .int best), (1, .int what), (0, .ref 0)] : fLs), q ∈ ls') ∧ st' = [] ∧ L' = L ∧ (mR I' ∧ f_fr [0, 21, 22, 23, 24, 25, 26, 27, 28, 29, 30, 31, 32, 33, 34, 35, 36, 37, 38, 39, 40, 41, 42, 43, 44, 53] I I' ∧ f_fo [45, 46, 47, 48, 53, 54, 55, 59] I I' ∧ mL I' ∧ mK I' ∧ mW I' ∧ ((I 0 30).toInt ≤ 6) ∧ ((more.toInt = 1 → dsx (I' 53) (I 0 30).toInt)) ∧ (more.toInt = 0 ∨ more.toInt = 1) ∧ (0 ≤ gm (1 - more.toInt) (16777216 - ovl (I' 53) (I 0 30).toInt.toNat)) ∧ (gm (1 - more.toInt) (16777216 - ovl (I' 53) (I 0 30).toInt.toNat)) < 16777300)))])) (f_cnl_of (P := fun (tQ : Nat) (P : fLs → List Value → fM → fN → Prop) => ∀ ls' st' I' L', P ls' st' I' L' → f_W pP l eP (f_rm 4) sP mP aP bP hP9 cP mY 71 a cy dC dI 6 (f_K 1 (qX12_mended [.ref 0, .int what] I L)) tQ ls' st' I' L') (List.forall_mem_cons.mpr ⟨(fun ls' st' I' L' h => by obtain ⟨i, hs, e1, e3, h9⟩ := h; rw [e1, e3]; exact f_W_sub hs (ih25 i I' h9)), List.forall_mem_cons.mpr ⟨(fun ls' st' I' L' h => by obtain ⟨best, least, more, hs, e1, e3, h9⟩ := h; rw [e1, e3]; exact f_W_sub hs (lp64 16777300 best least more I' h9)), fun _ h => absurd h List.not_mem_nil⟩⟩)) 17 25 (f_seek 25 0 tX12_mended) (f_seek_ok 25 0 tX12_mended tX12_mended_ok) _ _ _ _ ?_
        have r27_1 : 0 ≤ (J25 0 30).toInt ∧ (J25 0 30).toInt ≤ 8 := hR25c 0 30
        have e27_2 : (J25 0 30).toInt = (I 0 30).toInt := congrArg Int32.toInt (hO25c 30 rfl)
        apply And.intro
        · intro h30
          have h30 : (J25 0 30).toInt ≤ i.toInt := h30
          have d46 : dsx (J25 53) (I 0 30).toInt := ⟨fun k hk => by have := u25_4 k (by omega); omega, fun k l hkl hl => by have := u25_4 k (by omega); have := u25_4 l (by omega); omega⟩
          have v46 := ovl_8 (P := J25 53) (fun j => hR25c 53 j) (n := (I 0 30).toInt.toNat) (by omega)
          apply And.intro
          · intro h54
            have h54 : (J25 0 30).toInt ≤ 0 := h54
            have d62 : (1 : Int) = 1 → dsx (J25 53) (I 0 30).toInt := fun _ => d46
            have f62 : (0 : Int) = 1 → dsx (J25 53) (I 0 30).toInt := fun _ => d46
            have g62 : gm (1 - (1 : Int)) (16777216 - ovl (J25 53) (I 0 30).toInt.toNat) = 16777216 - ovl (J25 53) (I 0 30).toInt.toNat + 1 := gm_1 (by omega)
            have h62 : gm (1 - (0 : Int)) (16777216 - ovl (J25 53) (I 0 30).toInt.toNat) = 0 := gm_0 (by omega)
            have cn64_best : (Int32.ofInt (-1)).toInt = -1 := rfl
            exact ⟨Int32.ofInt (-1), Int32.ofInt 0, Int32.ofInt 0, (by intro q9 h9; simp only [List.mem_cons, List.not_mem_nil, or_false] at h9; rcases h9 with h9 | h9 | h9 | h9 | h9 <;> subst h9 <;> repeat (first | exact List.mem_cons_self | apply List.mem_cons_of_mem)), rfl, rfl, hR25c, hF25c, hO25c, hmL25c, hmK25c, hmW25c, (show (I 0 30).toInt ≤ 6 from by first | assumption | omega), (show ((0 : Int) = 1 → dsx (J25 53) (I 0 30).toInt) from by first | assumption | omega | rfl), (show (0 : Int) = 0 ∨ (0 : Int) = 1 from by first | assumption | omega | rfl), (show 0 ≤ gm (1 - (0 : Int)) (16777216 - ovl (J25 53) (I 0 30).toInt.toNat) from by first | assumption | omega), (show (gm (1 - (0 : Int)) (16777216 - ovl (J25 53) (I 0 30).toInt.toNat)) < 16777300 from by omega)⟩
          · intro h54
            have h54 : 0 < (J25 0 30).toInt := h54
            have d62 : (1 : Int) = 1 → dsx (J25 53) (I 0 30).toInt := fun _ => d46
            have f62 : (0 : Int) = 1 → dsx (J25 53) (I 0 30).toInt := fun _ => d46
            have g62 : gm (1 - (1 : Int)) (16777216 - ovl (J25 53) (I 0 30).toInt.toNat) = 16777216 - ovl (J25 53) (I 0 30).toInt.toNat + 1 := gm_1 (by omega)
            have h62 : gm (1 - (0 : Int)) (16777216 - ovl (J25 53) (I 0 30).toInt.toNat) = 0 := gm_0 (by omega)
            have cn64_best : (Int32.ofInt (-1)).toInt = -1 := rfl
            exact ⟨Int32.ofInt (-1), Int32.ofInt 0, Int32.ofInt 1, (by intro q9 h9; simp only [List.mem_cons, List.not_mem_nil, or_false] at h9; rcases h9 with h9 | h9 | h9 | h9 | h9 <;> subst h9 <;> repeat (first | exact List.mem_cons_self | apply List.mem_cons_of_mem)), rfl, rfl, hR25c, hF25c, hO25c, hmL25c, hmK25c, hmW25c, (show (I 0 30).toInt ≤ 6 from by first | assumption | omega), (show ((1 : Int) = 1 → dsx (J25 53) (I 0 30).toInt) from by first | assumption | omega | rfl), (show (1 : Int) = 0 ∨ (1 : Int) = 1 from by first | assumption | omega | rfl), (show 0 ≤ gm (1 - (1 : Int)) (16777216 - ovl (J25 53) (I 0 30).toInt.toNat) from by first | assumption | omega), (show (gm (1 - (1 : Int)) (16777216 - ovl (J25 53) (I 0 30).toInt.toNat)) < 16777300 from by omega)⟩
        · intro h30
          have h30 : i.toInt < (J25 0 30).toInt := h30
          refine And.intro (show f_in i 8 from ⟨show 0 ≤ i.toInt from by omega, show i.toInt < 8 from by omega⟩) ?_
          have hR39 := mR_a (k := 53) (j := i.toInt.toNat) (x := i) hR25c (show 0 ≤ i.toInt ∧ i.toInt ≤ 7 from ⟨by omega, by omega⟩)
          have hF39 := f_fr_up (k := 53) (r := upd (J25 53) (i.toInt.toNat) i) hF25c rfl
          have hO39 := f_fo_ne (k := 53) (r := upd (J25 53) (i.toInt.toNat) i) hO25c (by decide)
          have hmL39 := f_depo_up mL_dep (k := 53) (r := upd (J25 53) (i.toInt.toNat) i) hmL25c rfl (by decide)
          have hmK39 := f_depo_up mK_dep (k := 53) (r := upd (J25 53) (i.toInt.toNat) i) hmK25c rfl (by decide)
          have hmW39 := f_depo_up mW_dep (k := 53) (r := upd (J25 53) (i.toInt.toNat) i) hmW25c rfl (by decide)
          intro z40 q40 _ hq40 hl40 hu40
          have hq40 : z40.toInt = i.toInt + 1 + 4294967296 * q40 := hq40
          try have hz40 : z40.toInt = i.toInt + 1 := by omega
          have q40 : ∀ k : Nat, (k : Int) < z40.toInt → ((upd (J25 53) i.toInt.toNat i) k).toInt = k := fun k hk => by
            by_cases q : k = i.toInt.toNat
            · rw [q, pk_us]; omega
            · rw [pk_un q]; exact u25_4 k (by omega)
          exact ⟨z40, (by intro q9 h9; simp only [List.mem_cons, List.not_mem_nil, or_false] at h9; rcases h9 with h9 | h9 | h9 <;> subst h9 <;> repeat (first | exact List.mem_cons_self | apply List.mem_cons_of_mem)), rfl, rfl, hR39, hF39, hO39, hmL39, hmK39, hmW39, (show (I 0 30).toInt ≤ 6 from by first | assumption | omega), (show 0 ≤ z40.toInt from by first | assumption | omega), (show z40.toInt ≤ (I 0 30).toInt from by first | assumption | omega), (show (∀ k : Nat, (k : Int) < z40.toInt → ((upd (J25 53) (i.toInt.toNat) i) k).toInt = k) from by first | assumption | omega | exact fun _ _ => rfl | exact fun _ _ => ⟨rfl, rfl⟩ | exact fun _ _ => ⟨rfl, rfl, rfl⟩ | (intro j9 hj9; omega)), (show ((I 0 30).toInt - z40.toInt) < n25 from by omega)⟩
    refine f_wp_ok C f_cl flX12_ok fiX12_ok fjX12_ok (sn := none) (fun j h => by cases h) (cs := (f_cnl [(497, (1, 1, 11, pX12_pairs, qX12_pairs)), (419, (3, 0, 11, pX12_layWord, qX12_layWord)), (494, (1, 3, 11, pX12_isSentence, qX12_isSentence)), (500, (1, 3, 11, pX12_nextOrder, qX12_nextOrder))])) (cz := (f_cnl [(366, (3, 3, 11, pX12_isIn, qX12_isIn))])) (f_cnl_of (P := fun j S => f_cok pP l eP (f_rm 4) sP mP aP bP hP9 cP mY 71 a cy dC dI 6 _ _ (.invokevirtual j) true S) (List.forall_mem_cons.mpr ⟨f_cokV C (mX12_pairs hinj) (ci := 11) rfl (List.forall_mem_cons.mpr ⟨(mlX12_ok _ (List.mem_of_getElem? (i := 58) rfl)), kc_X12_pairs⟩) (by decide +kernel) ⟨Nat.le_of_ble_eq_true rfl, Nat.le_of_ble_eq_true rfl⟩, List.forall_mem_cons.mpr ⟨f_cokV C (mX12_layWord hinj) (ci := 11) rfl (List.forall_mem_cons.mpr ⟨(mlX12_ok _ (List.mem_of_getElem? (i := 37) rfl)), kc_X12_layWord⟩) (by decide +kernel) ⟨Nat.le_of_ble_eq_true rfl, Nat.le_of_ble_eq_true rfl⟩, List.forall_mem_cons.mpr ⟨f_cokV C (mX12_isSentence hinj) (ci := 11) rfl (List.forall_mem_cons.mpr ⟨(mlX12_ok _ (List.mem_of_getElem? (i := 57) rfl)), kc_X12_isSentence⟩) (by decide +kernel) ⟨Nat.le_of_ble_eq_true rfl, Nat.le_of_ble_eq_true rfl⟩, List.forall_mem_cons.mpr ⟨f_cokV C (mX12_nextOrder hinj) (ci := 11) rfl (List.forall_mem_cons.mpr ⟨(mlX12_ok _ (List.mem_of_getElem? (i := 59) rfl)), kc_X12_nextOrder⟩) (by decide +kernel) ⟨Nat.le_of_ble_eq_true rfl, Nat.le_of_ble_eq_true rfl⟩, fun _ h => absurd h List.not_mem_nil⟩⟩⟩⟩)) (f_cnl_of (P := fun j S => f_cok pP l eP (f_rm 4) sP mP aP bP hP9 cP mY 71 a cy dC dI 6 _ _ (.invokestatic j) false S) (List.forall_mem_cons.mpr ⟨f_cokS C (mX12_isIn hinj) (List.forall_mem_cons.mpr ⟨(mlX12_ok _ (List.mem_of_getElem? (i := 27) rfl)), kc_X12_isIn⟩) (by decide +kernel) ⟨Nat.le_of_ble_eq_true rfl, Nat.le_of_ble_eq_true rfl⟩, fun _ h => absurd h List.not_mem_nil⟩)) tX12_mended_ok (cut := (f_cnl [(25, (fun (ls' : fLs) (st' : List Value) (I' : fM) (L' : fN) => ∃ i : Int32, (∀ q ∈ ([(2, .int i), (1, .int what), (0, .ref 0)] : fLs), q ∈ ls') ∧ st' = [] ∧ L' = L ∧ (mR I' ∧ f_fr [0, 21, 22, 23, 24, 25, 26, 27, 28, 29, 30, 31, 32, 33, 34, 35, 36, 37, 38, 39, 40, 41, 42, 43, 44, 53] I I' ∧ f_fo [45, 46, 47, 48, 53, 54, 55, 59] I I' ∧ mL I' ∧ mK I' ∧ mW I' ∧ ((I 0 30).toInt ≤ 6) ∧ (0 ≤ i.toInt) ∧ (i.toInt ≤ (I 0 30).toInt) ∧ ((∀ k : Nat, (k : Int) < i.toInt → (I' 53 k).toInt = k)) ∧ ((I 0 30).toInt - i.toInt) < 9)))])) (f_cnl_of (P := fun (tQ : Nat) (P : fLs → List Value → fM → fN → Prop) => ∀ ls' st' I' L', P ls' st' I' L' → f_W pP l eP (f_rm 4) sP mP aP bP hP9 cP mY 71 a cy dC dI 6 (f_K 1 (qX12_mended [.ref 0, .int what] I L)) tQ ls' st' I' L') (List.forall_mem_cons.mpr ⟨(fun ls' st' I' L' h => by obtain ⟨i, hs, e1, e3, h9⟩ := h; rw [e1, e3]; exact f_W_sub hs (lp25 9 i I' h9)), fun _ h => absurd h List.not_mem_nil⟩)) 14 0 tX12_mended tX12_mended_ok _ _ _ _ ?_
    refine And.intro trivial ?_
    intro x3 I3 L3 hq3
    have hq3 : I3 = I ∧ L3 = L ∧ ((x3.toInt = 1 ∧ (0 : Int) ≤ what.toInt ∧ what.toInt ≤ (1 : Int) ∨ x3.toInt = 0 ∧ (what.toInt < (0 : Int) ∨ (1 : Int) < what.toInt))) := hq3
    obtain ⟨eI3, eL3, c3_2⟩ := hq3
    replace eI3 := eI3.symm
    subst eI3
    replace eL3 := eL3.symm
    subst eL3
    apply And.intro
    · intro h6
      have h6 : ¬ x3.toInt = 0 := h6
      have r12_1 : 0 ≤ (I 0 30).toInt ∧ (I 0 30).toInt ≤ 8 := hR 0 30
      apply And.intro
      · intro h17
        have h17 : (I 0 30).toInt ≤ 6 := h17
        exact ⟨Int32.ofInt 0, (by intro q9 h9; simp only [List.mem_cons, List.not_mem_nil, or_false] at h9; rcases h9 with h9 | h9 | h9 <;> subst h9 <;> repeat (first | exact List.mem_cons_self | apply List.mem_cons_of_mem)), rfl, rfl, hR, hF0, hO0, hmL, hmK, hmW, (show (I 0 30).toInt ≤ 6 from by first | assumption | omega), (show 0 ≤ (0 : Int) from by first | assumption | omega), (show (0 : Int) ≤ (I 0 30).toInt from by first | assumption | omega), (show (∀ k : Nat, (k : Int) < (0 : Int) → (I 53 k).toInt = k) from by first | assumption | omega | exact fun _ _ => rfl | exact fun _ _ => ⟨rfl, rfl⟩ | exact fun _ _ => ⟨rfl, rfl, rfl⟩ | (intro j9 hj9; omega)), (show ((I 0 30).toInt - (0 : Int)) < 9 from by omega)⟩
      · intro h17
        have h17 : 6 < (I 0 30).toInt := h17
        exact ⟨hR, hmL, hmK, hmW, hO0, hF0, rfl⟩
    · intro h6
      have h6 : x3.toInt = 0 := h6
      exact ⟨hR, hmL, hmK, hmW, hO0, hF0, rfl⟩
theorem oK_one {I K : fM} {p q : Nat} {y z : Int32} (h24 : K 0 24 = I 0 24) (h8 : K 8 = I 8) (h11 : K 11 = I 11) (e35 : K 35 = upd (I 35) p y) (e36 : K 36 = upd (I 36) q z) (hq : q = 3 * p) (hy : y.toInt = 1) (hz : lvn I z.toInt) : oK K p := by
  subst hq
  have e : ∀ n, lvn K n = lvn I n := lvn_eq h24 h8 h11
  refine ⟨by rw [e35, pk_us]; omega, fun t h1 h2 => ?_⟩
  rw [e35, pk_us] at h2
  rw [e, e36, show t = 3 * p by omega, pk_us]
  exact hz
theorem oK_rest {I K : fM} {p q j : Nat} {y z : Int32} (hR : mR I) (h24 : K 0 24 = I 0 24) (h8 : K 8 = I 8) (h11 : K 11 = I 11) (e35 : K 35 = upd (I 35) p y) (e36 : K 36 = upd (I 36) q z) (hq : q = 3 * p) (hj : ¬ j = p) (h : oK I j) : oK K j := by
  subst hq
  have e : ∀ n, lvn K n = lvn I n := lvn_eq h24 h8 h11
  have m : (I 35 j).toInt ≤ 3 := (hR 35 j).2
  unfold oK
  rw [e35, pk_un hj]
  refine ⟨h.1, fun t h1 h2 => ?_⟩
  rw [e, e36, pk_un (by omega)]
  exact h.2 t h1 h2
def tX12_could : List (Instr × Nat) := [(.iload_n 1, 1), (.iconst 0, 1), (.aload_n 0, 1), (.getfield 309, 3), (.iconst 1, 1), (.isub, 1), (.invokestatic 366, 3), (.ifCond .eq 21, 3), (.iload_n 2, 1), (.iconst 0, 1), (.iconst 2, 1), (.invokestatic 366, 3), (.ifCond .eq 12, 3), (.iload_n 3, 1), (.iconst 0, 1), (.iconst 1, 1), (.invokestatic 366, 3), (.ifCond .ne 5, 3), (.iconst (-1), 1), (.ireturn, 1), (.iconst 0, 1), (.istore 4, 2), (.iconst (-1), 1), (.istore 5, 2), (.iconst 0, 1), (.istore 6, 2), (.iload 6, 2), (.aload_n 0, 1), (.iload_n 2, 1), (.invokevirtual 503, 3), (.if_icmp .ge 61, 3), (.aload_n 0, 1), (.invokevirtual 466, 3), (.aload_n 0, 1), (.getfield 119, 3), (.iload_n 1, 1), (.iconst 1, 1), (.iastore, 1), (.aload_n 0, 1), (.getfield 122, 3), (.iconst 3, 1), (.iload_n 1, 1), (.imul, 1), (.sipush 520, 3), (.iload 6, 2), (.iadd, 1), (.iastore, 1), (.aload_n 0, 1), (.invokevirtual 494, 3), (.ifCond .ne 6, 3), (.goto 20, 3), (.iinc 4 1, 3), (.iload 5, 2), (.ifCond .ge 8, 3), (.iload 6, 2), (.goto 5, 3), (.iload 5, 2), (.istore 5, 2), (.iinc 6 1, 3), (.goto (-65), 3), (.iload_n 3, 1), (.ifCond .ne 8, 3), (.iload 4, 2), (.goto 5, 3), (.iload 5, 2), (.ireturn, 1)]
theorem tX12_could_ok : f_chk cX12_could 0 tX12_could = true := by decide +kernel
def pX12_could (av : List Value) (I : fM) (L : fN) : Prop := match av with
  | [.ref 0, .int p, .int n, .int w] => mR I ∧ mL I ∧ mK I ∧ mW I
  | _ => False
def qX12_could (av : List Value) (I : fM) (L : fN) (r : Value) (I' : fM) (L' : fN) : Prop := match av, r with
  | [.ref 0, .int p, .int n, .int w], .int x => mR I' ∧ mL I' ∧ mK I' ∧ mW I' ∧ f_fo [45, 46, 47, 48, 53, 54, 55, 59] I I' ∧ f_fr [0, 21, 22, 23, 24, 25, 26, 27, 28, 29, 30, 31, 32, 33, 34, 35, 36, 37, 38, 39, 40, 41, 42, 43, 44] I I' ∧ L' = L
  | _, _ => False
set_option maxHeartbeats 40000000 in
set_option maxRecDepth 100000 in
theorem mX12_could {l : Launch} {a : Nat → Nat} {cy dC : Nat → ClassId} {dI : Nat → Nat → Nat} (hinj : ∀ i j, i < 71 → j < 71 → a i = a j → i = j) : f_Met (fun _ => True) l mY 71 a cy dC dI yX12_could cX12_could 7 1 4 pX12_could qX12_could := by
  refine f_met_of (f_Ec_T 71 a) hinj mY_hi (by decide) (fun av I L h => by unfold pX12_could at h; split at h <;> first | exact Nat.le_of_ble_eq_true rfl | exact h.elim) ?_
  intro pP eP sP mP aP bP hP9 cP C av I L hp
  unfold pX12_could at hp
  split at hp
  case h_2 => exact hp.elim
  case h_1 p n w =>
    obtain ⟨hR, hmL, hmK, hmW⟩ := hp
    have hr : 0 ≤ (I 0 30).toInt ∧ (I 0 30).toInt ≤ 8 := hR 0 30
    have hF0 : f_fr [0, 21, 22, 23, 24, 25, 26, 27, 28, 29, 30, 31, 32, 33, 34, 35, 36, 37, 38, 39, 40, 41, 42, 43, 44] I I := f_fr_rf
    have hO0 : f_fo [45, 46, 47, 48, 53, 54, 55, 59] I I := f_fo_rf
    have lp43 : ∀ (n43 : Nat), ∀ (many : Int32) (least : Int32) (t : Int32) (J43 : fM), mR J43 ∧ f_fr [0, 21, 22, 23, 24, 25, 26, 27, 28, 29, 30, 31, 32, 33, 34, 35, 36, 37, 38, 39, 40, 41, 42, 43, 44] I J43 ∧ f_fo [45, 46, 47, 48, 53, 54, 55, 59] I J43 ∧ mL J43 ∧ mK J43 ∧ mW J43 ∧ (0 ≤ p.toInt) ∧ (p.toInt < (I 0 30).toInt) ∧ (0 ≤ n.toInt) ∧ (n.toInt ≤ 2) ∧ (0 ≤ t.toInt) ∧ (t.toInt ≤ 1055) ∧ (1055 - t.toInt) < n43 → f_W pP l eP (f_rm 4) sP mP aP bP hP9 cP mY 71 a cy dC dI 7 (f_K 1 (qX12_could [.ref 0, .int p, .int n, .int w] I L)) 43 [(6, .int t), (5, .int least), (4, .int many), (3, .int w), (2, .int n), (1, .int p), (0, .ref 0)] [] J43 L := by
      intro n43
      induction n43 with
      | zero =>
        intro many least t J43 h9
        obtain ⟨hR43c, hF43c, hO43c, hmL43c, hmK43c, hmW43c, u43_1, u43_2, u43_3, u43_4, u43_5, u43_6, hm43⟩ := h9
        omega
      | succ n43 ih43 =>
        intro many least t J43 h9
        obtain ⟨hR43c, hF43c, hO43c, hmL43c, hmK43c, hmW43c, u43_1, u43_2, u43_3, u43_4, u43_5, u43_6, hm43⟩ := h9
        refine f_wp_ok C f_cl flX12_ok fiX12_ok fjX12_ok (sn := none) (fun j h => by cases h) (cs := (f_cnl [(503, (2, 1, 11, pX12_numbers, qX12_numbers)), (466, (1, 0, 11, pX12_layRow, qX12_layRow)), (494, (1, 3, 11, pX12_isSentence, qX12_isSentence))])) (cz := (f_cnl [(366, (3, 3, 11, pX12_isIn, qX12_isIn))])) (f_cnl_of (P := fun j S => f_cok pP l eP (f_rm 4) sP mP aP bP hP9 cP mY 71 a cy dC dI 7 _ _ (.invokevirtual j) true S) (List.forall_mem_cons.mpr ⟨f_cokV C (mX12_numbers hinj) (ci := 11) rfl (List.forall_mem_cons.mpr ⟨(mlX12_ok _ (List.mem_of_getElem? (i := 60) rfl)), kc_X12_numbers⟩) (by decide +kernel) ⟨Nat.le_of_ble_eq_true rfl, Nat.le_of_ble_eq_true rfl⟩, List.forall_mem_cons.mpr ⟨f_cokV C (mX12_layRow hinj) (ci := 11) rfl (List.forall_mem_cons.mpr ⟨(mlX12_ok _ (List.mem_of_getElem? (i := 49) rfl)), kc_X12_layRow⟩) (by decide +kernel) ⟨Nat.le_of_ble_eq_true rfl, Nat.le_of_ble_eq_true rfl⟩, List.forall_mem_cons.mpr ⟨f_cokV C (mX12_isSentence hinj) (ci := 11) rfl (List.forall_mem_cons.mpr ⟨(mlX12_ok _ (List.mem_of_getElem? (i := 57) rfl)), kc_X12_isSentence⟩) (by decide +kernel) ⟨Nat.le_of_ble_eq_true rfl, Nat.le_of_ble_eq_true rfl⟩, fun _ h => absurd h List.not_mem_nil⟩⟩⟩)) (f_cnl_of (P := fun j S => f_cok pP l eP (f_rm 4) sP mP aP bP hP9 cP mY 71 a cy dC dI 7 _ _ (.invokestatic j) false S) (List.forall_mem_cons.mpr ⟨f_cokS C (mX12_isIn hinj) (List.forall_mem_cons.mpr ⟨(mlX12_ok _ (List.mem_of_getElem? (i := 27) rfl)), kc_X12_isIn⟩) (by decide +kernel) ⟨Nat.le_of_ble_eq_true rfl, Nat.le_of_ble_eq_true rfl⟩, fun _ h => absurd h List.not_mem_nil⟩)) tX12_could_ok (cut := (f_cnl [(43, (fun (ls' : fLs) (st' : List Value) (I' : fM) (L' : fN) => ∃ many : Int32, ∃ least : Int32, ∃ t : Int32, (∀ q ∈ ([(6, .int t), (5, .int least), (4, .int many), (3, .int w), (2, .int n), (1, .int p), (0, .ref 0)] : fLs), q ∈ ls') ∧ st' = [] ∧ L' = L ∧ (mR I' ∧ f_fr [0, 21, 22, 23, 24, 25, 26, 27, 28, 29, 30, 31, 32, 33, 34, 35, 36, 37, 38, 39, 40, 41, 42, 43, 44] I I' ∧ f_fo [45, 46, 47, 48, 53, 54, 55, 59] I I' ∧ mL I' ∧ mK I' ∧ mW I' ∧ (0 ≤ p.toInt) ∧ (p.toInt < (I 0 30).toInt) ∧ (0 ≤ n.toInt) ∧ (n.toInt ≤ 2) ∧ (0 ≤ t.toInt) ∧ (t.toInt ≤ 1055) ∧ (1055 - t.toInt) < n43)))])) (f_cnl_of (P := fun (tQ : Nat) (P : fLs → List Value → fM → fN → Prop) => ∀ ls' st' I' L', P ls' st' I' L' → f_W pP l eP (f_rm 4) sP mP aP bP hP9 cP mY 71 a cy dC dI 7 (f_K 1 (qX12_could [.ref 0, .int p, .int n, .int w] I L)) tQ ls' st' I' L') (List.forall_mem_cons.mpr ⟨(fun ls' st' I' L' h => by obtain ⟨many, least, t, hs, e1, e3, h9⟩ := h; rw [e1, e3]; exact f_W_sub hs (ih43 many least t I' h9)), fun _ h => absurd h List.not_mem_nil⟩)) 35 43 (f_seek 43 0 tX12_could) (f_seek_ok 43 0 tX12_could tX12_could_ok) _ _ _ _ ?_
        refine And.intro ⟨hR43c, (show 0 ≤ n.toInt from by first | assumption | omega), (show n.toInt ≤ 2 from by first | assumption | omega)⟩ ?_
        intro x47 I47 L47 hq47
        have hq47 : I47 = J43 ∧ L47 = L ∧ 0 ≤ x47.toInt ∧ x47.toInt ≤ 1055 ∧ x47.toInt ≤ numK (J43 8 (J43 0 24).toInt.toNat).toInt ∧ ((n.toInt = 1 → x47.toInt = (J43 8 (J43 0 24).toInt.toNat).toInt + 2 * (J43 8 (J43 0 24).toInt.toNat).toInt * (J43 8 (J43 0 24).toInt.toNat).toInt)) := hq47
        obtain ⟨eI47, eL47, c47_2, c47_3, c47_4, c47_5⟩ := hq47
        replace eI47 := eI47.symm
        subst eI47
        replace eL47 := eL47.symm
        subst eL47
        have r47_1 : 0 ≤ (J43 8 ((J43 0 24).toInt.toNat)).toInt ∧ (J43 8 ((J43 0 24).toInt.toNat)).toInt ≤ 5 := hR43c 8 ((J43 0 24).toInt.toNat)
        have e47_2 : (J43 8 ((J43 0 24).toInt.toNat)).toInt = (J43 8 ((I 0 24).toInt.toNat)).toInt := by rw [(hO43c 24 rfl)]
        have e47_3 : (J43 8 ((I 0 24).toInt.toNat)).toInt = (I 8 ((I 0 24).toInt.toNat)).toInt := congrArg Int32.toInt (congrFun (hF43c 8 rfl) ((I 0 24).toInt.toNat))
        have r47_4 : 0 ≤ (J43 0 24).toInt ∧ (J43 0 24).toInt ≤ 1 := hR43c 0 24
        have e47_5 : (J43 0 24).toInt = (I 0 24).toInt := congrArg Int32.toInt (hO43c 24 rfl)
        apply And.intro
        · intro h50
          have h50 : x47.toInt ≤ t.toInt := h50
          apply And.intro
          · intro h112
            have h112 : ¬ w.toInt = 0 := h112
            exact ⟨hR43c, hmL43c, hmK43c, hmW43c, hO43c, hF43c, rfl⟩
          · intro h112
            have h112 : w.toInt = 0 := h112
            exact ⟨hR43c, hmL43c, hmK43c, hmW43c, hO43c, hF43c, rfl⟩
        · intro h50
          have h50 : t.toInt < x47.toInt := h50
          refine And.intro ⟨hR43c, hmL43c, hmW43c⟩ ?_
          intro I54 L54 hq54
          have hq54 : mR I54 ∧ mL I54 ∧ mW I54 ∧ f_fo [53, 54] J43 I54 ∧ f_fr [0, 35, 36] J43 I54 ∧ L54 = L ∧ mO I54 ∧ (I54 0 53).toInt = (J43 0 30).toInt ∧ (I54 0 54).toInt = (J43 10 (J43 0 24).toInt.toNat).toInt := hq54
          obtain ⟨c54_0, c54_1, c54_2, c54_3, c54_4, eL54, c54_6, c54_7, c54_8⟩ := hq54
          replace eL54 := eL54.symm
          subst eL54
          have hO54 := f_fo_tr hO43c c54_3 rfl
          have hmK54 := f_depo_fo mK_dep hmK43c c54_4 c54_3 rfl rfl
          have hF54 := f_fr_tr hF43c c54_4 rfl
          have r54_6 : -1 ≤ (I54 0 54).toInt ∧ (I54 0 54).toInt ≤ 1599 := c54_0 0 54
          have e54_7 : (J43 10 ((J43 0 24).toInt.toNat)).toInt = (J43 10 ((I 0 24).toInt.toNat)).toInt := by rw [(hO43c 24 rfl)]
          have e54_8 : (J43 10 ((I 0 24).toInt.toNat)).toInt = (I 10 ((I 0 24).toInt.toNat)).toInt := congrArg Int32.toInt (congrFun (hF43c 10 rfl) ((I 0 24).toInt.toNat))
          have k54 : I54 8 = J43 8 := c54_4 8 rfl
          have f54 : I54 0 24 = J43 0 24 := c54_3 24 rfl
          have l54 : lvn I54 (520 + t.toInt) := Or.inr ⟨by omega, by rw [k54, f54]; omega⟩
          refine And.intro (show f_in p 10 from ⟨show 0 ≤ p.toInt from by omega, show p.toInt < 10 from by omega⟩) ?_
          have hR63 := mR_a (k := 35) (j := p.toInt.toNat) (x := Int32.ofInt 1) c54_0 (show 0 ≤ 1 ∧ 1 ≤ 3 from ⟨by omega, by omega⟩)
          have hF63 := f_fr_up (k := 35) (r := upd (I54 35) (p.toInt.toNat) (Int32.ofInt 1)) hF54 rfl
          have hO63 := f_fo_ne (k := 35) (r := upd (I54 35) (p.toInt.toNat) (Int32.ofInt 1)) hO54 (by decide)
          have hmL63 := f_depo_up mL_dep (k := 35) (r := upd (I54 35) (p.toInt.toNat) (Int32.ofInt 1)) c54_1 rfl (by decide)
          have hmK63 := f_depo_up mK_dep (k := 35) (r := upd (I54 35) (p.toInt.toNat) (Int32.ofInt 1)) hmK54 rfl (by decide)
          have hmW63 := f_depo_up mW_dep (k := 35) (r := upd (I54 35) (p.toInt.toNat) (Int32.ofInt 1)) c54_2 rfl (by decide)
          intro z70 q70 _ hq70 hl70 hu70
          have hq70 : z70.toInt = 3 * p.toInt + 4294967296 * q70 := hq70
          try have hz70 : z70.toInt = 3 * p.toInt := by omega
          intro z76 q76 _ hq76 hl76 hu76
          have hq76 : z76.toInt = 520 + t.toInt + 4294967296 * q76 := hq76
          try have hz76 : z76.toInt = 520 + t.toInt := by omega
          refine And.intro (show f_in z70 30 from ⟨show 0 ≤ z70.toInt from by omega, show z70.toInt < 30 from by omega⟩) ?_
          have hR77 := mR_a (k := 36) (j := z70.toInt.toNat) (x := z76) hR63 (show -1 ≤ z76.toInt ∧ z76.toInt ≤ 1599 from ⟨by omega, by omega⟩)
          have hF77 := f_fr_up (k := 36) (r := upd (I54 36) (z70.toInt.toNat) z76) hF63 rfl
          have hO77 := f_fo_ne (k := 36) (r := upd (I54 36) (z70.toInt.toNat) z76) hO63 (by decide)
          have hmL77 := f_depo_up mL_dep (k := 36) (r := upd (I54 36) (z70.toInt.toNat) z76) hmL63 rfl (by decide)
          have hmK77 := f_depo_up mK_dep (k := 36) (r := upd (I54 36) (z70.toInt.toNat) z76) hmK63 rfl (by decide)
          have hmW77 := f_depo_up mW_dep (k := 36) (r := upd (I54 36) (z70.toInt.toNat) z76) hmW63 rfl (by decide)
          have l77 : lvn I54 z76.toInt := by rw [show z76.toInt = 520 + t.toInt by omega]; exact l54
          have hmO77 : mO (va_up (va_up I54 35 (upd (I54 35) (p.toInt.toNat) (Int32.ofInt 1))) 36 (upd (I54 36) (z70.toInt.toNat) z76)) := ⟨fun j hj => by
            have hj : (j : Int) < (I54 0 53).toInt := hj
            by_cases q : j = p.toInt.toNat
            · rw [q]; exact oK_one (I := I54) (K := (va_up (va_up I54 35 (upd (I54 35) (p.toInt.toNat) (Int32.ofInt 1))) 36 (upd (I54 36) (z70.toInt.toNat) z76))) rfl rfl rfl rfl rfl (by omega) rfl l77
            · exact oK_rest (I := I54) (K := (va_up (va_up I54 35 (upd (I54 35) (p.toInt.toNat) (Int32.ofInt 1))) 36 (upd (I54 36) (z70.toInt.toNat) z76))) c54_0 rfl rfl rfl rfl rfl (by omega) q (c54_6.1 j hj), c54_6.2⟩
          refine And.intro ⟨hR77, hmL77, hmK77, hmO77⟩ ?_
          intro x79 I79 L79 hq79
          have hq79 : mR I79 ∧ mL I79 ∧ mK I79 ∧ mO I79 ∧ f_fo [45, 46, 47, 48, 55, 59] (va_up (va_up I54 35 (upd (I54 35) (p.toInt.toNat) (Int32.ofInt 1))) 36 (upd (I54 36) (z70.toInt.toNat) z76)) I79 ∧ f_fr [0, 21, 22, 23, 24, 25, 26, 27, 28, 29, 30, 31, 32, 33, 34, 37, 38, 39, 40, 41, 42, 43, 44] (va_up (va_up I54 35 (upd (I54 35) (p.toInt.toNat) (Int32.ofInt 1))) 36 (upd (I54 36) (z70.toInt.toNat) z76)) I79 ∧ L79 = L ∧ ((x79.toInt = 0 ∨ x79.toInt = 1)) := hq79
          obtain ⟨c79_0, c79_1, c79_2, c79_3, c79_4, c79_5, eL79, c79_7⟩ := hq79
          replace eL79 := eL79.symm
          subst eL79
          have hO79 := f_fo_tr hO77 c79_4 rfl
          have hmW79 := f_depo_fo mW_dep hmW77 c79_5 c79_4 rfl rfl
          have hF79 := f_fr_tr hF77 c79_5 rfl
          apply And.intro
          · intro h82
            have h82 : ¬ x79.toInt = 0 := h82
            intro z88 q88 _ hq88 hl88 hu88
            have hq88 : z88.toInt = many.toInt + 1 + 4294967296 * q88 := hq88
            try have hz88 : z88.toInt = many.toInt + 1 := by omega
            apply And.intro
            · intro h93
              have h93 : 0 ≤ least.toInt := h93
              intro z105 q105 _ hq105 hl105 hu105
              have hq105 : z105.toInt = t.toInt + 1 + 4294967296 * q105 := hq105
              try have hz105 : z105.toInt = t.toInt + 1 := by omega
              exact ⟨z88, least, z105, (by intro q9 h9; simp only [List.mem_cons, List.not_mem_nil, or_false] at h9; rcases h9 with h9 | h9 | h9 | h9 | h9 | h9 | h9 <;> subst h9 <;> repeat (first | exact List.mem_cons_self | apply List.mem_cons_of_mem)), rfl, rfl, c79_0, hF79, hO79, c79_1, c79_2, hmW79, (show 0 ≤ p.toInt from by first | assumption | omega), (show p.toInt < (I 0 30).toInt from by first | assumption | omega), (show 0 ≤ n.toInt from by first | assumption | omega), (show n.toInt ≤ 2 from by first | assumption | omega), (show 0 ≤ z105.toInt from by first | assumption | omega), (show z105.toInt ≤ 1055 from by first | assumption | omega), (show (1055 - z105.toInt) < n43 from by omega)⟩
            · intro h93
              have h93 : least.toInt < 0 := h93
              intro z105 q105 _ hq105 hl105 hu105
              have hq105 : z105.toInt = t.toInt + 1 + 4294967296 * q105 := hq105
              try have hz105 : z105.toInt = t.toInt + 1 := by omega
              exact ⟨z88, t, z105, (by intro q9 h9; simp only [List.mem_cons, List.not_mem_nil, or_false] at h9; rcases h9 with h9 | h9 | h9 | h9 | h9 | h9 | h9 <;> subst h9 <;> repeat (first | exact List.mem_cons_self | apply List.mem_cons_of_mem)), rfl, rfl, c79_0, hF79, hO79, c79_1, c79_2, hmW79, (show 0 ≤ p.toInt from by first | assumption | omega), (show p.toInt < (I 0 30).toInt from by first | assumption | omega), (show 0 ≤ n.toInt from by first | assumption | omega), (show n.toInt ≤ 2 from by first | assumption | omega), (show 0 ≤ z105.toInt from by first | assumption | omega), (show z105.toInt ≤ 1055 from by first | assumption | omega), (show (1055 - z105.toInt) < n43 from by omega)⟩
          · intro h82
            have h82 : x79.toInt = 0 := h82
            intro z105 q105 _ hq105 hl105 hu105
            have hq105 : z105.toInt = t.toInt + 1 + 4294967296 * q105 := hq105
            try have hz105 : z105.toInt = t.toInt + 1 := by omega
            exact ⟨many, least, z105, (by intro q9 h9; simp only [List.mem_cons, List.not_mem_nil, or_false] at h9; rcases h9 with h9 | h9 | h9 | h9 | h9 | h9 | h9 <;> subst h9 <;> repeat (first | exact List.mem_cons_self | apply List.mem_cons_of_mem)), rfl, rfl, c79_0, hF79, hO79, c79_1, c79_2, hmW79, (show 0 ≤ p.toInt from by first | assumption | omega), (show p.toInt < (I 0 30).toInt from by first | assumption | omega), (show 0 ≤ n.toInt from by first | assumption | omega), (show n.toInt ≤ 2 from by first | assumption | omega), (show 0 ≤ z105.toInt from by first | assumption | omega), (show z105.toInt ≤ 1055 from by first | assumption | omega), (show (1055 - z105.toInt) < n43 from by omega)⟩
    refine f_wp_ok C f_cl flX12_ok fiX12_ok fjX12_ok (sn := none) (fun j h => by cases h) (cs := (f_cnl [(503, (2, 1, 11, pX12_numbers, qX12_numbers)), (466, (1, 0, 11, pX12_layRow, qX12_layRow)), (494, (1, 3, 11, pX12_isSentence, qX12_isSentence))])) (cz := (f_cnl [(366, (3, 3, 11, pX12_isIn, qX12_isIn))])) (f_cnl_of (P := fun j S => f_cok pP l eP (f_rm 4) sP mP aP bP hP9 cP mY 71 a cy dC dI 7 _ _ (.invokevirtual j) true S) (List.forall_mem_cons.mpr ⟨f_cokV C (mX12_numbers hinj) (ci := 11) rfl (List.forall_mem_cons.mpr ⟨(mlX12_ok _ (List.mem_of_getElem? (i := 60) rfl)), kc_X12_numbers⟩) (by decide +kernel) ⟨Nat.le_of_ble_eq_true rfl, Nat.le_of_ble_eq_true rfl⟩, List.forall_mem_cons.mpr ⟨f_cokV C (mX12_layRow hinj) (ci := 11) rfl (List.forall_mem_cons.mpr ⟨(mlX12_ok _ (List.mem_of_getElem? (i := 49) rfl)), kc_X12_layRow⟩) (by decide +kernel) ⟨Nat.le_of_ble_eq_true rfl, Nat.le_of_ble_eq_true rfl⟩, List.forall_mem_cons.mpr ⟨f_cokV C (mX12_isSentence hinj) (ci := 11) rfl (List.forall_mem_cons.mpr ⟨(mlX12_ok _ (List.mem_of_getElem? (i := 57) rfl)), kc_X12_isSentence⟩) (by decide +kernel) ⟨Nat.le_of_ble_eq_true rfl, Nat.le_of_ble_eq_true rfl⟩, fun _ h => absurd h List.not_mem_nil⟩⟩⟩)) (f_cnl_of (P := fun j S => f_cok pP l eP (f_rm 4) sP mP aP bP hP9 cP mY 71 a cy dC dI 7 _ _ (.invokestatic j) false S) (List.forall_mem_cons.mpr ⟨f_cokS C (mX12_isIn hinj) (List.forall_mem_cons.mpr ⟨(mlX12_ok _ (List.mem_of_getElem? (i := 27) rfl)), kc_X12_isIn⟩) (by decide +kernel) ⟨Nat.le_of_ble_eq_true rfl, Nat.le_of_ble_eq_true rfl⟩, fun _ h => absurd h List.not_mem_nil⟩)) tX12_could_ok (cut := (f_cnl [(43, (fun (ls' : fLs) (st' : List Value) (I' : fM) (L' : fN) => ∃ many : Int32, ∃ least : Int32, ∃ t : Int32, (∀ q ∈ ([(6, .int t), (5, .int least), (4, .int many), (3, .int w), (2, .int n), (1, .int p), (0, .ref 0)] : fLs), q ∈ ls') ∧ st' = [] ∧ L' = L ∧ (mR I' ∧ f_fr [0, 21, 22, 23, 24, 25, 26, 27, 28, 29, 30, 31, 32, 33, 34, 35, 36, 37, 38, 39, 40, 41, 42, 43, 44] I I' ∧ f_fo [45, 46, 47, 48, 53, 54, 55, 59] I I' ∧ mL I' ∧ mK I' ∧ mW I' ∧ (0 ≤ p.toInt) ∧ (p.toInt < (I 0 30).toInt) ∧ (0 ≤ n.toInt) ∧ (n.toInt ≤ 2) ∧ (0 ≤ t.toInt) ∧ (t.toInt ≤ 1055) ∧ (1055 - t.toInt) < 1056)))])) (f_cnl_of (P := fun (tQ : Nat) (P : fLs → List Value → fM → fN → Prop) => ∀ ls' st' I' L', P ls' st' I' L' → f_W pP l eP (f_rm 4) sP mP aP bP hP9 cP mY 71 a cy dC dI 7 (f_K 1 (qX12_could [.ref 0, .int p, .int n, .int w] I L)) tQ ls' st' I' L') (List.forall_mem_cons.mpr ⟨(fun ls' st' I' L' h => by obtain ⟨many, least, t, hs, e1, e3, h9⟩ := h; rw [e1, e3]; exact f_W_sub hs (lp43 1056 many least t I' h9)), fun _ h => absurd h List.not_mem_nil⟩)) 27 0 tX12_could tX12_could_ok _ _ _ _ ?_
    have r3_1 : 0 ≤ (I 0 30).toInt ∧ (I 0 30).toInt ≤ 8 := hR 0 30
    intro z7 q7 _ hq7 hl7 hu7
    have hq7 : z7.toInt = (I 0 30).toInt - 1 + 4294967296 * q7 := hq7
    try have hz7 : z7.toInt = (I 0 30).toInt - 1 := by omega
    refine And.intro trivial ?_
    intro x8 I8 L8 hq8
    have hq8 : I8 = I ∧ L8 = L ∧ ((x8.toInt = 1 ∧ (0 : Int) ≤ p.toInt ∧ p.toInt ≤ z7.toInt ∨ x8.toInt = 0 ∧ (p.toInt < (0 : Int) ∨ z7.toInt < p.toInt))) := hq8
    obtain ⟨eI8, eL8, c8_2⟩ := hq8
    replace eI8 := eI8.symm
    subst eI8
    replace eL8 := eL8.symm
    subst eL8
    apply And.intro
    · intro h11
      have h11 : x8.toInt = 0 := h11
      exact ⟨hR, hmL, hmK, hmW, hO0, hF0, rfl⟩
    · intro h11
      have h11 : ¬ x8.toInt = 0 := h11
      refine And.intro trivial ?_
      intro x17 I17 L17 hq17
      have hq17 : I17 = I ∧ L17 = L ∧ ((x17.toInt = 1 ∧ (0 : Int) ≤ n.toInt ∧ n.toInt ≤ (2 : Int) ∨ x17.toInt = 0 ∧ (n.toInt < (0 : Int) ∨ (2 : Int) < n.toInt))) := hq17
      obtain ⟨eI17, eL17, c17_2⟩ := hq17
      replace eI17 := eI17.symm
      subst eI17
      replace eL17 := eL17.symm
      subst eL17
      apply And.intro
      · intro h20
        have h20 : x17.toInt = 0 := h20
        exact ⟨hR, hmL, hmK, hmW, hO0, hF0, rfl⟩
      · intro h20
        have h20 : ¬ x17.toInt = 0 := h20
        refine And.intro trivial ?_
        intro x26 I26 L26 hq26
        have hq26 : I26 = I ∧ L26 = L ∧ ((x26.toInt = 1 ∧ (0 : Int) ≤ w.toInt ∧ w.toInt ≤ (1 : Int) ∨ x26.toInt = 0 ∧ (w.toInt < (0 : Int) ∨ (1 : Int) < w.toInt))) := hq26
        obtain ⟨eI26, eL26, c26_2⟩ := hq26
        replace eI26 := eI26.symm
        subst eI26
        replace eL26 := eL26.symm
        subst eL26
        apply And.intro
        · intro h29
          have h29 : ¬ x26.toInt = 0 := h29
          have cn43_least : (Int32.ofInt (-1)).toInt = -1 := rfl
          exact ⟨Int32.ofInt 0, Int32.ofInt (-1), Int32.ofInt 0, (by intro q9 h9; simp only [List.mem_cons, List.not_mem_nil, or_false] at h9; rcases h9 with h9 | h9 | h9 | h9 | h9 | h9 | h9 <;> subst h9 <;> repeat (first | exact List.mem_cons_self | apply List.mem_cons_of_mem)), rfl, rfl, hR, hF0, hO0, hmL, hmK, hmW, (show 0 ≤ p.toInt from by first | assumption | omega), (show p.toInt < (I 0 30).toInt from by first | assumption | omega), (show 0 ≤ n.toInt from by first | assumption | omega), (show n.toInt ≤ 2 from by first | assumption | omega), (show 0 ≤ (0 : Int) from by first | assumption | omega), (show (0 : Int) ≤ 1055 from by first | assumption | omega), (show (1055 - (0 : Int)) < 1056 from by omega)⟩
        · intro h29
          have h29 : x26.toInt = 0 := h29
          exact ⟨hR, hmL, hmK, hmW, hO0, hF0, rfl⟩
def tX12_span : List (Instr × Nat) := [(.iload_n 1, 1), (.iconst 0, 1), (.iload_n 2, 1), (.invokestatic 366, 3), (.ifCond .eq 36, 3), (.iload_n 2, 1), (.iconst 0, 1), (.aload_n 0, 1), (.getfield 309, 3), (.iconst 1, 1), (.isub, 1), (.invokestatic 366, 3), (.ifCond .eq 22, 3), (.iload_n 3, 1), (.iconst 0, 1), (.aload_n 0, 1), (.getfield 36, 3), (.aload_n 0, 1), (.getfield 300, 3), (.iaload, 1), (.iconst 1, 1), (.isub, 1), (.invokestatic 366, 3), (.ifCond .ne 5, 3), (.iconst (-1), 1), (.ireturn, 1), (.aload_n 0, 1), (.iload_n 2, 1), (.iload_n 1, 1), (.isub, 1), (.iconst 1, 1), (.iadd, 1), (.putfield 407, 3), (.aload_n 0, 1), (.sipush 520, 3), (.iload_n 3, 1), (.iadd, 1), (.putfield 416, 3), (.iconst 0, 1), (.istore 4, 2), (.iload 4, 2), (.aload_n 0, 1), (.getfield 407, 3), (.if_icmp .ge 24, 3), (.aload_n 0, 1), (.iload 4, 2), (.aload_n 0, 1), (.getfield 71, 3), (.iload_n 1, 1), (.iload 4, 2), (.iadd, 1), (.iaload, 1), (.invokevirtual 419, 3), (.iinc 4 1, 3), (.goto (-27), 3), (.aload_n 0, 1), (.invokevirtual 494, 3), (.ifCond .eq 7, 3), (.iconst 1, 1), (.goto 4, 3), (.iconst 0, 1), (.ireturn, 1)]
theorem tX12_span_ok : f_chk cX12_span 0 tX12_span = true := by decide +kernel
def pX12_span (av : List Value) (I : fM) (L : fN) : Prop := match av with
  | [.ref 0, .int f, .int t, .int kd] => mR I ∧ mL I ∧ mK I ∧ mW I
  | _ => False
def qX12_span (av : List Value) (I : fM) (L : fN) (r : Value) (I' : fM) (L' : fN) : Prop := match av, r with
  | [.ref 0, .int f, .int t, .int kd], .int x => mR I' ∧ mL I' ∧ mK I' ∧ mW I' ∧ f_fo [45, 46, 47, 48, 53, 54, 55, 59] I I' ∧ f_fr [0, 21, 22, 23, 24, 25, 26, 27, 28, 29, 30, 31, 32, 33, 34, 35, 36, 37, 38, 39, 40, 41, 42, 43, 44] I I' ∧ L' = L
  | _, _ => False
set_option maxHeartbeats 40000000 in
set_option maxRecDepth 100000 in
theorem mX12_span {l : Launch} {a : Nat → Nat} {cy dC : Nat → ClassId} {dI : Nat → Nat → Nat} (hinj : ∀ i j, i < 71 → j < 71 → a i = a j → i = j) : f_Met (fun _ => True) l mY 71 a cy dC dI yX12_span cX12_span 5 1 4 pX12_span qX12_span := by
  refine f_met_of (f_Ec_T 71 a) hinj mY_hi (by decide) (fun av I L h => by unfold pX12_span at h; split at h <;> first | exact Nat.le_of_ble_eq_true rfl | exact h.elim) ?_
  intro pP eP sP mP aP bP hP9 cP C av I L hp
  unfold pX12_span at hp
  split at hp
  case h_2 => exact hp.elim
  case h_1 f t kd =>
    obtain ⟨hR, hmL, hmK, hmW⟩ := hp
    have hr : 0 ≤ (I 0 30).toInt ∧ (I 0 30).toInt ≤ 8 := hR 0 30
    have hk : (I 8 (I 0 24).toInt.toNat).toInt ≤ 5 ∧ 0 ≤ (I 8 (I 0 24).toInt.toNat).toInt := ⟨(hR 8 _).2, (hR 8 _).1⟩
    have hN := numK_le (k := (I 8 (I 0 24).toInt.toNat).toInt) ⟨hk.2, hk.1⟩
    have hF0 : f_fr [0, 21, 22, 23, 24, 25, 26, 27, 28, 29, 30, 31, 32, 33, 34, 35, 36, 37, 38, 39, 40, 41, 42, 43, 44] I I := f_fr_rf
    have hO0 : f_fo [45, 46, 47, 48, 53, 54, 55, 59] I I := f_fo_rf
    have lp65 : ∀ (n65 : Nat), ∀ (i : Int32) (J65 : fM), mR J65 ∧ f_fr [0, 21, 22, 23, 24, 25, 26, 27, 28, 29, 30, 31, 32, 33, 34, 35, 36, 37, 38, 39, 40, 41, 42, 43, 44] I J65 ∧ f_fo [45, 46, 47, 48, 53, 54, 55, 59] I J65 ∧ mL J65 ∧ mK J65 ∧ mW J65 ∧ (0 ≤ f.toInt) ∧ (f.toInt ≤ t.toInt) ∧ (t.toInt < (I 0 30).toInt) ∧ (0 ≤ kd.toInt) ∧ (kd.toInt < (I 8 (I 0 24).toInt.toNat).toInt) ∧ (0 ≤ i.toInt) ∧ (i.toInt ≤ t.toInt - f.toInt + 1) ∧ ((J65 0 53).toInt = t.toInt - f.toInt + 1) ∧ ((J65 0 54).toInt = 520 + kd.toInt) ∧ ((∀ j : Nat, (j : Int) < i.toInt → oK J65 j)) ∧ (9 - i.toInt) < n65 → f_W pP l eP (f_rm 4) sP mP aP bP hP9 cP mY 71 a cy dC dI 5 (f_K 1 (qX12_span [.ref 0, .int f, .int t, .int kd] I L)) 65 [(4, .int i), (3, .int kd), (2, .int t), (1, .int f), (0, .ref 0)] [] J65 L := by
      intro n65
      induction n65 with
      | zero =>
        intro i J65 h9
        obtain ⟨hR65c, hF65c, hO65c, hmL65c, hmK65c, hmW65c, u65_1, u65_2, u65_3, u65_4, u65_5, u65_6, u65_7, u65_8, u65_9, u65_10, hm65⟩ := h9
        omega
      | succ n65 ih65 =>
        intro i J65 h9
        obtain ⟨hR65c, hF65c, hO65c, hmL65c, hmK65c, hmW65c, u65_1, u65_2, u65_3, u65_4, u65_5, u65_6, u65_7, u65_8, u65_9, u65_10, hm65⟩ := h9
        have e65 : (J65 0 30).toInt = (I 0 30).toInt := congrArg Int32.toInt (hO65c 30 rfl)
        refine f_wp_ok C f_cl flX12_ok fiX12_ok fjX12_ok (sn := none) (fun j h => by cases h) (cs := (f_cnl [(419, (3, 0, 11, pX12_layWord, qX12_layWord)), (494, (1, 3, 11, pX12_isSentence, qX12_isSentence))])) (cz := (f_cnl [(366, (3, 3, 11, pX12_isIn, qX12_isIn))])) (f_cnl_of (P := fun j S => f_cok pP l eP (f_rm 4) sP mP aP bP hP9 cP mY 71 a cy dC dI 5 _ _ (.invokevirtual j) true S) (List.forall_mem_cons.mpr ⟨f_cokV C (mX12_layWord hinj) (ci := 11) rfl (List.forall_mem_cons.mpr ⟨(mlX12_ok _ (List.mem_of_getElem? (i := 37) rfl)), kc_X12_layWord⟩) (by decide +kernel) ⟨Nat.le_of_ble_eq_true rfl, Nat.le_of_ble_eq_true rfl⟩, List.forall_mem_cons.mpr ⟨f_cokV C (mX12_isSentence hinj) (ci := 11) rfl (List.forall_mem_cons.mpr ⟨(mlX12_ok _ (List.mem_of_getElem? (i := 57) rfl)), kc_X12_isSentence⟩) (by decide +kernel) ⟨Nat.le_of_ble_eq_true rfl, Nat.le_of_ble_eq_true rfl⟩, fun _ h => absurd h List.not_mem_nil⟩⟩)) (f_cnl_of (P := fun j S => f_cok pP l eP (f_rm 4) sP mP aP bP hP9 cP mY 71 a cy dC dI 5 _ _ (.invokestatic j) false S) (List.forall_mem_cons.mpr ⟨f_cokS C (mX12_isIn hinj) (List.forall_mem_cons.mpr ⟨(mlX12_ok _ (List.mem_of_getElem? (i := 27) rfl)), kc_X12_isIn⟩) (by decide +kernel) ⟨Nat.le_of_ble_eq_true rfl, Nat.le_of_ble_eq_true rfl⟩, fun _ h => absurd h List.not_mem_nil⟩)) tX12_span_ok (cut := (f_cnl [(65, (fun (ls' : fLs) (st' : List Value) (I' : fM) (L' : fN) => ∃ i : Int32, (∀ q ∈ ([(4, .int i), (3, .int kd), (2, .int t), (1, .int f), (0, .ref 0)] : fLs), q ∈ ls') ∧ st' = [] ∧ L' = L ∧ (mR I' ∧ f_fr [0, 21, 22, 23, 24, 25, 26, 27, 28, 29, 30, 31, 32, 33, 34, 35, 36, 37, 38, 39, 40, 41, 42, 43, 44] I I' ∧ f_fo [45, 46, 47, 48, 53, 54, 55, 59] I I' ∧ mL I' ∧ mK I' ∧ mW I' ∧ (0 ≤ f.toInt) ∧ (f.toInt ≤ t.toInt) ∧ (t.toInt < (I 0 30).toInt) ∧ (0 ≤ kd.toInt) ∧ (kd.toInt < (I 8 (I 0 24).toInt.toNat).toInt) ∧ (0 ≤ i.toInt) ∧ (i.toInt ≤ t.toInt - f.toInt + 1) ∧ ((I' 0 53).toInt = t.toInt - f.toInt + 1) ∧ ((I' 0 54).toInt = 520 + kd.toInt) ∧ ((∀ j : Nat, (j : Int) < i.toInt → oK I' j)) ∧ (9 - i.toInt) < n65)))])) (f_cnl_of (P := fun (tQ : Nat) (P : fLs → List Value → fM → fN → Prop) => ∀ ls' st' I' L', P ls' st' I' L' → f_W pP l eP (f_rm 4) sP mP aP bP hP9 cP mY 71 a cy dC dI 5 (f_K 1 (qX12_span [.ref 0, .int f, .int t, .int kd] I L)) tQ ls' st' I' L') (List.forall_mem_cons.mpr ⟨(fun ls' st' I' L' h => by obtain ⟨i, hs, e1, e3, h9⟩ := h; rw [e1, e3]; exact f_W_sub hs (ih65 i I' h9)), fun _ h => absurd h List.not_mem_nil⟩)) 18 65 (f_seek 65 0 tX12_span) (f_seek_ok 65 0 tX12_span tX12_span_ok) _ _ _ _ ?_
        have r68_1 : 0 ≤ (J65 0 53).toInt ∧ (J65 0 53).toInt ≤ 10 := hR65c 0 53
        apply And.intro
        · intro h71
          have h71 : (J65 0 53).toInt ≤ i.toInt := h71
          refine And.intro ⟨hR65c, hmL65c, hmK65c, ⟨fun j hj => u65_10 j (by omega), Or.inr (Or.inr ⟨by omega, by rw [hO65c 24 rfl, hF65c 8 rfl]; omega⟩)⟩⟩ ?_
          intro x96 I96 L96 hq96
          have hq96 : mR I96 ∧ mL I96 ∧ mK I96 ∧ mO I96 ∧ f_fo [45, 46, 47, 48, 55, 59] J65 I96 ∧ f_fr [0, 21, 22, 23, 24, 25, 26, 27, 28, 29, 30, 31, 32, 33, 34, 37, 38, 39, 40, 41, 42, 43, 44] J65 I96 ∧ L96 = L ∧ ((x96.toInt = 0 ∨ x96.toInt = 1)) := hq96
          obtain ⟨c96_0, c96_1, c96_2, c96_3, c96_4, c96_5, eL96, c96_7⟩ := hq96
          replace eL96 := eL96.symm
          subst eL96
          have hO96 := f_fo_tr hO65c c96_4 rfl
          have hmW96 := f_depo_fo mW_dep hmW65c c96_5 c96_4 rfl rfl
          have hF96 := f_fr_tr hF65c c96_5 rfl
          apply And.intro
          · intro h99
            have h99 : x96.toInt = 0 := h99
            exact ⟨c96_0, c96_1, c96_2, hmW96, hO96, hF96, rfl⟩
          · intro h99
            have h99 : ¬ x96.toInt = 0 := h99
            exact ⟨c96_0, c96_1, c96_2, hmW96, hO96, hF96, rfl⟩
        · intro h71
          have h71 : i.toInt < (J65 0 53).toInt := h71
          intro z84 q84 _ hq84 hl84 hu84
          have hq84 : z84.toInt = f.toInt + i.toInt + 4294967296 * q84 := hq84
          try have hz84 : z84.toInt = f.toInt + i.toInt := by omega
          refine And.intro (show f_in z84 8 from ⟨show 0 ≤ z84.toInt from by omega, show z84.toInt < 8 from by omega⟩) ?_
          have r85_2 : 0 ≤ (J65 19 (z84.toInt.toNat)).toInt ∧ (J65 19 (z84.toInt.toNat)).toInt ≤ 11 := hR65c 19 (z84.toInt.toNat)
          have e85_3 : (J65 19 (z84.toInt.toNat)).toInt = (I 19 (z84.toInt.toNat)).toInt := congrArg Int32.toInt (congrFun (hF65c 19 rfl) (z84.toInt.toNat))
          have w86 : (J65 19 z84.toInt.toNat).toInt < (J65 9 (J65 0 24).toInt.toNat).toInt := hmW65c.1 z84.toInt.toNat (by omega)
          have r86_4 : 0 ≤ (J65 9 ((J65 0 24).toInt.toNat)).toInt ∧ (J65 9 ((J65 0 24).toInt.toNat)).toInt ≤ 12 := hR65c 9 ((J65 0 24).toInt.toNat)
          have e86_5 : (J65 9 ((J65 0 24).toInt.toNat)).toInt = (J65 9 ((I 0 24).toInt.toNat)).toInt := by rw [(hO65c 24 rfl)]
          have e86_6 : (J65 9 ((I 0 24).toInt.toNat)).toInt = (I 9 ((I 0 24).toInt.toNat)).toInt := congrArg Int32.toInt (congrFun (hF65c 9 rfl) ((I 0 24).toInt.toNat))
          have r86_7 : 0 ≤ (J65 0 24).toInt ∧ (J65 0 24).toInt ≤ 1 := hR65c 0 24
          have e86_8 : (J65 0 24).toInt = (I 0 24).toInt := congrArg Int32.toInt (hO65c 24 rfl)
          refine And.intro ⟨hR65c, hmL65c, (show 0 ≤ i.toInt from by first | assumption | omega), (show i.toInt ≤ 9 from by first | assumption | omega), (show 0 ≤ (J65 19 (z84.toInt.toNat)).toInt from by first | assumption | omega), (show (J65 19 (z84.toInt.toNat)).toInt < (J65 9 (J65 0 24).toInt.toNat).toInt from by first | assumption | omega)⟩ ?_
          intro I86 L86 hq86
          have hq86 : mR I86 ∧ f_fr [35, 36] J65 I86 ∧ L86 = L ∧ oK I86 i.toInt.toNat ∧ ((∀ j : Nat, ¬ j = i.toInt.toNat → oK J65 j → oK I86 j)) := hq86
          obtain ⟨c86_0, c86_1, eL86, c86_3, c86_4⟩ := hq86
          replace eL86 := eL86.symm
          subst eL86
          have hO86 := f_fo_fr hO65c c86_1 rfl
          have hmL86 := f_depo_fr mL_dep hmL65c c86_1 rfl rfl
          have hmK86 := f_depo_fr mK_dep hmK65c c86_1 rfl rfl
          have hmW86 := f_depo_fr mW_dep hmW65c c86_1 rfl rfl
          have hF86 := f_fr_tr hF65c c86_1 rfl
          intro z89 q89 _ hq89 hl89 hu89
          have hq89 : z89.toInt = i.toInt + 1 + 4294967296 * q89 := hq89
          try have hz89 : z89.toInt = i.toInt + 1 := by omega
          have q89 : ∀ j : Nat, (j : Int) < z89.toInt → oK I86 j := fun j hj => by
            by_cases q : j = i.toInt.toNat
            · rw [q]; exact c86_3
            · exact c86_4 j q (u65_10 j (by omega))
          have r65_9 : 0 ≤ (I86 0 53).toInt ∧ (I86 0 53).toInt ≤ 10 := c86_0 0 53
          have e65_10 : (I86 0 53).toInt = (J65 0 53).toInt := congrArg Int32.toInt (congrFun (c86_1 0 rfl) 53)
          have r65_11 : -1 ≤ (I86 0 54).toInt ∧ (I86 0 54).toInt ≤ 1599 := c86_0 0 54
          have e65_12 : (I86 0 54).toInt = (J65 0 54).toInt := congrArg Int32.toInt (congrFun (c86_1 0 rfl) 54)
          exact ⟨z89, (by intro q9 h9; simp only [List.mem_cons, List.not_mem_nil, or_false] at h9; rcases h9 with h9 | h9 | h9 | h9 | h9 <;> subst h9 <;> repeat (first | exact List.mem_cons_self | apply List.mem_cons_of_mem)), rfl, rfl, c86_0, hF86, hO86, hmL86, hmK86, hmW86, (show 0 ≤ f.toInt from by first | assumption | omega), (show f.toInt ≤ t.toInt from by first | assumption | omega), (show t.toInt < (I 0 30).toInt from by first | assumption | omega), (show 0 ≤ kd.toInt from by first | assumption | omega), (show kd.toInt < (I 8 (I 0 24).toInt.toNat).toInt from by first | assumption | omega), (show 0 ≤ z89.toInt from by first | assumption | omega), (show z89.toInt ≤ t.toInt - f.toInt + 1 from by first | assumption | omega), (show (I86 0 53).toInt = t.toInt - f.toInt + 1 from by first | assumption | omega | rfl), (show (I86 0 54).toInt = 520 + kd.toInt from by first | assumption | omega | rfl), (show (∀ j : Nat, (j : Int) < z89.toInt → oK I86 j) from by first | assumption | omega | exact fun _ _ => rfl | exact fun _ _ => ⟨rfl, rfl⟩ | exact fun _ _ => ⟨rfl, rfl, rfl⟩ | (intro j9 hj9; omega)), (show (9 - z89.toInt) < n65 from by omega)⟩
    refine f_wp_ok C f_cl flX12_ok fiX12_ok fjX12_ok (sn := none) (fun j h => by cases h) (cs := (f_cnl [(419, (3, 0, 11, pX12_layWord, qX12_layWord)), (494, (1, 3, 11, pX12_isSentence, qX12_isSentence))])) (cz := (f_cnl [(366, (3, 3, 11, pX12_isIn, qX12_isIn))])) (f_cnl_of (P := fun j S => f_cok pP l eP (f_rm 4) sP mP aP bP hP9 cP mY 71 a cy dC dI 5 _ _ (.invokevirtual j) true S) (List.forall_mem_cons.mpr ⟨f_cokV C (mX12_layWord hinj) (ci := 11) rfl (List.forall_mem_cons.mpr ⟨(mlX12_ok _ (List.mem_of_getElem? (i := 37) rfl)), kc_X12_layWord⟩) (by decide +kernel) ⟨Nat.le_of_ble_eq_true rfl, Nat.le_of_ble_eq_true rfl⟩, List.forall_mem_cons.mpr ⟨f_cokV C (mX12_isSentence hinj) (ci := 11) rfl (List.forall_mem_cons.mpr ⟨(mlX12_ok _ (List.mem_of_getElem? (i := 57) rfl)), kc_X12_isSentence⟩) (by decide +kernel) ⟨Nat.le_of_ble_eq_true rfl, Nat.le_of_ble_eq_true rfl⟩, fun _ h => absurd h List.not_mem_nil⟩⟩)) (f_cnl_of (P := fun j S => f_cok pP l eP (f_rm 4) sP mP aP bP hP9 cP mY 71 a cy dC dI 5 _ _ (.invokestatic j) false S) (List.forall_mem_cons.mpr ⟨f_cokS C (mX12_isIn hinj) (List.forall_mem_cons.mpr ⟨(mlX12_ok _ (List.mem_of_getElem? (i := 27) rfl)), kc_X12_isIn⟩) (by decide +kernel) ⟨Nat.le_of_ble_eq_true rfl, Nat.le_of_ble_eq_true rfl⟩, fun _ h => absurd h List.not_mem_nil⟩)) tX12_span_ok (cut := (f_cnl [(65, (fun (ls' : fLs) (st' : List Value) (I' : fM) (L' : fN) => ∃ i : Int32, (∀ q ∈ ([(4, .int i), (3, .int kd), (2, .int t), (1, .int f), (0, .ref 0)] : fLs), q ∈ ls') ∧ st' = [] ∧ L' = L ∧ (mR I' ∧ f_fr [0, 21, 22, 23, 24, 25, 26, 27, 28, 29, 30, 31, 32, 33, 34, 35, 36, 37, 38, 39, 40, 41, 42, 43, 44] I I' ∧ f_fo [45, 46, 47, 48, 53, 54, 55, 59] I I' ∧ mL I' ∧ mK I' ∧ mW I' ∧ (0 ≤ f.toInt) ∧ (f.toInt ≤ t.toInt) ∧ (t.toInt < (I 0 30).toInt) ∧ (0 ≤ kd.toInt) ∧ (kd.toInt < (I 8 (I 0 24).toInt.toNat).toInt) ∧ (0 ≤ i.toInt) ∧ (i.toInt ≤ t.toInt - f.toInt + 1) ∧ ((I' 0 53).toInt = t.toInt - f.toInt + 1) ∧ ((I' 0 54).toInt = 520 + kd.toInt) ∧ ((∀ j : Nat, (j : Int) < i.toInt → oK I' j)) ∧ (9 - i.toInt) < 10)))])) (f_cnl_of (P := fun (tQ : Nat) (P : fLs → List Value → fM → fN → Prop) => ∀ ls' st' I' L', P ls' st' I' L' → f_W pP l eP (f_rm 4) sP mP aP bP hP9 cP mY 71 a cy dC dI 5 (f_K 1 (qX12_span [.ref 0, .int f, .int t, .int kd] I L)) tQ ls' st' I' L') (List.forall_mem_cons.mpr ⟨(fun ls' st' I' L' h => by obtain ⟨i, hs, e1, e3, h9⟩ := h; rw [e1, e3]; exact f_W_sub hs (lp65 10 i I' h9)), fun _ h => absurd h List.not_mem_nil⟩)) 41 0 tX12_span tX12_span_ok _ _ _ _ ?_
    refine And.intro trivial ?_
    intro x3 I3 L3 hq3
    have hq3 : I3 = I ∧ L3 = L ∧ ((x3.toInt = 1 ∧ (0 : Int) ≤ f.toInt ∧ f.toInt ≤ t.toInt ∨ x3.toInt = 0 ∧ (f.toInt < (0 : Int) ∨ t.toInt < f.toInt))) := hq3
    obtain ⟨eI3, eL3, c3_2⟩ := hq3
    replace eI3 := eI3.symm
    subst eI3
    replace eL3 := eL3.symm
    subst eL3
    apply And.intro
    · intro h6
      have h6 : x3.toInt = 0 := h6
      exact ⟨hR, hmL, hmK, hmW, hO0, hF0, rfl⟩
    · intro h6
      have h6 : ¬ x3.toInt = 0 := h6
      have r12_1 : 0 ≤ (I 0 30).toInt ∧ (I 0 30).toInt ≤ 8 := hR 0 30
      intro z16 q16 _ hq16 hl16 hu16
      have hq16 : z16.toInt = (I 0 30).toInt - 1 + 4294967296 * q16 := hq16
      try have hz16 : z16.toInt = (I 0 30).toInt - 1 := by omega
      refine And.intro trivial ?_
      intro x17 I17 L17 hq17
      have hq17 : I17 = I ∧ L17 = L ∧ ((x17.toInt = 1 ∧ (0 : Int) ≤ t.toInt ∧ t.toInt ≤ z16.toInt ∨ x17.toInt = 0 ∧ (t.toInt < (0 : Int) ∨ z16.toInt < t.toInt))) := hq17
      obtain ⟨eI17, eL17, c17_2⟩ := hq17
      replace eI17 := eI17.symm
      subst eI17
      replace eL17 := eL17.symm
      subst eL17
      apply And.intro
      · intro h20
        have h20 : x17.toInt = 0 := h20
        exact ⟨hR, hmL, hmK, hmW, hO0, hF0, rfl⟩
      · intro h20
        have h20 : ¬ x17.toInt = 0 := h20
        have r30_2 : 0 ≤ (I 0 24).toInt ∧ (I 0 24).toInt ≤ 1 := hR 0 24
        refine And.intro (show f_in (I 0 24) 2 from ⟨show 0 ≤ (I 0 24).toInt from by omega, show (I 0 24).toInt < 2 from by omega⟩) ?_
        have r33_3 : 0 ≤ (I 8 ((I 0 24).toInt.toNat)).toInt ∧ (I 8 ((I 0 24).toInt.toNat)).toInt ≤ 5 := hR 8 ((I 0 24).toInt.toNat)
        intro z35 q35 _ hq35 hl35 hu35
        have hq35 : z35.toInt = (I 8 ((I 0 24).toInt.toNat)).toInt - 1 + 4294967296 * q35 := hq35
        try have hz35 : z35.toInt = (I 8 ((I 0 24).toInt.toNat)).toInt - 1 := by omega
        refine And.intro trivial ?_
        intro x36 I36 L36 hq36
        have hq36 : I36 = I ∧ L36 = L ∧ ((x36.toInt = 1 ∧ (0 : Int) ≤ kd.toInt ∧ kd.toInt ≤ z35.toInt ∨ x36.toInt = 0 ∧ (kd.toInt < (0 : Int) ∨ z35.toInt < kd.toInt))) := hq36
        obtain ⟨eI36, eL36, c36_2⟩ := hq36
        replace eI36 := eI36.symm
        subst eI36
        replace eL36 := eL36.symm
        subst eL36
        apply And.intro
        · intro h39
          have h39 : ¬ x36.toInt = 0 := h39
          intro z47 q47 _ hq47 hl47 hu47
          have hq47 : z47.toInt = t.toInt - f.toInt + 4294967296 * q47 := hq47
          try have hz47 : z47.toInt = t.toInt - f.toInt := by omega
          intro z49 q49 _ hq49 hl49 hu49
          have hq49 : z49.toInt = z47.toInt + 1 + 4294967296 * q49 := hq49
          try have hz49 : z49.toInt = z47.toInt + 1 := by omega
          have hR50 := mR_f (k := 0) (j := 53) (x := z49) hR (show 0 ≤ z49.toInt ∧ z49.toInt ≤ 10 from ⟨by omega, by omega⟩)
          have hF50 := f_fr_up (k := 0) (r := va_up (I 0) 53 z49) hF0 rfl
          have hO50 := f_fo_up (j := 53) (x := z49) hO0 rfl
          have hmL50 := f_depo_up0 mL_dep (j := 53) (x := z49) hmL rfl rfl
          have hmK50 := f_depo_up0 mK_dep (j := 53) (x := z49) hmK rfl rfl
          have hmW50 := f_depo_up0 mW_dep (j := 53) (x := z49) hmW rfl rfl
          intro z58 q58 _ hq58 hl58 hu58
          have hq58 : z58.toInt = 520 + kd.toInt + 4294967296 * q58 := hq58
          try have hz58 : z58.toInt = 520 + kd.toInt := by omega
          have hR59 := mR_f (k := 0) (j := 54) (x := z58) hR50 (show -1 ≤ z58.toInt ∧ z58.toInt ≤ 1599 from ⟨by omega, by omega⟩)
          have hF59 := f_fr_up (k := 0) (r := va_up (va_up (I 0) 53 z49) 54 z58) hF50 rfl
          have hO59 := f_fo_up (j := 54) (x := z58) hO50 rfl
          have hmL59 := f_depo_up0 mL_dep (j := 54) (x := z58) hmL50 rfl rfl
          have hmK59 := f_depo_up0 mK_dep (j := 54) (x := z58) hmK50 rfl rfl
          have hmW59 := f_depo_up0 mW_dep (j := 54) (x := z58) hmW50 rfl rfl
          exact ⟨Int32.ofInt 0, (by intro q9 h9; simp only [List.mem_cons, List.not_mem_nil, or_false] at h9; rcases h9 with h9 | h9 | h9 | h9 | h9 <;> subst h9 <;> repeat (first | exact List.mem_cons_self | apply List.mem_cons_of_mem)), rfl, rfl, hR59, hF59, hO59, hmL59, hmK59, hmW59, (show 0 ≤ f.toInt from by first | assumption | omega), (show f.toInt ≤ t.toInt from by first | assumption | omega), (show t.toInt < (I 0 30).toInt from by first | assumption | omega), (show 0 ≤ kd.toInt from by first | assumption | omega), (show kd.toInt < (I 8 (I 0 24).toInt.toNat).toInt from by first | assumption | omega), (show 0 ≤ (0 : Int) from by first | assumption | omega), (show (0 : Int) ≤ t.toInt - f.toInt + 1 from by first | assumption | omega), (show z49.toInt = t.toInt - f.toInt + 1 from by first | assumption | omega | rfl), (show z58.toInt = 520 + kd.toInt from by first | assumption | omega | rfl), (show (∀ j : Nat, (j : Int) < (0 : Int) → oK (va_up (va_up I 0 (va_up (I 0) 53 z49)) 0 (va_up (va_up (I 0) 53 z49) 54 z58)) j) from by first | assumption | omega | exact fun _ _ => rfl | exact fun _ _ => ⟨rfl, rfl⟩ | exact fun _ _ => ⟨rfl, rfl, rfl⟩ | (intro j9 hj9; omega)), (show (9 - (0 : Int)) < 10 from by omega)⟩
        · intro h39
          have h39 : x36.toInt = 0 := h39
          exact ⟨hR, hmL, hmK, hmW, hO0, hF0, rfl⟩
def tX12_inPlace : List (Instr × Nat) := [(.iload_n 1, 1), (.iconst 0, 1), (.aload_n 0, 1), (.getfield 309, 3), (.iconst 1, 1), (.isub, 1), (.invokestatic 366, 3), (.ifCond .ne 5, 3), (.iconst (-1), 1), (.ireturn, 1), (.iconst 0, 1), (.istore_n 2, 1), (.iconst 0, 1), (.istore_n 3, 1), (.iload_n 3, 1), (.aload_n 0, 1), (.getfield 39, 3), (.aload_n 0, 1), (.getfield 300, 3), (.iaload, 1), (.if_icmp .ge 36, 3), (.aload_n 0, 1), (.invokevirtual 466, 3), (.aload_n 0, 1), (.iload_n 1, 1), (.iload_n 3, 1), (.invokevirtual 419, 3), (.iload_n 2, 1), (.aload_n 0, 1), (.invokevirtual 494, 3), (.ifCond .eq 9, 3), (.iconst 1, 1), (.iload_n 3, 1), (.ishl, 1), (.goto 4, 3), (.iconst 0, 1), (.ior, 1), (.istore_n 2, 1), (.iinc 3 1, 3), (.goto (-43), 3), (.iload_n 2, 1), (.ireturn, 1)]
theorem tX12_inPlace_ok : f_chk cX12_inPlace 0 tX12_inPlace = true := by decide +kernel
def pX12_inPlace (av : List Value) (I : fM) (L : fN) : Prop := match av with
  | [.ref 0, .int p] => mR I ∧ mL I ∧ mK I ∧ mW I
  | _ => False
def qX12_inPlace (av : List Value) (I : fM) (L : fN) (r : Value) (I' : fM) (L' : fN) : Prop := match av, r with
  | [.ref 0, .int p], .int x => mR I' ∧ mL I' ∧ mK I' ∧ mW I' ∧ f_fo [45, 46, 47, 48, 53, 54, 55, 59] I I' ∧ f_fr [0, 21, 22, 23, 24, 25, 26, 27, 28, 29, 30, 31, 32, 33, 34, 35, 36, 37, 38, 39, 40, 41, 42, 43, 44] I I' ∧ L' = L
  | _, _ => False
set_option maxHeartbeats 40000000 in
set_option maxRecDepth 100000 in
theorem mX12_inPlace {l : Launch} {a : Nat → Nat} {cy dC : Nat → ClassId} {dI : Nat → Nat → Nat} (hinj : ∀ i j, i < 71 → j < 71 → a i = a j → i = j) : f_Met (fun _ => True) l mY 71 a cy dC dI yX12_inPlace cX12_inPlace 4 1 4 pX12_inPlace qX12_inPlace := by
  refine f_met_of (f_Ec_T 71 a) hinj mY_hi (by decide) (fun av I L h => by unfold pX12_inPlace at h; split at h <;> first | exact Nat.le_of_ble_eq_true rfl | exact h.elim) ?_
  intro pP eP sP mP aP bP hP9 cP C av I L hp
  unfold pX12_inPlace at hp
  split at hp
  case h_2 => exact hp.elim
  case h_1 p =>
    obtain ⟨hR, hmL, hmK, hmW⟩ := hp
    have hr : 0 ≤ (I 0 30).toInt ∧ (I 0 30).toInt ≤ 8 := hR 0 30
    have hw : (I 9 (I 0 24).toInt.toNat).toInt ≤ 12 := (hR 9 _).2
    have hF0 : f_fr [0, 21, 22, 23, 24, 25, 26, 27, 28, 29, 30, 31, 32, 33, 34, 35, 36, 37, 38, 39, 40, 41, 42, 43, 44] I I := f_fr_rf
    have hO0 : f_fo [45, 46, 47, 48, 53, 54, 55, 59] I I := f_fo_rf
    have lp20 : ∀ (n20 : Nat), ∀ (set : Int32) (w : Int32) (J20 : fM), mR J20 ∧ f_fr [0, 21, 22, 23, 24, 25, 26, 27, 28, 29, 30, 31, 32, 33, 34, 35, 36, 37, 38, 39, 40, 41, 42, 43, 44] I J20 ∧ f_fo [45, 46, 47, 48, 53, 54, 55, 59] I J20 ∧ mL J20 ∧ mK J20 ∧ mW J20 ∧ (0 ≤ p.toInt) ∧ (p.toInt < (I 0 30).toInt) ∧ (0 ≤ w.toInt) ∧ (w.toInt ≤ 12) ∧ (12 - w.toInt) < n20 → f_W pP l eP (f_rm 4) sP mP aP bP hP9 cP mY 71 a cy dC dI 4 (f_K 1 (qX12_inPlace [.ref 0, .int p] I L)) 20 [(3, .int w), (2, .int set), (1, .int p), (0, .ref 0)] [] J20 L := by
      intro n20
      induction n20 with
      | zero =>
        intro set w J20 h9
        obtain ⟨hR20c, hF20c, hO20c, hmL20c, hmK20c, hmW20c, u20_1, u20_2, u20_3, u20_4, hm20⟩ := h9
        omega
      | succ n20 ih20 =>
        intro set w J20 h9
        obtain ⟨hR20c, hF20c, hO20c, hmL20c, hmK20c, hmW20c, u20_1, u20_2, u20_3, u20_4, hm20⟩ := h9
        have e20 : (J20 9 (J20 0 24).toInt.toNat).toInt = (I 9 (I 0 24).toInt.toNat).toInt := by rw [hO20c 24 rfl, hF20c 9 rfl]
        refine f_wp_ok C f_cl flX12_ok fiX12_ok fjX12_ok (sn := none) (fun j h => by cases h) (cs := (f_cnl [(466, (1, 0, 11, pX12_layRow, qX12_layRow)), (419, (3, 0, 11, pX12_layWord, qX12_layWord)), (494, (1, 3, 11, pX12_isSentence, qX12_isSentence))])) (cz := (f_cnl [(366, (3, 3, 11, pX12_isIn, qX12_isIn))])) (f_cnl_of (P := fun j S => f_cok pP l eP (f_rm 4) sP mP aP bP hP9 cP mY 71 a cy dC dI 4 _ _ (.invokevirtual j) true S) (List.forall_mem_cons.mpr ⟨f_cokV C (mX12_layRow hinj) (ci := 11) rfl (List.forall_mem_cons.mpr ⟨(mlX12_ok _ (List.mem_of_getElem? (i := 49) rfl)), kc_X12_layRow⟩) (by decide +kernel) ⟨Nat.le_of_ble_eq_true rfl, Nat.le_of_ble_eq_true rfl⟩, List.forall_mem_cons.mpr ⟨f_cokV C (mX12_layWord hinj) (ci := 11) rfl (List.forall_mem_cons.mpr ⟨(mlX12_ok _ (List.mem_of_getElem? (i := 37) rfl)), kc_X12_layWord⟩) (by decide +kernel) ⟨Nat.le_of_ble_eq_true rfl, Nat.le_of_ble_eq_true rfl⟩, List.forall_mem_cons.mpr ⟨f_cokV C (mX12_isSentence hinj) (ci := 11) rfl (List.forall_mem_cons.mpr ⟨(mlX12_ok _ (List.mem_of_getElem? (i := 57) rfl)), kc_X12_isSentence⟩) (by decide +kernel) ⟨Nat.le_of_ble_eq_true rfl, Nat.le_of_ble_eq_true rfl⟩, fun _ h => absurd h List.not_mem_nil⟩⟩⟩)) (f_cnl_of (P := fun j S => f_cok pP l eP (f_rm 4) sP mP aP bP hP9 cP mY 71 a cy dC dI 4 _ _ (.invokestatic j) false S) (List.forall_mem_cons.mpr ⟨f_cokS C (mX12_isIn hinj) (List.forall_mem_cons.mpr ⟨(mlX12_ok _ (List.mem_of_getElem? (i := 27) rfl)), kc_X12_isIn⟩) (by decide +kernel) ⟨Nat.le_of_ble_eq_true rfl, Nat.le_of_ble_eq_true rfl⟩, fun _ h => absurd h List.not_mem_nil⟩)) tX12_inPlace_ok (cut := (f_cnl [(20, (fun (ls' : fLs) (st' : List Value) (I' : fM) (L' : fN) => ∃ set : Int32, ∃ w : Int32, (∀ q ∈ ([(3, .int w), (2, .int set), (1, .int p), (0, .ref 0)] : fLs), q ∈ ls') ∧ st' = [] ∧ L' = L ∧ (mR I' ∧ f_fr [0, 21, 22, 23, 24, 25, 26, 27, 28, 29, 30, 31, 32, 33, 34, 35, 36, 37, 38, 39, 40, 41, 42, 43, 44] I I' ∧ f_fo [45, 46, 47, 48, 53, 54, 55, 59] I I' ∧ mL I' ∧ mK I' ∧ mW I' ∧ (0 ≤ p.toInt) ∧ (p.toInt < (I 0 30).toInt) ∧ (0 ≤ w.toInt) ∧ (w.toInt ≤ 12) ∧ (12 - w.toInt) < n20)))])) (f_cnl_of (P := fun (tQ : Nat) (P : fLs → List Value → fM → fN → Prop) => ∀ ls' st' I' L', P ls' st' I' L' → f_W pP l eP (f_rm 4) sP mP aP bP hP9 cP mY 71 a cy dC dI 4 (f_K 1 (qX12_inPlace [.ref 0, .int p] I L)) tQ ls' st' I' L') (List.forall_mem_cons.mpr ⟨(fun ls' st' I' L' h => by obtain ⟨set, w, hs, e1, e3, h9⟩ := h; rw [e1, e3]; exact f_W_sub hs (ih20 set w I' h9)), fun _ h => absurd h List.not_mem_nil⟩)) 28 20 (f_seek 20 0 tX12_inPlace) (f_seek_ok 20 0 tX12_inPlace tX12_inPlace_ok) _ _ _ _ ?_
        have r26_1 : 0 ≤ (J20 0 24).toInt ∧ (J20 0 24).toInt ≤ 1 := hR20c 0 24
        have e26_2 : (J20 0 24).toInt = (I 0 24).toInt := congrArg Int32.toInt (hO20c 24 rfl)
        refine And.intro (show f_in (J20 0 24) 2 from ⟨show 0 ≤ (J20 0 24).toInt from by omega, show (J20 0 24).toInt < 2 from by omega⟩) ?_
        have r29_3 : 0 ≤ (J20 9 ((J20 0 24).toInt.toNat)).toInt ∧ (J20 9 ((J20 0 24).toInt.toNat)).toInt ≤ 12 := hR20c 9 ((J20 0 24).toInt.toNat)
        have e29_4 : (J20 9 ((J20 0 24).toInt.toNat)).toInt = (J20 9 ((I 0 24).toInt.toNat)).toInt := by rw [(hO20c 24 rfl)]
        have e29_5 : (J20 9 ((I 0 24).toInt.toNat)).toInt = (I 9 ((I 0 24).toInt.toNat)).toInt := congrArg Int32.toInt (congrFun (hF20c 9 rfl) ((I 0 24).toInt.toNat))
        apply And.intro
        · intro h30
          have h30 : (J20 9 ((J20 0 24).toInt.toNat)).toInt ≤ w.toInt := h30
          exact ⟨hR20c, hmL20c, hmK20c, hmW20c, hO20c, hF20c, rfl⟩
        · intro h30
          have h30 : w.toInt < (J20 9 ((J20 0 24).toInt.toNat)).toInt := h30
          refine And.intro ⟨hR20c, hmL20c, hmW20c⟩ ?_
          intro I34 L34 hq34
          have hq34 : mR I34 ∧ mL I34 ∧ mW I34 ∧ f_fo [53, 54] J20 I34 ∧ f_fr [0, 35, 36] J20 I34 ∧ L34 = L ∧ mO I34 ∧ (I34 0 53).toInt = (J20 0 30).toInt ∧ (I34 0 54).toInt = (J20 10 (J20 0 24).toInt.toNat).toInt := hq34
          obtain ⟨c34_0, c34_1, c34_2, c34_3, c34_4, eL34, c34_6, c34_7, c34_8⟩ := hq34
          replace eL34 := eL34.symm
          subst eL34
          have hO34 := f_fo_tr hO20c c34_3 rfl
          have hmK34 := f_depo_fo mK_dep hmK20c c34_4 c34_3 rfl rfl
          have hF34 := f_fr_tr hF20c c34_4 rfl
          have r34_6 : -1 ≤ (I34 0 54).toInt ∧ (I34 0 54).toInt ≤ 1599 := c34_0 0 54
          have e34_7 : (J20 10 ((J20 0 24).toInt.toNat)).toInt = (J20 10 ((I 0 24).toInt.toNat)).toInt := by rw [(hO20c 24 rfl)]
          have e34_8 : (J20 10 ((I 0 24).toInt.toNat)).toInt = (I 10 ((I 0 24).toInt.toNat)).toInt := congrArg Int32.toInt (congrFun (hF20c 10 rfl) ((I 0 24).toInt.toNat))
          have e34 : (I34 9 (I34 0 24).toInt.toNat).toInt = (I 9 (I 0 24).toInt.toNat).toInt := by rw [c34_3 24 rfl, c34_4 9 rfl]; exact e20
          have r40_9 : 0 ≤ (I34 9 ((I34 0 24).toInt.toNat)).toInt ∧ (I34 9 ((I34 0 24).toInt.toNat)).toInt ≤ 12 := c34_0 9 ((I34 0 24).toInt.toNat)
          have e40_10 : (I34 9 ((I34 0 24).toInt.toNat)).toInt = (I34 9 ((I 0 24).toInt.toNat)).toInt := by rw [(hO34 24 rfl)]
          have e40_11 : (I34 9 ((I 0 24).toInt.toNat)).toInt = (J20 9 ((I 0 24).toInt.toNat)).toInt := congrArg Int32.toInt (congrFun (c34_4 9 rfl) ((I 0 24).toInt.toNat))
          have r40_12 : 0 ≤ (I34 0 24).toInt ∧ (I34 0 24).toInt ≤ 1 := c34_0 0 24
          have e40_13 : (I34 0 24).toInt = (J20 0 24).toInt := congrArg Int32.toInt (c34_3 24 rfl)
          refine And.intro ⟨c34_0, c34_1, (show 0 ≤ p.toInt from by first | assumption | omega), (show p.toInt ≤ 9 from by first | assumption | omega), (show 0 ≤ w.toInt from by first | assumption | omega), (show w.toInt < (I34 9 (I34 0 24).toInt.toNat).toInt from by first | assumption | omega)⟩ ?_
          intro I40 L40 hq40
          have hq40 : mR I40 ∧ f_fr [35, 36] I34 I40 ∧ L40 = L ∧ oK I40 p.toInt.toNat ∧ ((∀ j : Nat, ¬ j = p.toInt.toNat → oK I34 j → oK I40 j)) := hq40
          obtain ⟨c40_0, c40_1, eL40, c40_3, c40_4⟩ := hq40
          replace eL40 := eL40.symm
          subst eL40
          have hO40 := f_fo_fr hO34 c40_1 rfl
          have hmL40 := f_depo_fr mL_dep c34_1 c40_1 rfl rfl
          have hmK40 := f_depo_fr mK_dep hmK34 c40_1 rfl rfl
          have hmW40 := f_depo_fr mW_dep c34_2 c40_1 rfl rfl
          have hF40 := f_fr_tr hF34 c40_1 rfl
          have hmO40 : mO I40 := ⟨fun j hj => by
            have e : (I40 0 53).toInt = (I34 0 53).toInt := congrArg Int32.toInt (congrFun (c40_1 0 rfl) 53)
            by_cases q : j = p.toInt.toNat
            · rw [q]; exact c40_3
            · exact c40_4 j q (c34_6.1 j (by omega)), by
            rw [lvn_eq (I := I34) (congrFun (c40_1 0 rfl) 24) (c40_1 8 rfl) (c40_1 11 rfl), congrFun (c40_1 0 rfl) 54]
            exact c34_6.2⟩
          refine And.intro ⟨c40_0, hmL40, hmK40, hmO40⟩ ?_
          intro x45 I45 L45 hq45
          have hq45 : mR I45 ∧ mL I45 ∧ mK I45 ∧ mO I45 ∧ f_fo [45, 46, 47, 48, 55, 59] I40 I45 ∧ f_fr [0, 21, 22, 23, 24, 25, 26, 27, 28, 29, 30, 31, 32, 33, 34, 37, 38, 39, 40, 41, 42, 43, 44] I40 I45 ∧ L45 = L ∧ ((x45.toInt = 0 ∨ x45.toInt = 1)) := hq45
          obtain ⟨c45_0, c45_1, c45_2, c45_3, c45_4, c45_5, eL45, c45_7⟩ := hq45
          replace eL45 := eL45.symm
          subst eL45
          have hO45 := f_fo_tr hO40 c45_4 rfl
          have hmW45 := f_depo_fo mW_dep hmW40 c45_5 c45_4 rfl rfl
          have hF45 := f_fr_tr hF40 c45_5 rfl
          apply And.intro
          · intro h48
            have h48 : x45.toInt = 0 := h48
            intro z60 q60 _ hq60 hl60 hu60
            have hq60 : z60.toInt = w.toInt + 1 + 4294967296 * q60 := hq60
            try have hz60 : z60.toInt = w.toInt + 1 := by omega
            exact ⟨set ||| (Int32.ofInt 0), z60, (by intro q9 h9; simp only [List.mem_cons, List.not_mem_nil, or_false] at h9; rcases h9 with h9 | h9 | h9 | h9 <;> subst h9 <;> repeat (first | exact List.mem_cons_self | apply List.mem_cons_of_mem)), rfl, rfl, c45_0, hF45, hO45, c45_1, c45_2, hmW45, (show 0 ≤ p.toInt from by first | assumption | omega), (show p.toInt < (I 0 30).toInt from by first | assumption | omega), (show 0 ≤ z60.toInt from by first | assumption | omega), (show z60.toInt ≤ 12 from by first | assumption | omega), (show (12 - z60.toInt) < n20 from by omega)⟩
          · intro h48
            have h48 : ¬ x45.toInt = 0 := h48
            intro z60 q60 _ hq60 hl60 hu60
            have hq60 : z60.toInt = w.toInt + 1 + 4294967296 * q60 := hq60
            try have hz60 : z60.toInt = w.toInt + 1 := by omega
            exact ⟨set ||| ((Int32.ofInt 1) <<< (w &&& 31)), z60, (by intro q9 h9; simp only [List.mem_cons, List.not_mem_nil, or_false] at h9; rcases h9 with h9 | h9 | h9 | h9 <;> subst h9 <;> repeat (first | exact List.mem_cons_self | apply List.mem_cons_of_mem)), rfl, rfl, c45_0, hF45, hO45, c45_1, c45_2, hmW45, (show 0 ≤ p.toInt from by first | assumption | omega), (show p.toInt < (I 0 30).toInt from by first | assumption | omega), (show 0 ≤ z60.toInt from by first | assumption | omega), (show z60.toInt ≤ 12 from by first | assumption | omega), (show (12 - z60.toInt) < n20 from by omega)⟩
    refine f_wp_ok C f_cl flX12_ok fiX12_ok fjX12_ok (sn := none) (fun j h => by cases h) (cs := (f_cnl [(466, (1, 0, 11, pX12_layRow, qX12_layRow)), (419, (3, 0, 11, pX12_layWord, qX12_layWord)), (494, (1, 3, 11, pX12_isSentence, qX12_isSentence))])) (cz := (f_cnl [(366, (3, 3, 11, pX12_isIn, qX12_isIn))])) (f_cnl_of (P := fun j S => f_cok pP l eP (f_rm 4) sP mP aP bP hP9 cP mY 71 a cy dC dI 4 _ _ (.invokevirtual j) true S) (List.forall_mem_cons.mpr ⟨f_cokV C (mX12_layRow hinj) (ci := 11) rfl (List.forall_mem_cons.mpr ⟨(mlX12_ok _ (List.mem_of_getElem? (i := 49) rfl)), kc_X12_layRow⟩) (by decide +kernel) ⟨Nat.le_of_ble_eq_true rfl, Nat.le_of_ble_eq_true rfl⟩, List.forall_mem_cons.mpr ⟨f_cokV C (mX12_layWord hinj) (ci := 11) rfl (List.forall_mem_cons.mpr ⟨(mlX12_ok _ (List.mem_of_getElem? (i := 37) rfl)), kc_X12_layWord⟩) (by decide +kernel) ⟨Nat.le_of_ble_eq_true rfl, Nat.le_of_ble_eq_true rfl⟩, List.forall_mem_cons.mpr ⟨f_cokV C (mX12_isSentence hinj) (ci := 11) rfl (List.forall_mem_cons.mpr ⟨(mlX12_ok _ (List.mem_of_getElem? (i := 57) rfl)), kc_X12_isSentence⟩) (by decide +kernel) ⟨Nat.le_of_ble_eq_true rfl, Nat.le_of_ble_eq_true rfl⟩, fun _ h => absurd h List.not_mem_nil⟩⟩⟩)) (f_cnl_of (P := fun j S => f_cok pP l eP (f_rm 4) sP mP aP bP hP9 cP mY 71 a cy dC dI 4 _ _ (.invokestatic j) false S) (List.forall_mem_cons.mpr ⟨f_cokS C (mX12_isIn hinj) (List.forall_mem_cons.mpr ⟨(mlX12_ok _ (List.mem_of_getElem? (i := 27) rfl)), kc_X12_isIn⟩) (by decide +kernel) ⟨Nat.le_of_ble_eq_true rfl, Nat.le_of_ble_eq_true rfl⟩, fun _ h => absurd h List.not_mem_nil⟩)) tX12_inPlace_ok (cut := (f_cnl [(20, (fun (ls' : fLs) (st' : List Value) (I' : fM) (L' : fN) => ∃ set : Int32, ∃ w : Int32, (∀ q ∈ ([(3, .int w), (2, .int set), (1, .int p), (0, .ref 0)] : fLs), q ∈ ls') ∧ st' = [] ∧ L' = L ∧ (mR I' ∧ f_fr [0, 21, 22, 23, 24, 25, 26, 27, 28, 29, 30, 31, 32, 33, 34, 35, 36, 37, 38, 39, 40, 41, 42, 43, 44] I I' ∧ f_fo [45, 46, 47, 48, 53, 54, 55, 59] I I' ∧ mL I' ∧ mK I' ∧ mW I' ∧ (0 ≤ p.toInt) ∧ (p.toInt < (I 0 30).toInt) ∧ (0 ≤ w.toInt) ∧ (w.toInt ≤ 12) ∧ (12 - w.toInt) < 13)))])) (f_cnl_of (P := fun (tQ : Nat) (P : fLs → List Value → fM → fN → Prop) => ∀ ls' st' I' L', P ls' st' I' L' → f_W pP l eP (f_rm 4) sP mP aP bP hP9 cP mY 71 a cy dC dI 4 (f_K 1 (qX12_inPlace [.ref 0, .int p] I L)) tQ ls' st' I' L') (List.forall_mem_cons.mpr ⟨(fun ls' st' I' L' h => by obtain ⟨set, w, hs, e1, e3, h9⟩ := h; rw [e1, e3]; exact f_W_sub hs (lp20 13 set w I' h9)), fun _ h => absurd h List.not_mem_nil⟩)) 15 0 tX12_inPlace tX12_inPlace_ok _ _ _ _ ?_
    have r3_1 : 0 ≤ (I 0 30).toInt ∧ (I 0 30).toInt ≤ 8 := hR 0 30
    intro z7 q7 _ hq7 hl7 hu7
    have hq7 : z7.toInt = (I 0 30).toInt - 1 + 4294967296 * q7 := hq7
    try have hz7 : z7.toInt = (I 0 30).toInt - 1 := by omega
    refine And.intro trivial ?_
    intro x8 I8 L8 hq8
    have hq8 : I8 = I ∧ L8 = L ∧ ((x8.toInt = 1 ∧ (0 : Int) ≤ p.toInt ∧ p.toInt ≤ z7.toInt ∨ x8.toInt = 0 ∧ (p.toInt < (0 : Int) ∨ z7.toInt < p.toInt))) := hq8
    obtain ⟨eI8, eL8, c8_2⟩ := hq8
    replace eI8 := eI8.symm
    subst eI8
    replace eL8 := eL8.symm
    subst eL8
    apply And.intro
    · intro h11
      have h11 : ¬ x8.toInt = 0 := h11
      exact ⟨Int32.ofInt 0, Int32.ofInt 0, (by intro q9 h9; simp only [List.mem_cons, List.not_mem_nil, or_false] at h9; rcases h9 with h9 | h9 | h9 | h9 <;> subst h9 <;> repeat (first | exact List.mem_cons_self | apply List.mem_cons_of_mem)), rfl, rfl, hR, hF0, hO0, hmL, hmK, hmW, (show 0 ≤ p.toInt from by first | assumption | omega), (show p.toInt < (I 0 30).toInt from by first | assumption | omega), (show 0 ≤ (0 : Int) from by first | assumption | omega), (show (0 : Int) ≤ 12 from by first | assumption | omega), (show (12 - (0 : Int)) < 13 from by omega)⟩
    · intro h11
      have h11 : x8.toInt = 0 := h11
      exact ⟨hR, hmL, hmK, hmW, hO0, hF0, rfl⟩
