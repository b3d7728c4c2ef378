theorem tY_eq {J K : fM} {d d' : Int} (h : tY J d) (e23 : K 23 = J 23) (e33 : K 33 = J 33) (e40 : K 40 = J 40) (e41 : K 41 = J 41) (h45 : K 0 45 = J 0 45) (hd : d' = d) : tY K d' := by
  subst hd
  unfold tY
  rw [e23, e33, e40, e41, h45]
  exact h
theorem tyV_same {J K : fM} (e41 : K 41 = J 41) (h59 : K 0 59 = J 0 59) : tyV K = tyV J := by unfold tyV; rw [e41, h59]
def tX12_isSentence : List (Instr × Nat) := [(.aload_n 0, 1), (.getfield 407, 3), (.ifCond .eq 10, 3), (.aload_n 0, 1), (.getfield 416, 3), (.ifCond .ge 5, 3), (.iconst 0, 1), (.ireturn, 1), (.aload_n 0, 1), (.invokevirtual 436, 3), (.iconst 1, 1), (.istore_n 1, 1), (.iload_n 1, 1), (.ifCond .eq 51, 3), (.aload_n 0, 1), (.invokevirtual 439, 3), (.ifCond .eq 36, 3), (.aload_n 0, 1), (.invokevirtual 442, 3), (.bipush 20, 2), (.if_icmp .gt 27, 3), (.aload_n 0, 1), (.invokevirtual 445, 3), (.aload_n 0, 1), (.invokevirtual 448, 3), (.aload_n 0, 1), (.invokevirtual 451, 3), (.ifCond .eq 12, 3), (.aload_n 0, 1), (.invokevirtual 454, 3), (.ifCond .eq (-11), 3), (.iconst 1, 1), (.ireturn, 1), (.aload_n 0, 1), (.invokevirtual 457, 3), (.istore_n 1, 1), (.goto (-49), 3), (.iconst 0, 1), (.ireturn, 1)]
theorem tX12_isSentence_ok : f_chk cX12_isSentence 0 tX12_isSentence = true := by decide +kernel
def pX12_isSentence (av : List Value) (I : fM) (L : fN) : Prop := match av with
  | [.ref 0] => mR I ∧ mL I ∧ mK I ∧ mO I
  | _ => False
def qX12_isSentence (av : List Value) (I : fM) (L : fN) (r : Value) (I' : fM) (L' : fN) : Prop := match av, r with
  | [.ref 0], .int x => mR I' ∧ mL I' ∧ mK I' ∧ mO I' ∧ f_fo [45, 46, 47, 48, 55, 59] I I' ∧ f_fr [0, 21, 22, 23, 24, 25, 26, 27, 28, 29, 30, 31, 32, 33, 34, 37, 38, 39, 40, 41, 42, 43, 44] I I' ∧ L' = L ∧ (x.toInt = 0 ∨ x.toInt = 1)
  | _, _ => False
set_option maxHeartbeats 40000000 in
set_option maxRecDepth 100000 in
theorem mX12_isSentence {l : Launch} {a : Nat → Nat} {cy dC : Nat → ClassId} {dI : Nat → Nat → Nat} (hinj : ∀ i j, i < 71 → j < 71 → a i = a j → i = j) : f_Met (fun _ => True) l mY 71 a cy dC dI yX12_isSentence cX12_isSentence 2 3 3 pX12_isSentence qX12_isSentence := by
  refine f_met_of (f_Ec_T 71 a) hinj mY_hi (by decide) (fun av I L h => by unfold pX12_isSentence at h; split at h <;> first | exact Nat.le_of_ble_eq_true rfl | exact h.elim) ?_
  intro pP eP sP mP aP bP hP9 cP C av I L hp
  unfold pX12_isSentence at hp
  split at hp
  case h_2 => exact hp.elim
  case h_1 =>
    obtain ⟨hR, hmL, hmK, hmO⟩ := hp
    have hn : 0 ≤ (I 0 53).toInt ∧ (I 0 53).toInt ≤ 10 := hR 0 53
    have hF0 : f_fr [0, 21, 22, 23, 24, 25, 26, 27, 28, 29, 30, 31, 32, 33, 34, 37, 38, 39, 40, 41, 42, 43, 44] I I := f_fr_rf
    have hO0 : f_fo [45, 46, 47, 48, 55, 59] I I := f_fo_rf
    have lp22 : ∀ (n22 : Nat), ∀ (more : Int32) (J22 : fM), mR J22 ∧ f_fr [0, 21, 22, 23, 24, 25, 26, 27, 28, 29, 30, 31, 32, 33, 34, 37, 38, 39, 40, 41, 42, 43, 44] I J22 ∧ f_fo [45, 46, 47, 48, 55, 59] I J22 ∧ mL J22 ∧ mK J22 ∧ mO J22 ∧ (0 ≤ (I 0 54).toInt) ∧ (pK J22) ∧ (more.toInt = 0 ∨ more.toInt = 1) ∧ (0 ≤ gm (1 - more.toInt) (59049 - pvl (J22 37) (I 0 53).toInt.toNat)) ∧ (gm (1 - more.toInt) (59049 - pvl (J22 37) (I 0 53).toInt.toNat)) < n22 → f_W pP l eP (f_rm 3) sP mP aP bP hP9 cP mY 71 a cy dC dI 2 (f_K 3 (qX12_isSentence [.ref 0] I L)) 22 [(1, .int more), (0, .ref 0)] [] J22 L := by
      intro n22
      induction n22 with
      | zero =>
        intro more J22 h9
        obtain ⟨hR22c, hF22c, hO22c, hmL22c, hmK22c, hmO22c, u22_1, u22_2, u22_3, u22_4, hm22⟩ := h9
        omega
      | succ n22 ih22 =>
        intro more J22 h9
        obtain ⟨hR22c, hF22c, hO22c, hmL22c, hmK22c, hmO22c, u22_1, u22_2, u22_3, u22_4, hm22⟩ := h9
        have v22 := pvl_10 (P := J22 37) (fun j => hR22c 37 j) (n := (I 0 53).toInt.toNat) (by omega)
        have f22 : J22 0 53 = I 0 53 := hO22c 53 rfl
        have h22 : J22 0 54 = I 0 54 := hO22c 54 rfl
        have lp66 : ∀ (J66 : fM), mR J66 ∧ f_fr [0, 21, 22, 23, 24, 25, 26, 27, 28, 29, 30, 31, 32, 33, 34, 37, 38, 39, 40, 41, 42, 43, 44] I J66 ∧ f_fo [45, 46, 47, 48, 55, 59] I J66 ∧ mL J66 ∧ mK J66 ∧ mO J66 ∧ (pK J66) ∧ (J66 37 = J22 37) ∧ (more.toInt = 1) → f_W pP l eP (f_rm 3) sP mP aP bP hP9 cP mY 71 a cy dC dI 2 (f_K 3 (qX12_isSentence [.ref 0] I L)) 66 [(1, .int more), (0, .ref 0)] [] J66 L := by
          intro J66 h9
          obtain ⟨hR66c, hF66c, hO66c, hmL66c, hmK66c, hmO66c, u66_1, u66_2, u66_3⟩ := h9
          have f66 : J66 0 53 = I 0 53 := hO66c 53 rfl
          refine f_wp_ok C f_cl flX12_ok fiX12_ok fjX12_ok (sn := none) (fun j h => by cases h) (cs := (f_cnl [(436, (1, 0, 11, pX12_firstPick, qX12_firstPick)), (439, (1, 3, 11, pX12_isEven, qX12_isEven)), (442, (1, 1, 11, pX12_endsOf, qX12_endsOf)), (445, (1, 0, 11, pX12_assemble, qX12_assemble)), (448, (1, 0, 11, pX12_beginTying, qX12_beginTying)), (451, (1, 3, 11, pX12_nextTying, qX12_nextTying)), (454, (1, 3, 11, pX12_isRight, qX12_isRight)), (457, (1, 3, 11, pX12_nextPick, qX12_nextPick))])) (cz := (fun _ => none)) (f_cnl_of (P := fun j S => f_cok pP l eP (f_rm 3) sP mP aP bP hP9 cP mY 71 a cy dC dI 2 _ _ (.invokevirtual j) true S) (List.forall_mem_cons.mpr ⟨f_cokV C (mX12_firstPick hinj) (ci := 11) rfl (List.forall_mem_cons.mpr ⟨(mlX12_ok _ (List.mem_of_getElem? (i := 41) rfl)), kc_X12_firstPick⟩) (by decide +kernel) ⟨Nat.le_of_ble_eq_true rfl, Nat.le_of_ble_eq_true rfl⟩, List.forall_mem_cons.mpr ⟨f_cokV C (mX12_isEven hinj) (ci := 11) rfl (List.forall_mem_cons.mpr ⟨(mlX12_ok _ (List.mem_of_getElem? (i := 42) rfl)), kc_X12_isEven⟩) (by decide +kernel) ⟨Nat.le_of_ble_eq_true rfl, Nat.le_of_ble_eq_true rfl⟩, List.forall_mem_cons.mpr ⟨f_cokV C (mX12_endsOf hinj) (ci := 11) rfl (List.forall_mem_cons.mpr ⟨(mlX12_ok _ (List.mem_of_getElem? (i := 43) rfl)), kc_X12_endsOf⟩) (by decide +kernel) ⟨Nat.le_of_ble_eq_true rfl, Nat.le_of_ble_eq_true rfl⟩, List.forall_mem_cons.mpr ⟨f_cokV C (mX12_assemble hinj) (ci := 11) rfl (List.forall_mem_cons.mpr ⟨(mlX12_ok _ (List.mem_of_getElem? (i := 44) rfl)), kc_X12_assemble⟩) (by decide +kernel) ⟨Nat.le_of_ble_eq_true rfl, Nat.le_of_ble_eq_true rfl⟩, List.forall_mem_cons.mpr ⟨f_cokV C (mX12_beginTying hinj) (ci := 11) rfl (List.forall_mem_cons.mpr ⟨(mlX12_ok _ (List.mem_of_getElem? (i := 45) rfl)), kc_X12_beginTying⟩) (by decide +kernel) ⟨Nat.le_of_ble_eq_true rfl, Nat.le_of_ble_eq_true rfl⟩, List.forall_mem_cons.mpr ⟨f_cokV C (mX12_nextTying hinj) (ci := 11) rfl (List.forall_mem_cons.mpr ⟨(mlX12_ok _ (List.mem_of_getElem? (i := 46) rfl)), kc_X12_nextTying⟩) (by decide +kernel) ⟨Nat.le_of_ble_eq_true rfl, Nat.le_of_ble_eq_true rfl⟩, List.forall_mem_cons.mpr ⟨f_cokV C (mX12_isRight hinj) (ci := 11) rfl (List.forall_mem_cons.mpr ⟨(mlX12_ok _ (List.mem_of_getElem? (i := 47) rfl)), kc_X12_isRight⟩) (by decide +kernel) ⟨Nat.le_of_ble_eq_true rfl, Nat.le_of_ble_eq_true rfl⟩, List.forall_mem_cons.mpr ⟨f_cokV C (mX12_nextPick hinj) (ci := 11) rfl (List.forall_mem_cons.mpr ⟨(mlX12_ok _ (List.mem_of_getElem? (i := 48) rfl)), kc_X12_nextPick⟩) (by decide +kernel) ⟨Nat.le_of_ble_eq_true rfl, Nat.le_of_ble_eq_true rfl⟩, fun _ h => absurd h List.not_mem_nil⟩⟩⟩⟩⟩⟩⟩⟩)) (fun j S h => by cases h) tX12_isSentence_ok (cut := (f_cnl [(22, (fun (ls' : fLs) (st' : List Value) (I' : fM) (L' : fN) => ∃ more : Int32, (∀ q ∈ ([(1, .int more), (0, .ref 0)] : fLs), q ∈ ls') ∧ st' = [] ∧ L' = L ∧ (mR I' ∧ f_fr [0, 21, 22, 23, 24, 25, 26, 27, 28, 29, 30, 31, 32, 33, 34, 37, 38, 39, 40, 41, 42, 43, 44] I I' ∧ f_fo [45, 46, 47, 48, 55, 59] I I' ∧ mL I' ∧ mK I' ∧ mO I' ∧ (0 ≤ (I 0 54).toInt) ∧ (pK I') ∧ (more.toInt = 0 ∨ more.toInt = 1) ∧ (0 ≤ gm (1 - more.toInt) (59049 - pvl (I' 37) (I 0 53).toInt.toNat)) ∧ (gm (1 - more.toInt) (59049 - pvl (I' 37) (I 0 53).toInt.toNat)) < n22)))])) (f_cnl_of (P := fun (tQ : Nat) (P : fLs → List Value → fM → fN → Prop) => ∀ ls' st' I' L', P ls' st' I' L' → f_W pP l eP (f_rm 3) sP mP aP bP hP9 cP mY 71 a cy dC dI 2 (f_K 3 (qX12_isSentence [.ref 0] I L)) tQ ls' st' I' L') (List.forall_mem_cons.mpr ⟨(fun ls' st' I' L' h => by obtain ⟨more, hs, e1, e3, h9⟩ := h; rw [e1, e3]; exact f_W_sub hs (ih22 more I' h9)), fun _ h => absurd h List.not_mem_nil⟩)) 7 66 (f_seek 66 0 tX12_isSentence) (f_seek_ok 66 0 tX12_isSentence tX12_isSentence_ok) _ _ _ _ ?_
          refine And.intro ⟨hR66c, hmO66c, u66_1⟩ ?_
          intro x67 I67 L67 hq67
          have hq67 : mR I67 ∧ mO I67 ∧ pK I67 ∧ f_fr [37, 38] J66 I67 ∧ L67 = L ∧ ((x67.toInt = 0 ∨ x67.toInt = 1)) ∧ ((x67.toInt = 1 → pvl (J66 37) (J66 0 53).toInt.toNat < pvl (I67 37) (J66 0 53).toInt.toNat)) := hq67
          obtain ⟨c67_0, c67_1, c67_2, c67_3, eL67, c67_5, c67_6⟩ := hq67
          replace eL67 := eL67.symm
          subst eL67
          have hO67 := f_fo_fr hO66c c67_3 rfl
          have hmL67 := f_depo_fr mL_dep hmL66c c67_3 rfl rfl
          have hmK67 := f_depo_fr mK_dep hmK66c c67_3 rfl rfl
          have hF67 := f_fr_tr hF66c c67_3 rfl
          have g67 : gm (1 - more.toInt) (59049 - pvl (J22 37) (I 0 53).toInt.toNat) = 59049 - pvl (J22 37) (I 0 53).toInt.toNat + 1 := gm_1 (by omega)
          have v67 := pvl_10 (P := I67 37) (fun j => c67_0 37 j) (n := (I 0 53).toInt.toNat) (by omega)
          have l67 : x67.toInt = 1 → pvl (J22 37) (I 0 53).toInt.toNat < pvl (I67 37) (I 0 53).toInt.toNat := fun h => by
            have q := c67_6 h
            rw [u66_2, f66] at q
            exact q
          have m67 : 0 ≤ gm (1 - x67.toInt) (59049 - pvl (I67 37) (I 0 53).toInt.toNat) ∧ gm (1 - x67.toInt) (59049 - pvl (I67 37) (I 0 53).toInt.toNat) < gm (1 - more.toInt) (59049 - pvl (J22 37) (I 0 53).toInt.toNat) := by
            rw [g67]
            by_cases h : x67.toInt = 1
            · rw [gm_1 (by omega)]
              have := l67 h
              omega
            · rw [gm_0 (by omega)]; omega
          exact ⟨x67, (by intro q9 h9; simp only [List.mem_cons, List.not_mem_nil, or_false] at h9; rcases h9 with h9 | h9 <;> subst h9 <;> repeat (first | exact List.mem_cons_self | apply List.mem_cons_of_mem)), rfl, rfl, c67_0, hF67, hO67, hmL67, hmK67, c67_1, (show 0 ≤ (I 0 54).toInt from by first | assumption | omega), c67_2, (show x67.toInt = 0 ∨ x67.toInt = 1 from by first | assumption | omega | rfl), (show 0 ≤ gm (1 - x67.toInt) (59049 - pvl (I67 37) (I 0 53).toInt.toNat) from by first | assumption | omega), (show (gm (1 - x67.toInt) (59049 - pvl (I67 37) (I 0 53).toInt.toNat)) < n22 from by omega)⟩
        have lp50 : ∀ (n50 : Nat), ∀ (J50 : fM), mR J50 ∧ f_fr [0, 21, 22, 23, 24, 25, 26, 27, 28, 29, 30, 31, 32, 33, 34, 37, 38, 39, 40, 41, 42, 43, 44] I J50 ∧ f_fo [45, 46, 47, 48, 55, 59] I J50 ∧ mL J50 ∧ mK J50 ∧ mO J50 ∧ (sS J50) ∧ (pK J50) ∧ (J50 37 = J22 37) ∧ (tY J50 (J50 0 59).toInt) ∧ ((J50 0 59).toInt ≤ 9) ∧ (0 ≤ tyV J50) ∧ (more.toInt = 1) ∧ (tyV J50) < n50 → f_W pP l eP (f_rm 3) sP mP aP bP hP9 cP mY 71 a cy dC dI 2 (f_K 3 (qX12_isSentence [.ref 0] I L)) 50 [(1, .int more), (0, .ref 0)] [] J50 L := by
          intro n50
          induction n50 with
          | zero =>
            intro J50 h9
            obtain ⟨hR50c, hF50c, hO50c, hmL50c, hmK50c, hmO50c, u50_1, u50_2, u50_3, u50_4, u50_5, u50_6, u50_7, hm50⟩ := h9
            omega
          | succ n50 ih50 =>
            intro J50 h9
            obtain ⟨hR50c, hF50c, hO50c, hmL50c, hmK50c, hmO50c, u50_1, u50_2, u50_3, u50_4, u50_5, u50_6, u50_7, hm50⟩ := h9
            refine f_wp_ok C f_cl flX12_ok fiX12_ok fjX12_ok (sn := none) (fun j h => by cases h) (cs := (f_cnl [(436, (1, 0, 11, pX12_firstPick, qX12_firstPick)), (439, (1, 3, 11, pX12_isEven, qX12_isEven)), (442, (1, 1, 11, pX12_endsOf, qX12_endsOf)), (445, (1, 0, 11, pX12_assemble, qX12_assemble)), (448, (1, 0, 11, pX12_beginTying, qX12_beginTying)), (451, (1, 3, 11, pX12_nextTying, qX12_nextTying)), (454, (1, 3, 11, pX12_isRight, qX12_isRight)), (457, (1, 3, 11, pX12_nextPick, qX12_nextPick))])) (cz := (fun _ => none)) (f_cnl_of (P := fun j S => f_cok pP l eP (f_rm 3) sP mP aP bP hP9 cP mY 71 a cy dC dI 2 _ _ (.invokevirtual j) true S) (List.forall_mem_cons.mpr ⟨f_cokV C (mX12_firstPick hinj) (ci := 11) rfl (List.forall_mem_cons.mpr ⟨(mlX12_ok _ (List.mem_of_getElem? (i := 41) rfl)), kc_X12_firstPick⟩) (by decide +kernel) ⟨Nat.le_of_ble_eq_true rfl, Nat.le_of_ble_eq_true rfl⟩, List.forall_mem_cons.mpr ⟨f_cokV C (mX12_isEven hinj) (ci := 11) rfl (List.forall_mem_cons.mpr ⟨(mlX12_ok _ (List.mem_of_getElem? (i := 42) rfl)), kc_X12_isEven⟩) (by decide +kernel) ⟨Nat.le_of_ble_eq_true rfl, Nat.le_of_ble_eq_true rfl⟩, List.forall_mem_cons.mpr ⟨f_cokV C (mX12_endsOf hinj) (ci := 11) rfl (List.forall_mem_cons.mpr ⟨(mlX12_ok _ (List.mem_of_getElem? (i := 43) rfl)), kc_X12_endsOf⟩) (by decide +kernel) ⟨Nat.le_of_ble_eq_true rfl, Nat.le_of_ble_eq_true rfl⟩, List.forall_mem_cons.mpr ⟨f_cokV C (mX12_assemble hinj) (ci := 11) rfl (List.forall_mem_cons.mpr ⟨(mlX12_ok _ (List.mem_of_getElem? (i := 44) rfl)), kc_X12_assemble⟩) (by decide +kernel) ⟨Nat.le_of_ble_eq_true rfl, Nat.le_of_ble_eq_true rfl⟩, List.forall_mem_cons.mpr ⟨f_cokV C (mX12_beginTying hinj) (ci := 11) rfl (List.forall_mem_cons.mpr ⟨(mlX12_ok _ (List.mem_of_getElem? (i := 45) rfl)), kc_X12_beginTying⟩) (by decide +kernel) ⟨Nat.le_of_ble_eq_true rfl, Nat.le_of_ble_eq_true rfl⟩, List.forall_mem_cons.mpr ⟨f_cokV C (mX12_nextTying hinj) (ci := 11) rfl (List.forall_mem_cons.mpr ⟨(mlX12_ok _ (List.mem_of_getElem? (i := 46) rfl)), kc_X12_nextTying⟩) (by decide +kernel) ⟨Nat.le_of_ble_eq_true rfl, Nat.le_of_ble_eq_true rfl⟩, List.forall_mem_cons.mpr ⟨f_cokV C (mX12_isRight hinj) (ci := 11) rfl (List.forall_mem_cons.mpr ⟨(mlX12_ok _ (List.mem_of_getElem? (i := 47) rfl)), kc_X12_isRight⟩) (by decide +kernel) ⟨Nat.le_of_ble_eq_true rfl, Nat.le_of_ble_eq_true rfl⟩, List.forall_mem_cons.mpr ⟨f_cokV C (mX12_nextPick hinj) (ci := 11) rfl (List.forall_mem_cons.mpr ⟨(mlX12_ok _ (List.mem_of_getElem? (i := 48) rfl)), kc_X12_nextPick⟩) (by decide +kernel) ⟨Nat.le_of_ble_eq_true rfl, Nat.le_of_ble_eq_true rfl⟩, fun _ h => absurd h List.not_mem_nil⟩⟩⟩⟩⟩⟩⟩⟩)) (fun j S h => by cases h) tX12_isSentence_ok (cut := (f_cnl [(50, (fun (ls' : fLs) (st' : List Value) (I' : fM) (L' : fN) => (∀ q ∈ ([(1, .int more), (0, .ref 0)] : fLs), q ∈ ls') ∧ st' = [] ∧ L' = L ∧ (mR I' ∧ f_fr [0, 21, 22, 23, 24, 25, 26, 27, 28, 29, 30, 31, 32, 33, 34, 37, 38, 39, 40, 41, 42, 43, 44] I I' ∧ f_fo [45, 46, 47, 48, 55, 59] I I' ∧ mL I' ∧ mK I' ∧ mO I' ∧ (sS I') ∧ (pK I') ∧ (I' 37 = J22 37) ∧ (tY I' (I' 0 59).toInt) ∧ ((I' 0 59).toInt ≤ 9) ∧ (0 ≤ tyV I') ∧ (more.toInt = 1) ∧ (tyV I') < n50))), (66, (fun (ls' : fLs) (st' : List Value) (I' : fM) (L' : fN) => (∀ q ∈ ([(1, .int more), (0, .ref 0)] : fLs), q ∈ ls') ∧ st' = [] ∧ L' = L ∧ (mR I' ∧ f_fr [0, 21, 22, 23, 24, 25, 26, 27, 28, 29, 30, 31, 32, 33, 34, 37, 38, 39, 40, 41, 42, 43, 44] I I' ∧ f_fo [45, 46, 47, 48, 55, 59] I I' ∧ mL I' ∧ mK I' ∧ mO I' ∧ (pK I') ∧ (I' 37 = J22 37) ∧ (more.toInt = 1))))])) (f_cnl_of (P := fun (tQ : Nat) (P : fLs → List Value → fM → fN → Prop) => ∀ ls' st' I' L', P ls' st' I' L' → f_W pP l eP (f_rm 3) sP mP aP bP hP9 cP mY 71 a cy dC dI 2 (f_K 3 (qX12_isSentence [.ref 0] I L)) tQ ls' st' I' L') (List.forall_mem_cons.mpr ⟨(fun ls' st' I' L' h => by obtain ⟨hs, e1, e3, h9⟩ := h; rw [e1, e3]; exact f_W_sub hs (ih50  I' h9)), List.forall_mem_cons.mpr ⟨(fun ls' st' I' L' h => by obtain ⟨hs, e1, e3, h9⟩ := h; rw [e1, e3]; exact f_W_sub hs (lp66  I' h9)), fun _ h => absurd h List.not_mem_nil⟩⟩)) 11 50 (f_seek 50 0 tX12_isSentence) (f_seek_ok 50 0 tX12_isSentence tX12_isSentence_ok) _ _ _ _ ?_
            have s51 := u50_1.1
            have r51_1 : 0 ≤ (J50 0 45).toInt ∧ (J50 0 45).toInt ≤ 20 := hR50c 0 45
            have r51_2 : -1 ≤ (J50 0 59).toInt ∧ (J50 0 59).toInt ≤ 10 := hR50c 0 59
            refine And.intro ⟨hR50c, (show 1 ≤ (J50 0 45).toInt from by first | assumption | omega), (show (J50 0 59).toInt ≤ 9 from by first | assumption | omega), (show tY J50 (J50 0 59).toInt from by first | assumption | omega)⟩ ?_
            intro x51 I51 L51 hq51
            have hq51 : mR I51 ∧ f_fo [59] J50 I51 ∧ f_fr [0, 23, 40, 41] J50 I51 ∧ L51 = L ∧ ((x51.toInt = 0 ∨ x51.toInt = 1)) ∧ ((x51.toInt = 1 → tA I51 ∧ tY I51 (I51 0 59).toInt ∧ (I51 0 59).toInt ≤ 9 ∧ tyV I51 < tyV J50)) := hq51
            obtain ⟨c51_0, c51_1, c51_2, eL51, c51_4, c51_5⟩ := hq51
            replace eL51 := eL51.symm
            subst eL51
            have hO51 := f_fo_tr hO50c c51_1 rfl
            have hmL51 := f_depo_fo mL_dep hmL50c c51_2 c51_1 rfl rfl
            have hmK51 := f_depo_fo mK_dep hmK50c c51_2 c51_1 rfl rfl
            have hmO51 := f_depo_fo mO_dep hmO50c c51_2 c51_1 rfl rfl
            have hsS51 := f_depo_fo sS_dep u50_1 c51_2 c51_1 rfl rfl
            have hpK51 := f_depo_fo pK_dep u50_2 c51_2 c51_1 rfl rfl
            have hF51 := f_fr_tr hF50c c51_2 rfl
            apply And.intro
            · intro h54
              have h54 : x51.toInt = 0 := h54
              try have x54 := c51_5 (by omega)
              have p54 : I51 37 = J22 37 := (c51_2 37 rfl).trans u50_3
              exact ⟨(by intro q9 h9; simp only [List.mem_cons, List.not_mem_nil, or_false] at h9; rcases h9 with h9 | h9 <;> subst h9 <;> repeat (first | exact List.mem_cons_self | apply List.mem_cons_of_mem)), rfl, rfl, c51_0, hF51, hO51, hmL51, hmK51, hmO51, hpK51, (show I51 37 = J22 37 from by first | assumption | omega | rfl), (show more.toInt = 1 from by first | assumption | omega | rfl)⟩
            · intro h54
              have h54 : ¬ x51.toInt = 0 := h54
              try have x54 := c51_5 (by omega)
              have p54 : I51 37 = J22 37 := (c51_2 37 rfl).trans u50_3
              refine And.intro ⟨c51_0, hsS51, (x54.1)⟩ ?_
              intro x58 I58 L58 hq58
              have hq58 : mR I58 ∧ sS I58 ∧ tA I58 ∧ f_fr [42, 43, 44] I51 I58 ∧ L58 = L ∧ ((x58.toInt = 0 ∨ x58.toInt = 1)) ∧ ((x58.toInt = 1 → uN I58)) := hq58
              obtain ⟨c58_0, c58_1, c58_2, c58_3, eL58, c58_5, c58_6⟩ := hq58
              replace eL58 := eL58.symm
              subst eL58
              have hO58 := f_fo_fr hO51 c58_3 rfl
              have hmL58 := f_depo_fr mL_dep hmL51 c58_3 rfl rfl
              have hmK58 := f_depo_fr mK_dep hmK51 c58_3 rfl rfl
              have hmO58 := f_depo_fr mO_dep hmO51 c58_3 rfl rfl
              have hpK58 := f_depo_fr pK_dep hpK51 c58_3 rfl rfl
              have hF58 := f_fr_tr hF51 c58_3 rfl
              have p58 : I58 37 = J22 37 := (c58_3 37 rfl).trans p54
              have y58 : tY I58 (I58 0 59).toInt := tY_eq x54.2.1 (c58_3 23 rfl) (c58_3 33 rfl) (c58_3 40 rfl) (c58_3 41 rfl) (congrFun (c58_3 0 rfl) 45) (congrArg Int32.toInt (congrFun (c58_3 0 rfl) 59))
              have v58 : tyV I58 = tyV I51 := tyV_same (c58_3 41 rfl) (congrFun (c58_3 0 rfl) 59)
              have w58 := tyV_rng c51_0
              have d58 : (I58 0 59).toInt = (I51 0 59).toInt := congrArg Int32.toInt (congrFun (c58_3 0 rfl) 59)
              apply And.intro
              · intro h61
                have h61 : x58.toInt = 0 := h61
                have r50_3 : -1 ≤ (I58 0 59).toInt ∧ (I58 0 59).toInt ≤ 10 := c58_0 0 59
                have e50_4 : (I58 0 59).toInt = (I51 0 59).toInt := congrArg Int32.toInt (congrFun (c58_3 0 rfl) 59)
                exact ⟨(by intro q9 h9; simp only [List.mem_cons, List.not_mem_nil, or_false] at h9; rcases h9 with h9 | h9 <;> subst h9 <;> repeat (first | exact List.mem_cons_self | apply List.mem_cons_of_mem)), rfl, rfl, c58_0, hF58, hO58, hmL58, hmK58, hmO58, c58_1, hpK58, (show I58 37 = J22 37 from by first | assumption | omega | rfl), (show tY I58 (I58 0 59).toInt from by first | assumption | omega), (show (I58 0 59).toInt ≤ 9 from by first | assumption | omega), (show 0 ≤ tyV I58 from by first | assumption | omega), (show more.toInt = 1 from by first | assumption | omega | rfl), (show (tyV I58) < n50 from by omega)⟩
              · intro h61
                have h61 : ¬ x58.toInt = 0 := h61
                exact ⟨Or.inr rfl, c58_0, hmL58, hmK58, hmO58, hO58, hF58, rfl, (show ((1 : Int) = 0 ∨ (1 : Int) = 1) from by first | assumption | omega | rfl)⟩
        refine f_wp_ok C f_cl flX12_ok fiX12_ok fjX12_ok (sn := none) (fun j h => by cases h) (cs := (f_cnl [(436, (1, 0, 11, pX12_firstPick, qX12_firstPick)), (439, (1, 3, 11, pX12_isEven, qX12_isEven)), (442, (1, 1, 11, pX12_endsOf, qX12_endsOf)), (445, (1, 0, 11, pX12_assemble, qX12_assemble)), (448, (1, 0, 11, pX12_beginTying, qX12_beginTying)), (451, (1, 3, 11, pX12_nextTying, qX12_nextTying)), (454, (1, 3, 11, pX12_isRight, qX12_isRight)), (457, (1, 3, 11, pX12_nextPick, qX12_nextPick))])) (cz := (fun _ => none)) (f_cnl_of (P := fun j S => f_cok pP l eP (f_rm 3) sP mP aP bP hP9 cP mY 71 a cy dC dI 2 _ _ (.invokevirtual j) true S) (List.forall_mem_cons.mpr ⟨f_cokV C (mX12_firstPick hinj) (ci := 11) rfl (List.forall_mem_cons.mpr ⟨(mlX12_ok _ (List.mem_of_getElem? (i := 41) rfl)), kc_X12_firstPick⟩) (by decide +kernel) ⟨Nat.le_of_ble_eq_true rfl, Nat.le_of_ble_eq_true rfl⟩, List.forall_mem_cons.mpr ⟨f_cokV C (mX12_isEven hinj) (ci := 11) rfl (List.forall_mem_cons.mpr ⟨(mlX12_ok _ (List.mem_of_getElem? (i := 42) rfl)), kc_X12_isEven⟩) (by decide +kernel) ⟨Nat.le_of_ble_eq_true rfl, Nat.le_of_ble_eq_true rfl⟩, List.forall_mem_cons.mpr ⟨f_cokV C (mX12_endsOf hinj) (ci := 11) rfl (List.forall_mem_cons.mpr ⟨(mlX12_ok _ (List.mem_of_getElem? (i := 43) rfl)), kc_X12_endsOf⟩) (by decide +kernel) ⟨Nat.le_of_ble_eq_true rfl, Nat.le_of_ble_eq_true rfl⟩, List.forall_mem_cons.mpr ⟨f_cokV C (mX12_assemble hinj) (ci := 11) rfl (List.forall_mem_cons.mpr ⟨(mlX12_ok _ (List.mem_of_getElem? (i := 44) rfl)), kc_X12_assemble⟩) (by decide +kernel) ⟨Nat.le_of_ble_eq_true rfl, Nat.le_of_ble_eq_true rfl⟩, List.forall_mem_cons.mpr ⟨f_cokV C (mX12_beginTying hinj) (ci := 11) rfl (List.forall_mem_cons.mpr ⟨(mlX12_ok _ (List.mem_of_getElem? (i := 45) rfl)), kc_X12_beginTying⟩) (by decide +kernel) ⟨Nat.le_of_ble_eq_true rfl, Nat.le_of_ble_eq_true rfl⟩, List.forall_mem_cons.mpr ⟨f_cokV C (mX12_nextTying hinj) (ci := 11) rfl (List.forall_mem_cons.mpr ⟨(mlX12_ok _ (List.mem_of_getElem? (i := 46) rfl)), kc_X12_nextTying⟩) (by decide +kernel) ⟨Nat.le_of_ble_eq_true rfl, Nat.le_of_ble_eq_true rfl⟩, List.forall_mem_cons.mpr ⟨f_cokV C (mX12_isRight hinj) (ci := 11) rfl (List.forall_mem_cons.mpr ⟨(mlX12_ok _ (List.mem_of_getElem? (i := 47) rfl)), kc_X12_isRight⟩) (by decide +kernel) ⟨Nat.le_of_ble_eq_true rfl, Nat.le_of_ble_eq_true rfl⟩, List.forall_mem_cons.mpr ⟨f_cokV C (mX12_nextPick hinj) (ci := 11) rfl (List.forall_mem_cons.mpr ⟨(mlX12_ok _ (List.mem_of_getElem? (i := 48) rfl)), kc_X12_nextPick⟩) (by decide +kernel) ⟨Nat.le_of_ble_eq_true rfl, Nat.le_of_ble_eq_true rfl⟩, fun _ h => absurd h List.not_mem_nil⟩⟩⟩⟩⟩⟩⟩⟩)) (fun j S h => by cases h) tX12_isSentence_ok (cut := (f_cnl [(50, (fun (ls' : fLs) (st' : List Value) (I' : fM) (L' : fN) => (∀ q ∈ ([(1, .int more), (0, .ref 0)] : fLs), q ∈ ls') ∧ st' = [] ∧ L' = L ∧ (mR I' ∧ f_fr [0, 21, 22, 23, 24, 25, 26, 27, 28, 29, 30, 31, 32, 33, 34, 37, 38, 39, 40, 41, 42, 43, 44] I I' ∧ f_fo [45, 46, 47, 48, 55, 59] I I' ∧ mL I' ∧ mK I' ∧ mO I' ∧ (sS I') ∧ (pK I') ∧ (I' 37 = J22 37) ∧ (tY I' (I' 0 59).toInt) ∧ ((I' 0 59).toInt ≤ 9) ∧ (0 ≤ tyV I') ∧ (more.toInt = 1) ∧ (tyV I') < 600000000000000))), (66, (fun (ls' : fLs) (st' : List Value) (I' : fM) (L' : fN) => (∀ q ∈ ([(1, .int more), (0, .ref 0)] : fLs), q ∈ ls') ∧ st' = [] ∧ L' = L ∧ (mR I' ∧ f_fr [0, 21, 22, 23, 24, 25, 26, 27, 28, 29, 30, 31, 32, 33, 34, 37, 38, 39, 40, 41, 42, 43, 44] I I' ∧ f_fo [45, 46, 47, 48, 55, 59] I I' ∧ mL I' ∧ mK I' ∧ mO I' ∧ (pK I') ∧ (I' 37 = J22 37) ∧ (more.toInt = 1))))])) (f_cnl_of (P := fun (tQ : Nat) (P : fLs → List Value → fM → fN → Prop) => ∀ ls' st' I' L', P ls' st' I' L' → f_W pP l eP (f_rm 3) sP mP aP bP hP9 cP mY 71 a cy dC dI 2 (f_K 3 (qX12_isSentence [.ref 0] I L)) tQ ls' st' I' L') (List.forall_mem_cons.mpr ⟨(fun ls' st' I' L' h => by obtain ⟨hs, e1, e3, h9⟩ := h; rw [e1, e3]; exact f_W_sub hs (lp50 600000000000000  I' h9)), List.forall_mem_cons.mpr ⟨(fun ls' st' I' L' h => by obtain ⟨hs, e1, e3, h9⟩ := h; rw [e1, e3]; exact f_W_sub hs (lp66  I' h9)), fun _ h => absurd h List.not_mem_nil⟩⟩)) 16 22 (f_seek 22 0 tX12_isSentence) (f_seek_ok 22 0 tX12_isSentence tX12_isSentence_ok) _ _ _ _ ?_
        apply And.intro
        · intro h23
          have h23 : more.toInt = 0 := h23
          exact ⟨Or.inl rfl, hR22c, hmL22c, hmK22c, hmO22c, hO22c, hF22c, rfl, (show ((0 : Int) = 0 ∨ (0 : Int) = 1) from by first | assumption | omega | rfl)⟩
        · intro h23
          have h23 : ¬ more.toInt = 0 := h23
          refine And.intro hR22c ?_
          intro x27 I27 L27 hq27
          have hq27 : I27 = J22 ∧ L27 = L ∧ ((x27.toInt = 0 ∨ x27.toInt = 1)) := hq27
          obtain ⟨eI27, eL27, c27_2⟩ := hq27
          replace eI27 := eI27.symm
          subst eI27
          replace eL27 := eL27.symm
          subst eL27
          apply And.intro
          · intro h30
            have h30 : x27.toInt = 0 := h30
            exact ⟨(by intro q9 h9; simp only [List.mem_cons, List.not_mem_nil, or_false] at h9; rcases h9 with h9 | h9 <;> subst h9 <;> repeat (first | exact List.mem_cons_self | apply List.mem_cons_of_mem)), rfl, rfl, hR22c, hF22c, hO22c, hmL22c, hmK22c, hmO22c, u22_2, (show J22 37 = J22 37 from by first | assumption | exact rfl), (show more.toInt = 1 from by first | assumption | omega | rfl)⟩
          · intro h30
            have h30 : ¬ x27.toInt = 0 := h30
            have g34 : 0 ≤ (J22 0 54).toInt := by rw [h22]; exact u22_1
            have r34_1 : -1 ≤ (J22 0 54).toInt ∧ (J22 0 54).toInt ≤ 1599 := hR22c 0 54
            have e34_2 : (J22 0 54).toInt = (I 0 54).toInt := congrArg Int32.toInt (hO22c 54 rfl)
            refine And.intro ⟨hR22c, hmL22c, hmO22c, u22_2, (show 0 ≤ (J22 0 54).toInt from by first | assumption | omega)⟩ ?_
            intro x34 I34 L34 hq34
            have hq34 : I34 = J22 ∧ L34 = L ∧ x34.toInt = eS J22 (J22 0 53).toInt.toNat := hq34
            obtain ⟨eI34, eL34, c34_2⟩ := hq34
            replace eI34 := eI34.symm
            subst eI34
            replace eL34 := eL34.symm
            subst eL34
            apply And.intro
            · intro h39
              have h39 : 20 < x34.toInt := h39
              exact ⟨(by intro q9 h9; simp only [List.mem_cons, List.not_mem_nil, or_false] at h9; rcases h9 with h9 | h9 <;> subst h9 <;> repeat (first | exact List.mem_cons_self | apply List.mem_cons_of_mem)), rfl, rfl, hR22c, hF22c, hO22c, hmL22c, hmK22c, hmO22c, u22_2, (show J22 37 = J22 37 from by first | assumption | exact rfl), (show more.toInt = 1 from by first | assumption | omega | rfl)⟩
            · intro h39
              have h39 : x34.toInt ≤ 20 := h39
              refine And.intro ⟨hR22c, hmL22c, hmK22c, hmO22c, u22_2, (show 0 ≤ (J22 0 54).toInt from by first | assumption | omega), (show eS J22 (J22 0 53).toInt.toNat ≤ 20 from by omega)⟩ ?_
              intro I43 L43 hq43
              have hq43 : mR I43 ∧ mL I43 ∧ mK I43 ∧ mO I43 ∧ pK I43 ∧ f_fo [45, 46, 47, 48, 55] J22 I43 ∧ f_fr [0, 21, 22, 24, 25, 26, 27, 28, 29, 30, 31, 32, 33, 34, 39] J22 I43 ∧ L43 = L ∧ sS I43 := hq43
              obtain ⟨c43_0, c43_1, c43_2, c43_3, c43_4, c43_5, c43_6, eL43, c43_8⟩ := hq43
              replace eL43 := eL43.symm
              subst eL43
              have hO43 := f_fo_tr hO22c c43_5 rfl
              have hF43 := f_fr_tr hF22c c43_6 rfl
              have p43 : I43 37 = J22 37 := c43_6 37 rfl
              refine And.intro c43_0 ?_
              intro I47 L47 hq47
              have hq47 : mR I47 ∧ f_fo [59] I43 I47 ∧ f_fr [0, 23, 40, 41] I43 I47 ∧ L47 = L ∧ ((∀ e : Nat, (e : Int) < (I43 0 45).toInt → (I47 23 e).toInt = -1)) ∧ (I47 0 59).toInt = 0 ∧ (I47 40 0).toInt = 0 ∧ (I47 41 0).toInt = 0 := hq47
              obtain ⟨c47_0, c47_1, c47_2, eL47, c47_4, c47_5, c47_6, c47_7⟩ := hq47
              replace eL47 := eL47.symm
              subst eL47
              have hO47 := f_fo_tr hO43 c47_1 rfl
              have hmL47 := f_depo_fo mL_dep c43_1 c47_2 c47_1 rfl rfl
              have hmK47 := f_depo_fo mK_dep c43_2 c47_2 c47_1 rfl rfl
              have hmO47 := f_depo_fo mO_dep c43_3 c47_2 c47_1 rfl rfl
              have hpK47 := f_depo_fo pK_dep c43_4 c47_2 c47_1 rfl rfl
              have hsS47 := f_depo_fo sS_dep c43_8 c47_2 c47_1 rfl rfl
              have hF47 := f_fr_tr hF43 c47_2 rfl
              have p47' : I47 37 = J22 37 := (c47_2 37 rfl).trans p43
              have y47 : tY I47 (I47 0 59).toInt := by
                rw [c47_5]
                have e : I47 0 45 = I43 0 45 := c47_1 45 rfl
                exact tY_begin c47_0 (by rw [e]; exact c43_8.1.1) (by rw [e]; exact c47_4) c47_6 c47_7
              have v47 := tyV_rng c47_0
              have r50_3 : -1 ≤ (I47 0 59).toInt ∧ (I47 0 59).toInt ≤ 10 := c47_0 0 59
              exact ⟨(by intro q9 h9; simp only [List.mem_cons, List.not_mem_nil, or_false] at h9; rcases h9 with h9 | h9 <;> subst h9 <;> repeat (first | exact List.mem_cons_self | apply List.mem_cons_of_mem)), rfl, rfl, c47_0, hF47, hO47, hmL47, hmK47, hmO47, hsS47, hpK47, (show I47 37 = J22 37 from by first | assumption | exact ((c47_2 37 rfl).trans (c43_6 37 rfl))), (show tY I47 (I47 0 59).toInt from by first | assumption | omega), (show (I47 0 59).toInt ≤ 9 from by first | assumption | omega), (show 0 ≤ tyV I47 from by first | assumption | omega), (show more.toInt = 1 from by first | assumption | omega | rfl), (show (tyV I47) < 600000000000000 from by omega)⟩
    refine f_wp_ok C f_cl flX12_ok fiX12_ok fjX12_ok (sn := none) (fun j h => by cases h) (cs := (f_cnl [(436, (1, 0, 11, pX12_firstPick, qX12_firstPick)), (439, (1, 3, 11, pX12_isEven, qX12_isEven)), (442, (1, 1, 11, pX12_endsOf, qX12_endsOf)), (445, (1, 0, 11, pX12_assemble, qX12_assemble)), (448, (1, 0, 11, pX12_beginTying, qX12_beginTying)), (451, (1, 3, 11, pX12_nextTying, qX12_nextTying)), (454, (1, 3, 11, pX12_isRight, qX12_isRight)), (457, (1, 3, 11, pX12_nextPick, qX12_nextPick))])) (cz := (fun _ => none)) (f_cnl_of (P := fun j S => f_cok pP l eP (f_rm 3) sP mP aP bP hP9 cP mY 71 a cy dC dI 2 _ _ (.invokevirtual j) true S) (List.forall_mem_cons.mpr ⟨f_cokV C (mX12_firstPick hinj) (ci := 11) rfl (List.forall_mem_cons.mpr ⟨(mlX12_ok _ (List.mem_of_getElem? (i := 41) rfl)), kc_X12_firstPick⟩) (by decide +kernel) ⟨Nat.le_of_ble_eq_true rfl, Nat.le_of_ble_eq_true rfl⟩, List.forall_mem_cons.mpr ⟨f_cokV C (mX12_isEven hinj) (ci := 11) rfl (List.forall_mem_cons.mpr ⟨(mlX12_ok _ (List.mem_of_getElem? (i := 42) rfl)), kc_X12_isEven⟩) (by decide +kernel) ⟨Nat.le_of_ble_eq_true rfl, Nat.le_of_ble_eq_true rfl⟩, List.forall_mem_cons.mpr ⟨f_cokV C (mX12_endsOf hinj) (ci := 11) rfl (List.forall_mem_cons.mpr ⟨(mlX12_ok _ (List.mem_of_getElem? (i := 43) rfl)), kc_X12_endsOf⟩) (by decide +kernel) ⟨Nat.le_of_ble_eq_true rfl, Nat.le_of_ble_eq_true rfl⟩, List.forall_mem_cons.mpr ⟨f_cokV C (mX12_assemble hinj) (ci := 11) rfl (List.forall_mem_cons.mpr ⟨(mlX12_ok _ (List.mem_of_getElem? (i := 44) rfl)), kc_X12_assemble⟩) (by decide +kernel) ⟨Nat.le_of_ble_eq_true rfl, Nat.le_of_ble_eq_true rfl⟩, List.forall_mem_cons.mpr ⟨f_cokV C (mX12_beginTying hinj) (ci := 11) rfl (List.forall_mem_cons.mpr ⟨(mlX12_ok _ (List.mem_of_getElem? (i := 45) rfl)), kc_X12_beginTying⟩) (by decide +kernel) ⟨Nat.le_of_ble_eq_true rfl, Nat.le_of_ble_eq_true rfl⟩, List.forall_mem_cons.mpr ⟨f_cokV C (mX12_nextTying hinj) (ci := 11) rfl (List.forall_mem_cons.mpr ⟨(mlX12_ok _ (List.mem_of_getElem? (i := 46) rfl)), kc_X12_nextTying⟩) (by decide +kernel) ⟨Nat.le_of_ble_eq_true rfl, Nat.le_of_ble_eq_true rfl⟩, List.forall_mem_cons.mpr ⟨f_cokV C (mX12_isRight hinj) (ci := 11) rfl (List.forall_mem_cons.mpr ⟨(mlX12_ok _ (List.mem_of_getElem? (i := 47) rfl)), kc_X12_isRight⟩) (by decide +kernel) ⟨Nat.le_of_ble_eq_true rfl, Nat.le_of_ble_eq_true rfl⟩, List.forall_mem_cons.mpr ⟨f_cokV C (mX12_nextPick hinj) (ci := 11) rfl (List.forall_mem_cons.mpr ⟨(mlX12_ok _ (List.mem_of_getElem? (i := 48) rfl)), kc_X12_nextPick⟩) (by decide +kernel) ⟨Nat.le_of_ble_eq_true rfl, Nat.le_of_ble_eq_true rfl⟩, fun _ h => absurd h List.not_mem_nil⟩⟩⟩⟩⟩⟩⟩⟩)) (fun j S h => by cases h) tX12_isSentence_ok (cut := (f_cnl [(22, (fun (ls' : fLs) (st' : List Value) (I' : fM) (L' : fN) => ∃ more : Int32, (∀ q ∈ ([(1, .int more), (0, .ref 0)] : fLs), q ∈ ls') ∧ st' = [] ∧ L' = L ∧ (mR I' ∧ f_fr [0, 21, 22, 23, 24, 25, 26, 27, 28, 29, 30, 31, 32, 33, 34, 37, 38, 39, 40, 41, 42, 43, 44] I I' ∧ f_fo [45, 46, 47, 48, 55, 59] I I' ∧ mL I' ∧ mK I' ∧ mO I' ∧ (0 ≤ (I 0 54).toInt) ∧ (pK I') ∧ (more.toInt = 0 ∨ more.toInt = 1) ∧ (0 ≤ gm (1 - more.toInt) (59049 - pvl (I' 37) (I 0 53).toInt.toNat)) ∧ (gm (1 - more.toInt) (59049 - pvl (I' 37) (I 0 53).toInt.toNat)) < 60000)))])) (f_cnl_of (P := fun (tQ : Nat) (P : fLs → List Value → fM → fN → Prop) => ∀ ls' st' I' L', P ls' st' I' L' → f_W pP l eP (f_rm 3) sP mP aP bP hP9 cP mY 71 a cy dC dI 2 (f_K 3 (qX12_isSentence [.ref 0] I L)) tQ ls' st' I' L') (List.forall_mem_cons.mpr ⟨(fun ls' st' I' L' h => by obtain ⟨more, hs, e1, e3, h9⟩ := h; rw [e1, e3]; exact f_W_sub hs (lp22 60000 more I' h9)), fun _ h => absurd h List.not_mem_nil⟩)) 13 0 tX12_isSentence tX12_isSentence_ok _ _ _ _ ?_
    have r1_1 : 0 ≤ (I 0 53).toInt ∧ (I 0 53).toInt ≤ 10 := hR 0 53
    apply And.intro
    · intro h4
      have h4 : (I 0 53).toInt = 0 := h4
      exact ⟨Or.inl rfl, hR, hmL, hmK, hmO, hO0, hF0, rfl, (show ((0 : Int) = 0 ∨ (0 : Int) = 1) from by first | assumption | omega | rfl)⟩
    · intro h4
      have h4 : ¬ (I 0 53).toInt = 0 := h4
      have r8_2 : -1 ≤ (I 0 54).toInt ∧ (I 0 54).toInt ≤ 1599 := hR 0 54
      apply And.intro
      · intro h11
        have h11 : 0 ≤ (I 0 54).toInt := h11
        refine And.intro ⟨hR, hmO⟩ ?_
        intro I17 L17 hq17
        have hq17 : mR I17 ∧ mO I17 ∧ f_fr [37, 38] I I17 ∧ L17 = L ∧ pK I17 := hq17
        obtain ⟨c17_0, c17_1, c17_2, eL17, c17_4⟩ := hq17
        replace eL17 := eL17.symm
        subst eL17
        have hO17 := f_fo_fr hO0 c17_2 rfl
        have hmL17 := f_depo_fr mL_dep hmL c17_2 rfl rfl
        have hmK17 := f_depo_fr mK_dep hmK c17_2 rfl rfl
        have hF17 := f_fr_tr hF0 c17_2 rfl
        have v17 := pvl_10 (P := I17 37) (fun j => c17_0 37 j) (n := (I 0 53).toInt.toNat) (by omega)
        have g17 : gm (1 - (1 : Int)) (59049 - pvl (I17 37) (I 0 53).toInt.toNat) = 59049 - pvl (I17 37) (I 0 53).toInt.toNat + 1 := gm_1 (by omega)
        exact ⟨Int32.ofInt 1, (by intro q9 h9; simp only [List.mem_cons, List.not_mem_nil, or_false] at h9; rcases h9 with h9 | h9 <;> subst h9 <;> repeat (first | exact List.mem_cons_self | apply List.mem_cons_of_mem)), rfl, rfl, c17_0, hF17, hO17, hmL17, hmK17, c17_1, (show 0 ≤ (I 0 54).toInt from by first | assumption | omega), c17_4, (show (1 : Int) = 0 ∨ (1 : Int) = 1 from by first | assumption | omega | rfl), (show 0 ≤ gm (1 - (1 : Int)) (59049 - pvl (I17 37) (I 0 53).toInt.toNat) from by first | assumption | omega), (show (gm (1 - (1 : Int)) (59049 - pvl (I17 37) (I 0 53).toInt.toNat)) < 60000 from by omega)⟩
      · intro h11
        have h11 : (I 0 54).toInt < 0 := h11
        exact ⟨Or.inl rfl, hR, hmL, hmK, hmO, hO0, hF0, rfl, (show ((0 : Int) = 0 ∨ (0 : Int) = 1) from by first | assumption | omega | rfl)⟩
def tX12_layReadings : List (Instr × Nat) := [(.aload_n 0, 1), (.getfield 359, 3), (.ifCond .eq 4, 3), (.return_, 1), (.aload_n 0, 1), (.iconst 1, 1), (.putfield 359, 3), (.aload_n 0, 1), (.iconst 0, 1), (.putfield 460, 3), (.aload_n 0, 1), (.iconst 0, 1), (.putfield 463, 3), (.aload_n 0, 1), (.invokevirtual 466, 3), (.aload_n 0, 1), (.getfield 407, 3), (.ifCond .eq 10, 3), (.aload_n 0, 1), (.getfield 416, 3), (.ifCond .ge 4, 3), (.return_, 1), (.aload_n 0, 1), (.invokevirtual 436, 3), (.iconst 1, 1), (.istore_n 1, 1), (.iload_n 1, 1), (.ifCond .eq 70, 3), (.aload_n 0, 1), (.getfield 460, 3), (.ifCond .ne 63, 3), (.aload_n 0, 1), (.invokevirtual 439, 3), (.ifCond .eq 48, 3), (.aload_n 0, 1), (.invokevirtual 442, 3), (.bipush 20, 2), (.if_icmp .gt 39, 3), (.aload_n 0, 1), (.invokevirtual 445, 3), (.aload_n 0, 1), (.invokevirtual 448, 3), (.aload_n 0, 1), (.getfield 460, 3), (.ifCond .ne 24, 3), (.aload_n 0, 1), (.invokevirtual 451, 3), (.ifCond .eq 17, 3), (.aload_n 0, 1), (.invokevirtual 454, 3), (.ifCond .eq (-18), 3), (.aload_n 0, 1), (.invokevirtual 469, 3), (.goto (-25), 3), (.aload_n 0, 1), (.invokevirtual 457, 3), (.istore_n 1, 1), (.goto (-68), 3), (.return_, 1)]
theorem tX12_layReadings_ok : f_chk cX12_layReadings 0 tX12_layReadings = true := by decide +kernel
def pX12_layReadings (av : List Value) (I : fM) (L : fN) : Prop := match av with
  | [.ref 0] => mR I ∧ mL I ∧ mK I ∧ mW I
  | _ => False
def qX12_layReadings (av : List Value) (I : fM) (L : fN) (r : Value) (I' : fM) (L' : fN) : Prop := match av, r with
  | [.ref 0], .null => mR I' ∧ mL I' ∧ mK I' ∧ mW I' ∧ f_fo [45, 46, 47, 48, 53, 54, 55, 59, 69, 70, 71, 74] I I' ∧ f_fr [0, 21, 22, 23, 24, 25, 26, 27, 28, 29, 30, 31, 32, 33, 34, 35, 36, 37, 38, 39, 40, 41, 42, 43, 44, 45, 46, 47, 48, 49, 50, 51, 52] I I' ∧ L' = L
  | _, _ => False
set_option maxHeartbeats 40000000 in
set_option maxRecDepth 100000 in
theorem mX12_layReadings {l : Launch} {a : Nat → Nat} {cy dC : Nat → ClassId} {dI : Nat → Nat → Nat} (hinj : ∀ i j, i < 71 → j < 71 → a i = a j → i = j) : f_Met (fun _ => True) l mY 71 a cy dC dI yX12_layReadings cX12_layReadings 2 0 3 pX12_layReadings qX12_layReadings := by
  refine f_met_of (f_Ec_T 71 a) hinj mY_hi (by decide) (fun av I L h => by unfold pX12_layReadings at h; split at h <;> first | exact Nat.le_of_ble_eq_true rfl | exact h.elim) ?_
  intro pP eP sP mP aP bP hP9 cP C av I L hp
  unfold pX12_layReadings at hp
  split at hp
  case h_2 => exact hp.elim
  case h_1 =>
    obtain ⟨hR, hmL, hmK, hmW⟩ := hp
    have hrow : 0 ≤ (I 0 30).toInt ∧ (I 0 30).toInt ≤ 8 := hR 0 30
    have hF0 : f_fr [0, 21, 22, 23, 24, 25, 26, 27, 28, 29, 30, 31, 32, 33, 34, 35, 36, 37, 38, 39, 40, 41, 42, 43, 44, 45, 46, 47, 48, 49, 50, 51, 52] I I := f_fr_rf
    have hO0 : f_fo [45, 46, 47, 48, 53, 54, 55, 59, 69, 70, 71, 74] I I := f_fo_rf
    have lp48 : ∀ (n48 : Nat), ∀ (more : Int32) (J48 : fM), mR J48 ∧ f_fr [0, 21, 22, 23, 24, 25, 26, 27, 28, 29, 30, 31, 32, 33, 34, 35, 36, 37, 38, 39, 40, 41, 42, 43, 44, 45, 46, 47, 48, 49, 50, 51, 52] I J48 ∧ f_fo [45, 46, 47, 48, 53, 54, 55, 59, 69, 70, 71, 74] I J48 ∧ mL J48 ∧ mK J48 ∧ mW J48 ∧ (mO J48) ∧ (0 ≤ (J48 0 54).toInt) ∧ (0 ≤ (J48 0 53).toInt) ∧ ((J48 0 53).toInt ≤ 8) ∧ (pK J48) ∧ (more.toInt = 0 ∨ more.toInt = 1) ∧ (0 ≤ gm (1 - more.toInt) (59049 - pvl (J48 37) (J48 0 53).toInt.toNat)) ∧ (gm (1 - more.toInt) (59049 - pvl (J48 37) (J48 0 53).toInt.toNat)) < n48 → f_W pP l eP (f_rm 3) sP mP aP bP hP9 cP mY 71 a cy dC dI 2 (f_K 0 (qX12_layReadings [.ref 0] I L)) 48 [(1, .int more), (0, .ref 0)] [] J48 L := by
      intro n48
      induction n48 with
      | zero =>
        intro more J48 h9
        obtain ⟨hR48c, hF48c, hO48c, hmL48c, hmK48c, hmW48c, u48_1, u48_2, u48_3, u48_4, u48_5, u48_6, u48_7, hm48⟩ := h9
        omega
      | succ n48 ih48 =>
        intro more J48 h9
        obtain ⟨hR48c, hF48c, hO48c, hmL48c, hmK48c, hmW48c, u48_1, u48_2, u48_3, u48_4, u48_5, u48_6, u48_7, hm48⟩ := h9
        have v48 := pvl_10 (P := J48 37) (fun j => hR48c 37 j) (n := (J48 0 53).toInt.toNat) (by omega)
        have lp111 : ∀ (J111 : fM), mR J111 ∧ f_fr [0, 21, 22, 23, 24, 25, 26, 27, 28, 29, 30, 31, 32, 33, 34, 35, 36, 37, 38, 39, 40, 41, 42, 43, 44, 45, 46, 47, 48, 49, 50, 51, 52] I J111 ∧ f_fo [45, 46, 47, 48, 53, 54, 55, 59, 69, 70, 71, 74] I J111 ∧ mL J111 ∧ mK J111 ∧ mW J111 ∧ (mO J111) ∧ (J111 0 53 = J48 0 53) ∧ (J111 0 54 = J48 0 54) ∧ (pK J111) ∧ (J111 37 = J48 37) ∧ (more.toInt = 1) → f_W pP l eP (f_rm 3) sP mP aP bP hP9 cP mY 71 a cy dC dI 2 (f_K 0 (qX12_layReadings [.ref 0] I L)) 111 [(1, .int more), (0, .ref 0)] [] J111 L := by
          intro J111 h9
          obtain ⟨hR111c, hF111c, hO111c, hmL111c, hmK111c, hmW111c, u111_1, u111_2, u111_3, u111_4, u111_5, u111_6⟩ := h9
          refine f_wp_ok C f_cl flX12_ok fiX12_ok fjX12_ok (sn := none) (fun j h => by cases h) (cs := (f_cnl [(466, (1, 0, 11, pX12_layRow, qX12_layRow)), (436, (1, 0, 11, pX12_firstPick, qX12_firstPick)), (439, (1, 3, 11, pX12_isEven, qX12_isEven)), (442, (1, 1, 11, pX12_endsOf, qX12_endsOf)), (445, (1, 0, 11, pX12_assemble, qX12_assemble)), (448, (1, 0, 11, pX12_beginTying, qX12_beginTying)), (451, (1, 3, 11, pX12_nextTying, qX12_nextTying)), (454, (1, 3, 11, pX12_isRight, qX12_isRight)), (469, (1, 0, 11, pX12_keepReading, qX12_keepReading)), (457, (1, 3, 11, pX12_nextPick, qX12_nextPick))])) (cz := (fun _ => none)) (f_cnl_of (P := fun j S => f_cok pP l eP (f_rm 3) sP mP aP bP hP9 cP mY 71 a cy dC dI 2 _ _ (.invokevirtual j) true S) (List.forall_mem_cons.mpr ⟨f_cokV C (mX12_layRow hinj) (ci := 11) rfl (List.forall_mem_cons.mpr ⟨(mlX12_ok _ (List.mem_of_getElem? (i := 49) rfl)), kc_X12_layRow⟩) (by decide +kernel) ⟨Nat.le_of_ble_eq_true rfl, Nat.le_of_ble_eq_true rfl⟩, List.forall_mem_cons.mpr ⟨f_cokV C (mX12_firstPick hinj) (ci := 11) rfl (List.forall_mem_cons.mpr ⟨(mlX12_ok _ (List.mem_of_getElem? (i := 41) rfl)), kc_X12_firstPick⟩) (by decide +kernel) ⟨Nat.le_of_ble_eq_true rfl, Nat.le_of_ble_eq_true rfl⟩, List.forall_mem_cons.mpr ⟨f_cokV C (mX12_isEven hinj) (ci := 11) rfl (List.forall_mem_cons.mpr ⟨(mlX12_ok _ (List.mem_of_getElem? (i := 42) rfl)), kc_X12_isEven⟩) (by decide +kernel) ⟨Nat.le_of_ble_eq_true rfl, Nat.le_of_ble_eq_true rfl⟩, List.forall_mem_cons.mpr ⟨f_cokV C (mX12_endsOf hinj) (ci := 11) rfl (List.forall_mem_cons.mpr ⟨(mlX12_ok _ (List.mem_of_getElem? (i := 43) rfl)), kc_X12_endsOf⟩) (by decide +kernel) ⟨Nat.le_of_ble_eq_true rfl, Nat.le_of_ble_eq_true rfl⟩, List.forall_mem_cons.mpr ⟨f_cokV C (mX12_assemble hinj) (ci := 11) rfl (List.forall_mem_cons.mpr ⟨(mlX12_ok _ (List.mem_of_getElem? (i := 44) rfl)), kc_X12_assemble⟩) (by decide +kernel) ⟨Nat.le_of_ble_eq_true rfl, Nat.le_of_ble_eq_true rfl⟩, List.forall_mem_cons.mpr ⟨f_cokV C (mX12_beginTying hinj) (ci := 11) rfl (List.forall_mem_cons.mpr ⟨(mlX12_ok _ (List.mem_of_getElem? (i := 45) rfl)), kc_X12_beginTying⟩) (by decide +kernel) ⟨Nat.le_of_ble_eq_true rfl, Nat.le_of_ble_eq_true rfl⟩, List.forall_mem_cons.mpr ⟨f_cokV C (mX12_nextTying hinj) (ci := 11) rfl (List.forall_mem_cons.mpr ⟨(mlX12_ok _ (List.mem_of_getElem? (i := 46) rfl)), kc_X12_nextTying⟩) (by decide +kernel) ⟨Nat.le_of_ble_eq_true rfl, Nat.le_of_ble_eq_true rfl⟩, List.forall_mem_cons.mpr ⟨f_cokV C (mX12_isRight hinj) (ci := 11) rfl (List.forall_mem_cons.mpr ⟨(mlX12_ok _ (List.mem_of_getElem? (i := 47) rfl)), kc_X12_isRight⟩) (by decide +kernel) ⟨Nat.le_of_ble_eq_true rfl, Nat.le_of_ble_eq_true rfl⟩, List.forall_mem_cons.mpr ⟨f_cokV C (mX12_keepReading hinj) (ci := 11) rfl (List.forall_mem_cons.mpr ⟨(mlX12_ok _ (List.mem_of_getElem? (i := 50) rfl)), kc_X12_keepReading⟩) (by decide +kernel) ⟨Nat.le_of_ble_eq_true rfl, Nat.le_of_ble_eq_true rfl⟩, List.forall_mem_cons.mpr ⟨f_cokV C (mX12_nextPick hinj) (ci := 11) rfl (List.forall_mem_cons.mpr ⟨(mlX12_ok _ (List.mem_of_getElem? (i := 48) rfl)), kc_X12_nextPick⟩) (by decide +kernel) ⟨Nat.le_of_ble_eq_true rfl, Nat.le_of_ble_eq_true rfl⟩, fun _ h => absurd h List.not_mem_nil⟩⟩⟩⟩⟩⟩⟩⟩⟩⟩)) (fun j S h => by cases h) tX12_layReadings_ok (cut := (f_cnl [(48, (fun (ls' : fLs) (st' : List Value) (I' : fM) (L' : fN) => ∃ more : Int32, (∀ q ∈ ([(1, .int more), (0, .ref 0)] : fLs), q ∈ ls') ∧ st' = [] ∧ L' = L ∧ (mR I' ∧ f_fr [0, 21, 22, 23, 24, 25, 26, 27, 28, 29, 30, 31, 32, 33, 34, 35, 36, 37, 38, 39, 40, 41, 42, 43, 44, 45, 46, 47, 48, 49, 50, 51, 52] I I' ∧ f_fo [45, 46, 47, 48, 53, 54, 55, 59, 69, 70, 71, 74] I I' ∧ mL I' ∧ mK I' ∧ mW I' ∧ (mO I') ∧ (0 ≤ (I' 0 54).toInt) ∧ (0 ≤ (I' 0 53).toInt) ∧ ((I' 0 53).toInt ≤ 8) ∧ (pK I') ∧ (more.toInt = 0 ∨ more.toInt = 1) ∧ (0 ≤ gm (1 - more.toInt) (59049 - pvl (I' 37) (I' 0 53).toInt.toNat)) ∧ (gm (1 - more.toInt) (59049 - pvl (I' 37) (I' 0 53).toInt.toNat)) < n48)))])) (f_cnl_of (P := fun (tQ : Nat) (P : fLs → List Value → fM → fN → Prop) => ∀ ls' st' I' L', P ls' st' I' L' → f_W pP l eP (f_rm 3) sP mP aP bP hP9 cP mY 71 a cy dC dI 2 (f_K 0 (qX12_layReadings [.ref 0] I L)) tQ ls' st' I' L') (List.forall_mem_cons.mpr ⟨(fun ls' st' I' L' h => by obtain ⟨more, hs, e1, e3, h9⟩ := h; rw [e1, e3]; exact f_W_sub hs (ih48 more I' h9)), fun _ h => absurd h List.not_mem_nil⟩)) 7 111 (f_seek 111 0 tX12_layReadings) (f_seek_ok 111 0 tX12_layReadings tX12_layReadings_ok) _ _ _ _ ?_
          refine And.intro ⟨hR111c, u111_1, u111_4⟩ ?_
          intro x112 I112 L112 hq112
          have hq112 : mR I112 ∧ mO I112 ∧ pK I112 ∧ f_fr [37, 38] J111 I112 ∧ L112 = L ∧ ((x112.toInt = 0 ∨ x112.toInt = 1)) ∧ ((x112.toInt = 1 → pvl (J111 37) (J111 0 53).toInt.toNat < pvl (I112 37) (J111 0 53).toInt.toNat)) := hq112
          obtain ⟨c112_0, c112_1, c112_2, c112_3, eL112, c112_5, c112_6⟩ := hq112
          replace eL112 := eL112.symm
          subst eL112
          have hO112 := f_fo_fr hO111c c112_3 rfl
          have hmL112 := f_depo_fr mL_dep hmL111c c112_3 rfl rfl
          have hmK112 := f_depo_fr mK_dep hmK111c c112_3 rfl rfl
          have hmW112 := f_depo_fr mW_dep hmW111c c112_3 rfl rfl
          have hF112 := f_fr_tr hF111c c112_3 rfl
          have f112 : I112 0 53 = J48 0 53 := (congrFun (c112_3 0 rfl) 53).trans u111_2
          have h112 : (I112 0 54).toInt = (J48 0 54).toInt := by rw [(congrFun (c112_3 0 rfl) 54).trans u111_3]
          have i112 : (I112 0 53).toInt = (J48 0 53).toInt := by rw [f112]
          have g112 : gm (1 - more.toInt) (59049 - pvl (J48 37) (J48 0 53).toInt.toNat) = 59049 - pvl (J48 37) (J48 0 53).toInt.toNat + 1 := gm_1 (by omega)
          have v112 := pvl_10 (P := I112 37) (fun j => c112_0 37 j) (n := (I112 0 53).toInt.toNat) (by omega)
          have l112 : x112.toInt = 1 → pvl (J48 37) (J48 0 53).toInt.toNat < pvl (I112 37) (I112 0 53).toInt.toNat := fun h => by
            have q := c112_6 h
            rw [u111_5, u111_2] at q
            rw [f112]
            exact q
          have m112 : 0 ≤ gm (1 - x112.toInt) (59049 - pvl (I112 37) (I112 0 53).toInt.toNat) ∧ gm (1 - x112.toInt) (59049 - pvl (I112 37) (I112 0 53).toInt.toNat) < gm (1 - more.toInt) (59049 - pvl (J48 37) (J48 0 53).toInt.toNat) := by
            rw [g112]
            by_cases h : x112.toInt = 1
            · rw [gm_1 (by omega)]
              have := l112 h
              omega
            · rw [gm_0 (by omega)]; omega
          have r48_1 : -1 ≤ (I112 0 54).toInt ∧ (I112 0 54).toInt ≤ 1599 := c112_0 0 54
          have e48_2 : (I112 0 54).toInt = (J111 0 54).toInt := congrArg Int32.toInt (congrFun (c112_3 0 rfl) 54)
          have r48_3 : 0 ≤ (I112 0 53).toInt ∧ (I112 0 53).toInt ≤ 10 := c112_0 0 53
          have e48_4 : (I112 0 53).toInt = (J111 0 53).toInt := congrArg Int32.toInt (congrFun (c112_3 0 rfl) 53)
          exact ⟨x112, (by intro q9 h9; simp only [List.mem_cons, List.not_mem_nil, or_false] at h9; rcases h9 with h9 | h9 <;> subst h9 <;> repeat (first | exact List.mem_cons_self | apply List.mem_cons_of_mem)), rfl, rfl, c112_0, hF112, hO112, hmL112, hmK112, hmW112, c112_1, (show 0 ≤ (I112 0 54).toInt from by first | assumption | omega), (show 0 ≤ (I112 0 53).toInt from by first | assumption | omega), (show (I112 0 53).toInt ≤ 8 from by first | assumption | omega), c112_2, (show x112.toInt = 0 ∨ x112.toInt = 1 from by first | assumption | omega | rfl), (show 0 ≤ gm (1 - x112.toInt) (59049 - pvl (I112 37) (I112 0 53).toInt.toNat) from by first | assumption | omega), (show (gm (1 - x112.toInt) (59049 - pvl (I112 37) (I112 0 53).toInt.toNat)) < n48 from by omega)⟩
        have lp83 : ∀ (n83 : Nat), ∀ (J83 : fM), mR J83 ∧ f_fr [0, 21, 22, 23, 24, 25, 26, 27, 28, 29, 30, 31, 32, 33, 34, 35, 36, 37, 38, 39, 40, 41, 42, 43, 44, 45, 46, 47, 48, 49, 50, 51, 52] I J83 ∧ f_fo [45, 46, 47, 48, 53, 54, 55, 59, 69, 70, 71, 74] I J83 ∧ mL J83 ∧ mK J83 ∧ mW J83 ∧ (mO J83) ∧ (J83 0 53 = J48 0 53) ∧ (J83 0 54 = J48 0 54) ∧ (sS J83) ∧ (pK J83) ∧ (J83 37 = J48 37) ∧ (tY J83 (J83 0 59).toInt) ∧ ((J83 0 59).toInt ≤ 9) ∧ (0 ≤ tyV J83) ∧ (more.toInt = 1) ∧ (tyV J83) < n83 → f_W pP l eP (f_rm 3) sP mP aP bP hP9 cP mY 71 a cy dC dI 2 (f_K 0 (qX12_layReadings [.ref 0] I L)) 83 [(1, .int more), (0, .ref 0)] [] J83 L := by
          intro n83
          induction n83 with
          | zero =>
            intro J83 h9
            obtain ⟨hR83c, hF83c, hO83c, hmL83c, hmK83c, hmW83c, u83_1, u83_2, u83_3, u83_4, u83_5, u83_6, u83_7, u83_8, u83_9, u83_10, hm83⟩ := h9
            omega
          | succ n83 ih83 =>
            intro J83 h9
            obtain ⟨hR83c, hF83c, hO83c, hmL83c, hmK83c, hmW83c, u83_1, u83_2, u83_3, u83_4, u83_5, u83_6, u83_7, u83_8, u83_9, u83_10, hm83⟩ := h9
            refine f_wp_ok C f_cl flX12_ok fiX12_ok fjX12_ok (sn := none) (fun j h => by cases h) (cs := (f_cnl [(466, (1, 0, 11, pX12_layRow, qX12_layRow)), (436, (1, 0, 11, pX12_firstPick, qX12_firstPick)), (439, (1, 3, 11, pX12_isEven, qX12_isEven)), (442, (1, 1, 11, pX12_endsOf, qX12_endsOf)), (445, (1, 0, 11, pX12_assemble, qX12_assemble)), (448, (1, 0, 11, pX12_beginTying, qX12_beginTying)), (451, (1, 3, 11, pX12_nextTying, qX12_nextTying)), (454, (1, 3, 11, pX12_isRight, qX12_isRight)), (469, (1, 0, 11, pX12_keepReading, qX12_keepReading)), (457, (1, 3, 11, pX12_nextPick, qX12_nextPick))])) (cz := (fun _ => none)) (f_cnl_of (P := fun j S => f_cok pP l eP (f_rm 3) sP mP aP bP hP9 cP mY 71 a cy dC dI 2 _ _ (.invokevirtual j) true S) (List.forall_mem_cons.mpr ⟨f_cokV C (mX12_layRow hinj) (ci := 11) rfl (List.forall_mem_cons.mpr ⟨(mlX12_ok _ (List.mem_of_getElem? (i := 49) rfl)), kc_X12_layRow⟩) (by decide +kernel) ⟨Nat.le_of_ble_eq_true rfl, Nat.le_of_ble_eq_true rfl⟩, List.forall_mem_cons.mpr ⟨f_cokV C (mX12_firstPick hinj) (ci := 11) rfl (List.forall_mem_cons.mpr ⟨(mlX12_ok _ (List.mem_of_getElem? (i := 41) rfl)), kc_X12_firstPick⟩) (by decide +kernel) ⟨Nat.le_of_ble_eq_true rfl, Nat.le_of_ble_eq_true rfl⟩, List.forall_mem_cons.mpr ⟨f_cokV C (mX12_isEven hinj) (ci := 11) rfl (List.forall_mem_cons.mpr ⟨(mlX12_ok _ (List.mem_of_getElem? (i := 42) rfl)), kc_X12_isEven⟩) (by decide +kernel) ⟨Nat.le_of_ble_eq_true rfl, Nat.le_of_ble_eq_true rfl⟩, List.forall_mem_cons.mpr ⟨f_cokV C (mX12_endsOf hinj) (ci := 11) rfl (List.forall_mem_cons.mpr ⟨(mlX12_ok _ (List.mem_of_getElem? (i := 43) rfl)), kc_X12_endsOf⟩) (by decide +kernel) ⟨Nat.le_of_ble_eq_true rfl, Nat.le_of_ble_eq_true rfl⟩, List.forall_mem_cons.mpr ⟨f_cokV C (mX12_assemble hinj) (ci := 11) rfl (List.forall_mem_cons.mpr ⟨(mlX12_ok _ (List.mem_of_getElem? (i := 44) rfl)), kc_X12_assemble⟩) (by decide +kernel) ⟨Nat.le_of_ble_eq_true rfl, Nat.le_of_ble_eq_true rfl⟩, List.forall_mem_cons.mpr ⟨f_cokV C (mX12_beginTying hinj) (ci := 11) rfl (List.forall_mem_cons.mpr ⟨(mlX12_ok _ (List.mem_of_getElem? (i := 45) rfl)), kc_X12_beginTying⟩) (by decide +kernel) ⟨Nat.le_of_ble_eq_true rfl, Nat.le_of_ble_eq_true rfl⟩, List.forall_mem_cons.mpr ⟨f_cokV C (mX12_nextTying hinj) (ci := 11) rfl (List.forall_mem_cons.mpr ⟨(mlX12_ok _ (List.mem_of_getElem? (i := 46) rfl)), kc_X12_nextTying⟩) (by decide +kernel) ⟨Nat.le_of_ble_eq_true rfl, Nat.le_of_ble_eq_true rfl⟩, List.forall_mem_cons.mpr ⟨f_cokV C (mX12_isRight hinj) (ci := 11) rfl (List.forall_mem_cons.mpr ⟨(mlX12_ok _ (List.mem_of_getElem? (i := 47) rfl)), kc_X12_isRight⟩) (by decide +kernel) ⟨Nat.le_of_ble_eq_true rfl, Nat.le_of_ble_eq_true rfl⟩, List.forall_mem_cons.mpr ⟨f_cokV C (mX12_keepReading hinj) (ci := 11) rfl (List.forall_mem_cons.mpr ⟨(mlX12_ok _ (List.mem_of_getElem? (i := 50) rfl)), kc_X12_keepReading⟩) (by decide +kernel) ⟨Nat.le_of_ble_eq_true rfl, Nat.le_of_ble_eq_true rfl⟩, List.forall_mem_cons.mpr ⟨f_cokV C (mX12_nextPick hinj) (ci := 11) rfl (List.forall_mem_cons.mpr ⟨(mlX12_ok _ (List.mem_of_getElem? (i := 48) rfl)), kc_X12_nextPick⟩) (by decide +kernel) ⟨Nat.le_of_ble_eq_true rfl, Nat.le_of_ble_eq_true rfl⟩, fun _ h => absurd h List.not_mem_nil⟩⟩⟩⟩⟩⟩⟩⟩⟩⟩)) (fun j S h => by cases h) tX12_layReadings_ok (cut := (f_cnl [(83, (fun (ls' : fLs) (st' : List Value) (I' : fM) (L' : fN) => (∀ q ∈ ([(1, .int more), (0, .ref 0)] : fLs), q ∈ ls') ∧ st' = [] ∧ L' = L ∧ (mR I' ∧ f_fr [0, 21, 22, 23, 24, 25, 26, 27, 28, 29, 30, 31, 32, 33, 34, 35, 36, 37, 38, 39, 40, 41, 42, 43, 44, 45, 46, 47, 48, 49, 50, 51, 52] I I' ∧ f_fo [45, 46, 47, 48, 53, 54, 55, 59, 69, 70, 71, 74] I I' ∧ mL I' ∧ mK I' ∧ mW I' ∧ (mO I') ∧ (I' 0 53 = J48 0 53) ∧ (I' 0 54 = J48 0 54) ∧ (sS I') ∧ (pK I') ∧ (I' 37 = J48 37) ∧ (tY I' (I' 0 59).toInt) ∧ ((I' 0 59).toInt ≤ 9) ∧ (0 ≤ tyV I') ∧ (more.toInt = 1) ∧ (tyV I') < n83))), (111, (fun (ls' : fLs) (st' : List Value) (I' : fM) (L' : fN) => (∀ q ∈ ([(1, .int more), (0, .ref 0)] : fLs), q ∈ ls') ∧ st' = [] ∧ L' = L ∧ (mR I' ∧ f_fr [0, 21, 22, 23, 24, 25, 26, 27, 28, 29, 30, 31, 32, 33, 34, 35, 36, 37, 38, 39, 40, 41, 42, 43, 44, 45, 46, 47, 48, 49, 50, 51, 52] I I' ∧ f_fo [45, 46, 47, 48, 53, 54, 55, 59, 69, 70, 71, 74] I I' ∧ mL I' ∧ mK I' ∧ mW I' ∧ (mO I') ∧ (I' 0 53 = J48 0 53) ∧ (I' 0 54 = J48 0 54) ∧ (pK I') ∧ (I' 37 = J48 37) ∧ (more.toInt = 1))))])) (f_cnl_of (P := fun (tQ : Nat) (P : fLs → List Value → fM → fN → Prop) => ∀ ls' st' I' L', P ls' st' I' L' → f_W pP l eP (f_rm 3) sP mP aP bP hP9 cP mY 71 a cy dC dI 2 (f_K 0 (qX12_layReadings [.ref 0] I L)) tQ ls' st' I' L') (List.forall_mem_cons.mpr ⟨(fun ls' st' I' L' h => by obtain ⟨hs, e1, e3, h9⟩ := h; rw [e1, e3]; exact f_W_sub hs (ih83  I' h9)), List.forall_mem_cons.mpr ⟨(fun ls' st' I' L' h => by obtain ⟨hs, e1, e3, h9⟩ := h; rw [e1, e3]; exact f_W_sub hs (lp111  I' h9)), fun _ h => absurd h List.not_mem_nil⟩⟩)) 15 83 (f_seek 83 0 tX12_layReadings) (f_seek_ok 83 0 tX12_layReadings tX12_layReadings_ok) _ _ _ _ ?_
            apply And.intro
            · intro h87
              have h87 : ¬ (J83 0 71).toInt = 0 := h87
              exact ⟨(by intro q9 h9; simp only [List.mem_cons, List.not_mem_nil, or_false] at h9; rcases h9 with h9 | h9 <;> subst h9 <;> repeat (first | exact List.mem_cons_self | apply List.mem_cons_of_mem)), rfl, rfl, hR83c, hF83c, hO83c, hmL83c, hmK83c, hmW83c, u83_1, (show J83 0 53 = J48 0 53 from by first | assumption | omega | rfl), (show J83 0 54 = J48 0 54 from by first | assumption | omega | rfl), u83_5, (show J83 37 = J48 37 from by first | assumption | omega | rfl), (show more.toInt = 1 from by first | assumption | omega | rfl)⟩
            · intro h87
              have h87 : (J83 0 71).toInt = 0 := h87
              have s91 := u83_4.1
              have r91_2 : 0 ≤ (J83 0 45).toInt ∧ (J83 0 45).toInt ≤ 20 := hR83c 0 45
              have r91_3 : -1 ≤ (J83 0 59).toInt ∧ (J83 0 59).toInt ≤ 10 := hR83c 0 59
              refine And.intro ⟨hR83c, (show 1 ≤ (J83 0 45).toInt from by first | assumption | omega), (show (J83 0 59).toInt ≤ 9 from by first | assumption | omega), (show tY J83 (J83 0 59).toInt from by first | assumption | omega)⟩ ?_
              intro x91 I91 L91 hq91
              have hq91 : mR I91 ∧ f_fo [59] J83 I91 ∧ f_fr [0, 23, 40, 41] J83 I91 ∧ L91 = L ∧ ((x91.toInt = 0 ∨ x91.toInt = 1)) ∧ ((x91.toInt = 1 → tA I91 ∧ tY I91 (I91 0 59).toInt ∧ (I91 0 59).toInt ≤ 9 ∧ tyV I91 < tyV J83)) := hq91
              obtain ⟨c91_0, c91_1, c91_2, eL91, c91_4, c91_5⟩ := hq91
              replace eL91 := eL91.symm
              subst eL91
              have hO91 := f_fo_tr hO83c c91_1 rfl
              have hmL91 := f_depo_fo mL_dep hmL83c c91_2 c91_1 rfl rfl
              have hmK91 := f_depo_fo mK_dep hmK83c c91_2 c91_1 rfl rfl
              have hmW91 := f_depo_fo mW_dep hmW83c c91_2 c91_1 rfl rfl
              have hmO91 := f_depo_fo mO_dep u83_1 c91_2 c91_1 rfl rfl
              have hsS91 := f_depo_fo sS_dep u83_4 c91_2 c91_1 rfl rfl
              have hpK91 := f_depo_fo pK_dep u83_5 c91_2 c91_1 rfl rfl
              have hF91 := f_fr_tr hF83c c91_2 rfl
              apply And.intro
              · intro h94
                have h94 : x91.toInt = 0 := h94
                try have x94 := c91_5 (by omega)
                have p94 : I91 37 = J48 37 := (c91_2 37 rfl).trans u83_6
                have q94 : I91 0 53 = J48 0 53 := (c91_1 53 rfl).trans u83_2
                have r94 : I91 0 54 = J48 0 54 := (c91_1 54 rfl).trans u83_3
                exact ⟨(by intro q9 h9; simp only [List.mem_cons, List.not_mem_nil, or_false] at h9; rcases h9 with h9 | h9 <;> subst h9 <;> repeat (first | exact List.mem_cons_self | apply List.mem_cons_of_mem)), rfl, rfl, c91_0, hF91, hO91, hmL91, hmK91, hmW91, hmO91, (show I91 0 53 = J48 0 53 from by first | assumption | omega | rfl), (show I91 0 54 = J48 0 54 from by first | assumption | omega | rfl), hpK91, (show I91 37 = J48 37 from by first | assumption | omega | rfl), (show more.toInt = 1 from by first | assumption | omega | rfl)⟩
              · intro h94
                have h94 : ¬ x91.toInt = 0 := h94
                try have x94 := c91_5 (by omega)
                have p94 : I91 37 = J48 37 := (c91_2 37 rfl).trans u83_6
                have q94 : I91 0 53 = J48 0 53 := (c91_1 53 rfl).trans u83_2
                have r94 : I91 0 54 = J48 0 54 := (c91_1 54 rfl).trans u83_3
                refine And.intro ⟨c91_0, hsS91, (x94.1)⟩ ?_
                intro x98 I98 L98 hq98
                have hq98 : mR I98 ∧ sS I98 ∧ tA I98 ∧ f_fr [42, 43, 44] I91 I98 ∧ L98 = L ∧ ((x98.toInt = 0 ∨ x98.toInt = 1)) ∧ ((x98.toInt = 1 → uN I98)) := hq98
                obtain ⟨c98_0, c98_1, c98_2, c98_3, eL98, c98_5, c98_6⟩ := hq98
                replace eL98 := eL98.symm
                subst eL98
                have hO98 := f_fo_fr hO91 c98_3 rfl
                have hmL98 := f_depo_fr mL_dep hmL91 c98_3 rfl rfl
                have hmK98 := f_depo_fr mK_dep hmK91 c98_3 rfl rfl
                have hmW98 := f_depo_fr mW_dep hmW91 c98_3 rfl rfl
                have hmO98 := f_depo_fr mO_dep hmO91 c98_3 rfl rfl
                have hpK98 := f_depo_fr pK_dep hpK91 c98_3 rfl rfl
                have hF98 := f_fr_tr hF91 c98_3 rfl
                have p98 : I98 37 = J48 37 := (c98_3 37 rfl).trans p94
                have q98 : I98 0 53 = J48 0 53 := (congrFun (c98_3 0 rfl) 53).trans q94
                have r98 : I98 0 54 = J48 0 54 := (congrFun (c98_3 0 rfl) 54).trans r94
                have y98 : tY I98 (I98 0 59).toInt := tY_eq x94.2.1 (c98_3 23 rfl) (c98_3 33 rfl) (c98_3 40 rfl) (c98_3 41 rfl) (congrFun (c98_3 0 rfl) 45) (congrArg Int32.toInt (congrFun (c98_3 0 rfl) 59))
                have v98 : tyV I98 = tyV I91 := tyV_same (c98_3 41 rfl) (congrFun (c98_3 0 rfl) 59)
                have w98 := tyV_rng c91_0
                have d98 : (I98 0 59).toInt = (I91 0 59).toInt := congrArg Int32.toInt (congrFun (c98_3 0 rfl) 59)
                apply And.intro
                · intro h101
                  have h101 : x98.toInt = 0 := h101
                  have r83_4 : -1 ≤ (I98 0 59).toInt ∧ (I98 0 59).toInt ≤ 10 := c98_0 0 59
                  have e83_5 : (I98 0 59).toInt = (I91 0 59).toInt := congrArg Int32.toInt (congrFun (c98_3 0 rfl) 59)
                  exact ⟨(by intro q9 h9; simp only [List.mem_cons, List.not_mem_nil, or_false] at h9; rcases h9 with h9 | h9 <;> subst h9 <;> repeat (first | exact List.mem_cons_self | apply List.mem_cons_of_mem)), rfl, rfl, c98_0, hF98, hO98, hmL98, hmK98, hmW98, hmO98, (show I98 0 53 = J48 0 53 from by first | assumption | omega | rfl), (show I98 0 54 = J48 0 54 from by first | assumption | omega | rfl), c98_1, hpK98, (show I98 37 = J48 37 from by first | assumption | omega | rfl), (show tY I98 (I98 0 59).toInt from by first | assumption | omega), (show (I98 0 59).toInt ≤ 9 from by first | assumption | omega), (show 0 ≤ tyV I98 from by first | assumption | omega), (show more.toInt = 1 from by first | assumption | omega | rfl), (show (tyV I98) < n83 from by omega)⟩
                · intro h101
                  have h101 : ¬ x98.toInt = 0 := h101
                  refine And.intro ⟨c98_0, c98_1, c98_2, (c98_6 (by omega)), (show (I98 0 53).toInt ≤ 8 from by rw [q98]; omega)⟩ ?_
                  intro I105 L105 hq105
                  have hq105 : mR I105 ∧ sS I105 ∧ tA I105 ∧ f_fo [69, 71, 74] I98 I105 ∧ f_fr [0, 45, 46, 47, 48, 49, 50, 51, 52] I98 I105 ∧ L105 = L := hq105
                  obtain ⟨c105_0, c105_1, c105_2, c105_3, c105_4, eL105⟩ := hq105
                  replace eL105 := eL105.symm
                  subst eL105
                  have hO105 := f_fo_tr hO98 c105_3 rfl
                  have hmL105 := f_depo_fo mL_dep hmL98 c105_4 c105_3 rfl rfl
                  have hmK105 := f_depo_fo mK_dep hmK98 c105_4 c105_3 rfl rfl
                  have hmW105 := f_depo_fo mW_dep hmW98 c105_4 c105_3 rfl rfl
                  have hmO105 := f_depo_fo mO_dep hmO98 c105_4 c105_3 rfl rfl
                  have hpK105 := f_depo_fo pK_dep hpK98 c105_4 c105_3 rfl rfl
                  have hF105 := f_fr_tr hF98 c105_4 rfl
                  have p105 : I105 37 = J48 37 := (c105_4 37 rfl).trans p98
                  have q105 : I105 0 53 = J48 0 53 := (c105_3 53 rfl).trans q98
                  have r105 : I105 0 54 = J48 0 54 := (c105_3 54 rfl).trans r98
                  have y105 : tY I105 (I105 0 59).toInt := tY_eq y98 (c105_4 23 rfl) (c105_4 33 rfl) (c105_4 40 rfl) (c105_4 41 rfl) (c105_3 45 rfl) (congrArg Int32.toInt (c105_3 59 rfl))
                  have v105 : tyV I105 = tyV I98 := tyV_same (c105_4 41 rfl) (c105_3 59 rfl)
                  have d105 : (I105 0 59).toInt = (I98 0 59).toInt := congrArg Int32.toInt (c105_3 59 rfl)
                  have r83_4 : -1 ≤ (I105 0 59).toInt ∧ (I105 0 59).toInt ≤ 10 := c105_0 0 59
                  have e83_5 : (I105 0 59).toInt = (I98 0 59).toInt := congrArg Int32.toInt (c105_3 59 rfl)
                  have e83_6 : (I98 0 59).toInt = (I91 0 59).toInt := congrArg Int32.toInt (congrFun (c98_3 0 rfl) 59)
                  exact ⟨(by intro q9 h9; simp only [List.mem_cons, List.not_mem_nil, or_false] at h9; rcases h9 with h9 | h9 <;> subst h9 <;> repeat (first | exact List.mem_cons_self | apply List.mem_cons_of_mem)), rfl, rfl, c105_0, hF105, hO105, hmL105, hmK105, hmW105, hmO105, (show I105 0 53 = J48 0 53 from by first | assumption | omega | rfl), (show I105 0 54 = J48 0 54 from by first | assumption | omega | rfl), c105_1, hpK105, (show I105 37 = J48 37 from by first | assumption | omega | rfl), (show tY I105 (I105 0 59).toInt from by first | assumption | omega), (show (I105 0 59).toInt ≤ 9 from by first | assumption | omega), (show 0 ≤ tyV I105 from by first | assumption | omega), (show more.toInt = 1 from by first | assumption | omega | rfl), (show (tyV I105) < n83 from by omega)⟩
        refine f_wp_ok C f_cl flX12_ok fiX12_ok fjX12_ok (sn := none) (fun j h => by cases h) (cs := (f_cnl [(466, (1, 0, 11, pX12_layRow, qX12_layRow)), (436, (1, 0, 11, pX12_firstPick, qX12_firstPick)), (439, (1, 3, 11, pX12_isEven, qX12_isEven)), (442, (1, 1, 11, pX12_endsOf, qX12_endsOf)), (445, (1, 0, 11, pX12_assemble, qX12_assemble)), (448, (1, 0, 11, pX12_beginTying, qX12_beginTying)), (451, (1, 3, 11, pX12_nextTying, qX12_nextTying)), (454, (1, 3, 11, pX12_isRight, qX12_isRight)), (469, (1, 0, 11, pX12_keepReading, qX12_keepReading)), (457, (1, 3, 11, pX12_nextPick, qX12_nextPick))])) (cz := (fun _ => none)) (f_cnl_of (P := fun j S => f_cok pP l eP (f_rm 3) sP mP aP bP hP9 cP mY 71 a cy dC dI 2 _ _ (.invokevirtual j) true S) (List.forall_mem_cons.mpr ⟨f_cokV C (mX12_layRow hinj) (ci := 11) rfl (List.forall_mem_cons.mpr ⟨(mlX12_ok _ (List.mem_of_getElem? (i := 49) rfl)), kc_X12_layRow⟩) (by decide +kernel) ⟨Nat.le_of_ble_eq_true rfl, Nat.le_of_ble_eq_true rfl⟩, List.forall_mem_cons.mpr ⟨f_cokV C (mX12_firstPick hinj) (ci := 11) rfl (List.forall_mem_cons.mpr ⟨(mlX12_ok _ (List.mem_of_getElem? (i := 41) rfl)), kc_X12_firstPick⟩) (by decide +kernel) ⟨Nat.le_of_ble_eq_true rfl, Nat.le_of_ble_eq_true rfl⟩, List.forall_mem_cons.mpr ⟨f_cokV C (mX12_isEven hinj) (ci := 11) rfl (List.forall_mem_cons.mpr ⟨(mlX12_ok _ (List.mem_of_getElem? (i := 42) rfl)), kc_X12_isEven⟩) (by decide +kernel) ⟨Nat.le_of_ble_eq_true rfl, Nat.le_of_ble_eq_true rfl⟩, List.forall_mem_cons.mpr ⟨f_cokV C (mX12_endsOf hinj) (ci := 11) rfl (List.forall_mem_cons.mpr ⟨(mlX12_ok _ (List.mem_of_getElem? (i := 43) rfl)), kc_X12_endsOf⟩) (by decide +kernel) ⟨Nat.le_of_ble_eq_true rfl, Nat.le_of_ble_eq_true rfl⟩, List.forall_mem_cons.mpr ⟨f_cokV C (mX12_assemble hinj) (ci := 11) rfl (List.forall_mem_cons.mpr ⟨(mlX12_ok _ (List.mem_of_getElem? (i := 44) rfl)), kc_X12_assemble⟩) (by decide +kernel) ⟨Nat.le_of_ble_eq_true rfl, Nat.le_of_ble_eq_true rfl⟩, List.forall_mem_cons.mpr ⟨f_cokV C (mX12_beginTying hinj) (ci := 11) rfl (List.forall_mem_cons.mpr ⟨(mlX12_ok _ (List.mem_of_getElem? (i := 45) rfl)), kc_X12_beginTying⟩) (by decide +kernel) ⟨Nat.le_of_ble_eq_true rfl, Nat.le_of_ble_eq_true rfl⟩, List.forall_mem_cons.mpr ⟨f_cokV C (mX12_nextTying hinj) (ci := 11) rfl (List.forall_mem_cons.mpr ⟨(mlX12_ok _ (List.mem_of_getElem? (i := 46) rfl)), kc_X12_nextTying⟩) (by decide +kernel) ⟨Nat.le_of_ble_eq_true rfl, Nat.le_of_ble_eq_true rfl⟩, List.forall_mem_cons.mpr ⟨f_cokV C (mX12_isRight hinj) (ci := 11) rfl (List.forall_mem_cons.mpr ⟨(mlX12_ok _ (List.mem_of_getElem? (i := 47) rfl)), kc_X12_isRight⟩) (by decide +kernel) ⟨Nat.le_of_ble_eq_true rfl, Nat.le_of_ble_eq_true rfl⟩, List.forall_mem_cons.mpr ⟨f_cokV C (mX12_keepReading hinj) (ci := 11) rfl (List.forall_mem_cons.mpr ⟨(mlX12_ok _ (List.mem_of_getElem? (i := 50) rfl)), kc_X12_keepReading⟩) (by decide +kernel) ⟨Nat.le_of_ble_eq_true rfl, Nat.le_of_ble_eq_true rfl⟩, List.forall_mem_cons.mpr ⟨f_cokV C (mX12_nextPick hinj) (ci := 11) rfl (List.forall_mem_cons.mpr ⟨(mlX12_ok _ (List.mem_of_getElem? (i := 48) rfl)), kc_X12_nextPick⟩) (by decide +kernel) ⟨Nat.le_of_ble_eq_true rfl, Nat.le_of_ble_eq_true rfl⟩, fun _ h => absurd h List.not_mem_nil⟩⟩⟩⟩⟩⟩⟩⟩⟩⟩)) (fun j S h => by cases h) tX12_layReadings_ok (cut := (f_cnl [(83, (fun (ls' : fLs) (st' : List Value) (I' : fM) (L' : fN) => (∀ q ∈ ([(1, .int more), (0, .ref 0)] : fLs), q ∈ ls') ∧ st' = [] ∧ L' = L ∧ (mR I' ∧ f_fr [0, 21, 22, 23, 24, 25, 26, 27, 28, 29, 30, 31, 32, 33, 34, 35, 36, 37, 38, 39, 40, 41, 42, 43, 44, 45, 46, 47, 48, 49, 50, 51, 52] I I' ∧ f_fo [45, 46, 47, 48, 53, 54, 55, 59, 69, 70, 71, 74] I I' ∧ mL I' ∧ mK I' ∧ mW I' ∧ (mO I') ∧ (I' 0 53 = J48 0 53) ∧ (I' 0 54 = J48 0 54) ∧ (sS I') ∧ (pK I') ∧ (I' 37 = J48 37) ∧ (tY I' (I' 0 59).toInt) ∧ ((I' 0 59).toInt ≤ 9) ∧ (0 ≤ tyV I') ∧ (more.toInt = 1) ∧ (tyV I') < 600000000000000))), (111, (fun (ls' : fLs) (st' : List Value) (I' : fM) (L' : fN) => (∀ q ∈ ([(1, .int more), (0, .ref 0)] : fLs), q ∈ ls') ∧ st' = [] ∧ L' = L ∧ (mR I' ∧ f_fr [0, 21, 22, 23, 24, 25, 26, 27, 28, 29, 30, 31, 32, 33, 34, 35, 36, 37, 38, 39, 40, 41, 42, 43, 44, 45, 46, 47, 48, 49, 50, 51, 52] I I' ∧ f_fo [45, 46, 47, 48, 53, 54, 55, 59, 69, 70, 71, 74] I I' ∧ mL I' ∧ mK I' ∧ mW I' ∧ (mO I') ∧ (I' 0 53 = J48 0 53) ∧ (I' 0 54 = J48 0 54) ∧ (pK I') ∧ (I' 37 = J48 37) ∧ (more.toInt = 1))))])) (f_cnl_of (P := fun (tQ : Nat) (P : fLs → List Value → fM → fN → Prop) => ∀ ls' st' I' L', P ls' st' I' L' → f_W pP l eP (f_rm 3) sP mP aP bP hP9 cP mY 71 a cy dC dI 2 (f_K 0 (qX12_layReadings [.ref 0] I L)) tQ ls' st' I' L') (List.forall_mem_cons.mpr ⟨(fun ls' st' I' L' h => by obtain ⟨hs, e1, e3, h9⟩ := h; rw [e1, e3]; exact f_W_sub hs (lp83 600000000000000  I' h9)), List.forall_mem_cons.mpr ⟨(fun ls' st' I' L' h => by obtain ⟨hs, e1, e3, h9⟩ := h; rw [e1, e3]; exact f_W_sub hs (lp111  I' h9)), fun _ h => absurd h List.not_mem_nil⟩⟩)) 19 48 (f_seek 48 0 tX12_layReadings) (f_seek_ok 48 0 tX12_layReadings tX12_layReadings_ok) _ _ _ _ ?_
        apply And.intro
        · intro h49
          have h49 : more.toInt = 0 := h49
          exact ⟨hR48c, hmL48c, hmK48c, hmW48c, hO48c, hF48c, rfl⟩
        · intro h49
          have h49 : ¬ more.toInt = 0 := h49
          apply And.intro
          · intro h56
            have h56 : ¬ (J48 0 71).toInt = 0 := h56
            exact ⟨hR48c, hmL48c, hmK48c, hmW48c, hO48c, hF48c, rfl⟩
          · intro h56
            have h56 : (J48 0 71).toInt = 0 := h56
            refine And.intro hR48c ?_
            intro x60 I60 L60 hq60
            have hq60 : I60 = J48 ∧ L60 = L ∧ ((x60.toInt = 0 ∨ x60.toInt = 1)) := hq60
            obtain ⟨eI60, eL60, c60_2⟩ := hq60
            replace eI60 := eI60.symm
            subst eI60
            replace eL60 := eL60.symm
            subst eL60
            apply And.intro
            · intro h63
              have h63 : x60.toInt = 0 := h63
              exact ⟨(by intro q9 h9; simp only [List.mem_cons, List.not_mem_nil, or_false] at h9; rcases h9 with h9 | h9 <;> subst h9 <;> repeat (first | exact List.mem_cons_self | apply List.mem_cons_of_mem)), rfl, rfl, hR48c, hF48c, hO48c, hmL48c, hmK48c, hmW48c, u48_1, (show J48 0 53 = J48 0 53 from by first | assumption | omega | rfl), (show J48 0 54 = J48 0 54 from by first | assumption | omega | rfl), u48_5, (show J48 37 = J48 37 from by first | assumption | exact rfl), (show more.toInt = 1 from by first | assumption | omega | rfl)⟩
            · intro h63
              have h63 : ¬ x60.toInt = 0 := h63
              have r67_2 : -1 ≤ (J48 0 54).toInt ∧ (J48 0 54).toInt ≤ 1599 := hR48c 0 54
              refine And.intro ⟨hR48c, hmL48c, u48_1, u48_5, (show 0 ≤ (J48 0 54).toInt from by first | assumption | omega)⟩ ?_
              intro x67 I67 L67 hq67
              have hq67 : I67 = J48 ∧ L67 = L ∧ x67.toInt = eS J48 (J48 0 53).toInt.toNat := hq67
              obtain ⟨eI67, eL67, c67_2⟩ := hq67
              replace eI67 := eI67.symm
              subst eI67
              replace eL67 := eL67.symm
              subst eL67
              apply And.intro
              · intro h72
                have h72 : 20 < x67.toInt := h72
                exact ⟨(by intro q9 h9; simp only [List.mem_cons, List.not_mem_nil, or_false] at h9; rcases h9 with h9 | h9 <;> subst h9 <;> repeat (first | exact List.mem_cons_self | apply List.mem_cons_of_mem)), rfl, rfl, hR48c, hF48c, hO48c, hmL48c, hmK48c, hmW48c, u48_1, (show J48 0 53 = J48 0 53 from by first | assumption | omega | rfl), (show J48 0 54 = J48 0 54 from by first | assumption | omega | rfl), u48_5, (show J48 37 = J48 37 from by first | assumption | exact rfl), (show more.toInt = 1 from by first | assumption | omega | rfl)⟩
              · intro h72
                have h72 : x67.toInt ≤ 20 := h72
                have r76_3 : 0 ≤ (J48 0 53).toInt ∧ (J48 0 53).toInt ≤ 10 := hR48c 0 53
                refine And.intro ⟨hR48c, hmL48c, hmK48c, u48_1, u48_5, (show 0 ≤ (J48 0 54).toInt from by first | assumption | omega), (show eS J48 (J48 0 53).toInt.toNat ≤ 20 from by first | assumption | omega)⟩ ?_
                intro I76 L76 hq76
                have hq76 : mR I76 ∧ mL I76 ∧ mK I76 ∧ mO I76 ∧ pK I76 ∧ f_fo [45, 46, 47, 48, 55] J48 I76 ∧ f_fr [0, 21, 22, 24, 25, 26, 27, 28, 29, 30, 31, 32, 33, 34, 39] J48 I76 ∧ L76 = L ∧ sS I76 := hq76
                obtain ⟨c76_0, c76_1, c76_2, c76_3, c76_4, c76_5, c76_6, eL76, c76_8⟩ := hq76
                replace eL76 := eL76.symm
                subst eL76
                have hO76 := f_fo_tr hO48c c76_5 rfl
                have hmW76 := f_depo_fo mW_dep hmW48c c76_6 c76_5 rfl rfl
                have hF76 := f_fr_tr hF48c c76_6 rfl
                have p76 : I76 37 = J48 37 := c76_6 37 rfl
                refine And.intro c76_0 ?_
                intro I80 L80 hq80
                have hq80 : mR I80 ∧ f_fo [59] I76 I80 ∧ f_fr [0, 23, 40, 41] I76 I80 ∧ L80 = L ∧ ((∀ e : Nat, (e : Int) < (I76 0 45).toInt → (I80 23 e).toInt = -1)) ∧ (I80 0 59).toInt = 0 ∧ (I80 40 0).toInt = 0 ∧ (I80 41 0).toInt = 0 := hq80
                obtain ⟨c80_0, c80_1, c80_2, eL80, c80_4, c80_5, c80_6, c80_7⟩ := hq80
                replace eL80 := eL80.symm
                subst eL80
                have hO80 := f_fo_tr hO76 c80_1 rfl
                have hmL80 := f_depo_fo mL_dep c76_1 c80_2 c80_1 rfl rfl
                have hmK80 := f_depo_fo mK_dep c76_2 c80_2 c80_1 rfl rfl
                have hmW80 := f_depo_fo mW_dep hmW76 c80_2 c80_1 rfl rfl
                have hmO80 := f_depo_fo mO_dep c76_3 c80_2 c80_1 rfl rfl
                have hpK80 := f_depo_fo pK_dep c76_4 c80_2 c80_1 rfl rfl
                have hsS80 := f_depo_fo sS_dep c76_8 c80_2 c80_1 rfl rfl
                have hF80 := f_fr_tr hF76 c80_2 rfl
                have p80 : I80 37 = J48 37 := (c80_2 37 rfl).trans p76
                have q80 : I80 0 53 = J48 0 53 := (c80_1 53 rfl).trans (c76_5 53 rfl)
                have r80 : I80 0 54 = J48 0 54 := (c80_1 54 rfl).trans (c76_5 54 rfl)
                have y80 : tY I80 (I80 0 59).toInt := by
                  rw [c80_5]
                  have e : I80 0 45 = I76 0 45 := c80_1 45 rfl
                  exact tY_begin c80_0 (by rw [e]; exact c76_8.1.1) (by rw [e]; exact c80_4) c80_6 c80_7
                have v80 := tyV_rng c80_0
                have r83_4 : -1 ≤ (I80 0 59).toInt ∧ (I80 0 59).toInt ≤ 10 := c80_0 0 59
                exact ⟨(by intro q9 h9; simp only [List.mem_cons, List.not_mem_nil, or_false] at h9; rcases h9 with h9 | h9 <;> subst h9 <;> repeat (first | exact List.mem_cons_self | apply List.mem_cons_of_mem)), rfl, rfl, c80_0, hF80, hO80, hmL80, hmK80, hmW80, hmO80, (show I80 0 53 = J48 0 53 from by first | assumption | omega | rfl), (show I80 0 54 = J48 0 54 from by first | assumption | omega | rfl), hsS80, hpK80, (show I80 37 = J48 37 from by first | assumption | exact ((c80_2 37 rfl).trans (c76_6 37 rfl))), (show tY I80 (I80 0 59).toInt from by first | assumption | omega), (show (I80 0 59).toInt ≤ 9 from by first | assumption | omega), (show 0 ≤ tyV I80 from by first | assumption | omega), (show more.toInt = 1 from by first | assumption | omega | rfl), (show (tyV I80) < 600000000000000 from by omega)⟩
    refine f_wp_ok C f_cl flX12_ok fiX12_ok fjX12_ok (sn := none) (fun j h => by cases h) (cs := (f_cnl [(466, (1, 0, 11, pX12_layRow, qX12_layRow)), (436, (1, 0, 11, pX12_firstPick, qX12_firstPick)), (439, (1, 3, 11, pX12_isEven, qX12_isEven)), (442, (1, 1, 11, pX12_endsOf, qX12_endsOf)), (445, (1, 0, 11, pX12_assemble, qX12_assemble)), (448, (1, 0, 11, pX12_beginTying, qX12_beginTying)), (451, (1, 3, 11, pX12_nextTying, qX12_nextTying)), (454, (1, 3, 11, pX12_isRight, qX12_isRight)), (469, (1, 0, 11, pX12_keepReading, qX12_keepReading)), (457, (1, 3, 11, pX12_nextPick, qX12_nextPick))])) (cz := (fun _ => none)) (f_cnl_of (P := fun j S => f_cok pP l eP (f_rm 3) sP mP aP bP hP9 cP mY 71 a cy dC dI 2 _ _ (.invokevirtual j) true S) (List.forall_mem_cons.mpr ⟨f_cokV C (mX12_layRow hinj) (ci := 11) rfl (List.forall_mem_cons.mpr ⟨(mlX12_ok _ (List.mem_of_getElem? (i := 49) rfl)), kc_X12_layRow⟩) (by decide +kernel) ⟨Nat.le_of_ble_eq_true rfl, Nat.le_of_ble_eq_true rfl⟩, List.forall_mem_cons.mpr ⟨f_cokV C (mX12_firstPick hinj) (ci := 11) rfl (List.forall_mem_cons.mpr ⟨(mlX12_ok _ (List.mem_of_getElem? (i := 41) rfl)), kc_X12_firstPick⟩) (by decide +kernel) ⟨Nat.le_of_ble_eq_true rfl, Nat.le_of_ble_eq_true rfl⟩, List.forall_mem_cons.mpr ⟨f_cokV C (mX12_isEven hinj) (ci := 11) rfl (List.forall_mem_cons.mpr ⟨(mlX12_ok _ (List.mem_of_getElem? (i := 42) rfl)), kc_X12_isEven⟩) (by decide +kernel) ⟨Nat.le_of_ble_eq_true rfl, Nat.le_of_ble_eq_true rfl⟩, List.forall_mem_cons.mpr ⟨f_cokV C (mX12_endsOf hinj) (ci := 11) rfl (List.forall_mem_cons.mpr ⟨(mlX12_ok _ (List.mem_of_getElem? (i := 43) rfl)), kc_X12_endsOf⟩) (by decide +kernel) ⟨Nat.le_of_ble_eq_true rfl, Nat.le_of_ble_eq_true rfl⟩, List.forall_mem_cons.mpr ⟨f_cokV C (mX12_assemble hinj) (ci := 11) rfl (List.forall_mem_cons.mpr ⟨(mlX12_ok _ (List.mem_of_getElem? (i := 44) rfl)), kc_X12_assemble⟩) (by decide +kernel) ⟨Nat.le_of_ble_eq_true rfl, Nat.le_of_ble_eq_true rfl⟩, List.forall_mem_cons.mpr ⟨f_cokV C (mX12_beginTying hinj) (ci := 11) rfl (List.forall_mem_cons.mpr ⟨(mlX12_ok _ (List.mem_of_getElem? (i := 45) rfl)), kc_X12_beginTying⟩) (by decide +kernel) ⟨Nat.le_of_ble_eq_true rfl, Nat.le_of_ble_eq_true rfl⟩, List.forall_mem_cons.mpr ⟨f_cokV C (mX12_nextTying hinj) (ci := 11) rfl (List.forall_mem_cons.mpr ⟨(mlX12_ok _ (List.mem_of_getElem? (i := 46) rfl)), kc_X12_nextTying⟩) (by decide +kernel) ⟨Nat.le_of_ble_eq_true rfl, Nat.le_of_ble_eq_true rfl⟩, List.forall_mem_cons.mpr ⟨f_cokV C (mX12_isRight hinj) (ci := 11) rfl (List.forall_mem_cons.mpr ⟨(mlX12_ok _ (List.mem_of_getElem? (i := 47) rfl)), kc_X12_isRight⟩) (by decide +kernel) ⟨Nat.le_of_ble_eq_true rfl, Nat.le_of_ble_eq_true rfl⟩, List.forall_mem_cons.mpr ⟨f_cokV C (mX12_keepReading hinj) (ci := 11) rfl (List.forall_mem_cons.mpr ⟨(mlX12_ok _ (List.mem_of_getElem? (i := 50) rfl)), kc_X12_keepReading⟩) (by decide +kernel) ⟨Nat.le_of_ble_eq_true rfl, Nat.le_of_ble_eq_true rfl⟩, List.forall_mem_cons.mpr ⟨f_cokV C (mX12_nextPick hinj) (ci := 11) rfl (List.forall_mem_cons.mpr ⟨(mlX12_ok _ (List.mem_of_getElem? (i := 48) rfl)), kc_X12_nextPick⟩) (by decide +kernel) ⟨Nat.le_of_ble_eq_true rfl, Nat.le_of_ble_eq_true rfl⟩, fun _ h => absurd h List.not_mem_nil⟩⟩⟩⟩⟩⟩⟩⟩⟩⟩)) (fun j S h => by cases h) tX12_layReadings_ok (cut := (f_cnl [(48, (fun (ls' : fLs) (st' : List Value) (I' : fM) (L' : fN) => ∃ more : Int32, (∀ q ∈ ([(1, .int more), (0, .ref 0)] : fLs), q ∈ ls') ∧ st' = [] ∧ L' = L ∧ (mR I' ∧ f_fr [0, 21, 22, 23, 24, 25, 26, 27, 28, 29, 30, 31, 32, 33, 34, 35, 36, 37, 38, 39, 40, 41, 42, 43, 44, 45, 46, 47, 48, 49, 50, 51, 52] I I' ∧ f_fo [45, 46, 47, 48, 53, 54, 55, 59, 69, 70, 71, 74] I I' ∧ mL I' ∧ mK I' ∧ mW I' ∧ (mO I') ∧ (0 ≤ (I' 0 54).toInt) ∧ (0 ≤ (I' 0 53).toInt) ∧ ((I' 0 53).toInt ≤ 8) ∧ (pK I') ∧ (more.toInt = 0 ∨ more.toInt = 1) ∧ (0 ≤ gm (1 - more.toInt) (59049 - pvl (I' 37) (I' 0 53).toInt.toNat)) ∧ (gm (1 - more.toInt) (59049 - pvl (I' 37) (I' 0 53).toInt.toNat)) < 60000)))])) (f_cnl_of (P := fun (tQ : Nat) (P : fLs → List Value → fM → fN → Prop) => ∀ ls' st' I' L', P ls' st' I' L' → f_W pP l eP (f_rm 3) sP mP aP bP hP9 cP mY 71 a cy dC dI 2 (f_K 0 (qX12_layReadings [.ref 0] I L)) tQ ls' st' I' L') (List.forall_mem_cons.mpr ⟨(fun ls' st' I' L' h => by obtain ⟨more, hs, e1, e3, h9⟩ := h; rw [e1, e3]; exact f_W_sub hs (lp48 60000 more I' h9)), fun _ h => absurd h List.not_mem_nil⟩)) 27 0 tX12_layReadings tX12_layReadings_ok _ _ _ _ ?_
    apply And.intro
    · intro h4
      have h4 : (I 0 70).toInt = 0 := h4
      refine And.intro (Or.inr rfl) ?_
      have hR10 := mR_f (k := 0) (j := 70) (x := Int32.ofInt 1) hR (by exact f_rng _)
      have hF10 := f_fr_up (k := 0) (r := va_up (I 0) 70 (Int32.ofInt 1)) hF0 rfl
      have hO10 := f_fo_up (j := 70) (x := Int32.ofInt 1) hO0 rfl
      have hmL10 := f_depo_up0 mL_dep (j := 70) (x := Int32.ofInt 1) hmL rfl rfl
      have hmK10 := f_depo_up0 mK_dep (j := 70) (x := Int32.ofInt 1) hmK rfl rfl
      have hmW10 := f_depo_up0 mW_dep (j := 70) (x := Int32.ofInt 1) hmW rfl rfl
      refine And.intro (Or.inl rfl) ?_
      have hR15 := mR_f (k := 0) (j := 71) (x := Int32.ofInt 0) hR10 (by exact f_rng _)
      have hF15 := f_fr_up (k := 0) (r := va_up (va_up (I 0) 70 (Int32.ofInt 1)) 71 (Int32.ofInt 0)) hF10 rfl
      have hO15 := f_fo_up (j := 71) (x := Int32.ofInt 0) hO10 rfl
      have hmL15 := f_depo_up0 mL_dep (j := 71) (x := Int32.ofInt 0) hmL10 rfl rfl
      have hmK15 := f_depo_up0 mK_dep (j := 71) (x := Int32.ofInt 0) hmK10 rfl rfl
      have hmW15 := f_depo_up0 mW_dep (j := 71) (x := Int32.ofInt 0) hmW10 rfl rfl
      have hR20 := mR_f (k := 0) (j := 69) (x := Int32.ofInt 0) hR15 (show 0 ≤ 0 ∧ 0 ≤ 300 from ⟨by omega, by omega⟩)
      have hF20 := f_fr_up (k := 0) (r := va_up (va_up (va_up (I 0) 70 (Int32.ofInt 1)) 71 (Int32.ofInt 0)) 69 (Int32.ofInt 0)) hF15 rfl
      have hO20 := f_fo_up (j := 69) (x := Int32.ofInt 0) hO15 rfl
      have hmL20 := f_depo_up0 mL_dep (j := 69) (x := Int32.ofInt 0) hmL15 rfl rfl
      have hmK20 := f_depo_up0 mK_dep (j := 69) (x := Int32.ofInt 0) hmK15 rfl rfl
      have hmW20 := f_depo_up0 mW_dep (j := 69) (x := Int32.ofInt 0) hmW15 rfl rfl
      refine And.intro ⟨hR20, hmL20, hmW20⟩ ?_
      intro I24 L24 hq24
      have hq24 : mR I24 ∧ mL I24 ∧ mW I24 ∧ f_fo [53, 54] (va_up (va_up (va_up I 0 (va_up (I 0) 70 (Int32.ofInt 1))) 0 (va_up (va_up (I 0) 70 (Int32.ofInt 1)) 71 (Int32.ofInt 0))) 0 (va_up (va_up (va_up (I 0) 70 (Int32.ofInt 1)) 71 (Int32.ofInt 0)) 69 (Int32.ofInt 0))) I24 ∧ f_fr [0, 35, 36] (va_up (va_up (va_up I 0 (va_up (I 0) 70 (Int32.ofInt 1))) 0 (va_up (va_up (I 0) 70 (Int32.ofInt 1)) 71 (Int32.ofInt 0))) 0 (va_up (va_up (va_up (I 0) 70 (Int32.ofInt 1)) 71 (Int32.ofInt 0)) 69 (Int32.ofInt 0))) I24 ∧ L24 = L ∧ mO I24 ∧ (I24 0 53).toInt = (I 0 30).toInt ∧ (I24 0 54).toInt = (I 10 (I 0 24).toInt.toNat).toInt := hq24
      obtain ⟨c24_0, c24_1, c24_2, c24_3, c24_4, eL24, c24_6, c24_7, c24_8⟩ := hq24
      replace eL24 := eL24.symm
      subst eL24
      have hO24 := f_fo_tr hO20 c24_3 rfl
      have hmK24 := f_depo_fo mK_dep hmK20 c24_4 c24_3 rfl rfl
      have hF24 := f_fr_tr hF20 c24_4 rfl
      have r24_2 : -1 ≤ (I24 0 54).toInt ∧ (I24 0 54).toInt ≤ 1599 := c24_0 0 54
      have r28_3 : 0 ≤ (I24 0 53).toInt ∧ (I24 0 53).toInt ≤ 10 := c24_0 0 53
      apply And.intro
      · intro h31
        have h31 : (I24 0 53).toInt = 0 := h31
        exact ⟨c24_0, c24_1, hmK24, c24_2, hO24, hF24, rfl⟩
      · intro h31
        have h31 : ¬ (I24 0 53).toInt = 0 := h31
        apply And.intro
        · intro h38
          have h38 : 0 ≤ (I24 0 54).toInt := h38
          refine And.intro ⟨c24_0, c24_6⟩ ?_
          intro I43 L43 hq43
          have hq43 : mR I43 ∧ mO I43 ∧ f_fr [37, 38] I24 I43 ∧ L43 = L ∧ pK I43 := hq43
          obtain ⟨c43_0, c43_1, c43_2, eL43, c43_4⟩ := hq43
          replace eL43 := eL43.symm
          subst eL43
          have hO43 := f_fo_fr hO24 c43_2 rfl
          have hmL43 := f_depo_fr mL_dep c24_1 c43_2 rfl rfl
          have hmK43 := f_depo_fr mK_dep hmK24 c43_2 rfl rfl
          have hmW43 := f_depo_fr mW_dep c24_2 c43_2 rfl rfl
          have hF43 := f_fr_tr hF24 c43_2 rfl
          have v43 := pvl_10 (P := I43 37) (fun j => c43_0 37 j) (n := (I43 0 53).toInt.toNat) (by have e := congrArg Int32.toInt (congrFun (c43_2 0 rfl) 53); omega)
          have g43 : gm (1 - (1 : Int)) (59049 - pvl (I43 37) (I43 0 53).toInt.toNat) = 59049 - pvl (I43 37) (I43 0 53).toInt.toNat + 1 := gm_1 (by omega)
          have r48_4 : -1 ≤ (I43 0 54).toInt ∧ (I43 0 54).toInt ≤ 1599 := c43_0 0 54
          have e48_5 : (I43 0 54).toInt = (I24 0 54).toInt := congrArg Int32.toInt (congrFun (c43_2 0 rfl) 54)
          have r48_6 : 0 ≤ (I43 0 53).toInt ∧ (I43 0 53).toInt ≤ 10 := c43_0 0 53
          have e48_7 : (I43 0 53).toInt = (I24 0 53).toInt := congrArg Int32.toInt (congrFun (c43_2 0 rfl) 53)
          exact ⟨Int32.ofInt 1, (by intro q9 h9; simp only [List.mem_cons, List.not_mem_nil, or_false] at h9; rcases h9 with h9 | h9 <;> subst h9 <;> repeat (first | exact List.mem_cons_self | apply List.mem_cons_of_mem)), rfl, rfl, c43_0, hF43, hO43, hmL43, hmK43, hmW43, c43_1, (show 0 ≤ (I43 0 54).toInt from by first | assumption | omega), (show 0 ≤ (I43 0 53).toInt from by first | assumption | omega), (show (I43 0 53).toInt ≤ 8 from by first | assumption | omega), c43_4, (show (1 : Int) = 0 ∨ (1 : Int) = 1 from by first | assumption | omega | rfl), (show 0 ≤ gm (1 - (1 : Int)) (59049 - pvl (I43 37) (I43 0 53).toInt.toNat) from by first | assumption | omega), (show (gm (1 - (1 : Int)) (59049 - pvl (I43 37) (I43 0 53).toInt.toNat)) < 60000 from by omega)⟩
        · intro h38
          have h38 : (I24 0 54).toInt < 0 := h38
          exact ⟨c24_0, c24_1, hmK24, c24_2, hO24, hF24, rfl⟩
    · intro h4
      have h4 : ¬ (I 0 70).toInt = 0 := h4
      exact ⟨hR, hmL, hmK, hmW, hO0, hF0, rfl⟩
def tX12_readings : List (Instr × Nat) := [(.aload_n 0, 1), (.invokevirtual 481, 3), (.aload_n 0, 1), (.getfield 460, 3), (.ifCond .eq 8, 3), (.bipush (-2), 2), (.goto 7, 3), (.aload_n 0, 1), (.getfield 463, 3), (.ireturn, 1)]
theorem tX12_readings_ok : f_chk cX12_readings 0 tX12_readings = true := by decide +kernel
def pX12_readings (av : List Value) (I : fM) (L : fN) : Prop := match av with
  | [.ref 0] => mR I ∧ mL I ∧ mK I ∧ mW I
  | _ => False
def qX12_readings (av : List Value) (I : fM) (L : fN) (r : Value) (I' : fM) (L' : fN) : Prop := match av, r with
  | [.ref 0], .int x => mR I' ∧ mL I' ∧ mK I' ∧ mW I' ∧ f_fo [45, 46, 47, 48, 53, 54, 55, 59, 69, 70, 71, 74] I I' ∧ f_fr [0, 21, 22, 23, 24, 25, 26, 27, 28, 29, 30, 31, 32, 33, 34, 35, 36, 37, 38, 39, 40, 41, 42, 43, 44, 45, 46, 47, 48, 49, 50, 51, 52] I I' ∧ L' = L
  | _, _ => False
set_option maxHeartbeats 40000000 in
set_option maxRecDepth 100000 in
theorem mX12_readings {l : Launch} {a : Nat → Nat} {cy dC : Nat → ClassId} {dI : Nat → Nat → Nat} (hinj : ∀ i j, i < 71 → j < 71 → a i = a j → i = j) : f_Met (fun _ => True) l mY 71 a cy dC dI yX12_readings cX12_readings 1 1 4 pX12_readings qX12_readings := by
  refine f_met_of (f_Ec_T 71 a) hinj mY_hi (by decide) (fun av I L h => by unfold pX12_readings at h; split at h <;> first | exact Nat.le_of_ble_eq_true rfl | exact h.elim) ?_
  intro pP eP sP mP aP bP hP9 cP C av I L hp
  unfold pX12_readings at hp
  split at hp
  case h_2 => exact hp.elim
  case h_1 =>
    obtain ⟨hR, hmL, hmK, hmW⟩ := hp
    have hF0 : f_fr [0, 21, 22, 23, 24, 25, 26, 27, 28, 29, 30, 31, 32, 33, 34, 35, 36, 37, 38, 39, 40, 41, 42, 43, 44, 45, 46, 47, 48, 49, 50, 51, 52] I I := f_fr_rf
    have hO0 : f_fo [45, 46, 47, 48, 53, 54, 55, 59, 69, 70, 71, 74] I I := f_fo_rf
    refine f_wp_ok C f_cl flX12_ok fiX12_ok fjX12_ok (sn := none) (fun j h => by cases h) (cs := (f_cnl [(481, (1, 0, 11, pX12_layReadings, qX12_layReadings))])) (cz := (fun _ => none)) (f_cnl_of (P := fun j S => f_cok pP l eP (f_rm 4) sP mP aP bP hP9 cP mY 71 a cy dC dI 1 _ _ (.invokevirtual j) true S) (List.forall_mem_cons.mpr ⟨f_cokV C (mX12_layReadings hinj) (ci := 11) rfl (List.forall_mem_cons.mpr ⟨(mlX12_ok _ (List.mem_of_getElem? (i := 53) rfl)), kc_X12_layReadings⟩) (by decide +kernel) ⟨Nat.le_of_ble_eq_true rfl, Nat.le_of_ble_eq_true rfl⟩, fun _ h => absurd h List.not_mem_nil⟩)) (fun j S h => by cases h) tX12_readings_ok (cut := (fun _ => none)) (fun t P h => by cases h) 11 0 tX12_readings tX12_readings_ok _ _ _ _ ?_
    refine And.intro ⟨hR, hmL, hmK, hmW⟩ ?_
    intro I1 L1 hq1
    have hq1 : mR I1 ∧ mL I1 ∧ mK I1 ∧ mW I1 ∧ f_fo [45, 46, 47, 48, 53, 54, 55, 59, 69, 70, 71, 74] I I1 ∧ f_fr [0, 21, 22, 23, 24, 25, 26, 27, 28, 29, 30, 31, 32, 33, 34, 35, 36, 37, 38, 39, 40, 41, 42, 43, 44, 45, 46, 47, 48, 49, 50, 51, 52] I I1 ∧ L1 = L := hq1
    obtain ⟨c1_0, c1_1, c1_2, c1_3, c1_4, c1_5, eL1⟩ := hq1
    replace eL1 := eL1.symm
    subst eL1
    have hO1 := f_fo_tr hO0 c1_4 rfl
    have hF1 := f_fr_tr hF0 c1_5 rfl
    apply And.intro
    · intro h8
      have h8 : (I1 0 71).toInt = 0 := h8
      have r17_2 : 0 ≤ (I1 0 69).toInt ∧ (I1 0 69).toInt ≤ 300 := c1_0 0 69
      exact ⟨c1_0, c1_1, c1_2, c1_3, hO1, hF1, rfl⟩
    · intro h8
      have h8 : ¬ (I1 0 71).toInt = 0 := h8
      exact ⟨c1_0, c1_1, c1_2, c1_3, hO1, hF1, rfl⟩
def tX12_chosen : List (Instr × Nat) := [(.aload_n 0, 1), (.invokevirtual 481, 3), (.aload_n 0, 1), (.getfield 460, 3), (.ifCond .eq 8, 3), (.bipush (-2), 2), (.goto 40, 3), (.aload_n 0, 1), (.iload_n 1, 1), (.invokevirtual 484, 3), (.ifCond .eq 31, 3), (.iload_n 2, 1), (.iconst 0, 1), (.aload_n 0, 1), (.getfield 309, 3), (.iconst 1, 1), (.isub, 1), (.invokestatic 366, 3), (.ifCond .eq 17, 3), (.aload_n 0, 1), (.getfield 149, 3), (.bipush 8, 2), (.iload_n 1, 1), (.imul, 1), (.iload_n 2, 1), (.iadd, 1), (.iaload, 1), (.goto 4, 3), (.iconst (-1), 1), (.ireturn, 1)]
theorem tX12_chosen_ok : f_chk cX12_chosen 0 tX12_chosen = true := by decide +kernel
def pX12_chosen (av : List Value) (I : fM) (L : fN) : Prop := match av with
  | [.ref 0, .int r, .int p] => mR I ∧ mL I ∧ mK I ∧ mW I
  | _ => False
def qX12_chosen (av : List Value) (I : fM) (L : fN) (r : Value) (I' : fM) (L' : fN) : Prop := match av, r with
  | [.ref 0, .int r, .int p], .int x => mR I' ∧ mL I' ∧ mK I' ∧ mW I' ∧ f_fo [45, 46, 47, 48, 53, 54, 55, 59, 69, 70, 71, 74] I I' ∧ f_fr [0, 21, 22, 23, 24, 25, 26, 27, 28, 29, 30, 31, 32, 33, 34, 35, 36, 37, 38, 39, 40, 41, 42, 43, 44, 45, 46, 47, 48, 49, 50, 51, 52] I I' ∧ L' = L
  | _, _ => False
set_option maxHeartbeats 40000000 in
set_option maxRecDepth 100000 in
theorem mX12_chosen {l : Launch} {a : Nat → Nat} {cy dC : Nat → ClassId} {dI : Nat → Nat → Nat} (hinj : ∀ i j, i < 71 → j < 71 → a i = a j → i = j) : f_Met (fun _ => True) l mY 71 a cy dC dI yX12_chosen cX12_chosen 3 1 4 pX12_chosen qX12_chosen := by
  refine f_met_of (f_Ec_T 71 a) hinj mY_hi (by decide) (fun av I L h => by unfold pX12_chosen at h; split at h <;> first | exact Nat.le_of_ble_eq_true rfl | exact h.elim) ?_
  intro pP eP sP mP aP bP hP9 cP C av I L hp
  unfold pX12_chosen at hp
  split at hp
  case h_2 => exact hp.elim
  case h_1 r p =>
    obtain ⟨hR, hmL, hmK, hmW⟩ := hp
    have hF0 : f_fr [0, 21, 22, 23, 24, 25, 26, 27, 28, 29, 30, 31, 32, 33, 34, 35, 36, 37, 38, 39, 40, 41, 42, 43, 44, 45, 46, 47, 48, 49, 50, 51, 52] I I := f_fr_rf
    have hO0 : f_fo [45, 46, 47, 48, 53, 54, 55, 59, 69, 70, 71, 74] I I := f_fo_rf
    refine f_wp_ok C f_cl flX12_ok fiX12_ok fjX12_ok (sn := none) (fun j h => by cases h) (cs := (f_cnl [(481, (1, 0, 11, pX12_layReadings, qX12_layReadings)), (484, (2, 3, 11, pX12_isReading, qX12_isReading))])) (cz := (f_cnl [(366, (3, 3, 11, pX12_isIn, qX12_isIn))])) (f_cnl_of (P := fun j S => f_cok pP l eP (f_rm 4) sP mP aP bP hP9 cP mY 71 a cy dC dI 3 _ _ (.invokevirtual j) true S) (List.forall_mem_cons.mpr ⟨f_cokV C (mX12_layReadings hinj) (ci := 11) rfl (List.forall_mem_cons.mpr ⟨(mlX12_ok _ (List.mem_of_getElem? (i := 53) rfl)), kc_X12_layReadings⟩) (by decide +kernel) ⟨Nat.le_of_ble_eq_true rfl, Nat.le_of_ble_eq_true rfl⟩, List.forall_mem_cons.mpr ⟨f_cokV C (mX12_isReading hinj) (ci := 11) rfl (List.forall_mem_cons.mpr ⟨(mlX12_ok _ (List.mem_of_getElem? (i := 54) rfl)), kc_X12_isReading⟩) (by decide +kernel) ⟨Nat.le_of_ble_eq_true rfl, Nat.le_of_ble_eq_true rfl⟩, fun _ h => absurd h List.not_mem_nil⟩⟩)) (f_cnl_of (P := fun j S => f_cok pP l eP (f_rm 4) sP mP aP bP hP9 cP mY 71 a cy dC dI 3 _ _ (.invokestatic j) false S) (List.forall_mem_cons.mpr ⟨f_cokS C (mX12_isIn hinj) (List.forall_mem_cons.mpr ⟨(mlX12_ok _ (List.mem_of_getElem? (i := 27) rfl)), kc_X12_isIn⟩) (by decide +kernel) ⟨Nat.le_of_ble_eq_true rfl, Nat.le_of_ble_eq_true rfl⟩, fun _ h => absurd h List.not_mem_nil⟩)) tX12_chosen_ok (cut := (fun _ => none)) (fun t P h => by cases h) 30 0 tX12_chosen tX12_chosen_ok _ _ _ _ ?_
    refine And.intro ⟨hR, hmL, hmK, hmW⟩ ?_
    intro I1 L1 hq1
    have hq1 : mR I1 ∧ mL I1 ∧ mK I1 ∧ mW I1 ∧ f_fo [45, 46, 47, 48, 53, 54, 55, 59, 69, 70, 71, 74] I I1 ∧ f_fr [0, 21, 22, 23, 24, 25, 26, 27, 28, 29, 30, 31, 32, 33, 34, 35, 36, 37, 38, 39, 40, 41, 42, 43, 44, 45, 46, 47, 48, 49, 50, 51, 52] I I1 ∧ L1 = L := hq1
    obtain ⟨c1_0, c1_1, c1_2, c1_3, c1_4, c1_5, eL1⟩ := hq1
    replace eL1 := eL1.symm
    subst eL1
    have hO1 := f_fo_tr hO0 c1_4 rfl
    have hF1 := f_fr_tr hF0 c1_5 rfl
    have r1 : (I1 0 69).toInt ≤ 300 := (c1_0 0 69).2
    apply And.intro
    · intro h8
      have h8 : (I1 0 71).toInt = 0 := h8
      refine And.intro c1_0 ?_
      intro x18 I18 L18 hq18
      have hq18 : I18 = I1 ∧ L18 = L ∧ ((x18.toInt = 0 ∨ x18.toInt = 1 ∧ 0 ≤ r.toInt ∧ r.toInt < (I1 0 69).toInt)) := hq18
      obtain ⟨eI18, eL18, c18_2⟩ := hq18
      replace eI18 := eI18.symm
      subst eI18
      replace eL18 := eL18.symm
      subst eL18
      apply And.intro
      · intro h21
        have h21 : x18.toInt = 0 := h21
        exact ⟨c1_0, c1_1, c1_2, c1_3, hO1, hF1, rfl⟩
      · intro h21
        have h21 : ¬ x18.toInt = 0 := h21
        have r27_2 : 0 ≤ (I1 0 30).toInt ∧ (I1 0 30).toInt ≤ 8 := c1_0 0 30
        have e27_3 : (I1 0 30).toInt = (I 0 30).toInt := congrArg Int32.toInt (c1_4 30 rfl)
        intro z31 q31 _ hq31 hl31 hu31
        have hq31 : z31.toInt = (I1 0 30).toInt - 1 + 4294967296 * q31 := hq31
        try have hz31 : z31.toInt = (I1 0 30).toInt - 1 := by omega
        refine And.intro trivial ?_
        intro x32 I32 L32 hq32
        have hq32 : I32 = I1 ∧ L32 = L ∧ ((x32.toInt = 1 ∧ (0 : Int) ≤ p.toInt ∧ p.toInt ≤ z31.toInt ∨ x32.toInt = 0 ∧ (p.toInt < (0 : Int) ∨ z31.toInt < p.toInt))) := hq32
        obtain ⟨eI32, eL32, c32_2⟩ := hq32
        replace eI32 := eI32.symm
        subst eI32
        replace eL32 := eL32.symm
        subst eL32
        apply And.intro
        · intro h35
          have h35 : x32.toInt = 0 := h35
          exact ⟨c1_0, c1_1, c1_2, c1_3, hO1, hF1, rfl⟩
        · intro h35
          have h35 : ¬ x32.toInt = 0 := h35
          intro z45 q45 _ hq45 hl45 hu45
          have hq45 : z45.toInt = 8 * r.toInt + 4294967296 * q45 := hq45
          try have hz45 : z45.toInt = 8 * r.toInt := by omega
          intro z47 q47 _ hq47 hl47 hu47
          have hq47 : z47.toInt = z45.toInt + p.toInt + 4294967296 * q47 := hq47
          try have hz47 : z47.toInt = z45.toInt + p.toInt := by omega
          refine And.intro (show f_in z47 2400 from ⟨show 0 ≤ z47.toInt from by omega, show z47.toInt < 2400 from by omega⟩) ?_
          exact ⟨c1_0, c1_1, c1_2, c1_3, hO1, hF1, rfl⟩
    · intro h8
      have h8 : ¬ (I1 0 71).toInt = 0 := h8
      exact ⟨c1_0, c1_1, c1_2, c1_3, hO1, hF1, rfl⟩
def tX12_tied : List (Instr × Nat) := [(.aload_n 0, 1), (.invokevirtual 481, 3), (.aload_n 0, 1), (.getfield 460, 3), (.ifCond .eq 8, 3), (.bipush (-2), 2), (.goto 42, 3), (.aload_n 0, 1), (.iload_n 1, 1), (.invokevirtual 484, 3), (.ifCond .eq 33, 3), (.iload_n 2, 1), (.iconst 0, 1), (.aload_n 0, 1), (.getfield 155, 3), (.iload_n 1, 1), (.iaload, 1), (.iconst 1, 1), (.isub, 1), (.invokestatic 366, 3), (.ifCond .eq 17, 3), (.aload_n 0, 1), (.getfield 152, 3), (.bipush 20, 2), (.iload_n 1, 1), (.imul, 1), (.iload_n 2, 1), (.iadd, 1), (.iaload, 1), (.goto 4, 3), (.iconst (-1), 1), (.ireturn, 1)]
theorem tX12_tied_ok : f_chk cX12_tied 0 tX12_tied = true := by decide +kernel
def pX12_tied (av : List Value) (I : fM) (L : fN) : Prop := match av with
  | [.ref 0, .int r, .int p] => mR I ∧ mL I ∧ mK I ∧ mW I
  | _ => False
def qX12_tied (av : List Value) (I : fM) (L : fN) (r : Value) (I' : fM) (L' : fN) : Prop := match av, r with
  | [.ref 0, .int r, .int p], .int x => mR I' ∧ mL I' ∧ mK I' ∧ mW I' ∧ f_fo [45, 46, 47, 48, 53, 54, 55, 59, 69, 70, 71, 74] I I' ∧ f_fr [0, 21, 22, 23, 24, 25, 26, 27, 28, 29, 30, 31, 32, 33, 34, 35, 36, 37, 38, 39, 40, 41, 42, 43, 44, 45, 46, 47, 48, 49, 50, 51, 52] I I' ∧ L' = L
  | _, _ => False
set_option maxHeartbeats 40000000 in
set_option maxRecDepth 100000 in
theorem mX12_tied {l : Launch} {a : Nat → Nat} {cy dC : Nat → ClassId} {dI : Nat → Nat → Nat} (hinj : ∀ i j, i < 71 → j < 71 → a i = a j → i = j) : f_Met (fun _ => True) l mY 71 a cy dC dI yX12_tied cX12_tied 3 1 4 pX12_tied qX12_tied := by
  refine f_met_of (f_Ec_T 71 a) hinj mY_hi (by decide) (fun av I L h => by unfold pX12_tied at h; split at h <;> first | exact Nat.le_of_ble_eq_true rfl | exact h.elim) ?_
  intro pP eP sP mP aP bP hP9 cP C av I L hp
  unfold pX12_tied at hp
  split at hp
  case h_2 => exact hp.elim
  case h_1 r p =>
    obtain ⟨hR, hmL, hmK, hmW⟩ := hp
    have hF0 : f_fr [0, 21, 22, 23, 24, 25, 26, 27, 28, 29, 30, 31, 32, 33, 34, 35, 36, 37, 38, 39, 40, 41, 42, 43, 44, 45, 46, 47, 48, 49, 50, 51, 52] I I := f_fr_rf
    have hO0 : f_fo [45, 46, 47, 48, 53, 54, 55, 59, 69, 70, 71, 74] I I := f_fo_rf
    refine f_wp_ok C f_cl flX12_ok fiX12_ok fjX12_ok (sn := none) (fun j h => by cases h) (cs := (f_cnl [(481, (1, 0, 11, pX12_layReadings, qX12_layReadings)), (484, (2, 3, 11, pX12_isReading, qX12_isReading))])) (cz := (f_cnl [(366, (3, 3, 11, pX12_isIn, qX12_isIn))])) (f_cnl_of (P := fun j S => f_cok pP l eP (f_rm 4) sP mP aP bP hP9 cP mY 71 a cy dC dI 3 _ _ (.invokevirtual j) true S) (List.forall_mem_cons.mpr ⟨f_cokV C (mX12_layReadings hinj) (ci := 11) rfl (List.forall_mem_cons.mpr ⟨(mlX12_ok _ (List.mem_of_getElem? (i := 53) rfl)), kc_X12_layReadings⟩) (by decide +kernel) ⟨Nat.le_of_ble_eq_true rfl, Nat.le_of_ble_eq_true rfl⟩, List.forall_mem_cons.mpr ⟨f_cokV C (mX12_isReading hinj) (ci := 11) rfl (List.forall_mem_cons.mpr ⟨(mlX12_ok _ (List.mem_of_getElem? (i := 54) rfl)), kc_X12_isReading⟩) (by decide +kernel) ⟨Nat.le_of_ble_eq_true rfl, Nat.le_of_ble_eq_true rfl⟩, fun _ h => absurd h List.not_mem_nil⟩⟩)) (f_cnl_of (P := fun j S => f_cok pP l eP (f_rm 4) sP mP aP bP hP9 cP mY 71 a cy dC dI 3 _ _ (.invokestatic j) false S) (List.forall_mem_cons.mpr ⟨f_cokS C (mX12_isIn hinj) (List.forall_mem_cons.mpr ⟨(mlX12_ok _ (List.mem_of_getElem? (i := 27) rfl)), kc_X12_isIn⟩) (by decide +kernel) ⟨Nat.le_of_ble_eq_true rfl, Nat.le_of_ble_eq_true rfl⟩, fun _ h => absurd h List.not_mem_nil⟩)) tX12_tied_ok (cut := (fun _ => none)) (fun t P h => by cases h) 32 0 tX12_tied tX12_tied_ok _ _ _ _ ?_
    refine And.intro ⟨hR, hmL, hmK, hmW⟩ ?_
    intro I1 L1 hq1
    have hq1 : mR I1 ∧ mL I1 ∧ mK I1 ∧ mW I1 ∧ f_fo [45, 46, 47, 48, 53, 54, 55, 59, 69, 70, 71, 74] I I1 ∧ f_fr [0, 21, 22, 23, 24, 25, 26, 27, 28, 29, 30, 31, 32, 33, 34, 35, 36, 37, 38, 39, 40, 41, 42, 43, 44, 45, 46, 47, 48, 49, 50, 51, 52] I I1 ∧ L1 = L := hq1
    obtain ⟨c1_0, c1_1, c1_2, c1_3, c1_4, c1_5, eL1⟩ := hq1
    replace eL1 := eL1.symm
    subst eL1
    have hO1 := f_fo_tr hO0 c1_4 rfl
    have hF1 := f_fr_tr hF0 c1_5 rfl
    have r1 : (I1 0 69).toInt ≤ 300 := (c1_0 0 69).2
    apply And.intro
    · intro h8
      have h8 : (I1 0 71).toInt = 0 := h8
      refine And.intro c1_0 ?_
      intro x18 I18 L18 hq18
      have hq18 : I18 = I1 ∧ L18 = L ∧ ((x18.toInt = 0 ∨ x18.toInt = 1 ∧ 0 ≤ r.toInt ∧ r.toInt < (I1 0 69).toInt)) := hq18
      obtain ⟨eI18, eL18, c18_2⟩ := hq18
      replace eI18 := eI18.symm
      subst eI18
      replace eL18 := eL18.symm
      subst eL18
      apply And.intro
      · intro h21
        have h21 : x18.toInt = 0 := h21
        exact ⟨c1_0, c1_1, c1_2, c1_3, hO1, hF1, rfl⟩
      · intro h21
        have h21 : ¬ x18.toInt = 0 := h21
        refine And.intro (show f_in r 300 from ⟨show 0 ≤ r.toInt from by omega, show r.toInt < 300 from by omega⟩) ?_
        have r31_2 : 0 ≤ (I1 47 (r.toInt.toNat)).toInt ∧ (I1 47 (r.toInt.toNat)).toInt ≤ 20 := c1_0 47 (r.toInt.toNat)
        intro z33 q33 _ hq33 hl33 hu33
        have hq33 : z33.toInt = (I1 47 (r.toInt.toNat)).toInt - 1 + 4294967296 * q33 := hq33
        try have hz33 : z33.toInt = (I1 47 (r.toInt.toNat)).toInt - 1 := by omega
        refine And.intro trivial ?_
        intro x34 I34 L34 hq34
        have hq34 : I34 = I1 ∧ L34 = L ∧ ((x34.toInt = 1 ∧ (0 : Int) ≤ p.toInt ∧ p.toInt ≤ z33.toInt ∨ x34.toInt = 0 ∧ (p.toInt < (0 : Int) ∨ z33.toInt < p.toInt))) := hq34
        obtain ⟨eI34, eL34, c34_2⟩ := hq34
        replace eI34 := eI34.symm
        subst eI34
        replace eL34 := eL34.symm
        subst eL34
        apply And.intro
        · intro h37
          have h37 : x34.toInt = 0 := h37
          exact ⟨c1_0, c1_1, c1_2, c1_3, hO1, hF1, rfl⟩
        · intro h37
          have h37 : ¬ x34.toInt = 0 := h37
          intro z47 q47 _ hq47 hl47 hu47
          have hq47 : z47.toInt = 20 * r.toInt + 4294967296 * q47 := hq47
          try have hz47 : z47.toInt = 20 * r.toInt := by omega
          intro z49 q49 _ hq49 hl49 hu49
          have hq49 : z49.toInt = z47.toInt + p.toInt + 4294967296 * q49 := hq49
          try have hz49 : z49.toInt = z47.toInt + p.toInt := by omega
          refine And.intro (show f_in z49 6000 from ⟨show 0 ≤ z49.toInt from by omega, show z49.toInt < 6000 from by omega⟩) ?_
          exact ⟨c1_0, c1_1, c1_2, c1_3, hO1, hF1, rfl⟩
    · intro h8
      have h8 : ¬ (I1 0 71).toInt = 0 := h8
      exact ⟨c1_0, c1_1, c1_2, c1_3, hO1, hF1, rfl⟩
def tX12_meaning : List (Instr × Nat) := [(.aload_n 0, 1), (.invokevirtual 481, 3), (.aload_n 0, 1), (.getfield 460, 3), (.ifCond .eq 8, 3), (.bipush (-2), 2), (.goto 42, 3), (.aload_n 0, 1), (.iload_n 1, 1), (.invokevirtual 484, 3), (.ifCond .eq 33, 3), (.iload_n 2, 1), (.iconst 0, 1), (.aload_n 0, 1), (.getfield 158, 3), (.iload_n 1, 1), (.iaload, 1), (.iconst 1, 1), (.isub, 1), (.invokestatic 366, 3), (.ifCond .eq 17, 3), (.aload_n 0, 1), (.getfield 161, 3), (.bipush 30, 2), (.iload_n 1, 1), (.imul, 1), (.iload_n 2, 1), (.iadd, 1), (.iaload, 1), (.goto 4, 3), (.iconst (-1), 1), (.ireturn, 1)]
theorem tX12_meaning_ok : f_chk cX12_meaning 0 tX12_meaning = true := by decide +kernel
def pX12_meaning (av : List Value) (I : fM) (L : fN) : Prop := match av with
  | [.ref 0, .int r, .int p] => mR I ∧ mL I ∧ mK I ∧ mW I
  | _ => False
def qX12_meaning (av : List Value) (I : fM) (L : fN) (r : Value) (I' : fM) (L' : fN) : Prop := match av, r with
  | [.ref 0, .int r, .int p], .int x => mR I' ∧ mL I' ∧ mK I' ∧ mW I' ∧ f_fo [45, 46, 47, 48, 53, 54, 55, 59, 69, 70, 71, 74] I I' ∧ f_fr [0, 21, 22, 23, 24, 25, 26, 27, 28, 29, 30, 31, 32, 33, 34, 35, 36, 37, 38, 39, 40, 41, 42, 43, 44, 45, 46, 47, 48, 49, 50, 51, 52] I I' ∧ L' = L
  | _, _ => False
set_option maxHeartbeats 40000000 in
set_option maxRecDepth 100000 in
theorem mX12_meaning {l : Launch} {a : Nat → Nat} {cy dC : Nat → ClassId} {dI : Nat → Nat → Nat} (hinj : ∀ i j, i < 71 → j < 71 → a i = a j → i = j) : f_Met (fun _ => True) l mY 71 a cy dC dI yX12_meaning cX12_meaning 3 1 4 pX12_meaning qX12_meaning := by
  refine f_met_of (f_Ec_T 71 a) hinj mY_hi (by decide) (fun av I L h => by unfold pX12_meaning at h; split at h <;> first | exact Nat.le_of_ble_eq_true rfl | exact h.elim) ?_
  intro pP eP sP mP aP bP hP9 cP C av I L hp
  unfold pX12_meaning at hp
  split at hp
  case h_2 => exact hp.elim
  case h_1 r p =>
    obtain ⟨hR, hmL, hmK, hmW⟩ := hp
    have hF0 : f_fr [0, 21, 22, 23, 24, 25, 26, 27, 28, 29, 30, 31, 32, 33, 34, 35, 36, 37, 38, 39, 40, 41, 42, 43, 44, 45, 46, 47, 48, 49, 50, 51, 52] I I := f_fr_rf
    have hO0 : f_fo [45, 46, 47, 48, 53, 54, 55, 59, 69, 70, 71, 74] I I := f_fo_rf
    refine f_wp_ok C f_cl flX12_ok fiX12_ok fjX12_ok (sn := none) (fun j h => by cases h) (cs := (f_cnl [(481, (1, 0, 11, pX12_layReadings, qX12_layReadings)), (484, (2, 3, 11, pX12_isReading, qX12_isReading))])) (cz := (f_cnl [(366, (3, 3, 11, pX12_isIn, qX12_isIn))])) (f_cnl_of (P := fun j S => f_cok pP l eP (f_rm 4) sP mP aP bP hP9 cP mY 71 a cy dC dI 3 _ _ (.invokevirtual j) true S) (List.forall_mem_cons.mpr ⟨f_cokV C (mX12_layReadings hinj) (ci := 11) rfl (List.forall_mem_cons.mpr ⟨(mlX12_ok _ (List.mem_of_getElem? (i := 53) rfl)), kc_X12_layReadings⟩) (by decide +kernel) ⟨Nat.le_of_ble_eq_true rfl, Nat.le_of_ble_eq_true rfl⟩, List.forall_mem_cons.mpr ⟨f_cokV C (mX12_isReading hinj) (ci := 11) rfl (List.forall_mem_cons.mpr ⟨(mlX12_ok _ (List.mem_of_getElem? (i := 54) rfl)), kc_X12_isReading⟩) (by decide +kernel) ⟨Nat.le_of_ble_eq_true rfl, Nat.le_of_ble_eq_true rfl⟩, fun _ h => absurd h List.not_mem_nil⟩⟩)) (f_cnl_of (P := fun j S => f_cok pP l eP (f_rm 4) sP mP aP bP hP9 cP mY 71 a cy dC dI 3 _ _ (.invokestatic j) false S) (List.forall_mem_cons.mpr ⟨f_cokS C (mX12_isIn hinj) (List.forall_mem_cons.mpr ⟨(mlX12_ok _ (List.mem_of_getElem? (i := 27) rfl)), kc_X12_isIn⟩) (by decide +kernel) ⟨Nat.le_of_ble_eq_true rfl, Nat.le_of_ble_eq_true rfl⟩, fun _ h => absurd h List.not_mem_nil⟩)) tX12_meaning_ok (cut := (fun _ => none)) (fun t P h => by cases h) 32 0 tX12_meaning tX12_meaning_ok _ _ _ _ ?_
    refine And.intro ⟨hR, hmL, hmK, hmW⟩ ?_
    intro I1 L1 hq1
    have hq1 : mR I1 ∧ mL I1 ∧ mK I1 ∧ mW I1 ∧ f_fo [45, 46, 47, 48, 53, 54, 55, 59, 69, 70, 71, 74] I I1 ∧ f_fr [0, 21, 22, 23, 24, 25, 26, 27, 28, 29, 30, 31, 32, 33, 34, 35, 36, 37, 38, 39, 40, 41, 42, 43, 44, 45, 46, 47, 48, 49, 50, 51, 52] I I1 ∧ L1 = L := hq1
    obtain ⟨c1_0, c1_1, c1_2, c1_3, c1_4, c1_5, eL1⟩ := hq1
    replace eL1 := eL1.symm
    subst eL1
    have hO1 := f_fo_tr hO0 c1_4 rfl
    have hF1 := f_fr_tr hF0 c1_5 rfl
    have r1 : (I1 0 69).toInt ≤ 300 := (c1_0 0 69).2
    apply And.intro
    · intro h8
      have h8 : (I1 0 71).toInt = 0 := h8
      refine And.intro c1_0 ?_
      intro x18 I18 L18 hq18
      have hq18 : I18 = I1 ∧ L18 = L ∧ ((x18.toInt = 0 ∨ x18.toInt = 1 ∧ 0 ≤ r.toInt ∧ r.toInt < (I1 0 69).toInt)) := hq18
      obtain ⟨eI18, eL18, c18_2⟩ := hq18
      replace eI18 := eI18.symm
      subst eI18
      replace eL18 := eL18.symm
      subst eL18
      apply And.intro
      · intro h21
        have h21 : x18.toInt = 0 := h21
        exact ⟨c1_0, c1_1, c1_2, c1_3, hO1, hF1, rfl⟩
      · intro h21
        have h21 : ¬ x18.toInt = 0 := h21
        refine And.intro (show f_in r 300 from ⟨show 0 ≤ r.toInt from by omega, show r.toInt < 300 from by omega⟩) ?_
        have r31_2 : 0 ≤ (I1 48 (r.toInt.toNat)).toInt ∧ (I1 48 (r.toInt.toNat)).toInt ≤ 30 := c1_0 48 (r.toInt.toNat)
        intro z33 q33 _ hq33 hl33 hu33
        have hq33 : z33.toInt = (I1 48 (r.toInt.toNat)).toInt - 1 + 4294967296 * q33 := hq33
        try have hz33 : z33.toInt = (I1 48 (r.toInt.toNat)).toInt - 1 := by omega
        refine And.intro trivial ?_
        intro x34 I34 L34 hq34
        have hq34 : I34 = I1 ∧ L34 = L ∧ ((x34.toInt = 1 ∧ (0 : Int) ≤ p.toInt ∧ p.toInt ≤ z33.toInt ∨ x34.toInt = 0 ∧ (p.toInt < (0 : Int) ∨ z33.toInt < p.toInt))) := hq34
        obtain ⟨eI34, eL34, c34_2⟩ := hq34
        replace eI34 := eI34.symm
        subst eI34
        replace eL34 := eL34.symm
        subst eL34
        apply And.intro
        · intro h37
          have h37 : x34.toInt = 0 := h37
          exact ⟨c1_0, c1_1, c1_2, c1_3, hO1, hF1, rfl⟩
        · intro h37
          have h37 : ¬ x34.toInt = 0 := h37
          intro z47 q47 _ hq47 hl47 hu47
          have hq47 : z47.toInt = 30 * r.toInt + 4294967296 * q47 := hq47
          try have hz47 : z47.toInt = 30 * r.toInt := by omega
          intro z49 q49 _ hq49 hl49 hu49
          have hq49 : z49.toInt = z47.toInt + p.toInt + 4294967296 * q49 := hq49
          try have hz49 : z49.toInt = z47.toInt + p.toInt := by omega
          refine And.intro (show f_in z49 9000 from ⟨show 0 ≤ z49.toInt from by omega, show z49.toInt < 9000 from by omega⟩) ?_
          exact ⟨c1_0, c1_1, c1_2, c1_3, hO1, hF1, rfl⟩
    · intro h8
      have h8 : ¬ (I1 0 71).toInt = 0 := h8
      exact ⟨c1_0, c1_1, c1_2, c1_3, hO1, hF1, rfl⟩
def tX12_over : List (Instr × Nat) := [(.aload_n 0, 1), (.invokevirtual 481, 3), (.aload_n 0, 1), (.getfield 460, 3), (.ifCond .eq 8, 3), (.bipush (-2), 2), (.goto 40, 3), (.aload_n 0, 1), (.iload_n 1, 1), (.invokevirtual 484, 3), (.ifCond .eq 31, 3), (.iload_n 2, 1), (.iconst 0, 1), (.aload_n 0, 1), (.getfield 309, 3), (.iconst 1, 1), (.isub, 1), (.invokestatic 366, 3), (.ifCond .eq 17, 3), (.aload_n 0, 1), (.getfield 164, 3), (.bipush 8, 2), (.iload_n 1, 1), (.imul, 1), (.iload_n 2, 1), (.iadd, 1), (.iaload, 1), (.goto 4, 3), (.iconst (-1), 1), (.ireturn, 1)]
theorem tX12_over_ok : f_chk cX12_over 0 tX12_over = true := by decide +kernel
def pX12_over (av : List Value) (I : fM) (L : fN) : Prop := match av with
  | [.ref 0, .int r, .int p] => mR I ∧ mL I ∧ mK I ∧ mW I
  | _ => False
def qX12_over (av : List Value) (I : fM) (L : fN) (r : Value) (I' : fM) (L' : fN) : Prop := match av, r with
  | [.ref 0, .int r, .int p], .int x => mR I' ∧ mL I' ∧ mK I' ∧ mW I' ∧ f_fo [45, 46, 47, 48, 53, 54, 55, 59, 69, 70, 71, 74] I I' ∧ f_fr [0, 21, 22, 23, 24, 25, 26, 27, 28, 29, 30, 31, 32, 33, 34, 35, 36, 37, 38, 39, 40, 41, 42, 43, 44, 45, 46, 47, 48, 49, 50, 51, 52] I I' ∧ L' = L
  | _, _ => False
set_option maxHeartbeats 40000000 in
set_option maxRecDepth 100000 in
theorem mX12_over {l : Launch} {a : Nat → Nat} {cy dC : Nat → ClassId} {dI : Nat → Nat → Nat} (hinj : ∀ i j, i < 71 → j < 71 → a i = a j → i = j) : f_Met (fun _ => True) l mY 71 a cy dC dI yX12_over cX12_over 3 1 4 pX12_over qX12_over := by
  refine f_met_of (f_Ec_T 71 a) hinj mY_hi (by decide) (fun av I L h => by unfold pX12_over at h; split at h <;> first | exact Nat.le_of_ble_eq_true rfl | exact h.elim) ?_
  intro pP eP sP mP aP bP hP9 cP C av I L hp
  unfold pX12_over at hp
  split at hp
  case h_2 => exact hp.elim
  case h_1 r p =>
    obtain ⟨hR, hmL, hmK, hmW⟩ := hp
    have hF0 : f_fr [0, 21, 22, 23, 24, 25, 26, 27, 28, 29, 30, 31, 32, 33, 34, 35, 36, 37, 38, 39, 40, 41, 42, 43, 44, 45, 46, 47, 48, 49, 50, 51, 52] I I := f_fr_rf
    have hO0 : f_fo [45, 46, 47, 48, 53, 54, 55, 59, 69, 70, 71, 74] I I := f_fo_rf
    refine f_wp_ok C f_cl flX12_ok fiX12_ok fjX12_ok (sn := none) (fun j h => by cases h) (cs := (f_cnl [(481, (1, 0, 11, pX12_layReadings, qX12_layReadings)), (484, (2, 3, 11, pX12_isReading, qX12_isReading))])) (cz := (f_cnl [(366, (3, 3, 11, pX12_isIn, qX12_isIn))])) (f_cnl_of (P := fun j S => f_cok pP l eP (f_rm 4) sP mP aP bP hP9 cP mY 71 a cy dC dI 3 _ _ (.invokevirtual j) true S) (List.forall_mem_cons.mpr ⟨f_cokV C (mX12_layReadings hinj) (ci := 11) rfl (List.forall_mem_cons.mpr ⟨(mlX12_ok _ (List.mem_of_getElem? (i := 53) rfl)), kc_X12_layReadings⟩) (by decide +kernel) ⟨Nat.le_of_ble_eq_true rfl, Nat.le_of_ble_eq_true rfl⟩, List.forall_mem_cons.mpr ⟨f_cokV C (mX12_isReading hinj) (ci := 11) rfl (List.forall_mem_cons.mpr ⟨(mlX12_ok _ (List.mem_of_getElem? (i := 54) rfl)), kc_X12_isReading⟩) (by decide +kernel) ⟨Nat.le_of_ble_eq_true rfl, Nat.le_of_ble_eq_true rfl⟩, fun _ h => absurd h List.not_mem_nil⟩⟩)) (f_cnl_of (P := fun j S => f_cok pP l eP (f_rm 4) sP mP aP bP hP9 cP mY 71 a cy dC dI 3 _ _ (.invokestatic j) false S) (List.forall_mem_cons.mpr ⟨f_cokS C (mX12_isIn hinj) (List.forall_mem_cons.mpr ⟨(mlX12_ok _ (List.mem_of_getElem? (i := 27) rfl)), kc_X12_isIn⟩) (by decide +kernel) ⟨Nat.le_of_ble_eq_true rfl, Nat.le_of_ble_eq_true rfl⟩, fun _ h => absurd h List.not_mem_nil⟩)) tX12_over_ok (cut := (fun _ => none)) (fun t P h => by cases h) 30 0 tX12_over tX12_over_ok _ _ _ _ ?_
    refine And.intro ⟨hR, hmL, hmK, hmW⟩ ?_
    intro I1 L1 hq1
    have hq1 : mR I1 ∧ mL I1 ∧ mK I1 ∧ mW I1 ∧ f_fo [45, 46, 47, 48, 53, 54, 55, 59, 69, 70, 71, 74] I I1 ∧ f_fr [0, 21, 22, 23, 24, 25, 26, 27, 28, 29, 30, 31, 32, 33, 34, 35, 36, 37, 38, 39, 40, 41, 42, 43, 44, 45, 46, 47, 48, 49, 50, 51, 52] I I1 ∧ L1 = L := hq1
    obtain ⟨c1_0, c1_1, c1_2, c1_3, c1_4, c1_5, eL1⟩ := hq1
    replace eL1 := eL1.symm
    subst eL1
    have hO1 := f_fo_tr hO0 c1_4 rfl
    have hF1 := f_fr_tr hF0 c1_5 rfl
    have r1 : (I1 0 69).toInt ≤ 300 := (c1_0 0 69).2
    apply And.intro
    · intro h8
      have h8 : (I1 0 71).toInt = 0 := h8
      refine And.intro c1_0 ?_
      intro x18 I18 L18 hq18
      have hq18 : I18 = I1 ∧ L18 = L ∧ ((x18.toInt = 0 ∨ x18.toInt = 1 ∧ 0 ≤ r.toInt ∧ r.toInt < (I1 0 69).toInt)) := hq18
      obtain ⟨eI18, eL18, c18_2⟩ := hq18
      replace eI18 := eI18.symm
      subst eI18
      replace eL18 := eL18.symm
      subst eL18
      apply And.intro
      · intro h21
        have h21 : x18.toInt = 0 := h21
        exact ⟨c1_0, c1_1, c1_2, c1_3, hO1, hF1, rfl⟩
      · intro h21
        have h21 : ¬ x18.toInt = 0 := h21
        have r27_2 : 0 ≤ (I1 0 30).toInt ∧ (I1 0 30).toInt ≤ 8 := c1_0 0 30
        have e27_3 : (I1 0 30).toInt = (I 0 30).toInt := congrArg Int32.toInt (c1_4 30 rfl)
        intro z31 q31 _ hq31 hl31 hu31
        have hq31 : z31.toInt = (I1 0 30).toInt - 1 + 4294967296 * q31 := hq31
        try have hz31 : z31.toInt = (I1 0 30).toInt - 1 := by omega
        refine And.intro trivial ?_
        intro x32 I32 L32 hq32
        have hq32 : I32 = I1 ∧ L32 = L ∧ ((x32.toInt = 1 ∧ (0 : Int) ≤ p.toInt ∧ p.toInt ≤ z31.toInt ∨ x32.toInt = 0 ∧ (p.toInt < (0 : Int) ∨ z31.toInt < p.toInt))) := hq32
        obtain ⟨eI32, eL32, c32_2⟩ := hq32
        replace eI32 := eI32.symm
        subst eI32
        replace eL32 := eL32.symm
        subst eL32
        apply And.intro
        · intro h35
          have h35 : x32.toInt = 0 := h35
          exact ⟨c1_0, c1_1, c1_2, c1_3, hO1, hF1, rfl⟩
        · intro h35
          have h35 : ¬ x32.toInt = 0 := h35
          intro z45 q45 _ hq45 hl45 hu45
          have hq45 : z45.toInt = 8 * r.toInt + 4294967296 * q45 := hq45
          try have hz45 : z45.toInt = 8 * r.toInt := by omega
          intro z47 q47 _ hq47 hl47 hu47
          have hq47 : z47.toInt = z45.toInt + p.toInt + 4294967296 * q47 := hq47
          try have hz47 : z47.toInt = z45.toInt + p.toInt := by omega
          refine And.intro (show f_in z47 2400 from ⟨show 0 ≤ z47.toInt from by omega, show z47.toInt < 2400 from by omega⟩) ?_
          exact ⟨c1_0, c1_1, c1_2, c1_3, hO1, hF1, rfl⟩
    · intro h8
      have h8 : ¬ (I1 0 71).toInt = 0 := h8
      exact ⟨c1_0, c1_1, c1_2, c1_3, hO1, hF1, rfl⟩
def tX12_same : List (Instr × Nat) := [(.aload_n 0, 1), (.invokevirtual 481, 3), (.aload_n 0, 1), (.getfield 460, 3), (.ifCond .eq 6, 3), (.bipush (-2), 2), (.ireturn, 1), (.aload_n 0, 1), (.iload_n 1, 1), (.invokevirtual 484, 3), (.ifCond .ne 5, 3), (.iconst (-1), 1), (.ireturn, 1), (.iconst 0, 1), (.istore_n 2, 1), (.aload_n 0, 1), (.iload_n 2, 1), (.iload_n 1, 1), (.invokevirtual 487, 3), (.ifCond .ne 9, 3), (.iinc 2 1, 3), (.goto (-12), 3), (.iload_n 2, 1), (.ireturn, 1)]
theorem tX12_same_ok : f_chk cX12_same 0 tX12_same = true := by decide +kernel
def pX12_same (av : List Value) (I : fM) (L : fN) : Prop := match av with
  | [.ref 0, .int r] => mR I ∧ mL I ∧ mK I ∧ mW I
  | _ => False
def qX12_same (av : List Value) (I : fM) (L : fN) (r : Value) (I' : fM) (L' : fN) : Prop := match av, r with
  | [.ref 0, .int r], .int x => mR I' ∧ mL I' ∧ mK I' ∧ mW I' ∧ f_fo [45, 46, 47, 48, 53, 54, 55, 59, 69, 70, 71, 74] I I' ∧ f_fr [0, 21, 22, 23, 24, 25, 26, 27, 28, 29, 30, 31, 32, 33, 34, 35, 36, 37, 38, 39, 40, 41, 42, 43, 44, 45, 46, 47, 48, 49, 50, 51, 52] I I' ∧ L' = L
  | _, _ => False
set_option maxHeartbeats 40000000 in
set_option maxRecDepth 100000 in
theorem mX12_same {l : Launch} {a : Nat → Nat} {cy dC : Nat → ClassId} {dI : Nat → Nat → Nat} (hinj : ∀ i j, i < 71 → j < 71 → a i = a j → i = j) : f_Met (fun _ => True) l mY 71 a cy dC dI yX12_same cX12_same 3 1 4 pX12_same qX12_same := by
  refine f_met_of (f_Ec_T 71 a) hinj mY_hi (by decide) (fun av I L h => by unfold pX12_same at h; split at h <;> first | exact Nat.le_of_ble_eq_true rfl | exact h.elim) ?_
  intro pP eP sP mP aP bP hP9 cP C av I L hp
  unfold pX12_same at hp
  split at hp
  case h_2 => exact hp.elim
  case h_1 r =>
    obtain ⟨hR, hmL, hmK, hmW⟩ := hp
    have hF0 : f_fr [0, 21, 22, 23, 24, 25, 26, 27, 28, 29, 30, 31, 32, 33, 34, 35, 36, 37, 38, 39, 40, 41, 42, 43, 44, 45, 46, 47, 48, 49, 50, 51, 52] I I := f_fr_rf
    have hO0 : f_fo [45, 46, 47, 48, 53, 54, 55, 59, 69, 70, 71, 74] I I := f_fo_rf
    have lp26 : ∀ (n26 : Nat), ∀ (u : Int32) (J26 : fM), mR J26 ∧ f_fr [0, 21, 22, 23, 24, 25, 26, 27, 28, 29, 30, 31, 32, 33, 34, 35, 36, 37, 38, 39, 40, 41, 42, 43, 44, 45, 46, 47, 48, 49, 50, 51, 52] I J26 ∧ f_fo [45, 46, 47, 48, 53, 54, 55, 59, 69, 70, 71, 74] I J26 ∧ mL J26 ∧ mK J26 ∧ mW J26 ∧ (0 ≤ u.toInt) ∧ (u.toInt ≤ r.toInt) ∧ (r.toInt < 300) ∧ (300 - u.toInt) < n26 → f_W pP l eP (f_rm 4) sP mP aP bP hP9 cP mY 71 a cy dC dI 3 (f_K 1 (qX12_same [.ref 0, .int r] I L)) 26 [(2, .int u), (1, .int r), (0, .ref 0)] [] J26 L := by
      intro n26
      induction n26 with
      | zero =>
        intro u J26 h9
        obtain ⟨hR26c, hF26c, hO26c, hmL26c, hmK26c, hmW26c, u26_1, u26_2, u26_3, hm26⟩ := h9
        omega
      | succ n26 ih26 =>
        intro u J26 h9
        obtain ⟨hR26c, hF26c, hO26c, hmL26c, hmK26c, hmW26c, u26_1, u26_2, u26_3, hm26⟩ := h9
        refine f_wp_ok C f_cl flX12_ok fiX12_ok fjX12_ok (sn := none) (fun j h => by cases h) (cs := (f_cnl [(481, (1, 0, 11, pX12_layReadings, qX12_layReadings)), (484, (2, 3, 11, pX12_isReading, qX12_isReading)), (487, (3, 3, 11, pX12_areAlike, qX12_areAlike))])) (cz := (fun _ => none)) (f_cnl_of (P := fun j S => f_cok pP l eP (f_rm 4) sP mP aP bP hP9 cP mY 71 a cy dC dI 3 _ _ (.invokevirtual j) true S) (List.forall_mem_cons.mpr ⟨f_cokV C (mX12_layReadings hinj) (ci := 11) rfl (List.forall_mem_cons.mpr ⟨(mlX12_ok _ (List.mem_of_getElem? (i := 53) rfl)), kc_X12_layReadings⟩) (by decide +kernel) ⟨Nat.le_of_ble_eq_true rfl, Nat.le_of_ble_eq_true rfl⟩, List.forall_mem_cons.mpr ⟨f_cokV C (mX12_isReading hinj) (ci := 11) rfl (List.forall_mem_cons.mpr ⟨(mlX12_ok _ (List.mem_of_getElem? (i := 54) rfl)), kc_X12_isReading⟩) (by decide +kernel) ⟨Nat.le_of_ble_eq_true rfl, Nat.le_of_ble_eq_true rfl⟩, List.forall_mem_cons.mpr ⟨f_cokV C (mX12_areAlike hinj) (ci := 11) rfl (List.forall_mem_cons.mpr ⟨(mlX12_ok _ (List.mem_of_getElem? (i := 55) rfl)), kc_X12_areAlike⟩) (by decide +kernel) ⟨Nat.le_of_ble_eq_true rfl, Nat.le_of_ble_eq_true rfl⟩, fun _ h => absurd h List.not_mem_nil⟩⟩⟩)) (fun j S h => by cases h) tX12_same_ok (cut := (f_cnl [(26, (fun (ls' : fLs) (st' : List Value) (I' : fM) (L' : fN) => ∃ u : Int32, (∀ q ∈ ([(2, .int u), (1, .int r), (0, .ref 0)] : fLs), q ∈ ls') ∧ st' = [] ∧ L' = L ∧ (mR I' ∧ f_fr [0, 21, 22, 23, 24, 25, 26, 27, 28, 29, 30, 31, 32, 33, 34, 35, 36, 37, 38, 39, 40, 41, 42, 43, 44, 45, 46, 47, 48, 49, 50, 51, 52] I I' ∧ f_fo [45, 46, 47, 48, 53, 54, 55, 59, 69, 70, 71, 74] I I' ∧ mL I' ∧ mK I' ∧ mW I' ∧ (0 ≤ u.toInt) ∧ (u.toInt ≤ r.toInt) ∧ (r.toInt < 300) ∧ (300 - u.toInt) < n26)))])) (f_cnl_of (P := fun (tQ : Nat) (P : fLs → List Value → fM → fN → Prop) => ∀ ls' st' I' L', P ls' st' I' L' → f_W pP l eP (f_rm 4) sP mP aP bP hP9 cP mY 71 a cy dC dI 3 (f_K 1 (qX12_same [.ref 0, .int r] I L)) tQ ls' st' I' L') (List.forall_mem_cons.mpr ⟨(fun ls' st' I' L' h => by obtain ⟨u, hs, e1, e3, h9⟩ := h; rw [e1, e3]; exact f_W_sub hs (ih26 u I' h9)), fun _ h => absurd h List.not_mem_nil⟩)) 10 26 (f_seek 26 0 tX12_same) (f_seek_ok 26 0 tX12_same tX12_same_ok) _ _ _ _ ?_
        refine And.intro ⟨hR26c, (show 0 ≤ u.toInt from by first | assumption | omega), (show u.toInt < 300 from by first | assumption | omega), (show 0 ≤ r.toInt from by first | assumption | omega), (show r.toInt < 300 from by first | assumption | omega)⟩ ?_
        intro x29 I29 L29 hq29
        have hq29 : I29 = J26 ∧ L29 = L ∧ ((x29.toInt = 0 ∨ x29.toInt = 1)) ∧ ((u = r → x29.toInt = 1)) := hq29
        obtain ⟨eI29, eL29, c29_2, c29_3⟩ := hq29
        replace eI29 := eI29.symm
        subst eI29
        replace eL29 := eL29.symm
        subst eL29
        apply And.intro
        · intro h32
          have h32 : ¬ x29.toInt = 0 := h32
          try have n32 : ¬ u.toInt = r.toInt := fun e => by have := c29_3 (Int32.toInt_inj.mp e); omega
          exact ⟨hR26c, hmL26c, hmK26c, hmW26c, hO26c, hF26c, rfl⟩
        · intro h32
          have h32 : x29.toInt = 0 := h32
          try have n32 : ¬ u.toInt = r.toInt := fun e => by have := c29_3 (Int32.toInt_inj.mp e); omega
          intro z35 q35 _ hq35 hl35 hu35
          have hq35 : z35.toInt = u.toInt + 1 + 4294967296 * q35 := hq35
          try have hz35 : z35.toInt = u.toInt + 1 := by omega
          exact ⟨z35, (by intro q9 h9; simp only [List.mem_cons, List.not_mem_nil, or_false] at h9; rcases h9 with h9 | h9 | h9 <;> subst h9 <;> repeat (first | exact List.mem_cons_self | apply List.mem_cons_of_mem)), rfl, rfl, hR26c, hF26c, hO26c, hmL26c, hmK26c, hmW26c, (show 0 ≤ z35.toInt from by first | assumption | omega), (show z35.toInt ≤ r.toInt from by first | assumption | omega), (show r.toInt < 300 from by first | assumption | omega), (show (300 - z35.toInt) < n26 from by omega)⟩
    refine f_wp_ok C f_cl flX12_ok fiX12_ok fjX12_ok (sn := none) (fun j h => by cases h) (cs := (f_cnl [(481, (1, 0, 11, pX12_layReadings, qX12_layReadings)), (484, (2, 3, 11, pX12_isReading, qX12_isReading)), (487, (3, 3, 11, pX12_areAlike, qX12_areAlike))])) (cz := (fun _ => none)) (f_cnl_of (P := fun j S => f_cok pP l eP (f_rm 4) sP mP aP bP hP9 cP mY 71 a cy dC dI 3 _ _ (.invokevirtual j) true S) (List.forall_mem_cons.mpr ⟨f_cokV C (mX12_layReadings hinj) (ci := 11) rfl (List.forall_mem_cons.mpr ⟨(mlX12_ok _ (List.mem_of_getElem? (i := 53) rfl)), kc_X12_layReadings⟩) (by decide +kernel) ⟨Nat.le_of_ble_eq_true rfl, Nat.le_of_ble_eq_true rfl⟩, List.forall_mem_cons.mpr ⟨f_cokV C (mX12_isReading hinj) (ci := 11) rfl (List.forall_mem_cons.mpr ⟨(mlX12_ok _ (List.mem_of_getElem? (i := 54) rfl)), kc_X12_isReading⟩) (by decide +kernel) ⟨Nat.le_of_ble_eq_true rfl, Nat.le_of_ble_eq_true rfl⟩, List.forall_mem_cons.mpr ⟨f_cokV C (mX12_areAlike hinj) (ci := 11) rfl (List.forall_mem_cons.mpr ⟨(mlX12_ok _ (List.mem_of_getElem? (i := 55) rfl)), kc_X12_areAlike⟩) (by decide +kernel) ⟨Nat.le_of_ble_eq_true rfl, Nat.le_of_ble_eq_true rfl⟩, fun _ h => absurd h List.not_mem_nil⟩⟩⟩)) (fun j S h => by cases h) tX12_same_ok (cut := (f_cnl [(26, (fun (ls' : fLs) (st' : List Value) (I' : fM) (L' : fN) => ∃ u : Int32, (∀ q ∈ ([(2, .int u), (1, .int r), (0, .ref 0)] : fLs), q ∈ ls') ∧ st' = [] ∧ L' = L ∧ (mR I' ∧ f_fr [0, 21, 22, 23, 24, 25, 26, 27, 28, 29, 30, 31, 32, 33, 34, 35, 36, 37, 38, 39, 40, 41, 42, 43, 44, 45, 46, 47, 48, 49, 50, 51, 52] I I' ∧ f_fo [45, 46, 47, 48, 53, 54, 55, 59, 69, 70, 71, 74] I I' ∧ mL I' ∧ mK I' ∧ mW I' ∧ (0 ≤ u.toInt) ∧ (u.toInt ≤ r.toInt) ∧ (r.toInt < 300) ∧ (300 - u.toInt) < 301)))])) (f_cnl_of (P := fun (tQ : Nat) (P : fLs → List Value → fM → fN → Prop) => ∀ ls' st' I' L', P ls' st' I' L' → f_W pP l eP (f_rm 4) sP mP aP bP hP9 cP mY 71 a cy dC dI 3 (f_K 1 (qX12_same [.ref 0, .int r] I L)) tQ ls' st' I' L') (List.forall_mem_cons.mpr ⟨(fun ls' st' I' L' h => by obtain ⟨u, hs, e1, e3, h9⟩ := h; rw [e1, e3]; exact f_W_sub hs (lp26 301 u I' h9)), fun _ h => absurd h List.not_mem_nil⟩)) 14 0 tX12_same tX12_same_ok _ _ _ _ ?_
    refine And.intro ⟨hR, hmL, hmK, hmW⟩ ?_
    intro I1 L1 hq1
    have hq1 : mR I1 ∧ mL I1 ∧ mK I1 ∧ mW I1 ∧ f_fo [45, 46, 47, 48, 53, 54, 55, 59, 69, 70, 71, 74] I I1 ∧ f_fr [0, 21, 22, 23, 24, 25, 26, 27, 28, 29, 30, 31, 32, 33, 34, 35, 36, 37, 38, 39, 40, 41, 42, 43, 44, 45, 46, 47, 48, 49, 50, 51, 52] I I1 ∧ L1 = L := hq1
    obtain ⟨c1_0, c1_1, c1_2, c1_3, c1_4, c1_5, eL1⟩ := hq1
    replace eL1 := eL1.symm
    subst eL1
    have hO1 := f_fo_tr hO0 c1_4 rfl
    have hF1 := f_fr_tr hF0 c1_5 rfl
    have r1 : (I1 0 69).toInt ≤ 300 := (c1_0 0 69).2
    apply And.intro
    · intro h8
      have h8 : (I1 0 71).toInt = 0 := h8
      refine And.intro c1_0 ?_
      intro x16 I16 L16 hq16
      have hq16 : I16 = I1 ∧ L16 = L ∧ ((x16.toInt = 0 ∨ x16.toInt = 1 ∧ 0 ≤ r.toInt ∧ r.toInt < (I1 0 69).toInt)) := hq16
      obtain ⟨eI16, eL16, c16_2⟩ := hq16
      replace eI16 := eI16.symm
      subst eI16
      replace eL16 := eL16.symm
      subst eL16
      apply And.intro
      · intro h19
        have h19 : ¬ x16.toInt = 0 := h19
        exact ⟨Int32.ofInt 0, (by intro q9 h9; simp only [List.mem_cons, List.not_mem_nil, or_false] at h9; rcases h9 with h9 | h9 | h9 <;> subst h9 <;> repeat (first | exact List.mem_cons_self | apply List.mem_cons_of_mem)), rfl, rfl, c1_0, hF1, hO1, c1_1, c1_2, c1_3, (show 0 ≤ (0 : Int) from by first | assumption | omega), (show (0 : Int) ≤ r.toInt from by first | assumption | omega), (show r.toInt < 300 from by first | assumption | omega), (show (300 - (0 : Int)) < 301 from by omega)⟩
      · intro h19
        have h19 : x16.toInt = 0 := h19
        exact ⟨c1_0, c1_1, c1_2, c1_3, hO1, hF1, rfl⟩
    · intro h8
      have h8 : ¬ (I1 0 71).toInt = 0 := h8
      exact ⟨c1_0, c1_1, c1_2, c1_3, hO1, hF1, rfl⟩
