/-- a tag is learnt for every word -/
def lnK (I : fM) : Prop := ∀ i : Nat, (i : Int) < (I 9 (I 0 24).toInt.toNat).toInt → (I 61 i).toInt < numK (I 8 (I 0 24).toInt.toNat).toInt
-- @invo lnK [8, 9, 61] [24]
theorem lnK_dep : f_depo lnK [8, 9, 61] [24] := by
  intro I I' h ho hs
  unfold lnK
  rw [h 8 rfl, h 9 rfl, h 61 rfl, ho 24 rfl]
  exact hs
def tX12_isLearnt : List (Instr × Nat) := [(.iconst 0, 1), (.istore_n 2, 1), (.iload_n 2, 1), (.aload_n 0, 1), (.getfield 306, 3), (.if_icmp .ge 110, 3), (.aload_n 0, 1), (.iload_n 2, 1), (.iload_n 1, 1), (.invokevirtual 526, 3), (.ifCond .ne 6, 3), (.goto 92, 3), (.aload_n 0, 1), (.aload_n 0, 1), (.getfield 182, 3), (.iload_n 2, 1), (.iaload, 1), (.putfield 407, 3), (.aload_n 0, 1), (.aload_n 0, 1), (.getfield 42, 3), (.aload_n 0, 1), (.getfield 300, 3), (.iaload, 1), (.putfield 416, 3), (.iconst 0, 1), (.istore_n 3, 1), (.iload_n 3, 1), (.aload_n 0, 1), (.getfield 407, 3), (.if_icmp .ge 44, 3), (.aload_n 0, 1), (.getfield 119, 3), (.iload_n 3, 1), (.iconst 1, 1), (.iastore, 1), (.aload_n 0, 1), (.getfield 122, 3), (.iconst 3, 1), (.iload_n 3, 1), (.imul, 1), (.sipush 520, 3), (.aload_n 0, 1), (.getfield 197, 3), (.aload_n 0, 1), (.getfield 185, 3), (.bipush 6, 2), (.iload_n 2, 1), (.imul, 1), (.iload_n 3, 1), (.iadd, 1), (.iaload, 1), (.iaload, 1), (.iadd, 1), (.iastore, 1), (.iinc 3 1, 3), (.goto (-46), 3), (.aload_n 0, 1), (.invokevirtual 494, 3), (.aload_n 0, 1), (.getfield 194, 3), (.iload_n 2, 1), (.baload, 1), (.if_icmp .eq 5, 3), (.iconst 0, 1), (.ireturn, 1), (.iinc 2 1, 3), (.goto (-112), 3), (.iconst 1, 1), (.ireturn, 1)]
theorem tX12_isLearnt_ok : f_chk cX12_isLearnt 0 tX12_isLearnt = true := by decide +kernel
def pX12_isLearnt (av : List Value) (I : fM) (L : fN) : Prop := match av with
  | [.ref 0, .int k] => mR I ∧ mL I ∧ mK I ∧ mW I ∧ lnK I ∧ (I 9 (I 0 24).toInt.toNat).toInt ≤ 4
  | _ => False
def qX12_isLearnt (av : List Value) (I : fM) (L : fN) (r : Value) (I' : fM) (L' : fN) : Prop := match av, r with
  | [.ref 0, .int k], .int x => mR I' ∧ mL I' ∧ mK I' ∧ mW I' ∧ lnK I' ∧ f_fo [45, 46, 47, 48, 53, 54, 55, 59] I I' ∧ f_fr [0, 21, 22, 23, 24, 25, 26, 27, 28, 29, 30, 31, 32, 33, 34, 35, 36, 37, 38, 39, 40, 41, 42, 43, 44] I I' ∧ L' = L ∧ (x.toInt = 0 ∨ x.toInt = 1)
  | _, _ => False
set_option maxHeartbeats 40000000 in
set_option maxRecDepth 100000 in
theorem mX12_isLearnt {l : Launch} {a : Nat → Nat} {cy dC : Nat → ClassId} {dI : Nat → Nat → Nat} (hinj : ∀ i j, i < 71 → j < 71 → a i = a j → i = j) : f_Met (fun _ => True) l mY 71 a cy dC dI yX12_isLearnt cX12_isLearnt 4 3 4 pX12_isLearnt qX12_isLearnt := by
  refine f_met_of (f_Ec_T 71 a) hinj mY_hi (by decide) (fun av I L h => by unfold pX12_isLearnt at h; split at h <;> first | exact Nat.le_of_ble_eq_true rfl | exact h.elim) ?_
  intro pP eP sP mP aP bP hP9 cP C av I L hp
  unfold pX12_isLearnt at hp
  split at hp
  case h_2 => exact hp.elim
  case h_1 k =>
    obtain ⟨hR, hmL, hmK, hmW, hlnK, p5⟩ := hp
    have hx : 0 ≤ (I 0 83).toInt ∧ (I 0 83).toInt ≤ 12 := hR 0 83
    have hF0 : f_fr [0, 21, 22, 23, 24, 25, 26, 27, 28, 29, 30, 31, 32, 33, 34, 35, 36, 37, 38, 39, 40, 41, 42, 43, 44] I I := f_fr_rf
    have hO0 : f_fo [45, 46, 47, 48, 53, 54, 55, 59] I I := f_fo_rf
    have lp2 : ∀ (n2 : Nat), ∀ (n : Int32) (J2 : fM), mR J2 ∧ f_fr [0, 21, 22, 23, 24, 25, 26, 27, 28, 29, 30, 31, 32, 33, 34, 35, 36, 37, 38, 39, 40, 41, 42, 43, 44] I J2 ∧ f_fo [45, 46, 47, 48, 53, 54, 55, 59] I J2 ∧ mL J2 ∧ mK J2 ∧ mW J2 ∧ lnK J2 ∧ (0 ≤ n.toInt) ∧ (n.toInt ≤ (I 0 83).toInt) ∧ ((I 0 83).toInt - n.toInt) < n2 → f_W pP l eP (f_rm 4) sP mP aP bP hP9 cP mY 71 a cy dC dI 4 (f_K 3 (qX12_isLearnt [.ref 0, .int k] I L)) 2 [(2, .int n), (1, .int k), (0, .ref 0)] [] J2 L := by
      intro n2
      induction n2 with
      | zero =>
        intro n J2 h9
        obtain ⟨hR2c, hF2c, hO2c, hmL2c, hmK2c, hmW2c, hlnK2c, u2_1, u2_2, hm2⟩ := h9
        omega
      | succ n2 ih2 =>
        intro n J2 h9
        obtain ⟨hR2c, hF2c, hO2c, hmL2c, hmK2c, hmW2c, hlnK2c, u2_1, u2_2, hm2⟩ := h9
        have m2 : 0 ≤ (I 56 n.toInt.toNat).toInt ∧ (I 56 n.toInt.toNat).toInt ≤ 6 := hR 56 _
        have f2 : (J2 0 83).toInt = (I 0 83).toInt := congrArg Int32.toInt (hO2c 83 rfl)
        have g2 : (J2 56 n.toInt.toNat).toInt = (I 56 n.toInt.toNat).toInt := by rw [hF2c 56 rfl]
        have a2 : (J2 10 (J2 0 24).toInt.toNat).toInt = (I 10 (I 0 24).toInt.toNat).toInt := by rw [hO2c 24 rfl, hF2c 10 rfl]
        have lp111 : ∀ (J111 : fM), mR J111 ∧ f_fr [0, 21, 22, 23, 24, 25, 26, 27, 28, 29, 30, 31, 32, 33, 34, 35, 36, 37, 38, 39, 40, 41, 42, 43, 44] I J111 ∧ f_fo [45, 46, 47, 48, 53, 54, 55, 59] I J111 ∧ mL J111 ∧ mK J111 ∧ mW J111 ∧ lnK J111 ∧ (n.toInt < (I 0 83).toInt) → f_W pP l eP (f_rm 4) sP mP aP bP hP9 cP mY 71 a cy dC dI 4 (f_K 3 (qX12_isLearnt [.ref 0, .int k] I L)) 111 [(2, .int n), (1, .int k), (0, .ref 0)] [] J111 L := by
          intro J111 h9
          obtain ⟨hR111c, hF111c, hO111c, hmL111c, hmK111c, hmW111c, hlnK111c, u111_1⟩ := h9
          refine f_wp_ok C f_cl flX12_ok fiX12_ok fjX12_ok (sn := none) (fun j h => by cases h) (cs := (f_cnl [(526, (3, 3, 11, pX12_counts, qX12_counts)), (494, (1, 3, 11, pX12_isSentence, qX12_isSentence))])) (cz := (fun _ => none)) (f_cnl_of (P := fun j S => f_cok pP l eP (f_rm 4) sP mP aP bP hP9 cP mY 71 a cy dC dI 4 _ _ (.invokevirtual j) true S) (List.forall_mem_cons.mpr ⟨f_cokV C (mX12_counts hinj) (ci := 11) rfl (List.forall_mem_cons.mpr ⟨(mlX12_ok _ (List.mem_of_getElem? (i := 66) rfl)), kc_X12_counts⟩) (by decide +kernel) ⟨Nat.le_of_ble_eq_true rfl, Nat.le_of_ble_eq_true rfl⟩, List.forall_mem_cons.mpr ⟨f_cokV C (mX12_isSentence hinj) (ci := 11) rfl (List.forall_mem_cons.mpr ⟨(mlX12_ok _ (List.mem_of_getElem? (i := 57) rfl)), kc_X12_isSentence⟩) (by decide +kernel) ⟨Nat.le_of_ble_eq_true rfl, Nat.le_of_ble_eq_true rfl⟩, fun _ h => absurd h List.not_mem_nil⟩⟩)) (fun j S h => by cases h) tX12_isLearnt_ok (cut := (f_cnl [(2, (fun (ls' : fLs) (st' : List Value) (I' : fM) (L' : fN) => ∃ n : Int32, (∀ q ∈ ([(2, .int n), (1, .int k), (0, .ref 0)] : fLs), q ∈ ls') ∧ st' = [] ∧ L' = L ∧ (mR I' ∧ f_fr [0, 21, 22, 23, 24, 25, 26, 27, 28, 29, 30, 31, 32, 33, 34, 35, 36, 37, 38, 39, 40, 41, 42, 43, 44] I I' ∧ f_fo [45, 46, 47, 48, 53, 54, 55, 59] I I' ∧ mL I' ∧ mK I' ∧ mW I' ∧ lnK I' ∧ (0 ≤ n.toInt) ∧ (n.toInt ≤ (I 0 83).toInt) ∧ ((I 0 83).toInt - n.toInt) < n2)))])) (f_cnl_of (P := fun (tQ : Nat) (P : fLs → List Value → fM → fN → Prop) => ∀ ls' st' I' L', P ls' st' I' L' → f_W pP l eP (f_rm 4) sP mP aP bP hP9 cP mY 71 a cy dC dI 4 (f_K 3 (qX12_isLearnt [.ref 0, .int k] I L)) tQ ls' st' I' L') (List.forall_mem_cons.mpr ⟨(fun ls' st' I' L' h => by obtain ⟨n, hs, e1, e3, h9⟩ := h; rw [e1, e3]; exact f_W_sub hs (ih2 n I' h9)), fun _ h => absurd h List.not_mem_nil⟩)) 5 111 (f_seek 111 0 tX12_isLearnt) (f_seek_ok 111 0 tX12_isLearnt tX12_isLearnt_ok) _ _ _ _ ?_
          intro z111 q111 _ hq111 hl111 hu111
          have hq111 : z111.toInt = n.toInt + 1 + 4294967296 * q111 := hq111
          try have hz111 : z111.toInt = n.toInt + 1 := by omega
          exact ⟨z111, (by intro q9 h9; simp only [List.mem_cons, List.not_mem_nil, or_false] at h9; rcases h9 with h9 | h9 | h9 <;> subst h9 <;> repeat (first | exact List.mem_cons_self | apply List.mem_cons_of_mem)), rfl, rfl, hR111c, hF111c, hO111c, hmL111c, hmK111c, hmW111c, hlnK111c, (show 0 ≤ z111.toInt from by first | assumption | omega), (show z111.toInt ≤ (I 0 83).toInt from by first | assumption | omega), (show ((I 0 83).toInt - z111.toInt) < n2 from by omega)⟩
        have lp47 : ∀ (n47 : Nat), ∀ (i : Int32) (J47 : fM), mR J47 ∧ f_fr [0, 21, 22, 23, 24, 25, 26, 27, 28, 29, 30, 31, 32, 33, 34, 35, 36, 37, 38, 39, 40, 41, 42, 43, 44] I J47 ∧ f_fo [45, 46, 47, 48, 53, 54, 55, 59] I J47 ∧ mL J47 ∧ mK J47 ∧ mW J47 ∧ lnK J47 ∧ (n.toInt < (I 0 83).toInt) ∧ (0 ≤ i.toInt) ∧ (i.toInt ≤ (I 56 n.toInt.toNat).toInt) ∧ ((J47 0 53).toInt = (I 56 n.toInt.toNat).toInt) ∧ ((J47 0 54).toInt = (I 10 (I 0 24).toInt.toNat).toInt) ∧ ((∀ j : Nat, (j : Int) < i.toInt → oK J47 j)) ∧ (6 - i.toInt) < n47 → f_W pP l eP (f_rm 4) sP mP aP bP hP9 cP mY 71 a cy dC dI 4 (f_K 3 (qX12_isLearnt [.ref 0, .int k] I L)) 47 [(3, .int i), (2, .int n), (1, .int k), (0, .ref 0)] [] J47 L := by
          intro n47
          induction n47 with
          | zero =>
            intro i J47 h9
            obtain ⟨hR47c, hF47c, hO47c, hmL47c, hmK47c, hmW47c, hlnK47c, u47_1, u47_2, u47_3, u47_4, u47_5, u47_6, hm47⟩ := h9
            omega
          | succ n47 ih47 =>
            intro i J47 h9
            obtain ⟨hR47c, hF47c, hO47c, hmL47c, hmK47c, hmW47c, hlnK47c, u47_1, u47_2, u47_3, u47_4, u47_5, u47_6, hm47⟩ := h9
            have f47 : (J47 0 83).toInt = (I 0 83).toInt := congrArg Int32.toInt (hO47c 83 rfl)
            have g47 : (J47 56 n.toInt.toNat).toInt = (I 56 n.toInt.toNat).toInt := by rw [hF47c 56 rfl]
            have e47 : (J47 9 (J47 0 24).toInt.toNat).toInt = (I 9 (I 0 24).toInt.toNat).toInt := by rw [hO47c 24 rfl, hF47c 9 rfl]
            have b47 : (J47 8 (J47 0 24).toInt.toNat).toInt = (I 8 (I 0 24).toInt.toNat).toInt := by rw [hO47c 24 rfl, hF47c 8 rfl]
            refine f_wp_ok C f_cl flX12_ok fiX12_ok fjX12_ok (sn := none) (fun j h => by cases h) (cs := (f_cnl [(526, (3, 3, 11, pX12_counts, qX12_counts)), (494, (1, 3, 11, pX12_isSentence, qX12_isSentence))])) (cz := (fun _ => none)) (f_cnl_of (P := fun j S => f_cok pP l eP (f_rm 4) sP mP aP bP hP9 cP mY 71 a cy dC dI 4 _ _ (.invokevirtual j) true S) (List.forall_mem_cons.mpr ⟨f_cokV C (mX12_counts hinj) (ci := 11) rfl (List.forall_mem_cons.mpr ⟨(mlX12_ok _ (List.mem_of_getElem? (i := 66) rfl)), kc_X12_counts⟩) (by decide +kernel) ⟨Nat.le_of_ble_eq_true rfl, Nat.le_of_ble_eq_true rfl⟩, List.forall_mem_cons.mpr ⟨f_cokV C (mX12_isSentence hinj) (ci := 11) rfl (List.forall_mem_cons.mpr ⟨(mlX12_ok _ (List.mem_of_getElem? (i := 57) rfl)), kc_X12_isSentence⟩) (by decide +kernel) ⟨Nat.le_of_ble_eq_true rfl, Nat.le_of_ble_eq_true rfl⟩, fun _ h => absurd h List.not_mem_nil⟩⟩)) (fun j S h => by cases h) tX12_isLearnt_ok (cut := (f_cnl [(47, (fun (ls' : fLs) (st' : List Value) (I' : fM) (L' : fN) => ∃ i : Int32, (∀ q ∈ ([(3, .int i), (2, .int n), (1, .int k), (0, .ref 0)] : fLs), q ∈ ls') ∧ st' = [] ∧ L' = L ∧ (mR I' ∧ f_fr [0, 21, 22, 23, 24, 25, 26, 27, 28, 29, 30, 31, 32, 33, 34, 35, 36, 37, 38, 39, 40, 41, 42, 43, 44] I I' ∧ f_fo [45, 46, 47, 48, 53, 54, 55, 59] I I' ∧ mL I' ∧ mK I' ∧ mW I' ∧ lnK I' ∧ (n.toInt < (I 0 83).toInt) ∧ (0 ≤ i.toInt) ∧ (i.toInt ≤ (I 56 n.toInt.toNat).toInt) ∧ ((I' 0 53).toInt = (I 56 n.toInt.toNat).toInt) ∧ ((I' 0 54).toInt = (I 10 (I 0 24).toInt.toNat).toInt) ∧ ((∀ j : Nat, (j : Int) < i.toInt → oK I' j)) ∧ (6 - i.toInt) < n47))), (111, (fun (ls' : fLs) (st' : List Value) (I' : fM) (L' : fN) => (∀ q ∈ ([(2, .int n), (1, .int k), (0, .ref 0)] : fLs), q ∈ ls') ∧ st' = [] ∧ L' = L ∧ (mR I' ∧ f_fr [0, 21, 22, 23, 24, 25, 26, 27, 28, 29, 30, 31, 32, 33, 34, 35, 36, 37, 38, 39, 40, 41, 42, 43, 44] I I' ∧ f_fo [45, 46, 47, 48, 53, 54, 55, 59] I I' ∧ mL I' ∧ mK I' ∧ mW I' ∧ lnK I' ∧ (n.toInt < (I 0 83).toInt))))])) (f_cnl_of (P := fun (tQ : Nat) (P : fLs → List Value → fM → fN → Prop) => ∀ ls' st' I' L', P ls' st' I' L' → f_W pP l eP (f_rm 4) sP mP aP bP hP9 cP mY 71 a cy dC dI 4 (f_K 3 (qX12_isLearnt [.ref 0, .int k] I L)) tQ ls' st' I' L') (List.forall_mem_cons.mpr ⟨(fun ls' st' I' L' h => by obtain ⟨i, hs, e1, e3, h9⟩ := h; rw [e1, e3]; exact f_W_sub hs (ih47 i I' h9)), List.forall_mem_cons.mpr ⟨(fun ls' st' I' L' h => by obtain ⟨hs, e1, e3, h9⟩ := h; rw [e1, e3]; exact f_W_sub hs (lp111  I' h9)), fun _ h => absurd h List.not_mem_nil⟩⟩)) 33 47 (f_seek 47 0 tX12_isLearnt) (f_seek_ok 47 0 tX12_isLearnt tX12_isLearnt_ok) _ _ _ _ ?_
            have r49_1 : 0 ≤ (J47 0 53).toInt ∧ (J47 0 53).toInt ≤ 10 := hR47c 0 53
            apply And.intro
            · intro h52
              have h52 : (J47 0 53).toInt ≤ i.toInt := h52
              refine And.intro ⟨hR47c, hmL47c, hmK47c, (mO_all hmL (hO47c 24 rfl) (hF47c 8 rfl) (hF47c 11 rfl) (fun j hj => u47_6 j (by omega)) u47_5)⟩ ?_
              intro x97 I97 L97 hq97
              have hq97 : mR I97 ∧ mL I97 ∧ mK I97 ∧ mO I97 ∧ f_fo [45, 46, 47, 48, 55, 59] J47 I97 ∧ f_fr [0, 21, 22, 23, 24, 25, 26, 27, 28, 29, 30, 31, 32, 33, 34, 37, 38, 39, 40, 41, 42, 43, 44] J47 I97 ∧ L97 = L ∧ ((x97.toInt = 0 ∨ x97.toInt = 1)) := hq97
              obtain ⟨c97_0, c97_1, c97_2, c97_3, c97_4, c97_5, eL97, c97_7⟩ := hq97
              replace eL97 := eL97.symm
              subst eL97
              have hO97 := f_fo_tr hO47c c97_4 rfl
              have hmW97 := f_depo_fo mW_dep hmW47c c97_5 c97_4 rfl rfl
              have hlnK97 := f_depo_fo lnK_dep hlnK47c c97_5 c97_4 rfl rfl
              have hF97 := f_fr_tr hF47c c97_5 rfl
              refine And.intro (show f_in n 12 from ⟨show 0 ≤ n.toInt from by omega, show n.toInt < 12 from by omega⟩) ?_
              have e105_3 : (I97 60 (n.toInt.toNat)).toInt = (J47 60 (n.toInt.toNat)).toInt := congrArg Int32.toInt (congrFun (c97_5 60 rfl) (n.toInt.toNat))
              have e105_4 : (J47 60 (n.toInt.toNat)).toInt = (I 60 (n.toInt.toNat)).toInt := congrArg Int32.toInt (congrFun (hF47c 60 rfl) (n.toInt.toNat))
              apply And.intro
              · intro h106
                have h106 : x97.toInt = (I97 60 (n.toInt.toNat)).toInt := h106
                exact ⟨(by intro q9 h9; simp only [List.mem_cons, List.not_mem_nil, or_false] at h9; rcases h9 with h9 | h9 | h9 <;> subst h9 <;> repeat (first | exact List.mem_cons_self | apply List.mem_cons_of_mem)), rfl, rfl, c97_0, hF97, hO97, c97_1, c97_2, hmW97, hlnK97, (show n.toInt < (I 0 83).toInt from by first | assumption | omega)⟩
              · intro h106
                have h106 : ¬ x97.toInt = (I97 60 (n.toInt.toNat)).toInt := h106
                exact ⟨Or.inl rfl, c97_0, c97_1, c97_2, hmW97, hlnK97, hO97, hF97, rfl, (show ((0 : Int) = 0 ∨ (0 : Int) = 1) from by first | assumption | omega | rfl)⟩
            · intro h52
              have h52 : i.toInt < (J47 0 53).toInt := h52
              refine And.intro (show f_in i 10 from ⟨show 0 ≤ i.toInt from by omega, show i.toInt < 10 from by omega⟩) ?_
              have hR61 := mR_a (k := 35) (j := i.toInt.toNat) (x := Int32.ofInt 1) hR47c (show 0 ≤ 1 ∧ 1 ≤ 3 from ⟨by omega, by omega⟩)
              have hF61 := f_fr_up (k := 35) (r := upd (J47 35) (i.toInt.toNat) (Int32.ofInt 1)) hF47c rfl
              have hO61 := f_fo_ne (k := 35) (r := upd (J47 35) (i.toInt.toNat) (Int32.ofInt 1)) hO47c (by decide)
              have hmL61 := f_depo_up mL_dep (k := 35) (r := upd (J47 35) (i.toInt.toNat) (Int32.ofInt 1)) hmL47c rfl (by decide)
              have hmK61 := f_depo_up mK_dep (k := 35) (r := upd (J47 35) (i.toInt.toNat) (Int32.ofInt 1)) hmK47c rfl (by decide)
              have hmW61 := f_depo_up mW_dep (k := 35) (r := upd (J47 35) (i.toInt.toNat) (Int32.ofInt 1)) hmW47c rfl (by decide)
              have hlnK61 := f_depo_up lnK_dep (k := 35) (r := upd (J47 35) (i.toInt.toNat) (Int32.ofInt 1)) hlnK47c rfl (by decide)
              intro z68 q68 _ hq68 hl68 hu68
              have hq68 : z68.toInt = 3 * i.toInt + 4294967296 * q68 := hq68
              try have hz68 : z68.toInt = 3 * i.toInt := by omega
              intro z83 q83 _ hq83 hl83 hu83
              have hq83 : z83.toInt = 6 * n.toInt + 4294967296 * q83 := hq83
              try have hz83 : z83.toInt = 6 * n.toInt := by omega
              intro z85 q85 _ hq85 hl85 hu85
              have hq85 : z85.toInt = z83.toInt + i.toInt + 4294967296 * q85 := hq85
              try have hz85 : z85.toInt = z83.toInt + i.toInt := by omega
              refine And.intro (show f_in z85 72 from ⟨show 0 ≤ z85.toInt from by omega, show z85.toInt < 72 from by omega⟩) ?_
              have r86_2 : 0 ≤ (J47 57 (z85.toInt.toNat)).toInt ∧ (J47 57 (z85.toInt.toNat)).toInt ≤ 11 := hR61 57 (z85.toInt.toNat)
              have e86_3 : (J47 57 (z85.toInt.toNat)).toInt = (I 57 (z85.toInt.toNat)).toInt := congrArg Int32.toInt (congrFun (hF47c 57 rfl) (z85.toInt.toNat))
              have w86 : (J47 57 z85.toInt.toNat).toInt < (J47 9 (J47 0 24).toInt.toNat).toInt := hmW47c.2.1 n.toInt.toNat z85.toInt.toNat (by omega) (by omega) (by omega)
              refine And.intro (show f_in (J47 57 (z85.toInt.toNat)) 4 from ⟨show 0 ≤ (J47 57 (z85.toInt.toNat)).toInt from by omega, show (J47 57 (z85.toInt.toNat)).toInt < 4 from by omega⟩) ?_
              have r87_4 : 0 ≤ (J47 61 ((J47 57 (z85.toInt.toNat)).toInt.toNat)).toInt ∧ (J47 61 ((J47 57 (z85.toInt.toNat)).toInt.toNat)).toInt ≤ 9 := hR61 61 ((J47 57 (z85.toInt.toNat)).toInt.toNat)
              have e87_5 : (J47 61 ((J47 57 (z85.toInt.toNat)).toInt.toNat)).toInt = (I 61 ((J47 57 (z85.toInt.toNat)).toInt.toNat)).toInt := congrArg Int32.toInt (congrFun (hF47c 61 rfl) ((J47 57 (z85.toInt.toNat)).toInt.toNat))
              have l87 : (J47 61 (J47 57 z85.toInt.toNat).toInt.toNat).toInt < numK (I 8 (I 0 24).toInt.toNat).toInt ∧ 0 ≤ (J47 61 (J47 57 z85.toInt.toNat).toInt.toNat).toInt := by
                have q := hlnK47c (J47 57 z85.toInt.toNat).toInt.toNat (by omega)
                rw [b47] at q
                exact ⟨q, (hR47c 61 _).1⟩
              have n87 := numK_le (k := (I 8 (I 0 24).toInt.toNat).toInt) (hR 8 _)
              intro z88 q88 _ hq88 hl88 hu88
              have hq88 : z88.toInt = 520 + (J47 61 ((J47 57 (z85.toInt.toNat)).toInt.toNat)).toInt + 4294967296 * q88 := hq88
              try have hz88 : z88.toInt = 520 + (J47 61 ((J47 57 (z85.toInt.toNat)).toInt.toNat)).toInt := by omega
              refine And.intro (show f_in z68 30 from ⟨show 0 ≤ z68.toInt from by omega, show z68.toInt < 30 from by omega⟩) ?_
              have hR89 := mR_a (k := 36) (j := z68.toInt.toNat) (x := z88) hR61 (show -1 ≤ z88.toInt ∧ z88.toInt ≤ 1599 from ⟨by omega, by omega⟩)
              have hF89 := f_fr_up (k := 36) (r := upd (J47 36) (z68.toInt.toNat) z88) hF61 rfl
              have hO89 := f_fo_ne (k := 36) (r := upd (J47 36) (z68.toInt.toNat) z88) hO61 (by decide)
              have hmL89 := f_depo_up mL_dep (k := 36) (r := upd (J47 36) (z68.toInt.toNat) z88) hmL61 rfl (by decide)
              have hmK89 := f_depo_up mK_dep (k := 36) (r := upd (J47 36) (z68.toInt.toNat) z88) hmK61 rfl (by decide)
              have hmW89 := f_depo_up mW_dep (k := 36) (r := upd (J47 36) (z68.toInt.toNat) z88) hmW61 rfl (by decide)
              have hlnK89 := f_depo_up lnK_dep (k := 36) (r := upd (J47 36) (z68.toInt.toNat) z88) hlnK61 rfl (by decide)
              have l89 : lvn J47 z88.toInt := Or.inr ⟨by omega, by rw [b47]; omega⟩
              intro z90 q90 _ hq90 hl90 hu90
              have hq90 : z90.toInt = i.toInt + 1 + 4294967296 * q90 := hq90
              try have hz90 : z90.toInt = i.toInt + 1 := by omega
              have q90 : ∀ j : Nat, (j : Int) < z90.toInt → oK (va_up (va_up J47 35 (upd (J47 35) (i.toInt.toNat) (Int32.ofInt 1))) 36 (upd (J47 36) (z68.toInt.toNat) z88)) j := fun j hj => by
                by_cases q : j = i.toInt.toNat
                · rw [q]; exact oK_one (I := J47) (K := (va_up (va_up J47 35 (upd (J47 35) (i.toInt.toNat) (Int32.ofInt 1))) 36 (upd (J47 36) (z68.toInt.toNat) z88))) rfl rfl rfl rfl rfl (by omega) rfl l89
                · exact oK_rest (I := J47) (K := (va_up (va_up J47 35 (upd (J47 35) (i.toInt.toNat) (Int32.ofInt 1))) 36 (upd (J47 36) (z68.toInt.toNat) z88))) hR47c rfl rfl rfl rfl rfl (by omega) q (u47_6 j (by omega))
              exact ⟨z90, (by intro q9 h9; simp only [List.mem_cons, List.not_mem_nil, or_false] at h9; rcases h9 with h9 | h9 | h9 | h9 <;> subst h9 <;> repeat (first | exact List.mem_cons_self | apply List.mem_cons_of_mem)), rfl, rfl, hR89, hF89, hO89, hmL89, hmK89, hmW89, hlnK89, (show n.toInt < (I 0 83).toInt from by first | assumption | omega), (show 0 ≤ z90.toInt from by first | assumption | omega), (show z90.toInt ≤ (I 56 n.toInt.toNat).toInt from by first | assumption | omega), (show (J47 0 53).toInt = (I 56 n.toInt.toNat).toInt from by first | assumption | omega | rfl), (show (J47 0 54).toInt = (I 10 (I 0 24).toInt.toNat).toInt from by first | assumption | omega | rfl), (show (∀ j : Nat, (j : Int) < z90.toInt → oK (va_up (va_up J47 35 (upd (J47 35) (i.toInt.toNat) (Int32.ofInt 1))) 36 (upd (J47 36) (z68.toInt.toNat) z88)) j) from by first | assumption | omega | exact fun _ _ => rfl | exact fun _ _ => ⟨rfl, rfl⟩ | exact fun _ _ => ⟨rfl, rfl, rfl⟩ | (intro j9 hj9; omega)), (show (6 - z90.toInt) < n47 from by omega)⟩
        refine f_wp_ok C f_cl flX12_ok fiX12_ok fjX12_ok (sn := none) (fun j h => by cases h) (cs := (f_cnl [(526, (3, 3, 11, pX12_counts, qX12_counts)), (494, (1, 3, 11, pX12_isSentence, qX12_isSentence))])) (cz := (fun _ => none)) (f_cnl_of (P := fun j S => f_cok pP l eP (f_rm 4) sP mP aP bP hP9 cP mY 71 a cy dC dI 4 _ _ (.invokevirtual j) true S) (List.forall_mem_cons.mpr ⟨f_cokV C (mX12_counts hinj) (ci := 11) rfl (List.forall_mem_cons.mpr ⟨(mlX12_ok _ (List.mem_of_getElem? (i := 66) rfl)), kc_X12_counts⟩) (by decide +kernel) ⟨Nat.le_of_ble_eq_true rfl, Nat.le_of_ble_eq_true rfl⟩, List.forall_mem_cons.mpr ⟨f_cokV C (mX12_isSentence hinj) (ci := 11) rfl (List.forall_mem_cons.mpr ⟨(mlX12_ok _ (List.mem_of_getElem? (i := 57) rfl)), kc_X12_isSentence⟩) (by decide +kernel) ⟨Nat.le_of_ble_eq_true rfl, Nat.le_of_ble_eq_true rfl⟩, fun _ h => absurd h List.not_mem_nil⟩⟩)) (fun j S h => by cases h) tX12_isLearnt_ok (cut := (f_cnl [(47, (fun (ls' : fLs) (st' : List Value) (I' : fM) (L' : fN) => ∃ i : Int32, (∀ q ∈ ([(3, .int i), (2, .int n), (1, .int k), (0, .ref 0)] : fLs), q ∈ ls') ∧ st' = [] ∧ L' = L ∧ (mR I' ∧ f_fr [0, 21, 22, 23, 24, 25, 26, 27, 28, 29, 30, 31, 32, 33, 34, 35, 36, 37, 38, 39, 40, 41, 42, 43, 44] I I' ∧ f_fo [45, 46, 47, 48, 53, 54, 55, 59] I I' ∧ mL I' ∧ mK I' ∧ mW I' ∧ lnK I' ∧ (n.toInt < (I 0 83).toInt) ∧ (0 ≤ i.toInt) ∧ (i.toInt ≤ (I 56 n.toInt.toNat).toInt) ∧ ((I' 0 53).toInt = (I 56 n.toInt.toNat).toInt) ∧ ((I' 0 54).toInt = (I 10 (I 0 24).toInt.toNat).toInt) ∧ ((∀ j : Nat, (j : Int) < i.toInt → oK I' j)) ∧ (6 - i.toInt) < 7))), (111, (fun (ls' : fLs) (st' : List Value) (I' : fM) (L' : fN) => (∀ q ∈ ([(2, .int n), (1, .int k), (0, .ref 0)] : fLs), q ∈ ls') ∧ st' = [] ∧ L' = L ∧ (mR I' ∧ f_fr [0, 21, 22, 23, 24, 25, 26, 27, 28, 29, 30, 31, 32, 33, 34, 35, 36, 37, 38, 39, 40, 41, 42, 43, 44] I I' ∧ f_fo [45, 46, 47, 48, 53, 54, 55, 59] I I' ∧ mL I' ∧ mK I' ∧ mW I' ∧ lnK I' ∧ (n.toInt < (I 0 83).toInt))))])) (f_cnl_of (P := fun (tQ : Nat) (P : fLs → List Value → fM → fN → Prop) => ∀ ls' st' I' L', P ls' st' I' L' → f_W pP l eP (f_rm 4) sP mP aP bP hP9 cP mY 71 a cy dC dI 4 (f_K 3 (qX12_isLearnt [.ref 0, .int k] I L)) tQ ls' st' I' L') (List.forall_mem_cons.mpr ⟨(fun ls' st' I' L' h => by obtain ⟨i, hs, e1, e3, h9⟩ := h; rw [e1, e3]; exact f_W_sub hs (lp47 7 i I' h9)), List.forall_mem_cons.mpr ⟨(fun ls' st' I' L' h => by obtain ⟨hs, e1, e3, h9⟩ := h; rw [e1, e3]; exact f_W_sub hs (lp111  I' h9)), fun _ h => absurd h List.not_mem_nil⟩⟩)) 27 2 (f_seek 2 0 tX12_isLearnt) (f_seek_ok 2 0 tX12_isLearnt tX12_isLearnt_ok) _ _ _ _ ?_
        have r4_1 : 0 ≤ (J2 0 83).toInt ∧ (J2 0 83).toInt ≤ 12 := hR2c 0 83
        have e4_2 : (J2 0 83).toInt = (I 0 83).toInt := congrArg Int32.toInt (hO2c 83 rfl)
        apply And.intro
        · intro h7
          have h7 : (J2 0 83).toInt ≤ n.toInt := h7
          exact ⟨Or.inr rfl, hR2c, hmL2c, hmK2c, hmW2c, hlnK2c, hO2c, hF2c, rfl, (show ((1 : Int) = 0 ∨ (1 : Int) = 1) from by first | assumption | omega | rfl)⟩
        · intro h7
          have h7 : n.toInt < (J2 0 83).toInt := h7
          refine And.intro ⟨(show 0 ≤ n.toInt from by first | assumption | omega), (show n.toInt ≤ 11 from by first | assumption | omega)⟩ ?_
          intro x13 I13 L13 hq13
          have hq13 : I13 = J2 ∧ L13 = L ∧ ((x13.toInt = 0 ∨ x13.toInt = 1)) := hq13
          obtain ⟨eI13, eL13, c13_2⟩ := hq13
          replace eI13 := eI13.symm
          subst eI13
          replace eL13 := eL13.symm
          subst eL13
          apply And.intro
          · intro h16
            have h16 : ¬ x13.toInt = 0 := h16
            refine And.intro (show f_in n 12 from ⟨show 0 ≤ n.toInt from by omega, show n.toInt < 12 from by omega⟩) ?_
            have r28_3 : 0 ≤ (J2 56 (n.toInt.toNat)).toInt ∧ (J2 56 (n.toInt.toNat)).toInt ≤ 6 := hR2c 56 (n.toInt.toNat)
            have e28_4 : (J2 56 (n.toInt.toNat)).toInt = (I 56 (n.toInt.toNat)).toInt := congrArg Int32.toInt (congrFun (hF2c 56 rfl) (n.toInt.toNat))
            have hR29 := mR_f (k := 0) (j := 53) (x := J2 56 (n.toInt.toNat)) hR2c (show 0 ≤ (J2 56 (n.toInt.toNat)).toInt ∧ (J2 56 (n.toInt.toNat)).toInt ≤ 10 from ⟨by omega, by omega⟩)
            have hF29 := f_fr_up (k := 0) (r := va_up (J2 0) 53 (J2 56 (n.toInt.toNat))) hF2c rfl
            have hO29 := f_fo_up (j := 53) (x := J2 56 (n.toInt.toNat)) hO2c rfl
            have hmL29 := f_depo_up0 mL_dep (j := 53) (x := J2 56 (n.toInt.toNat)) hmL2c rfl rfl
            have hmK29 := f_depo_up0 mK_dep (j := 53) (x := J2 56 (n.toInt.toNat)) hmK2c rfl rfl
            have hmW29 := f_depo_up0 mW_dep (j := 53) (x := J2 56 (n.toInt.toNat)) hmW2c rfl rfl
            have hlnK29 := f_depo_up0 lnK_dep (j := 53) (x := J2 56 (n.toInt.toNat)) hlnK2c rfl rfl
            have r38_5 : 0 ≤ (J2 0 24).toInt ∧ (J2 0 24).toInt ≤ 1 := hR29 0 24
            have e38_6 : (J2 0 24).toInt = (I 0 24).toInt := congrArg Int32.toInt (hO2c 24 rfl)
            refine And.intro (show f_in (J2 0 24) 2 from ⟨show 0 ≤ (J2 0 24).toInt from by omega, show (J2 0 24).toInt < 2 from by omega⟩) ?_
            have r41_7 : -1 ≤ (J2 10 ((J2 0 24).toInt.toNat)).toInt ∧ (J2 10 ((J2 0 24).toInt.toNat)).toInt ≤ 1599 := hR29 10 ((J2 0 24).toInt.toNat)
            have e41_8 : (J2 10 ((J2 0 24).toInt.toNat)).toInt = (J2 10 ((I 0 24).toInt.toNat)).toInt := by rw [(hO2c 24 rfl)]
            have e41_9 : (J2 10 ((I 0 24).toInt.toNat)).toInt = (I 10 ((I 0 24).toInt.toNat)).toInt := congrArg Int32.toInt (congrFun (hF2c 10 rfl) ((I 0 24).toInt.toNat))
            have hR42 := mR_f (k := 0) (j := 54) (x := J2 10 ((J2 0 24).toInt.toNat)) hR29 (show -1 ≤ (J2 10 ((J2 0 24).toInt.toNat)).toInt ∧ (J2 10 ((J2 0 24).toInt.toNat)).toInt ≤ 1599 from ⟨by omega, by omega⟩)
            have hF42 := f_fr_up (k := 0) (r := va_up (va_up (J2 0) 53 (J2 56 (n.toInt.toNat))) 54 (J2 10 ((J2 0 24).toInt.toNat))) hF29 rfl
            have hO42 := f_fo_up (j := 54) (x := J2 10 ((J2 0 24).toInt.toNat)) hO29 rfl
            have hmL42 := f_depo_up0 mL_dep (j := 54) (x := J2 10 ((J2 0 24).toInt.toNat)) hmL29 rfl rfl
            have hmK42 := f_depo_up0 mK_dep (j := 54) (x := J2 10 ((J2 0 24).toInt.toNat)) hmK29 rfl rfl
            have hmW42 := f_depo_up0 mW_dep (j := 54) (x := J2 10 ((J2 0 24).toInt.toNat)) hmW29 rfl rfl
            have hlnK42 := f_depo_up0 lnK_dep (j := 54) (x := J2 10 ((J2 0 24).toInt.toNat)) hlnK29 rfl rfl
            exact ⟨Int32.ofInt 0, (by intro q9 h9; simp only [List.mem_cons, List.not_mem_nil, or_false] at h9; rcases h9 with h9 | h9 | h9 | h9 <;> subst h9 <;> repeat (first | exact List.mem_cons_self | apply List.mem_cons_of_mem)), rfl, rfl, hR42, hF42, hO42, hmL42, hmK42, hmW42, hlnK42, (show n.toInt < (I 0 83).toInt from by first | assumption | omega), (show 0 ≤ (0 : Int) from by first | assumption | omega), (show (0 : Int) ≤ (I 56 n.toInt.toNat).toInt from by first | assumption | omega), (show (J2 56 (n.toInt.toNat)).toInt = (I 56 n.toInt.toNat).toInt from by first | assumption | omega | rfl), (show (J2 10 ((J2 0 24).toInt.toNat)).toInt = (I 10 (I 0 24).toInt.toNat).toInt from by first | assumption | omega | rfl), (show (∀ j : Nat, (j : Int) < (0 : Int) → oK (va_up (va_up J2 0 (va_up (J2 0) 53 (J2 56 (n.toInt.toNat)))) 0 (va_up (va_up (J2 0) 53 (J2 56 (n.toInt.toNat))) 54 (J2 10 ((J2 0 24).toInt.toNat)))) j) from by first | assumption | omega | exact fun _ _ => rfl | exact fun _ _ => ⟨rfl, rfl⟩ | exact fun _ _ => ⟨rfl, rfl, rfl⟩ | (intro j9 hj9; omega)), (show (6 - (0 : Int)) < 7 from by omega)⟩
          · intro h16
            have h16 : x13.toInt = 0 := h16
            exact ⟨(by intro q9 h9; simp only [List.mem_cons, List.not_mem_nil, or_false] at h9; rcases h9 with h9 | h9 | h9 <;> subst h9 <;> repeat (first | exact List.mem_cons_self | apply List.mem_cons_of_mem)), rfl, rfl, hR2c, hF2c, hO2c, hmL2c, hmK2c, hmW2c, hlnK2c, (show n.toInt < (I 0 83).toInt from by first | assumption | omega)⟩
    refine f_wp_ok C f_cl flX12_ok fiX12_ok fjX12_ok (sn := none) (fun j h => by cases h) (cs := (f_cnl [(526, (3, 3, 11, pX12_counts, qX12_counts)), (494, (1, 3, 11, pX12_isSentence, qX12_isSentence))])) (cz := (fun _ => none)) (f_cnl_of (P := fun j S => f_cok pP l eP (f_rm 4) sP mP aP bP hP9 cP mY 71 a cy dC dI 4 _ _ (.invokevirtual j) true S) (List.forall_mem_cons.mpr ⟨f_cokV C (mX12_counts hinj) (ci := 11) rfl (List.forall_mem_cons.mpr ⟨(mlX12_ok _ (List.mem_of_getElem? (i := 66) rfl)), kc_X12_counts⟩) (by decide +kernel) ⟨Nat.le_of_ble_eq_true rfl, Nat.le_of_ble_eq_true rfl⟩, List.forall_mem_cons.mpr ⟨f_cokV C (mX12_isSentence hinj) (ci := 11) rfl (List.forall_mem_cons.mpr ⟨(mlX12_ok _ (List.mem_of_getElem? (i := 57) rfl)), kc_X12_isSentence⟩) (by decide +kernel) ⟨Nat.le_of_ble_eq_true rfl, Nat.le_of_ble_eq_true rfl⟩, fun _ h => absurd h List.not_mem_nil⟩⟩)) (fun j S h => by cases h) tX12_isLearnt_ok (cut := (f_cnl [(2, (fun (ls' : fLs) (st' : List Value) (I' : fM) (L' : fN) => ∃ n : Int32, (∀ q ∈ ([(2, .int n), (1, .int k), (0, .ref 0)] : fLs), q ∈ ls') ∧ st' = [] ∧ L' = L ∧ (mR I' ∧ f_fr [0, 21, 22, 23, 24, 25, 26, 27, 28, 29, 30, 31, 32, 33, 34, 35, 36, 37, 38, 39, 40, 41, 42, 43, 44] I I' ∧ f_fo [45, 46, 47, 48, 53, 54, 55, 59] I I' ∧ mL I' ∧ mK I' ∧ mW I' ∧ lnK I' ∧ (0 ≤ n.toInt) ∧ (n.toInt ≤ (I 0 83).toInt) ∧ ((I 0 83).toInt - n.toInt) < 13)))])) (f_cnl_of (P := fun (tQ : Nat) (P : fLs → List Value → fM → fN → Prop) => ∀ ls' st' I' L', P ls' st' I' L' → f_W pP l eP (f_rm 4) sP mP aP bP hP9 cP mY 71 a cy dC dI 4 (f_K 3 (qX12_isLearnt [.ref 0, .int k] I L)) tQ ls' st' I' L') (List.forall_mem_cons.mpr ⟨(fun ls' st' I' L' h => by obtain ⟨n, hs, e1, e3, h9⟩ := h; rw [e1, e3]; exact f_W_sub hs (lp2 13 n I' h9)), fun _ h => absurd h List.not_mem_nil⟩)) 5 0 tX12_isLearnt tX12_isLearnt_ok _ _ _ _ ?_
    have r2_1 : 0 ≤ (I 0 83).toInt ∧ (I 0 83).toInt ≤ 12 := hR 0 83
    exact ⟨Int32.ofInt 0, (by intro q9 h9; simp only [List.mem_cons, List.not_mem_nil, or_false] at h9; rcases h9 with h9 | h9 | h9 <;> subst h9 <;> repeat (first | exact List.mem_cons_self | apply List.mem_cons_of_mem)), rfl, rfl, hR, hF0, hO0, hmL, hmK, hmW, hlnK, (show 0 ≤ (0 : Int) from by first | assumption | omega), (show (0 : Int) ≤ (I 0 83).toInt from by first | assumption | omega), (show ((I 0 83).toInt - (0 : Int)) < 13 from by omega)⟩
theorem mul_b {r b q z : Int} (hr : 0 ≤ r ∧ r ≤ 10000) (hb : 0 ≤ b ∧ b ≤ 10) (h : z = r * b + 4294967296 * q) (hl : -2147483648 ≤ z) (hu : z ≤ 2147483647) : 0 ≤ z ∧ z ≤ 10 * r := by
  have m1 : 0 ≤ r * b := Int.mul_nonneg hr.1 hb.1
  have m2 : r * b ≤ r * 10 := Int.mul_le_mul_of_nonneg_left hb.2 hr.1
  have : q ≤ -1 ∨ q = 0 ∨ 1 ≤ q := by omega
  rcases this with e | e | e
  · exfalso; omega
  · subst e; omega
  · exfalso; omega
def tX12_learnt : List (Instr × Nat) := [(.iload_n 1, 1), (.iconst (-1), 1), (.if_icmp .eq 14, 3), (.aload_n 0, 1), (.iload_n 1, 1), (.invokevirtual 370, 3), (.ifCond .ne 6, 3), (.bipush (-3), 2), (.ireturn, 1), (.aload_n 0, 1), (.getfield 39, 3), (.aload_n 0, 1), (.getfield 300, 3), (.iaload, 1), (.iconst 4, 1), (.if_icmp .gt 16, 3), (.aload_n 0, 1), (.getfield 36, 3), (.aload_n 0, 1), (.getfield 300, 3), (.iaload, 1), (.iconst 2, 1), (.if_icmp .le 6, 3), (.bipush (-2), 2), (.ireturn, 1), (.aload_n 0, 1), (.iconst 1, 1), (.invokevirtual 503, 3), (.istore_n 3, 1), (.iconst 1, 1), (.istore 4, 2), (.iconst 0, 1), (.istore 5, 2), (.iload 5, 2), (.aload_n 0, 1), (.getfield 39, 3), (.aload_n 0, 1), (.getfield 300, 3), (.iaload, 1), (.if_icmp .ge 15, 3), (.iload 4, 2), (.iload_n 3, 1), (.imul, 1), (.istore 4, 2), (.iinc 5 1, 3), (.goto (-23), 3), (.iconst (-1), 1), (.istore 5, 2), (.iconst 0, 1), (.istore 6, 2), (.iload 6, 2), (.iload 4, 2), (.if_icmp .ge 150, 3), (.iload 6, 2), (.istore 7, 2), (.iconst 0, 1), (.istore 8, 2), (.aload_n 0, 1), (.getfield 39, 3), (.aload_n 0, 1), (.getfield 300, 3), (.iaload, 1), (.iconst 1, 1), (.isub, 1), (.istore 9, 2), (.iload 9, 2), (.ifCond .lt 55, 3), (.aload_n 0, 1), (.getfield 197, 3), (.iload 9, 2), (.iload 7, 2), (.iload_n 3, 1), (.irem, 1), (.iastore, 1), (.iload 7, 2), (.iload_n 3, 1), (.idiv, 1), (.istore 7, 2), (.iload 8, 2), (.aload_n 0, 1), (.getfield 197, 3), (.iload 9, 2), (.iaload, 1), (.aload_n 0, 1), (.getfield 36, 3), (.aload_n 0, 1), (.getfield 300, 3), (.iaload, 1), (.if_icmp .ge 7, 3), (.iconst 0, 1), (.goto 4, 3), (.iconst 1, 1), (.iadd, 1), (.istore 8, 2), (.iinc 9 (-1), 3), (.goto (-54), 3), (.iload 5, 2), (.ifCond .lt 10, 3), (.iload 8, 2), (.iload 5, 2), (.if_icmp .ge 55, 3), (.aload_n 0, 1), (.iload_n 2, 1), (.invokevirtual 529, 3), (.ifCond .ne 6, 3), (.goto 44, 3), (.iload 8, 2), (.istore 5, 2), (.iconst 0, 1), (.istore 9, 2), (.iload 9, 2), (.aload_n 0, 1), (.getfield 39, 3), (.aload_n 0, 1), (.getfield 300, 3), (.iaload, 1), (.if_icmp .ge 23, 3), (.aload_n 0, 1), (.getfield 200, 3), (.iload 9, 2), (.aload_n 0, 1), (.getfield 197, 3), (.iload 9, 2), (.iaload, 1), (.iastore, 1), (.iinc 9 1, 3), (.goto (-31), 3), (.iinc 6 1, 3), (.goto (-151), 3), (.iload 5, 2), (.ifCond .ge 7, 3), (.iconst (-1), 1), (.goto 19, 3), (.iload_n 1, 1), (.iconst (-1), 1), (.if_icmp .ne 8, 3), (.iload 5, 2), (.goto 9, 3), (.aload_n 0, 1), (.getfield 200, 3), (.iload_n 1, 1), (.iaload, 1), (.ireturn, 1)]
theorem tX12_learnt_ok : f_chk cX12_learnt 0 tX12_learnt = true := by decide +kernel
def pX12_learnt (av : List Value) (I : fM) (L : fN) : Prop := match av with
  | [.ref 0, .int w, .int k] => mR I ∧ mL I ∧ mK I ∧ mW I
  | _ => False
def qX12_learnt (av : List Value) (I : fM) (L : fN) (r : Value) (I' : fM) (L' : fN) : Prop := match av, r with
  | [.ref 0, .int w, .int k], .int x => mR I' ∧ mL I' ∧ mK I' ∧ mW I' ∧ f_fo [45, 46, 47, 48, 53, 54, 55, 59] I I' ∧ f_fr [0, 21, 22, 23, 24, 25, 26, 27, 28, 29, 30, 31, 32, 33, 34, 35, 36, 37, 38, 39, 40, 41, 42, 43, 44, 61, 62] I I' ∧ L' = L
  | _, _ => False
set_option maxHeartbeats 40000000 in
set_option maxRecDepth 100000 in
theorem mX12_learnt {l : Launch} {a : Nat → Nat} {cy dC : Nat → ClassId} {dI : Nat → Nat → Nat} (hinj : ∀ i j, i < 71 → j < 71 → a i = a j → i = j) : f_Met (fun _ => True) l mY 71 a cy dC dI yX12_learnt cX12_learnt 10 1 5 pX12_learnt qX12_learnt := by
  refine f_met_of (f_Ec_T 71 a) hinj mY_hi (by decide) (fun av I L h => by unfold pX12_learnt at h; split at h <;> first | exact Nat.le_of_ble_eq_true rfl | exact h.elim) ?_
  intro pP eP sP mP aP bP hP9 cP C av I L hp
  unfold pX12_learnt at hp
  split at hp
  case h_2 => exact hp.elim
  case h_1 w k =>
    obtain ⟨hR, hmL, hmK, hmW⟩ := hp
    have hw0 : 0 ≤ (I 9 (I 0 24).toInt.toNat).toInt := (hR 9 _).1
    have hk0 : 0 ≤ (I 8 (I 0 24).toInt.toNat).toInt := (hR 8 _).1
    have hF0 : f_fr [0, 21, 22, 23, 24, 25, 26, 27, 28, 29, 30, 31, 32, 33, 34, 35, 36, 37, 38, 39, 40, 41, 42, 43, 44, 61, 62] I I := f_fr_rf
    have hO0 : f_fo [45, 46, 47, 48, 53, 54, 55, 59] I I := f_fo_rf
    have lp89 : ∀ (n89 : Nat), ∀ (all : Int32) (rows : Int32) (fewest : Int32) (r : Int32) (J89 : fM), mR J89 ∧ f_fr [0, 21, 22, 23, 24, 25, 26, 27, 28, 29, 30, 31, 32, 33, 34, 35, 36, 37, 38, 39, 40, 41, 42, 43, 44, 61, 62] I J89 ∧ f_fo [45, 46, 47, 48, 53, 54, 55, 59] I J89 ∧ mL J89 ∧ mK J89 ∧ mW J89 ∧ ((w.toInt = -1 ∨ 0 ≤ w.toInt ∧ w.toInt < (I 9 (I 0 24).toInt.toNat).toInt)) ∧ ((I 9 (I 0 24).toInt.toNat).toInt ≤ 4) ∧ (0 ≤ all.toInt) ∧ (all.toInt ≤ 10) ∧ (all.toInt ≤ numK (I 8 (I 0 24).toInt.toNat).toInt) ∧ ((0 < (I 9 (I 0 24).toInt.toNat).toInt → 3 ≤ all.toInt)) ∧ (0 ≤ r.toInt) ∧ (0 ≤ rows.toInt) ∧ (rows.toInt ≤ 10000) ∧ (r.toInt ≤ 10000) ∧ (10000 - r.toInt) < n89 → f_W pP l eP (f_rm 5) sP mP aP bP hP9 cP mY 71 a cy dC dI 10 (f_K 1 (qX12_learnt [.ref 0, .int w, .int k] I L)) 89 [(6, .int r), (5, .int fewest), (4, .int rows), (3, .int all), (2, .int k), (1, .int w), (0, .ref 0)] [] J89 L := by
      intro n89
      induction n89 with
      | zero =>
        intro all rows fewest r J89 h9
        obtain ⟨hR89c, hF89c, hO89c, hmL89c, hmK89c, hmW89c, u89_1, u89_2, u89_3, u89_4, u89_5, u89_6, u89_7, u89_8, u89_9, u89_10, hm89⟩ := h9
        omega
      | succ n89 ih89 =>
        intro all rows fewest r J89 h9
        obtain ⟨hR89c, hF89c, hO89c, hmL89c, hmK89c, hmW89c, u89_1, u89_2, u89_3, u89_4, u89_5, u89_6, u89_7, u89_8, u89_9, u89_10, hm89⟩ := h9
        have e89 : (J89 9 (J89 0 24).toInt.toNat).toInt = (I 9 (I 0 24).toInt.toNat).toInt := by rw [hO89c 24 rfl, hF89c 9 rfl]
        have lp237 : ∀ (fewest3 : Int32) (J237 : fM), mR J237 ∧ f_fr [0, 21, 22, 23, 24, 25, 26, 27, 28, 29, 30, 31, 32, 33, 34, 35, 36, 37, 38, 39, 40, 41, 42, 43, 44, 61, 62] I J237 ∧ f_fo [45, 46, 47, 48, 53, 54, 55, 59] I J237 ∧ mL J237 ∧ mK J237 ∧ mW J237 ∧ (r.toInt < rows.toInt) → f_W pP l eP (f_rm 5) sP mP aP bP hP9 cP mY 71 a cy dC dI 10 (f_K 1 (qX12_learnt [.ref 0, .int w, .int k] I L)) 237 [(6, .int r), (5, .int fewest3), (4, .int rows), (3, .int all), (2, .int k), (1, .int w), (0, .ref 0)] [] J237 L := by
          intro fewest3 J237 h9
          obtain ⟨hR237c, hF237c, hO237c, hmL237c, hmK237c, hmW237c, u237_1⟩ := h9
          refine f_wp_ok C f_cl flX12_ok fiX12_ok fjX12_ok (sn := none) (fun j h => by cases h) (cs := (f_cnl [(370, (2, 3, 11, pX12_isWordNumber, qX12_isWordNumber)), (503, (2, 1, 11, pX12_numbers, qX12_numbers)), (529, (2, 3, 11, pX12_isLearnt, qX12_isLearnt))])) (cz := (fun _ => none)) (f_cnl_of (P := fun j S => f_cok pP l eP (f_rm 5) sP mP aP bP hP9 cP mY 71 a cy dC dI 10 _ _ (.invokevirtual j) true S) (List.forall_mem_cons.mpr ⟨f_cokV C (mX12_isWordNumber hinj) (ci := 11) rfl (List.forall_mem_cons.mpr ⟨(mlX12_ok _ (List.mem_of_getElem? (i := 28) rfl)), kc_X12_isWordNumber⟩) (by decide +kernel) ⟨Nat.le_of_ble_eq_true rfl, Nat.le_of_ble_eq_true rfl⟩, List.forall_mem_cons.mpr ⟨f_cokV C (mX12_numbers hinj) (ci := 11) rfl (List.forall_mem_cons.mpr ⟨(mlX12_ok _ (List.mem_of_getElem? (i := 60) rfl)), kc_X12_numbers⟩) (by decide +kernel) ⟨Nat.le_of_ble_eq_true rfl, Nat.le_of_ble_eq_true rfl⟩, List.forall_mem_cons.mpr ⟨f_cokV C (mX12_isLearnt hinj) (ci := 11) rfl (List.forall_mem_cons.mpr ⟨(mlX12_ok _ (List.mem_of_getElem? (i := 67) rfl)), kc_X12_isLearnt⟩) (by decide +kernel) ⟨Nat.le_of_ble_eq_true rfl, Nat.le_of_ble_eq_true rfl⟩, fun _ h => absurd h List.not_mem_nil⟩⟩⟩)) (fun j S h => by cases h) tX12_learnt_ok (cut := (f_cnl [(89, (fun (ls' : fLs) (st' : List Value) (I' : fM) (L' : fN) => ∃ all : Int32, ∃ rows : Int32, ∃ fewest : Int32, ∃ r : Int32, (∀ q ∈ ([(6, .int r), (5, .int fewest), (4, .int rows), (3, .int all), (2, .int k), (1, .int w), (0, .ref 0)] : fLs), q ∈ ls') ∧ st' = [] ∧ L' = L ∧ (mR I' ∧ f_fr [0, 21, 22, 23, 24, 25, 26, 27, 28, 29, 30, 31, 32, 33, 34, 35, 36, 37, 38, 39, 40, 41, 42, 43, 44, 61, 62] I I' ∧ f_fo [45, 46, 47, 48, 53, 54, 55, 59] I I' ∧ mL I' ∧ mK I' ∧ mW I' ∧ ((w.toInt = -1 ∨ 0 ≤ w.toInt ∧ w.toInt < (I 9 (I 0 24).toInt.toNat).toInt)) ∧ ((I 9 (I 0 24).toInt.toNat).toInt ≤ 4) ∧ (0 ≤ all.toInt) ∧ (all.toInt ≤ 10) ∧ (all.toInt ≤ numK (I 8 (I 0 24).toInt.toNat).toInt) ∧ ((0 < (I 9 (I 0 24).toInt.toNat).toInt → 3 ≤ all.toInt)) ∧ (0 ≤ r.toInt) ∧ (0 ≤ rows.toInt) ∧ (rows.toInt ≤ 10000) ∧ (r.toInt ≤ 10000) ∧ (10000 - r.toInt) < n89)))])) (f_cnl_of (P := fun (tQ : Nat) (P : fLs → List Value → fM → fN → Prop) => ∀ ls' st' I' L', P ls' st' I' L' → f_W pP l eP (f_rm 5) sP mP aP bP hP9 cP mY 71 a cy dC dI 10 (f_K 1 (qX12_learnt [.ref 0, .int w, .int k] I L)) tQ ls' st' I' L') (List.forall_mem_cons.mpr ⟨(fun ls' st' I' L' h => by obtain ⟨all, rows, fewest, r, hs, e1, e3, h9⟩ := h; rw [e1, e3]; exact f_W_sub hs (ih89 all rows fewest r I' h9)), fun _ h => absurd h List.not_mem_nil⟩)) 5 237 (f_seek 237 0 tX12_learnt) (f_seek_ok 237 0 tX12_learnt tX12_learnt_ok) _ _ _ _ ?_
          intro z237 q237 _ hq237 hl237 hu237
          have hq237 : z237.toInt = r.toInt + 1 + 4294967296 * q237 := hq237
          try have hz237 : z237.toInt = r.toInt + 1 := by omega
          exact ⟨all, rows, fewest3, z237, (by intro q9 h9; simp only [List.mem_cons, List.not_mem_nil, or_false] at h9; rcases h9 with h9 | h9 | h9 | h9 | h9 | h9 | h9 <;> subst h9 <;> repeat (first | exact List.mem_cons_self | apply List.mem_cons_of_mem)), rfl, rfl, hR237c, hF237c, hO237c, hmL237c, hmK237c, hmW237c, (show (w.toInt = -1 ∨ 0 ≤ w.toInt ∧ w.toInt < (I 9 (I 0 24).toInt.toNat).toInt) from by first | assumption | omega | rfl), (show (I 9 (I 0 24).toInt.toNat).toInt ≤ 4 from by first | assumption | omega), (show 0 ≤ all.toInt from by first | assumption | omega), (show all.toInt ≤ 10 from by first | assumption | omega), (show all.toInt ≤ numK (I 8 (I 0 24).toInt.toNat).toInt from by first | assumption | omega), (show (0 < (I 9 (I 0 24).toInt.toNat).toInt → 3 ≤ all.toInt) from by first | assumption | omega), (show 0 ≤ z237.toInt from by first | assumption | omega), (show 0 ≤ rows.toInt from by first | assumption | omega), (show rows.toInt ≤ 10000 from by first | assumption | omega), (show z237.toInt ≤ 10000 from by first | assumption | omega), (show (10000 - z237.toInt) < n89 from by omega)⟩
        have lp203 : ∀ (n203 : Nat), ∀ (fewest2 : Int32) (i : Int32) (J203 : fM), mR J203 ∧ f_fr [0, 21, 22, 23, 24, 25, 26, 27, 28, 29, 30, 31, 32, 33, 34, 35, 36, 37, 38, 39, 40, 41, 42, 43, 44, 61, 62] I J203 ∧ f_fo [45, 46, 47, 48, 53, 54, 55, 59] I J203 ∧ mL J203 ∧ mK J203 ∧ mW J203 ∧ (r.toInt < rows.toInt) ∧ (0 ≤ i.toInt) ∧ (i.toInt ≤ (I 9 (I 0 24).toInt.toNat).toInt) ∧ (4 - i.toInt) < n203 → f_W pP l eP (f_rm 5) sP mP aP bP hP9 cP mY 71 a cy dC dI 10 (f_K 1 (qX12_learnt [.ref 0, .int w, .int k] I L)) 203 [(9, .int i), (6, .int r), (5, .int fewest2), (4, .int rows), (3, .int all), (2, .int k), (1, .int w), (0, .ref 0)] [] J203 L := by
          intro n203
          induction n203 with
          | zero =>
            intro fewest2 i J203 h9
            obtain ⟨hR203c, hF203c, hO203c, hmL203c, hmK203c, hmW203c, u203_1, u203_2, u203_3, hm203⟩ := h9
            omega
          | succ n203 ih203 =>
            intro fewest2 i J203 h9
            obtain ⟨hR203c, hF203c, hO203c, hmL203c, hmK203c, hmW203c, u203_1, u203_2, u203_3, hm203⟩ := h9
            have e203 : (J203 9 (J203 0 24).toInt.toNat).toInt = (I 9 (I 0 24).toInt.toNat).toInt := by rw [hO203c 24 rfl, hF203c 9 rfl]
            refine f_wp_ok C f_cl flX12_ok fiX12_ok fjX12_ok (sn := none) (fun j h => by cases h) (cs := (f_cnl [(370, (2, 3, 11, pX12_isWordNumber, qX12_isWordNumber)), (503, (2, 1, 11, pX12_numbers, qX12_numbers)), (529, (2, 3, 11, pX12_isLearnt, qX12_isLearnt))])) (cz := (fun _ => none)) (f_cnl_of (P := fun j S => f_cok pP l eP (f_rm 5) sP mP aP bP hP9 cP mY 71 a cy dC dI 10 _ _ (.invokevirtual j) true S) (List.forall_mem_cons.mpr ⟨f_cokV C (mX12_isWordNumber hinj) (ci := 11) rfl (List.forall_mem_cons.mpr ⟨(mlX12_ok _ (List.mem_of_getElem? (i := 28) rfl)), kc_X12_isWordNumber⟩) (by decide +kernel) ⟨Nat.le_of_ble_eq_true rfl, Nat.le_of_ble_eq_true rfl⟩, List.forall_mem_cons.mpr ⟨f_cokV C (mX12_numbers hinj) (ci := 11) rfl (List.forall_mem_cons.mpr ⟨(mlX12_ok _ (List.mem_of_getElem? (i := 60) rfl)), kc_X12_numbers⟩) (by decide +kernel) ⟨Nat.le_of_ble_eq_true rfl, Nat.le_of_ble_eq_true rfl⟩, List.forall_mem_cons.mpr ⟨f_cokV C (mX12_isLearnt hinj) (ci := 11) rfl (List.forall_mem_cons.mpr ⟨(mlX12_ok _ (List.mem_of_getElem? (i := 67) rfl)), kc_X12_isLearnt⟩) (by decide +kernel) ⟨Nat.le_of_ble_eq_true rfl, Nat.le_of_ble_eq_true rfl⟩, fun _ h => absurd h List.not_mem_nil⟩⟩⟩)) (fun j S h => by cases h) tX12_learnt_ok (cut := (f_cnl [(203, (fun (ls' : fLs) (st' : List Value) (I' : fM) (L' : fN) => ∃ fewest2 : Int32, ∃ i : Int32, (∀ q ∈ ([(9, .int i), (6, .int r), (5, .int fewest2), (4, .int rows), (3, .int all), (2, .int k), (1, .int w), (0, .ref 0)] : fLs), q ∈ ls') ∧ st' = [] ∧ L' = L ∧ (mR I' ∧ f_fr [0, 21, 22, 23, 24, 25, 26, 27, 28, 29, 30, 31, 32, 33, 34, 35, 36, 37, 38, 39, 40, 41, 42, 43, 44, 61, 62] I I' ∧ f_fo [45, 46, 47, 48, 53, 54, 55, 59] I I' ∧ mL I' ∧ mK I' ∧ mW I' ∧ (r.toInt < rows.toInt) ∧ (0 ≤ i.toInt) ∧ (i.toInt ≤ (I 9 (I 0 24).toInt.toNat).toInt) ∧ (4 - i.toInt) < n203))), (237, (fun (ls' : fLs) (st' : List Value) (I' : fM) (L' : fN) => ∃ fewest3 : Int32, (∀ q ∈ ([(6, .int r), (5, .int fewest3), (4, .int rows), (3, .int all), (2, .int k), (1, .int w), (0, .ref 0)] : fLs), q ∈ ls') ∧ st' = [] ∧ L' = L ∧ (mR I' ∧ f_fr [0, 21, 22, 23, 24, 25, 26, 27, 28, 29, 30, 31, 32, 33, 34, 35, 36, 37, 38, 39, 40, 41, 42, 43, 44, 61, 62] I I' ∧ f_fo [45, 46, 47, 48, 53, 54, 55, 59] I I' ∧ mL I' ∧ mK I' ∧ mW I' ∧ (r.toInt < rows.toInt))))])) (f_cnl_of (P := fun (tQ : Nat) (P : fLs → List Value → fM → fN → Prop) => ∀ ls' st' I' L', P ls' st' I' L' → f_W pP l eP (f_rm 5) sP mP aP bP hP9 cP mY 71 a cy dC dI 10 (f_K 1 (qX12_learnt [.ref 0, .int w, .int k] I L)) tQ ls' st' I' L') (List.forall_mem_cons.mpr ⟨(fun ls' st' I' L' h => by obtain ⟨fewest2, i, hs, e1, e3, h9⟩ := h; rw [e1, e3]; exact f_W_sub hs (ih203 fewest2 i I' h9)), List.forall_mem_cons.mpr ⟨(fun ls' st' I' L' h => by obtain ⟨fewest3, hs, e1, e3, h9⟩ := h; rw [e1, e3]; exact f_W_sub hs (lp237 fewest3 I' h9)), fun _ h => absurd h List.not_mem_nil⟩⟩)) 20 203 (f_seek 203 0 tX12_learnt) (f_seek_ok 203 0 tX12_learnt tX12_learnt_ok) _ _ _ _ ?_
            have r210_1 : 0 ≤ (J203 0 24).toInt ∧ (J203 0 24).toInt ≤ 1 := hR203c 0 24
            have e210_2 : (J203 0 24).toInt = (I 0 24).toInt := congrArg Int32.toInt (hO203c 24 rfl)
            refine And.intro (show f_in (J203 0 24) 2 from ⟨show 0 ≤ (J203 0 24).toInt from by omega, show (J203 0 24).toInt < 2 from by omega⟩) ?_
            have r213_3 : 0 ≤ (J203 9 ((J203 0 24).toInt.toNat)).toInt ∧ (J203 9 ((J203 0 24).toInt.toNat)).toInt ≤ 12 := hR203c 9 ((J203 0 24).toInt.toNat)
            have e213_4 : (J203 9 ((J203 0 24).toInt.toNat)).toInt = (J203 9 ((I 0 24).toInt.toNat)).toInt := by rw [(hO203c 24 rfl)]
            have e213_5 : (J203 9 ((I 0 24).toInt.toNat)).toInt = (I 9 ((I 0 24).toInt.toNat)).toInt := congrArg Int32.toInt (congrFun (hF203c 9 rfl) ((I 0 24).toInt.toNat))
            apply And.intro
            · intro h214
              have h214 : (J203 9 ((J203 0 24).toInt.toNat)).toInt ≤ i.toInt := h214
              exact ⟨fewest2, (by intro q9 h9; simp only [List.mem_cons, List.not_mem_nil, or_false] at h9; rcases h9 with h9 | h9 | h9 | h9 | h9 | h9 | h9 <;> subst h9 <;> repeat (first | exact List.mem_cons_self | apply List.mem_cons_of_mem)), rfl, rfl, hR203c, hF203c, hO203c, hmL203c, hmK203c, hmW203c, (show r.toInt < rows.toInt from by first | assumption | omega)⟩
            · intro h214
              have h214 : i.toInt < (J203 9 ((J203 0 24).toInt.toNat)).toInt := h214
              refine And.intro (show f_in i 4 from ⟨show 0 ≤ i.toInt from by omega, show i.toInt < 4 from by omega⟩) ?_
              have r229_6 : 0 ≤ (J203 61 (i.toInt.toNat)).toInt ∧ (J203 61 (i.toInt.toNat)).toInt ≤ 9 := hR203c 61 (i.toInt.toNat)
              refine And.intro (show f_in i 4 from ⟨show 0 ≤ i.toInt from by omega, show i.toInt < 4 from by omega⟩) ?_
              have hR230 := mR_a (k := 62) (j := i.toInt.toNat) (x := J203 61 (i.toInt.toNat)) hR203c (by exact f_rng _)
              have hF230 := f_fr_up (k := 62) (r := upd (J203 62) (i.toInt.toNat) (J203 61 (i.toInt.toNat))) hF203c rfl
              have hO230 := f_fo_ne (k := 62) (r := upd (J203 62) (i.toInt.toNat) (J203 61 (i.toInt.toNat))) hO203c (by decide)
              have hmL230 := f_depo_up mL_dep (k := 62) (r := upd (J203 62) (i.toInt.toNat) (J203 61 (i.toInt.toNat))) hmL203c rfl (by decide)
              have hmK230 := f_depo_up mK_dep (k := 62) (r := upd (J203 62) (i.toInt.toNat) (J203 61 (i.toInt.toNat))) hmK203c rfl (by decide)
              have hmW230 := f_depo_up mW_dep (k := 62) (r := upd (J203 62) (i.toInt.toNat) (J203 61 (i.toInt.toNat))) hmW203c rfl (by decide)
              intro z231 q231 _ hq231 hl231 hu231
              have hq231 : z231.toInt = i.toInt + 1 + 4294967296 * q231 := hq231
              try have hz231 : z231.toInt = i.toInt + 1 := by omega
              exact ⟨fewest2, z231, (by intro q9 h9; simp only [List.mem_cons, List.not_mem_nil, or_false] at h9; rcases h9 with h9 | h9 | h9 | h9 | h9 | h9 | h9 | h9 <;> subst h9 <;> repeat (first | exact List.mem_cons_self | apply List.mem_cons_of_mem)), rfl, rfl, hR230, hF230, hO230, hmL230, hmK230, hmW230, (show r.toInt < rows.toInt from by first | assumption | omega), (show 0 ≤ z231.toInt from by first | assumption | omega), (show z231.toInt ≤ (I 9 (I 0 24).toInt.toNat).toInt from by first | assumption | omega), (show (4 - z231.toInt) < n203 from by omega)⟩
        have lp116 : ∀ (n116 : Nat), ∀ (left : Int32) (slashes : Int32) (i : Int32) (J116 : fM), mR J116 ∧ f_fr [0, 21, 22, 23, 24, 25, 26, 27, 28, 29, 30, 31, 32, 33, 34, 35, 36, 37, 38, 39, 40, 41, 42, 43, 44, 61, 62] I J116 ∧ f_fo [45, 46, 47, 48, 53, 54, 55, 59] I J116 ∧ mL J116 ∧ mK J116 ∧ mW J116 ∧ (r.toInt < rows.toInt) ∧ (0 ≤ left.toInt) ∧ (-1 ≤ i.toInt) ∧ (i.toInt < (I 9 (I 0 24).toInt.toNat).toInt) ∧ ((∀ j : Nat, i.toInt < j → (j : Int) < (I 9 (I 0 24).toInt.toNat).toInt → (J116 61 j).toInt < all.toInt)) ∧ (1 + i.toInt) < n116 → f_W pP l eP (f_rm 5) sP mP aP bP hP9 cP mY 71 a cy dC dI 10 (f_K 1 (qX12_learnt [.ref 0, .int w, .int k] I L)) 116 [(9, .int i), (8, .int slashes), (7, .int left), (6, .int r), (5, .int fewest), (4, .int rows), (3, .int all), (2, .int k), (1, .int w), (0, .ref 0)] [] J116 L := by
          intro n116
          induction n116 with
          | zero =>
            intro left slashes i J116 h9
            obtain ⟨hR116c, hF116c, hO116c, hmL116c, hmK116c, hmW116c, u116_1, u116_2, u116_3, u116_4, u116_5, hm116⟩ := h9
            omega
          | succ n116 ih116 =>
            intro left slashes i J116 h9
            obtain ⟨hR116c, hF116c, hO116c, hmL116c, hmK116c, hmW116c, u116_1, u116_2, u116_3, u116_4, u116_5, hm116⟩ := h9
            have e116 : (J116 9 (J116 0 24).toInt.toNat).toInt = (I 9 (I 0 24).toInt.toNat).toInt := by rw [hO116c 24 rfl, hF116c 9 rfl]
            refine f_wp_ok C f_cl flX12_ok fiX12_ok fjX12_ok (sn := none) (fun j h => by cases h) (cs := (f_cnl [(370, (2, 3, 11, pX12_isWordNumber, qX12_isWordNumber)), (503, (2, 1, 11, pX12_numbers, qX12_numbers)), (529, (2, 3, 11, pX12_isLearnt, qX12_isLearnt))])) (cz := (fun _ => none)) (f_cnl_of (P := fun j S => f_cok pP l eP (f_rm 5) sP mP aP bP hP9 cP mY 71 a cy dC dI 10 _ _ (.invokevirtual j) true S) (List.forall_mem_cons.mpr ⟨f_cokV C (mX12_isWordNumber hinj) (ci := 11) rfl (List.forall_mem_cons.mpr ⟨(mlX12_ok _ (List.mem_of_getElem? (i := 28) rfl)), kc_X12_isWordNumber⟩) (by decide +kernel) ⟨Nat.le_of_ble_eq_true rfl, Nat.le_of_ble_eq_true rfl⟩, List.forall_mem_cons.mpr ⟨f_cokV C (mX12_numbers hinj) (ci := 11) rfl (List.forall_mem_cons.mpr ⟨(mlX12_ok _ (List.mem_of_getElem? (i := 60) rfl)), kc_X12_numbers⟩) (by decide +kernel) ⟨Nat.le_of_ble_eq_true rfl, Nat.le_of_ble_eq_true rfl⟩, List.forall_mem_cons.mpr ⟨f_cokV C (mX12_isLearnt hinj) (ci := 11) rfl (List.forall_mem_cons.mpr ⟨(mlX12_ok _ (List.mem_of_getElem? (i := 67) rfl)), kc_X12_isLearnt⟩) (by decide +kernel) ⟨Nat.le_of_ble_eq_true rfl, Nat.le_of_ble_eq_true rfl⟩, fun _ h => absurd h List.not_mem_nil⟩⟩⟩)) (fun j S h => by cases h) tX12_learnt_ok (cut := (f_cnl [(116, (fun (ls' : fLs) (st' : List Value) (I' : fM) (L' : fN) => ∃ left : Int32, ∃ slashes : Int32, ∃ i : Int32, (∀ q ∈ ([(9, .int i), (8, .int slashes), (7, .int left), (6, .int r), (5, .int fewest), (4, .int rows), (3, .int all), (2, .int k), (1, .int w), (0, .ref 0)] : fLs), q ∈ ls') ∧ st' = [] ∧ L' = L ∧ (mR I' ∧ f_fr [0, 21, 22, 23, 24, 25, 26, 27, 28, 29, 30, 31, 32, 33, 34, 35, 36, 37, 38, 39, 40, 41, 42, 43, 44, 61, 62] I I' ∧ f_fo [45, 46, 47, 48, 53, 54, 55, 59] I I' ∧ mL I' ∧ mK I' ∧ mW I' ∧ (r.toInt < rows.toInt) ∧ (0 ≤ left.toInt) ∧ (-1 ≤ i.toInt) ∧ (i.toInt < (I 9 (I 0 24).toInt.toNat).toInt) ∧ ((∀ j : Nat, i.toInt < j → (j : Int) < (I 9 (I 0 24).toInt.toNat).toInt → (I' 61 j).toInt < all.toInt)) ∧ (1 + i.toInt) < n116))), (203, (fun (ls' : fLs) (st' : List Value) (I' : fM) (L' : fN) => ∃ fewest2 : Int32, ∃ i : Int32, (∀ q ∈ ([(9, .int i), (6, .int r), (5, .int fewest2), (4, .int rows), (3, .int all), (2, .int k), (1, .int w), (0, .ref 0)] : fLs), q ∈ ls') ∧ st' = [] ∧ L' = L ∧ (mR I' ∧ f_fr [0, 21, 22, 23, 24, 25, 26, 27, 28, 29, 30, 31, 32, 33, 34, 35, 36, 37, 38, 39, 40, 41, 42, 43, 44, 61, 62] I I' ∧ f_fo [45, 46, 47, 48, 53, 54, 55, 59] I I' ∧ mL I' ∧ mK I' ∧ mW I' ∧ (r.toInt < rows.toInt) ∧ (0 ≤ i.toInt) ∧ (i.toInt ≤ (I 9 (I 0 24).toInt.toNat).toInt) ∧ (4 - i.toInt) < 5))), (237, (fun (ls' : fLs) (st' : List Value) (I' : fM) (L' : fN) => ∃ fewest3 : Int32, (∀ q ∈ ([(6, .int r), (5, .int fewest3), (4, .int rows), (3, .int all), (2, .int k), (1, .int w), (0, .ref 0)] : fLs), q ∈ ls') ∧ st' = [] ∧ L' = L ∧ (mR I' ∧ f_fr [0, 21, 22, 23, 24, 25, 26, 27, 28, 29, 30, 31, 32, 33, 34, 35, 36, 37, 38, 39, 40, 41, 42, 43, 44, 61, 62] I I' ∧ f_fo [45, 46, 47, 48, 53, 54, 55, 59] I I' ∧ mL I' ∧ mK I' ∧ mW I' ∧ (r.toInt < rows.toInt))))])) (f_cnl_of (P := fun (tQ : Nat) (P : fLs → List Value → fM → fN → Prop) => ∀ ls' st' I' L', P ls' st' I' L' → f_W pP l eP (f_rm 5) sP mP aP bP hP9 cP mY 71 a cy dC dI 10 (f_K 1 (qX12_learnt [.ref 0, .int w, .int k] I L)) tQ ls' st' I' L') (List.forall_mem_cons.mpr ⟨(fun ls' st' I' L' h => by obtain ⟨left, slashes, i, hs, e1, e3, h9⟩ := h; rw [e1, e3]; exact f_W_sub hs (ih116 left slashes i I' h9)), List.forall_mem_cons.mpr ⟨(fun ls' st' I' L' h => by obtain ⟨fewest2, i, hs, e1, e3, h9⟩ := h; rw [e1, e3]; exact f_W_sub hs (lp203 5 fewest2 i I' h9)), List.forall_mem_cons.mpr ⟨(fun ls' st' I' L' h => by obtain ⟨fewest3, hs, e1, e3, h9⟩ := h; rw [e1, e3]; exact f_W_sub hs (lp237 fewest3 I' h9)), fun _ h => absurd h List.not_mem_nil⟩⟩⟩)) 33 116 (f_seek 116 0 tX12_learnt) (f_seek_ok 116 0 tX12_learnt tX12_learnt_ok) _ _ _ _ ?_
            apply And.intro
            · intro h118
              have h118 : i.toInt < 0 := h118
              have l173 : lnK J116 := fun j hj => by
                rw [hO116c 24 rfl, hF116c 9 rfl] at hj
                rw [hO116c 24 rfl, hF116c 8 rfl]
                have := u116_5 j (by omega) hj
                omega
              apply And.intro
              · intro h175
                have h175 : fewest.toInt < 0 := h175
                refine And.intro ⟨hR116c, hmL116c, hmK116c, hmW116c, (by assumption), (show (J116 9 (J116 0 24).toInt.toNat).toInt ≤ 4 from by rw [e116]; omega)⟩ ?_
                intro x187 I187 L187 hq187
                have hq187 : mR I187 ∧ mL I187 ∧ mK I187 ∧ mW I187 ∧ lnK I187 ∧ f_fo [45, 46, 47, 48, 53, 54, 55, 59] J116 I187 ∧ f_fr [0, 21, 22, 23, 24, 25, 26, 27, 28, 29, 30, 31, 32, 33, 34, 35, 36, 37, 38, 39, 40, 41, 42, 43, 44] J116 I187 ∧ L187 = L ∧ ((x187.toInt = 0 ∨ x187.toInt = 1)) := hq187
                obtain ⟨c187_0, c187_1, c187_2, c187_3, c187_4, c187_5, c187_6, eL187, c187_8⟩ := hq187
                replace eL187 := eL187.symm
                subst eL187
                have hO187 := f_fo_tr hO116c c187_5 rfl
                have hF187 := f_fr_tr hF116c c187_6 rfl
                apply And.intro
                · intro h190
                  have h190 : ¬ x187.toInt = 0 := h190
                  exact ⟨slashes, Int32.ofInt 0, (by intro q9 h9; simp only [List.mem_cons, List.not_mem_nil, or_false] at h9; rcases h9 with h9 | h9 | h9 | h9 | h9 | h9 | h9 | h9 <;> subst h9 <;> repeat (first | exact List.mem_cons_self | apply List.mem_cons_of_mem)), rfl, rfl, c187_0, hF187, hO187, c187_1, c187_2, c187_3, (show r.toInt < rows.toInt from by first | assumption | omega), (show 0 ≤ (0 : Int) from by first | assumption | omega), (show (0 : Int) ≤ (I 9 (I 0 24).toInt.toNat).toInt from by first | assumption | omega), (show (4 - (0 : Int)) < 5 from by omega)⟩
                · intro h190
                  have h190 : x187.toInt = 0 := h190
                  exact ⟨fewest, (by intro q9 h9; simp only [List.mem_cons, List.not_mem_nil, or_false] at h9; rcases h9 with h9 | h9 | h9 | h9 | h9 | h9 | h9 <;> subst h9 <;> repeat (first | exact List.mem_cons_self | apply List.mem_cons_of_mem)), rfl, rfl, c187_0, hF187, hO187, c187_1, c187_2, c187_3, (show r.toInt < rows.toInt from by first | assumption | omega)⟩
              · intro h175
                have h175 : 0 ≤ fewest.toInt := h175
                apply And.intro
                · intro h182
                  have h182 : fewest.toInt ≤ slashes.toInt := h182
                  exact ⟨fewest, (by intro q9 h9; simp only [List.mem_cons, List.not_mem_nil, or_false] at h9; rcases h9 with h9 | h9 | h9 | h9 | h9 | h9 | h9 <;> subst h9 <;> repeat (first | exact List.mem_cons_self | apply List.mem_cons_of_mem)), rfl, rfl, hR116c, hF116c, hO116c, hmL116c, hmK116c, hmW116c, (show r.toInt < rows.toInt from by first | assumption | omega)⟩
                · intro h182
                  have h182 : slashes.toInt < fewest.toInt := h182
                  refine And.intro ⟨hR116c, hmL116c, hmK116c, hmW116c, (by assumption), (show (J116 9 (J116 0 24).toInt.toNat).toInt ≤ 4 from by rw [e116]; omega)⟩ ?_
                  intro x187 I187 L187 hq187
                  have hq187 : mR I187 ∧ mL I187 ∧ mK I187 ∧ mW I187 ∧ lnK I187 ∧ f_fo [45, 46, 47, 48, 53, 54, 55, 59] J116 I187 ∧ f_fr [0, 21, 22, 23, 24, 25, 26, 27, 28, 29, 30, 31, 32, 33, 34, 35, 36, 37, 38, 39, 40, 41, 42, 43, 44] J116 I187 ∧ L187 = L ∧ ((x187.toInt = 0 ∨ x187.toInt = 1)) := hq187
                  obtain ⟨c187_0, c187_1, c187_2, c187_3, c187_4, c187_5, c187_6, eL187, c187_8⟩ := hq187
                  replace eL187 := eL187.symm
                  subst eL187
                  have hO187 := f_fo_tr hO116c c187_5 rfl
                  have hF187 := f_fr_tr hF116c c187_6 rfl
                  apply And.intro
                  · intro h190
                    have h190 : ¬ x187.toInt = 0 := h190
                    exact ⟨slashes, Int32.ofInt 0, (by intro q9 h9; simp only [List.mem_cons, List.not_mem_nil, or_false] at h9; rcases h9 with h9 | h9 | h9 | h9 | h9 | h9 | h9 | h9 <;> subst h9 <;> repeat (first | exact List.mem_cons_self | apply List.mem_cons_of_mem)), rfl, rfl, c187_0, hF187, hO187, c187_1, c187_2, c187_3, (show r.toInt < rows.toInt from by first | assumption | omega), (show 0 ≤ (0 : Int) from by first | assumption | omega), (show (0 : Int) ≤ (I 9 (I 0 24).toInt.toNat).toInt from by first | assumption | omega), (show (4 - (0 : Int)) < 5 from by omega)⟩
                  · intro h190
                    have h190 : x187.toInt = 0 := h190
                    exact ⟨fewest, (by intro q9 h9; simp only [List.mem_cons, List.not_mem_nil, or_false] at h9; rcases h9 with h9 | h9 | h9 | h9 | h9 | h9 | h9 <;> subst h9 <;> repeat (first | exact List.mem_cons_self | apply List.mem_cons_of_mem)), rfl, rfl, c187_0, hF187, hO187, c187_1, c187_2, c187_3, (show r.toInt < rows.toInt from by first | assumption | omega)⟩
            · intro h118
              have h118 : 0 ≤ i.toInt := h118
              have p130 : 0 < all.toInt := by omega
              refine And.intro (f_ne0 (show all.toInt ≠ 0 from by omega)) ?_
              try have d130 : (left - left / all * all).toInt = left.toInt % all.toInt := t_rem (show 0 ≤ left.toInt from by omega) (show 0 < all.toInt from by omega)
              have m130 : 0 ≤ (left - left / all * all).toInt ∧ (left - left / all * all).toInt < all.toInt := by rw [d130]; exact ⟨Int.emod_nonneg _ (by omega), Int.emod_lt_of_pos _ (by omega)⟩
              refine And.intro (show f_in i 4 from ⟨show 0 ≤ i.toInt from by omega, show i.toInt < 4 from by omega⟩) ?_
              have hR131 := mR_a (k := 61) (j := i.toInt.toNat) (x := left - left / all * all) hR116c (show 0 ≤ (left - left / all * all).toInt ∧ (left - left / all * all).toInt ≤ 9 from ⟨by omega, by omega⟩)
              have hF131 := f_fr_up (k := 61) (r := upd (J116 61) (i.toInt.toNat) (left - left / all * all)) hF116c rfl
              have hO131 := f_fo_ne (k := 61) (r := upd (J116 61) (i.toInt.toNat) (left - left / all * all)) hO116c (by decide)
              have hmL131 := f_depo_up mL_dep (k := 61) (r := upd (J116 61) (i.toInt.toNat) (left - left / all * all)) hmL116c rfl (by decide)
              have hmK131 := f_depo_up mK_dep (k := 61) (r := upd (J116 61) (i.toInt.toNat) (left - left / all * all)) hmK116c rfl (by decide)
              have hmW131 := f_depo_up mW_dep (k := 61) (r := upd (J116 61) (i.toInt.toNat) (left - left / all * all)) hmW116c rfl (by decide)
              have q131 : ∀ j : Nat, i.toInt - 1 < j → (j : Int) < (I 9 (I 0 24).toInt.toNat).toInt → ((upd (J116 61) (i.toInt.toNat) (left - left / all * all)) j).toInt < all.toInt := fun j h1 h2 => by
                by_cases q : j = i.toInt.toNat
                · rw [q, pk_us]; exact m130.2
                · rw [pk_un q]; exact u116_5 j (by omega) h2
              refine And.intro (f_ne0 (show all.toInt ≠ 0 from by omega)) ?_
              have d135 := t_div (x := left) (y := all) (by omega) (show 0 < all.toInt from by omega)
              have n135 : 0 ≤ (left / all).toInt := by rw [d135]; exact Int.ediv_nonneg (by omega) (by omega)
              refine And.intro (show f_in i 4 from ⟨show 0 ≤ i.toInt from by omega, show i.toInt < 4 from by omega⟩) ?_
              have r146_1 : 0 ≤ ((upd (J116 61) (i.toInt.toNat) (left - left / all * all)) (i.toInt.toNat)).toInt ∧ ((upd (J116 61) (i.toInt.toNat) (left - left / all * all)) (i.toInt.toNat)).toInt ≤ 9 := hR131 61 (i.toInt.toNat)
              have r152_2 : 0 ≤ (J116 0 24).toInt ∧ (J116 0 24).toInt ≤ 1 := hR131 0 24
              have e152_3 : (J116 0 24).toInt = (I 0 24).toInt := congrArg Int32.toInt (hO116c 24 rfl)
              refine And.intro (show f_in (J116 0 24) 2 from ⟨show 0 ≤ (J116 0 24).toInt from by omega, show (J116 0 24).toInt < 2 from by omega⟩) ?_
              have r155_4 : 0 ≤ (J116 8 ((J116 0 24).toInt.toNat)).toInt ∧ (J116 8 ((J116 0 24).toInt.toNat)).toInt ≤ 5 := hR131 8 ((J116 0 24).toInt.toNat)
              have e155_5 : (J116 8 ((J116 0 24).toInt.toNat)).toInt = (J116 8 ((I 0 24).toInt.toNat)).toInt := by rw [(hO116c 24 rfl)]
              have e155_6 : (J116 8 ((I 0 24).toInt.toNat)).toInt = (I 8 ((I 0 24).toInt.toNat)).toInt := congrArg Int32.toInt (congrFun (hF116c 8 rfl) ((I 0 24).toInt.toNat))
              apply And.intro
              · intro h156
                have h156 : (J116 8 ((J116 0 24).toInt.toNat)).toInt ≤ ((upd (J116 61) (i.toInt.toNat) (left - left / all * all)) (i.toInt.toNat)).toInt := h156
                intro z164 q164 _ hq164 hl164 hu164
                have hq164 : z164.toInt = slashes.toInt + 1 + 4294967296 * q164 := hq164
                try have hz164 : z164.toInt = slashes.toInt + 1 := by omega
                intro z167 q167 _ hq167 hl167 hu167
                have hq167 : z167.toInt = i.toInt + (-1) + 4294967296 * q167 := hq167
                try have hz167 : z167.toInt = i.toInt + (-1) := by omega
                have q167 : ∀ j : Nat, z167.toInt < j → (j : Int) < (I 9 (I 0 24).toInt.toNat).toInt → ((upd (J116 61) (i.toInt.toNat) (left - left / all * all)) j).toInt < all.toInt := fun j h1 h2 => q131 j (by omega) h2
                exact ⟨left / all, z164, z167, (by intro q9 h9; simp only [List.mem_cons, List.not_mem_nil, or_false] at h9; rcases h9 with h9 | h9 | h9 | h9 | h9 | h9 | h9 | h9 | h9 | h9 <;> subst h9 <;> repeat (first | exact List.mem_cons_self | apply List.mem_cons_of_mem)), rfl, rfl, hR131, hF131, hO131, hmL131, hmK131, hmW131, (show r.toInt < rows.toInt from by first | assumption | omega), (show 0 ≤ (left / all).toInt from by first | assumption | omega), (show -1 ≤ z167.toInt from by first | assumption | omega), (show z167.toInt < (I 9 (I 0 24).toInt.toNat).toInt from by first | assumption | omega), (show (∀ j : Nat, z167.toInt < j → (j : Int) < (I 9 (I 0 24).toInt.toNat).toInt → ((upd (J116 61) (i.toInt.toNat) (left - left / all * all)) j).toInt < all.toInt) from by first | assumption | omega | exact fun _ _ => rfl | exact fun _ _ => ⟨rfl, rfl⟩ | exact fun _ _ => ⟨rfl, rfl, rfl⟩ | (intro j9 hj9; omega)), (show (1 + z167.toInt) < n116 from by omega)⟩
              · intro h156
                have h156 : ((upd (J116 61) (i.toInt.toNat) (left - left / all * all)) (i.toInt.toNat)).toInt < (J116 8 ((J116 0 24).toInt.toNat)).toInt := h156
                intro z164 q164 _ hq164 hl164 hu164
                have hq164 : z164.toInt = slashes.toInt + 0 + 4294967296 * q164 := hq164
                try have hz164 : z164.toInt = slashes.toInt + 0 := by omega
                intro z167 q167 _ hq167 hl167 hu167
                have hq167 : z167.toInt = i.toInt + (-1) + 4294967296 * q167 := hq167
                try have hz167 : z167.toInt = i.toInt + (-1) := by omega
                have q167 : ∀ j : Nat, z167.toInt < j → (j : Int) < (I 9 (I 0 24).toInt.toNat).toInt → ((upd (J116 61) (i.toInt.toNat) (left - left / all * all)) j).toInt < all.toInt := fun j h1 h2 => q131 j (by omega) h2
                exact ⟨left / all, z164, z167, (by intro q9 h9; simp only [List.mem_cons, List.not_mem_nil, or_false] at h9; rcases h9 with h9 | h9 | h9 | h9 | h9 | h9 | h9 | h9 | h9 | h9 <;> subst h9 <;> repeat (first | exact List.mem_cons_self | apply List.mem_cons_of_mem)), rfl, rfl, hR131, hF131, hO131, hmL131, hmK131, hmW131, (show r.toInt < rows.toInt from by first | assumption | omega), (show 0 ≤ (left / all).toInt from by first | assumption | omega), (show -1 ≤ z167.toInt from by first | assumption | omega), (show z167.toInt < (I 9 (I 0 24).toInt.toNat).toInt from by first | assumption | omega), (show (∀ j : Nat, z167.toInt < j → (j : Int) < (I 9 (I 0 24).toInt.toNat).toInt → ((upd (J116 61) (i.toInt.toNat) (left - left / all * all)) j).toInt < all.toInt) from by first | assumption | omega | exact fun _ _ => rfl | exact fun _ _ => ⟨rfl, rfl⟩ | exact fun _ _ => ⟨rfl, rfl, rfl⟩ | (intro j9 hj9; omega)), (show (1 + z167.toInt) < n116 from by omega)⟩
        refine f_wp_ok C f_cl flX12_ok fiX12_ok fjX12_ok (sn := none) (fun j h => by cases h) (cs := (f_cnl [(370, (2, 3, 11, pX12_isWordNumber, qX12_isWordNumber)), (503, (2, 1, 11, pX12_numbers, qX12_numbers)), (529, (2, 3, 11, pX12_isLearnt, qX12_isLearnt))])) (cz := (fun _ => none)) (f_cnl_of (P := fun j S => f_cok pP l eP (f_rm 5) sP mP aP bP hP9 cP mY 71 a cy dC dI 10 _ _ (.invokevirtual j) true S) (List.forall_mem_cons.mpr ⟨f_cokV C (mX12_isWordNumber hinj) (ci := 11) rfl (List.forall_mem_cons.mpr ⟨(mlX12_ok _ (List.mem_of_getElem? (i := 28) rfl)), kc_X12_isWordNumber⟩) (by decide +kernel) ⟨Nat.le_of_ble_eq_true rfl, Nat.le_of_ble_eq_true rfl⟩, List.forall_mem_cons.mpr ⟨f_cokV C (mX12_numbers hinj) (ci := 11) rfl (List.forall_mem_cons.mpr ⟨(mlX12_ok _ (List.mem_of_getElem? (i := 60) rfl)), kc_X12_numbers⟩) (by decide +kernel) ⟨Nat.le_of_ble_eq_true rfl, Nat.le_of_ble_eq_true rfl⟩, List.forall_mem_cons.mpr ⟨f_cokV C (mX12_isLearnt hinj) (ci := 11) rfl (List.forall_mem_cons.mpr ⟨(mlX12_ok _ (List.mem_of_getElem? (i := 67) rfl)), kc_X12_isLearnt⟩) (by decide +kernel) ⟨Nat.le_of_ble_eq_true rfl, Nat.le_of_ble_eq_true rfl⟩, fun _ h => absurd h List.not_mem_nil⟩⟩⟩)) (fun j S h => by cases h) tX12_learnt_ok (cut := (f_cnl [(116, (fun (ls' : fLs) (st' : List Value) (I' : fM) (L' : fN) => ∃ left : Int32, ∃ slashes : Int32, ∃ i : Int32, (∀ q ∈ ([(9, .int i), (8, .int slashes), (7, .int left), (6, .int r), (5, .int fewest), (4, .int rows), (3, .int all), (2, .int k), (1, .int w), (0, .ref 0)] : fLs), q ∈ ls') ∧ st' = [] ∧ L' = L ∧ (mR I' ∧ f_fr [0, 21, 22, 23, 24, 25, 26, 27, 28, 29, 30, 31, 32, 33, 34, 35, 36, 37, 38, 39, 40, 41, 42, 43, 44, 61, 62] I I' ∧ f_fo [45, 46, 47, 48, 53, 54, 55, 59] I I' ∧ mL I' ∧ mK I' ∧ mW I' ∧ (r.toInt < rows.toInt) ∧ (0 ≤ left.toInt) ∧ (-1 ≤ i.toInt) ∧ (i.toInt < (I 9 (I 0 24).toInt.toNat).toInt) ∧ ((∀ j : Nat, i.toInt < j → (j : Int) < (I 9 (I 0 24).toInt.toNat).toInt → (I' 61 j).toInt < all.toInt)) ∧ (1 + i.toInt) < 6)))])) (f_cnl_of (P := fun (tQ : Nat) (P : fLs → List Value → fM → fN → Prop) => ∀ ls' st' I' L', P ls' st' I' L' → f_W pP l eP (f_rm 5) sP mP aP bP hP9 cP mY 71 a cy dC dI 10 (f_K 1 (qX12_learnt [.ref 0, .int w, .int k] I L)) tQ ls' st' I' L') (List.forall_mem_cons.mpr ⟨(fun ls' st' I' L' h => by obtain ⟨left, slashes, i, hs, e1, e3, h9⟩ := h; rw [e1, e3]; exact f_W_sub hs (lp116 6 left slashes i I' h9)), fun _ h => absurd h List.not_mem_nil⟩)) 18 89 (f_seek 89 0 tX12_learnt) (f_seek_ok 89 0 tX12_learnt tX12_learnt_ok) _ _ _ _ ?_
        apply And.intro
        · intro h93
          have h93 : rows.toInt ≤ r.toInt := h93
          apply And.intro
          · intro h245
            have h245 : 0 ≤ fewest.toInt := h245
            apply And.intro
            · intro h254
              have h254 : ¬ w.toInt = (-1) := h254
              refine And.intro (show f_in w 4 from ⟨show 0 ≤ w.toInt from by omega, show w.toInt < 4 from by omega⟩) ?_
              exact ⟨hR89c, hmL89c, hmK89c, hmW89c, hO89c, hF89c, rfl⟩
            · intro h254
              have h254 : w.toInt = (-1) := h254
              exact ⟨hR89c, hmL89c, hmK89c, hmW89c, hO89c, hF89c, rfl⟩
          · intro h245
            have h245 : fewest.toInt < 0 := h245
            exact ⟨hR89c, hmL89c, hmK89c, hmW89c, hO89c, hF89c, rfl⟩
        · intro h93
          have h93 : r.toInt < rows.toInt := h93
          have r108_1 : 0 ≤ (J89 0 24).toInt ∧ (J89 0 24).toInt ≤ 1 := hR89c 0 24
          have e108_2 : (J89 0 24).toInt = (I 0 24).toInt := congrArg Int32.toInt (hO89c 24 rfl)
          refine And.intro (show f_in (J89 0 24) 2 from ⟨show 0 ≤ (J89 0 24).toInt from by omega, show (J89 0 24).toInt < 2 from by omega⟩) ?_
          have r111_3 : 0 ≤ (J89 9 ((J89 0 24).toInt.toNat)).toInt ∧ (J89 9 ((J89 0 24).toInt.toNat)).toInt ≤ 12 := hR89c 9 ((J89 0 24).toInt.toNat)
          have e111_4 : (J89 9 ((J89 0 24).toInt.toNat)).toInt = (J89 9 ((I 0 24).toInt.toNat)).toInt := by rw [(hO89c 24 rfl)]
          have e111_5 : (J89 9 ((I 0 24).toInt.toNat)).toInt = (I 9 ((I 0 24).toInt.toNat)).toInt := congrArg Int32.toInt (congrFun (hF89c 9 rfl) ((I 0 24).toInt.toNat))
          intro z113 q113 _ hq113 hl113 hu113
          have hq113 : z113.toInt = (J89 9 ((J89 0 24).toInt.toNat)).toInt - 1 + 4294967296 * q113 := hq113
          try have hz113 : z113.toInt = (J89 9 ((J89 0 24).toInt.toNat)).toInt - 1 := by omega
          have q113 : ∀ j : Nat, z113.toInt < j → (j : Int) < (I 9 (I 0 24).toInt.toNat).toInt → (J89 61 j).toInt < all.toInt := fun j h1 h2 => by omega
          exact ⟨r, Int32.ofInt 0, z113, (by intro q9 h9; simp only [List.mem_cons, List.not_mem_nil, or_false] at h9; rcases h9 with h9 | h9 | h9 | h9 | h9 | h9 | h9 | h9 | h9 | h9 <;> subst h9 <;> repeat (first | exact List.mem_cons_self | apply List.mem_cons_of_mem)), rfl, rfl, hR89c, hF89c, hO89c, hmL89c, hmK89c, hmW89c, (show r.toInt < rows.toInt from by first | assumption | omega), (show 0 ≤ r.toInt from by first | assumption | omega), (show -1 ≤ z113.toInt from by first | assumption | omega), (show z113.toInt < (I 9 (I 0 24).toInt.toNat).toInt from by first | assumption | omega), (show (∀ j : Nat, z113.toInt < j → (j : Int) < (I 9 (I 0 24).toInt.toNat).toInt → (J89 61 j).toInt < all.toInt) from by first | assumption | omega | exact fun _ _ => rfl | exact fun _ _ => ⟨rfl, rfl⟩ | exact fun _ _ => ⟨rfl, rfl, rfl⟩ | (intro j9 hj9; omega)), (show (1 + z113.toInt) < 6 from by omega)⟩
    have lp57 : ∀ (n57 : Nat), ∀ (all : Int32) (rows : Int32) (i : Int32), ((w.toInt = -1 ∨ 0 ≤ w.toInt ∧ w.toInt < (I 9 (I 0 24).toInt.toNat).toInt)) ∧ ((I 9 (I 0 24).toInt.toNat).toInt ≤ 4) ∧ (0 ≤ all.toInt) ∧ (all.toInt ≤ 10) ∧ (all.toInt ≤ numK (I 8 (I 0 24).toInt.toNat).toInt) ∧ ((0 < (I 9 (I 0 24).toInt.toNat).toInt → 3 ≤ all.toInt)) ∧ (0 ≤ i.toInt) ∧ (i.toInt ≤ (I 9 (I 0 24).toInt.toNat).toInt) ∧ (0 ≤ rows.toInt) ∧ ((i.toInt ≤ 0 → rows.toInt ≤ 1)) ∧ ((i.toInt ≤ 1 → rows.toInt ≤ 10)) ∧ ((i.toInt ≤ 2 → rows.toInt ≤ 100)) ∧ ((i.toInt ≤ 3 → rows.toInt ≤ 1000)) ∧ (rows.toInt ≤ 10000) ∧ ((I 9 (I 0 24).toInt.toNat).toInt - i.toInt) < n57 → f_W pP l eP (f_rm 5) sP mP aP bP hP9 cP mY 71 a cy dC dI 10 (f_K 1 (qX12_learnt [.ref 0, .int w, .int k] I L)) 57 [(5, .int i), (4, .int rows), (3, .int all), (2, .int k), (1, .int w), (0, .ref 0)] [] I L := by
      intro n57
      induction n57 with
      | zero =>
        intro all rows i h9
        obtain ⟨u57_1, u57_2, u57_3, u57_4, u57_5, u57_6, u57_7, u57_8, u57_9, u57_10, u57_11, u57_12, u57_13, u57_14, hm57⟩ := h9
        omega
      | succ n57 ih57 =>
        intro all rows i h9
        obtain ⟨u57_1, u57_2, u57_3, u57_4, u57_5, u57_6, u57_7, u57_8, u57_9, u57_10, u57_11, u57_12, u57_13, u57_14, hm57⟩ := h9
        refine f_wp_ok C f_cl flX12_ok fiX12_ok fjX12_ok (sn := none) (fun j h => by cases h) (cs := (f_cnl [(370, (2, 3, 11, pX12_isWordNumber, qX12_isWordNumber)), (503, (2, 1, 11, pX12_numbers, qX12_numbers)), (529, (2, 3, 11, pX12_isLearnt, qX12_isLearnt))])) (cz := (fun _ => none)) (f_cnl_of (P := fun j S => f_cok pP l eP (f_rm 5) sP mP aP bP hP9 cP mY 71 a cy dC dI 10 _ _ (.invokevirtual j) true S) (List.forall_mem_cons.mpr ⟨f_cokV C (mX12_isWordNumber hinj) (ci := 11) rfl (List.forall_mem_cons.mpr ⟨(mlX12_ok _ (List.mem_of_getElem? (i := 28) rfl)), kc_X12_isWordNumber⟩) (by decide +kernel) ⟨Nat.le_of_ble_eq_true rfl, Nat.le_of_ble_eq_true rfl⟩, List.forall_mem_cons.mpr ⟨f_cokV C (mX12_numbers hinj) (ci := 11) rfl (List.forall_mem_cons.mpr ⟨(mlX12_ok _ (List.mem_of_getElem? (i := 60) rfl)), kc_X12_numbers⟩) (by decide +kernel) ⟨Nat.le_of_ble_eq_true rfl, Nat.le_of_ble_eq_true rfl⟩, List.forall_mem_cons.mpr ⟨f_cokV C (mX12_isLearnt hinj) (ci := 11) rfl (List.forall_mem_cons.mpr ⟨(mlX12_ok _ (List.mem_of_getElem? (i := 67) rfl)), kc_X12_isLearnt⟩) (by decide +kernel) ⟨Nat.le_of_ble_eq_true rfl, Nat.le_of_ble_eq_true rfl⟩, fun _ h => absurd h List.not_mem_nil⟩⟩⟩)) (fun j S h => by cases h) tX12_learnt_ok (cut := (f_cnl [(57, (fun (ls' : fLs) (st' : List Value) (I' : fM) (L' : fN) => ∃ all : Int32, ∃ rows : Int32, ∃ i : Int32, (∀ q ∈ ([(5, .int i), (4, .int rows), (3, .int all), (2, .int k), (1, .int w), (0, .ref 0)] : fLs), q ∈ ls') ∧ st' = [] ∧ I' = I ∧ L' = L ∧ (((w.toInt = -1 ∨ 0 ≤ w.toInt ∧ w.toInt < (I 9 (I 0 24).toInt.toNat).toInt)) ∧ ((I 9 (I 0 24).toInt.toNat).toInt ≤ 4) ∧ (0 ≤ all.toInt) ∧ (all.toInt ≤ 10) ∧ (all.toInt ≤ numK (I 8 (I 0 24).toInt.toNat).toInt) ∧ ((0 < (I 9 (I 0 24).toInt.toNat).toInt → 3 ≤ all.toInt)) ∧ (0 ≤ i.toInt) ∧ (i.toInt ≤ (I 9 (I 0 24).toInt.toNat).toInt) ∧ (0 ≤ rows.toInt) ∧ ((i.toInt ≤ 0 → rows.toInt ≤ 1)) ∧ ((i.toInt ≤ 1 → rows.toInt ≤ 10)) ∧ ((i.toInt ≤ 2 → rows.toInt ≤ 100)) ∧ ((i.toInt ≤ 3 → rows.toInt ≤ 1000)) ∧ (rows.toInt ≤ 10000) ∧ ((I 9 (I 0 24).toInt.toNat).toInt - i.toInt) < n57))), (89, (fun (ls' : fLs) (st' : List Value) (I' : fM) (L' : fN) => ∃ all : Int32, ∃ rows : Int32, ∃ fewest : Int32, ∃ r : Int32, (∀ q ∈ ([(6, .int r), (5, .int fewest), (4, .int rows), (3, .int all), (2, .int k), (1, .int w), (0, .ref 0)] : fLs), q ∈ ls') ∧ st' = [] ∧ L' = L ∧ (mR I' ∧ f_fr [0, 21, 22, 23, 24, 25, 26, 27, 28, 29, 30, 31, 32, 33, 34, 35, 36, 37, 38, 39, 40, 41, 42, 43, 44, 61, 62] I I' ∧ f_fo [45, 46, 47, 48, 53, 54, 55, 59] I I' ∧ mL I' ∧ mK I' ∧ mW I' ∧ ((w.toInt = -1 ∨ 0 ≤ w.toInt ∧ w.toInt < (I 9 (I 0 24).toInt.toNat).toInt)) ∧ ((I 9 (I 0 24).toInt.toNat).toInt ≤ 4) ∧ (0 ≤ all.toInt) ∧ (all.toInt ≤ 10) ∧ (all.toInt ≤ numK (I 8 (I 0 24).toInt.toNat).toInt) ∧ ((0 < (I 9 (I 0 24).toInt.toNat).toInt → 3 ≤ all.toInt)) ∧ (0 ≤ r.toInt) ∧ (0 ≤ rows.toInt) ∧ (rows.toInt ≤ 10000) ∧ (r.toInt ≤ 10000) ∧ (10000 - r.toInt) < 10001)))])) (f_cnl_of (P := fun (tQ : Nat) (P : fLs → List Value → fM → fN → Prop) => ∀ ls' st' I' L', P ls' st' I' L' → f_W pP l eP (f_rm 5) sP mP aP bP hP9 cP mY 71 a cy dC dI 10 (f_K 1 (qX12_learnt [.ref 0, .int w, .int k] I L)) tQ ls' st' I' L') (List.forall_mem_cons.mpr ⟨(fun ls' st' I' L' h => by obtain ⟨all, rows, i, hs, e1, e2, e3, h9⟩ := h; rw [e1, e2, e3]; exact f_W_sub hs (ih57 all rows i h9)), List.forall_mem_cons.mpr ⟨(fun ls' st' I' L' h => by obtain ⟨all, rows, fewest, r, hs, e1, e3, h9⟩ := h; rw [e1, e3]; exact f_W_sub hs (lp89 10001 all rows fewest r I' h9)), fun _ h => absurd h List.not_mem_nil⟩⟩)) 16 57 (f_seek 57 0 tX12_learnt) (f_seek_ok 57 0 tX12_learnt tX12_learnt_ok) _ _ _ _ ?_
        have r64_1 : 0 ≤ (I 0 24).toInt ∧ (I 0 24).toInt ≤ 1 := hR 0 24
        refine And.intro (show f_in (I 0 24) 2 from ⟨show 0 ≤ (I 0 24).toInt from by omega, show (I 0 24).toInt < 2 from by omega⟩) ?_
        have r67_2 : 0 ≤ (I 9 ((I 0 24).toInt.toNat)).toInt ∧ (I 9 ((I 0 24).toInt.toNat)).toInt ≤ 12 := hR 9 ((I 0 24).toInt.toNat)
        apply And.intro
        · intro h68
          have h68 : (I 9 ((I 0 24).toInt.toNat)).toInt ≤ i.toInt := h68
          have cn89_fewest : (Int32.ofInt (-1)).toInt = -1 := rfl
          have r89_3 : 0 ≤ (I 8 ((I 0 24).toInt.toNat)).toInt ∧ (I 8 ((I 0 24).toInt.toNat)).toInt ≤ 5 := hR 8 ((I 0 24).toInt.toNat)
          exact ⟨all, rows, Int32.ofInt (-1), Int32.ofInt 0, (by intro q9 h9; simp only [List.mem_cons, List.not_mem_nil, or_false] at h9; rcases h9 with h9 | h9 | h9 | h9 | h9 | h9 | h9 <;> subst h9 <;> repeat (first | exact List.mem_cons_self | apply List.mem_cons_of_mem)), rfl, rfl, hR, hF0, hO0, hmL, hmK, hmW, (show (w.toInt = -1 ∨ 0 ≤ w.toInt ∧ w.toInt < (I 9 (I 0 24).toInt.toNat).toInt) from by first | assumption | omega | rfl), (show (I 9 (I 0 24).toInt.toNat).toInt ≤ 4 from by first | assumption | omega), (show 0 ≤ all.toInt from by first | assumption | omega), (show all.toInt ≤ 10 from by first | assumption | omega), (show all.toInt ≤ numK (I 8 (I 0 24).toInt.toNat).toInt from by first | assumption | omega), (show (0 < (I 9 (I 0 24).toInt.toNat).toInt → 3 ≤ all.toInt) from by first | assumption | omega), (show 0 ≤ (0 : Int) from by first | assumption | omega), (show 0 ≤ rows.toInt from by first | assumption | omega), (show rows.toInt ≤ 10000 from by first | assumption | omega), (show (0 : Int) ≤ 10000 from by first | assumption | omega), (show (10000 - (0 : Int)) < 10001 from by omega)⟩
        · intro h68
          have h68 : i.toInt < (I 9 ((I 0 24).toInt.toNat)).toInt := h68
          intro z74 q74 _ hq74 hl74 hu74
          have hq74 : z74.toInt = rows.toInt * all.toInt + 4294967296 * q74 := hq74
          have b74 := mul_b ⟨u57_9, u57_14⟩ ⟨u57_3, u57_4⟩ hq74 hl74 hu74
          intro z77 q77 _ hq77 hl77 hu77
          have hq77 : z77.toInt = i.toInt + 1 + 4294967296 * q77 := hq77
          try have hz77 : z77.toInt = i.toInt + 1 := by omega
          have r57_3 : 0 ≤ (I 8 ((I 0 24).toInt.toNat)).toInt ∧ (I 8 ((I 0 24).toInt.toNat)).toInt ≤ 5 := hR 8 ((I 0 24).toInt.toNat)
          exact ⟨all, z74, z77, (by intro q9 h9; simp only [List.mem_cons, List.not_mem_nil, or_false] at h9; rcases h9 with h9 | h9 | h9 | h9 | h9 | h9 <;> subst h9 <;> repeat (first | exact List.mem_cons_self | apply List.mem_cons_of_mem)), rfl, rfl, rfl, (show (w.toInt = -1 ∨ 0 ≤ w.toInt ∧ w.toInt < (I 9 (I 0 24).toInt.toNat).toInt) from by first | assumption | omega | rfl), (show (I 9 (I 0 24).toInt.toNat).toInt ≤ 4 from by first | assumption | omega), (show 0 ≤ all.toInt from by first | assumption | omega), (show all.toInt ≤ 10 from by first | assumption | omega), (show all.toInt ≤ numK (I 8 (I 0 24).toInt.toNat).toInt from by first | assumption | omega), (show (0 < (I 9 (I 0 24).toInt.toNat).toInt → 3 ≤ all.toInt) from by first | assumption | omega), (show 0 ≤ z77.toInt from by first | assumption | omega), (show z77.toInt ≤ (I 9 (I 0 24).toInt.toNat).toInt from by first | assumption | omega), (show 0 ≤ z74.toInt from by first | assumption | omega), (show (z77.toInt ≤ 0 → z74.toInt ≤ 1) from by first | assumption | omega), (show (z77.toInt ≤ 1 → z74.toInt ≤ 10) from by first | assumption | omega), (show (z77.toInt ≤ 2 → z74.toInt ≤ 100) from by first | assumption | omega), (show (z77.toInt ≤ 3 → z74.toInt ≤ 1000) from by first | assumption | omega), (show z74.toInt ≤ 10000 from by first | assumption | omega), (show ((I 9 (I 0 24).toInt.toNat).toInt - z77.toInt) < n57 from by omega)⟩
    have lp16 : ((w.toInt = -1 ∨ 0 ≤ w.toInt ∧ w.toInt < (I 9 (I 0 24).toInt.toNat).toInt)) → f_W pP l eP (f_rm 5) sP mP aP bP hP9 cP mY 71 a cy dC dI 10 (f_K 1 (qX12_learnt [.ref 0, .int w, .int k] I L)) 16 [(2, .int k), (1, .int w), (0, .ref 0)] [] I L := by
      intro h9
      have u16_1 := h9
      refine f_wp_ok C f_cl flX12_ok fiX12_ok fjX12_ok (sn := none) (fun j h => by cases h) (cs := (f_cnl [(370, (2, 3, 11, pX12_isWordNumber, qX12_isWordNumber)), (503, (2, 1, 11, pX12_numbers, qX12_numbers)), (529, (2, 3, 11, pX12_isLearnt, qX12_isLearnt))])) (cz := (fun _ => none)) (f_cnl_of (P := fun j S => f_cok pP l eP (f_rm 5) sP mP aP bP hP9 cP mY 71 a cy dC dI 10 _ _ (.invokevirtual j) true S) (List.forall_mem_cons.mpr ⟨f_cokV C (mX12_isWordNumber hinj) (ci := 11) rfl (List.forall_mem_cons.mpr ⟨(mlX12_ok _ (List.mem_of_getElem? (i := 28) rfl)), kc_X12_isWordNumber⟩) (by decide +kernel) ⟨Nat.le_of_ble_eq_true rfl, Nat.le_of_ble_eq_true rfl⟩, List.forall_mem_cons.mpr ⟨f_cokV C (mX12_numbers hinj) (ci := 11) rfl (List.forall_mem_cons.mpr ⟨(mlX12_ok _ (List.mem_of_getElem? (i := 60) rfl)), kc_X12_numbers⟩) (by decide +kernel) ⟨Nat.le_of_ble_eq_true rfl, Nat.le_of_ble_eq_true rfl⟩, List.forall_mem_cons.mpr ⟨f_cokV C (mX12_isLearnt hinj) (ci := 11) rfl (List.forall_mem_cons.mpr ⟨(mlX12_ok _ (List.mem_of_getElem? (i := 67) rfl)), kc_X12_isLearnt⟩) (by decide +kernel) ⟨Nat.le_of_ble_eq_true rfl, Nat.le_of_ble_eq_true rfl⟩, fun _ h => absurd h List.not_mem_nil⟩⟩⟩)) (fun j S h => by cases h) tX12_learnt_ok (cut := (f_cnl [(57, (fun (ls' : fLs) (st' : List Value) (I' : fM) (L' : fN) => ∃ all : Int32, ∃ rows : Int32, ∃ i : Int32, (∀ q ∈ ([(5, .int i), (4, .int rows), (3, .int all), (2, .int k), (1, .int w), (0, .ref 0)] : fLs), q ∈ ls') ∧ st' = [] ∧ I' = I ∧ L' = L ∧ (((w.toInt = -1 ∨ 0 ≤ w.toInt ∧ w.toInt < (I 9 (I 0 24).toInt.toNat).toInt)) ∧ ((I 9 (I 0 24).toInt.toNat).toInt ≤ 4) ∧ (0 ≤ all.toInt) ∧ (all.toInt ≤ 10) ∧ (all.toInt ≤ numK (I 8 (I 0 24).toInt.toNat).toInt) ∧ ((0 < (I 9 (I 0 24).toInt.toNat).toInt → 3 ≤ all.toInt)) ∧ (0 ≤ i.toInt) ∧ (i.toInt ≤ (I 9 (I 0 24).toInt.toNat).toInt) ∧ (0 ≤ rows.toInt) ∧ ((i.toInt ≤ 0 → rows.toInt ≤ 1)) ∧ ((i.toInt ≤ 1 → rows.toInt ≤ 10)) ∧ ((i.toInt ≤ 2 → rows.toInt ≤ 100)) ∧ ((i.toInt ≤ 3 → rows.toInt ≤ 1000)) ∧ (rows.toInt ≤ 10000) ∧ ((I 9 (I 0 24).toInt.toNat).toInt - i.toInt) < 13)))])) (f_cnl_of (P := fun (tQ : Nat) (P : fLs → List Value → fM → fN → Prop) => ∀ ls' st' I' L', P ls' st' I' L' → f_W pP l eP (f_rm 5) sP mP aP bP hP9 cP mY 71 a cy dC dI 10 (f_K 1 (qX12_learnt [.ref 0, .int w, .int k] I L)) tQ ls' st' I' L') (List.forall_mem_cons.mpr ⟨(fun ls' st' I' L' h => by obtain ⟨all, rows, i, hs, e1, e2, e3, h9⟩ := h; rw [e1, e2, e3]; exact f_W_sub hs (lp57 13 all rows i h9)), fun _ h => absurd h List.not_mem_nil⟩)) 25 16 (f_seek 16 0 tX12_learnt) (f_seek_ok 16 0 tX12_learnt tX12_learnt_ok) _ _ _ _ ?_
      have r21_1 : 0 ≤ (I 0 24).toInt ∧ (I 0 24).toInt ≤ 1 := hR 0 24
      refine And.intro (show f_in (I 0 24) 2 from ⟨show 0 ≤ (I 0 24).toInt from by omega, show (I 0 24).toInt < 2 from by omega⟩) ?_
      have r24_2 : 0 ≤ (I 9 ((I 0 24).toInt.toNat)).toInt ∧ (I 9 ((I 0 24).toInt.toNat)).toInt ≤ 12 := hR 9 ((I 0 24).toInt.toNat)
      apply And.intro
      · intro h26
        have h26 : 4 < (I 9 ((I 0 24).toInt.toNat)).toInt := h26
        exact ⟨hR, hmL, hmK, hmW, hO0, hF0, rfl⟩
      · intro h26
        have h26 : (I 9 ((I 0 24).toInt.toNat)).toInt ≤ 4 := h26
        refine And.intro (show f_in (I 0 24) 2 from ⟨show 0 ≤ (I 0 24).toInt from by omega, show (I 0 24).toInt < 2 from by omega⟩) ?_
        have r37_3 : 0 ≤ (I 8 ((I 0 24).toInt.toNat)).toInt ∧ (I 8 ((I 0 24).toInt.toNat)).toInt ≤ 5 := hR 8 ((I 0 24).toInt.toNat)
        apply And.intro
        · intro h39
          have h39 : (I 8 ((I 0 24).toInt.toNat)).toInt ≤ 2 := h39
          refine And.intro ⟨hR, (show 0 ≤ (1 : Int) from by first | assumption | omega), (show (1 : Int) ≤ 2 from by first | assumption | omega)⟩ ?_
          intro x47 I47 L47 hq47
          have hq47 : I47 = I ∧ L47 = L ∧ 0 ≤ x47.toInt ∧ x47.toInt ≤ 1055 ∧ x47.toInt ≤ numK (I 8 (I 0 24).toInt.toNat).toInt ∧ (((1 : Int) = 1 → x47.toInt = (I 8 (I 0 24).toInt.toNat).toInt + 2 * (I 8 (I 0 24).toInt.toNat).toInt * (I 8 (I 0 24).toInt.toNat).toInt)) := hq47
          obtain ⟨eI47, eL47, c47_2, c47_3, c47_4, c47_5⟩ := hq47
          replace eI47 := eI47.symm
          subst eI47
          replace eL47 := eL47.symm
          subst eL47
          have a47 : x47.toInt ≤ 10 ∧ (0 < (I 9 (I 0 24).toInt.toNat).toInt → 3 ≤ x47.toInt) := by
            have q := c47_5 rfl
            have hk : (I 8 (I 0 24).toInt.toNat).toInt = 0 ∨ (I 8 (I 0 24).toInt.toNat).toInt = 1 ∨ (I 8 (I 0 24).toInt.toNat).toInt = 2 := by omega
            have hp := hmL.2.2.2.2.2
            rcases hk with e | e | e
            · rw [e] at q; exact ⟨by omega, fun h => by have := hp h; omega⟩
            · rw [e] at q; exact ⟨by omega, fun _ => by omega⟩
            · rw [e] at q; exact ⟨by omega, fun _ => by omega⟩
          exact ⟨x47, Int32.ofInt 1, Int32.ofInt 0, (by intro q9 h9; simp only [List.mem_cons, List.not_mem_nil, or_false] at h9; rcases h9 with h9 | h9 | h9 | h9 | h9 | h9 <;> subst h9 <;> repeat (first | exact List.mem_cons_self | apply List.mem_cons_of_mem)), rfl, rfl, rfl, (show (w.toInt = -1 ∨ 0 ≤ w.toInt ∧ w.toInt < (I 9 (I 0 24).toInt.toNat).toInt) from by first | assumption | omega | rfl), (show (I 9 (I 0 24).toInt.toNat).toInt ≤ 4 from by first | assumption | omega), (show 0 ≤ x47.toInt from by first | assumption | omega), (show x47.toInt ≤ 10 from by first | assumption | omega), (show x47.toInt ≤ numK (I 8 (I 0 24).toInt.toNat).toInt from by first | assumption | omega), (show (0 < (I 9 (I 0 24).toInt.toNat).toInt → 3 ≤ x47.toInt) from by first | assumption | omega), (show 0 ≤ (0 : Int) from by first | assumption | omega), (show (0 : Int) ≤ (I 9 (I 0 24).toInt.toNat).toInt from by first | assumption | omega), (show 0 ≤ (1 : Int) from by first | assumption | omega), (show ((0 : Int) ≤ 0 → (1 : Int) ≤ 1) from by first | assumption | omega), (show ((0 : Int) ≤ 1 → (1 : Int) ≤ 10) from by first | assumption | omega), (show ((0 : Int) ≤ 2 → (1 : Int) ≤ 100) from by first | assumption | omega), (show ((0 : Int) ≤ 3 → (1 : Int) ≤ 1000) from by first | assumption | omega), (show (1 : Int) ≤ 10000 from by first | assumption | omega), (show ((I 9 (I 0 24).toInt.toNat).toInt - (0 : Int)) < 13 from by omega)⟩
        · intro h39
          have h39 : 2 < (I 8 ((I 0 24).toInt.toNat)).toInt := h39
          exact ⟨hR, hmL, hmK, hmW, hO0, hF0, rfl⟩
    refine f_wp_ok C f_cl flX12_ok fiX12_ok fjX12_ok (sn := none) (fun j h => by cases h) (cs := (f_cnl [(370, (2, 3, 11, pX12_isWordNumber, qX12_isWordNumber)), (503, (2, 1, 11, pX12_numbers, qX12_numbers)), (529, (2, 3, 11, pX12_isLearnt, qX12_isLearnt))])) (cz := (fun _ => none)) (f_cnl_of (P := fun j S => f_cok pP l eP (f_rm 5) sP mP aP bP hP9 cP mY 71 a cy dC dI 10 _ _ (.invokevirtual j) true S) (List.forall_mem_cons.mpr ⟨f_cokV C (mX12_isWordNumber hinj) (ci := 11) rfl (List.forall_mem_cons.mpr ⟨(mlX12_ok _ (List.mem_of_getElem? (i := 28) rfl)), kc_X12_isWordNumber⟩) (by decide +kernel) ⟨Nat.le_of_ble_eq_true rfl, Nat.le_of_ble_eq_true rfl⟩, List.forall_mem_cons.mpr ⟨f_cokV C (mX12_numbers hinj) (ci := 11) rfl (List.forall_mem_cons.mpr ⟨(mlX12_ok _ (List.mem_of_getElem? (i := 60) rfl)), kc_X12_numbers⟩) (by decide +kernel) ⟨Nat.le_of_ble_eq_true rfl, Nat.le_of_ble_eq_true rfl⟩, List.forall_mem_cons.mpr ⟨f_cokV C (mX12_isLearnt hinj) (ci := 11) rfl (List.forall_mem_cons.mpr ⟨(mlX12_ok _ (List.mem_of_getElem? (i := 67) rfl)), kc_X12_isLearnt⟩) (by decide +kernel) ⟨Nat.le_of_ble_eq_true rfl, Nat.le_of_ble_eq_true rfl⟩, fun _ h => absurd h List.not_mem_nil⟩⟩⟩)) (fun j S h => by cases h) tX12_learnt_ok (cut := (f_cnl [(16, (fun (ls' : fLs) (st' : List Value) (I' : fM) (L' : fN) => (∀ q ∈ ([(2, .int k), (1, .int w), (0, .ref 0)] : fLs), q ∈ ls') ∧ st' = [] ∧ I' = I ∧ L' = L ∧ (((w.toInt = -1 ∨ 0 ≤ w.toInt ∧ w.toInt < (I 9 (I 0 24).toInt.toNat).toInt)))))])) (f_cnl_of (P := fun (tQ : Nat) (P : fLs → List Value → fM → fN → Prop) => ∀ ls' st' I' L', P ls' st' I' L' → f_W pP l eP (f_rm 5) sP mP aP bP hP9 cP mY 71 a cy dC dI 10 (f_K 1 (qX12_learnt [.ref 0, .int w, .int k] I L)) tQ ls' st' I' L') (List.forall_mem_cons.mpr ⟨(fun ls' st' I' L' h => by obtain ⟨hs, e1, e2, e3, h9⟩ := h; rw [e1, e2, e3]; exact f_W_sub hs (lp16  h9)), fun _ h => absurd h List.not_mem_nil⟩)) 12 0 tX12_learnt tX12_learnt_ok _ _ _ _ ?_
    apply And.intro
    · intro h2
      have h2 : w.toInt = (-1) := h2
      have r16_1 : 0 ≤ (I 9 ((I 0 24).toInt.toNat)).toInt ∧ (I 9 ((I 0 24).toInt.toNat)).toInt ≤ 12 := hR 9 ((I 0 24).toInt.toNat)
      have r16_2 : 0 ≤ (I 0 24).toInt ∧ (I 0 24).toInt ≤ 1 := hR 0 24
      exact ⟨(by intro q9 h9; simp only [List.mem_cons, List.not_mem_nil, or_false] at h9; rcases h9 with h9 | h9 | h9 <;> subst h9 <;> repeat (first | exact List.mem_cons_self | apply List.mem_cons_of_mem)), rfl, rfl, rfl, (show (w.toInt = -1 ∨ 0 ≤ w.toInt ∧ w.toInt < (I 9 (I 0 24).toInt.toNat).toInt) from by first | assumption | omega | rfl)⟩
    · intro h2
      have h2 : ¬ w.toInt = (-1) := h2
      refine And.intro hR ?_
      intro x7 I7 L7 hq7
      have hq7 : I7 = I ∧ L7 = L ∧ ((x7.toInt = 0 ∨ x7.toInt = 1 ∧ 0 ≤ w.toInt ∧ w.toInt < (I 9 (I 0 24).toInt.toNat).toInt ∧ w.toInt ≤ 11)) := hq7
      obtain ⟨eI7, eL7, c7_2⟩ := hq7
      replace eI7 := eI7.symm
      subst eI7
      replace eL7 := eL7.symm
      subst eL7
      have r7_1 : 0 ≤ (I 9 ((I 0 24).toInt.toNat)).toInt ∧ (I 9 ((I 0 24).toInt.toNat)).toInt ≤ 12 := hR 9 ((I 0 24).toInt.toNat)
      have r7_2 : 0 ≤ (I 0 24).toInt ∧ (I 0 24).toInt ≤ 1 := hR 0 24
      apply And.intro
      · intro h10
        have h10 : ¬ x7.toInt = 0 := h10
        exact ⟨(by intro q9 h9; simp only [List.mem_cons, List.not_mem_nil, or_false] at h9; rcases h9 with h9 | h9 | h9 <;> subst h9 <;> repeat (first | exact List.mem_cons_self | apply List.mem_cons_of_mem)), rfl, rfl, rfl, (show (w.toInt = -1 ∨ 0 ≤ w.toInt ∧ w.toInt < (I 9 (I 0 24).toInt.toNat).toInt) from by first | assumption | omega | rfl)⟩
      · intro h10
        have h10 : x7.toInt = 0 := h10
        exact ⟨hR, hmL, hmK, hmW, hO0, hF0, rfl⟩
