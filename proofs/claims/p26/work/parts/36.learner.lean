def tX0_forget : List (Instr × Nat) := [(.aload_n 0, 1), (.iconst 0, 1), (.putfield 25, 3), (.return_, 1)]
theorem tX0_forget_ok : f_chk cX0_forget 0 tX0_forget = true := by decide +kernel
def pX0_forget (av : List Value) (I : fM) (L : fN) : Prop := match av with
  | [.ref 78] => xR I
  | _ => False
def qX0_forget (av : List Value) (I : fM) (L : fN) (r : Value) (I' : fM) (L' : fN) : Prop := match av, r with
  | [.ref 78], .null => xR I' ∧ f_fr [78] I I' ∧ L' = L
  | _, _ => False
set_option maxHeartbeats 4000000 in
set_option maxRecDepth 100000 in
theorem mX0_forget {l : Launch} {a : Nat → Nat} {cy dC : Nat → ClassId} {dI : Nat → Nat → Nat} (hinj : ∀ i j, i < 80 → j < 80 → a i = a j → i = j) : f_Met (xE a) l xY 80 a cy dC dI yX0_forget cX0_forget 1 0 0 pX0_forget qX0_forget := by
  refine f_met_of (xE_c a) hinj xY_hi (by decide) (fun av I L h => by unfold pX0_forget at h; split at h <;> first | exact Nat.le_of_ble_eq_true rfl | exact h.elim) ?_
  intro pP eP sP mP aP bP hP9 cP C av I L hp
  unfold pX0_forget at hp
  split at hp
  case h_2 => exact hp.elim
  case h_1 =>
    have hR := hp
    have hF0 : f_fr [78] I I := f_fr_rf
    refine f_wp_ok C f_cl flX0_ok fiX0_ok fjX0_ok (sn := none) (fun j h => by cases h) (cs := (fun _ => none)) (cz := (fun _ => none)) (fun j S h => by cases h) (fun j S h => by cases h) tX0_forget_ok (cut := (fun _ => none)) (fun t P h => by cases h) 7 0 tX0_forget tX0_forget_ok _ _ _ _ ?_
    refine And.intro (Or.inl rfl) ?_
    have hR2 := xR_f (k := 78) (j := 5) (x := Int32.ofInt 0) hR (by exact f_rng _)
    have hF2 := f_fr_up (k := 78) (r := va_up (I 78) 5 (Int32.ofInt 0)) hF0 rfl
    exact ⟨hR2, hF2, rfl⟩
def tX0_beginWith : List (Instr × Nat) := [(.aload_n 0, 1), (.getfield 17, 3), (.bipush 36, 2), (.invokevirtual 91, 3), (.iconst 0, 1), (.istore_n 2, 1), (.iload_n 2, 1), (.aload_n 0, 1), (.getfield 21, 3), (.getfield 94, 3), (.iload_n 1, 1), (.iaload, 1), (.if_icmp .ge 36, 3), (.aload_n 0, 1), (.getfield 21, 3), (.iload_n 1, 1), (.iload_n 2, 1), (.invokevirtual 97, 3), (.istore_n 3, 1), (.aload_n 0, 1), (.getfield 17, 3), (.bipush 43, 2), (.aload_n 0, 1), (.getfield 9, 3), (.iload_n 3, 1), (.iaload, 1), (.iadd, 1), (.iconst 1, 1), (.invokevirtual 100, 3), (.iinc 2 1, 3), (.goto (-43), 3), (.return_, 1)]
theorem tX0_beginWith_ok : f_chk cX0_beginWith 0 tX0_beginWith = true := by decide +kernel
def pX0_beginWith (av : List Value) (I : fM) (L : fN) : Prop := match av with
  | [.ref 78, .int n] => xR I ∧ xT I ∧ 0 ≤ n.toInt ∧ n.toInt ≤ 11 ∧ (∀ i : Nat, (i : Int) < (I 43 n.toInt.toNat).toInt → (I 42 (6 * n.toInt.toNat + i)).toInt ≤ 3)
  | _ => False
def qX0_beginWith (av : List Value) (I : fM) (L : fN) (r : Value) (I' : fM) (L' : fN) : Prop := match av, r with
  | [.ref 78, .int n], .null => xR I' ∧ xT I' ∧ f_fr [25, 26, 27] I I' ∧ L' = L
  | _, _ => False
set_option maxHeartbeats 4000000 in
set_option maxRecDepth 100000 in
theorem mX0_beginWith {l : Launch} {a : Nat → Nat} {cy dC : Nat → ClassId} {dI : Nat → Nat → Nat} (hinj : ∀ i j, i < 80 → j < 80 → a i = a j → i = j) : f_Met (xE a) l xY 80 a cy dC dI yX0_beginWith cX0_beginWith 4 0 1 pX0_beginWith qX0_beginWith := by
  refine f_met_of (xE_c a) hinj xY_hi (by decide) (fun av I L h => by unfold pX0_beginWith at h; split at h <;> first | exact Nat.le_of_ble_eq_true rfl | exact h.elim) ?_
  intro pP eP sP mP aP bP hP9 cP C av I L hp
  unfold pX0_beginWith at hp
  split at hp
  case h_2 => exact hp.elim
  case h_1 n =>
    obtain ⟨hR, hxT, p2, p3, p4⟩ := hp
    have hB : 0 ≤ (I 43 n.toInt.toNat).toInt ∧ (I 43 n.toInt.toNat).toInt ≤ 6 := hR 43 _
    have hF0 : f_fr [25, 26, 27] I I := f_fr_rf
    have lp11 : ∀ (n11 : Nat), ∀ (i : Int32) (J11 : fM), xR J11 ∧ f_fr [25, 26, 27] I J11 ∧ xT J11 ∧ (0 ≤ i.toInt) ∧ (i.toInt ≤ (I 43 n.toInt.toNat).toInt) ∧ ((I 43 n.toInt.toNat).toInt - i.toInt) < n11 → f_W pP l eP (f_rm 1) sP mP aP bP hP9 cP xY 80 a cy dC dI 4 (f_K 0 (qX0_beginWith [.ref 78, .int n] I L)) 11 [(2, .int i), (1, .int n), (0, .ref 78)] [] J11 L := by
      intro n11
      induction n11 with
      | zero =>
        intro i J11 h9
        obtain ⟨hR11c, hF11c, hxT11c, u11_1, u11_2, hm11⟩ := h9
        omega
      | succ n11 ih11 =>
        intro i J11 h9
        obtain ⟨hR11c, hF11c, hxT11c, u11_1, u11_2, hm11⟩ := h9
        refine f_wp_ok C f_cl flX0_ok fiX0_ok fjX0_ok (sn := none) (fun j h => by cases h) (cs := (f_cnl [(91, (2, 0, 9, pX10_begin, qX10_begin)), (97, (3, 1, 2, pX2_wordOf, qX2_wordOf)), (100, (3, 0, 9, pX10_addSlots, qX10_addSlots))])) (cz := (fun _ => none)) (f_cnl_of (P := fun j S => f_cok pP l eP (f_rm 1) sP mP aP bP hP9 cP xY 80 a cy dC dI 4 _ _ (.invokevirtual j) true S) (List.forall_mem_cons.mpr ⟨f_cokV C (mX10_begin hinj) (ci := 9) rfl (List.forall_mem_cons.mpr ⟨(mlX0_ok _ (List.mem_of_getElem? (i := 9) rfl)), kc_X10_begin⟩) (by decide +kernel) ⟨Nat.le_of_ble_eq_true rfl, Nat.le_of_ble_eq_true rfl⟩, List.forall_mem_cons.mpr ⟨f_cokV C (mX2_wordOf hinj) (ci := 2) rfl (List.forall_mem_cons.mpr ⟨(mlX0_ok _ (List.mem_of_getElem? (i := 10) rfl)), kc_X2_wordOf⟩) (by decide +kernel) ⟨Nat.le_of_ble_eq_true rfl, Nat.le_of_ble_eq_true rfl⟩, List.forall_mem_cons.mpr ⟨f_cokV C (mX10_addSlots hinj) (ci := 9) rfl (List.forall_mem_cons.mpr ⟨(mlX0_ok _ (List.mem_of_getElem? (i := 11) rfl)), kc_X10_addSlots⟩) (by decide +kernel) ⟨Nat.le_of_ble_eq_true rfl, Nat.le_of_ble_eq_true rfl⟩, fun _ h => absurd h List.not_mem_nil⟩⟩⟩)) (fun j S h => by cases h) tX0_beginWith_ok (cut := (f_cnl [(11, (fun (ls' : fLs) (st' : List Value) (I' : fM) (L' : fN) => ∃ i : Int32, (∀ q ∈ ([(2, .int i), (1, .int n), (0, .ref 78)] : fLs), q ∈ ls') ∧ st' = [] ∧ L' = L ∧ (xR I' ∧ f_fr [25, 26, 27] I I' ∧ xT I' ∧ (0 ≤ i.toInt) ∧ (i.toInt ≤ (I 43 n.toInt.toNat).toInt) ∧ ((I 43 n.toInt.toNat).toInt - i.toInt) < n11)))])) (f_cnl_of (P := fun (tQ : Nat) (P : fLs → List Value → fM → fN → Prop) => ∀ ls' st' I' L', P ls' st' I' L' → f_W pP l eP (f_rm 1) sP mP aP bP hP9 cP xY 80 a cy dC dI 4 (f_K 0 (qX0_beginWith [.ref 78, .int n] I L)) tQ ls' st' I' L') (List.forall_mem_cons.mpr ⟨(fun ls' st' I' L' h => by obtain ⟨i, hs, e1, e3, h9⟩ := h; rw [e1, e3]; exact f_W_sub hs (ih11 i I' h9)), fun _ h => absurd h List.not_mem_nil⟩)) 28 11 (f_seek 11 0 tX0_beginWith) (f_seek_ok 11 0 tX0_beginWith tX0_beginWith_ok) _ _ _ _ ?_
        refine And.intro (show f_in n 12 from ⟨show 0 ≤ n.toInt from by omega, show n.toInt < 12 from by omega⟩) ?_
        have r20_1 : 0 ≤ (J11 43 (n.toInt.toNat)).toInt ∧ (J11 43 (n.toInt.toNat)).toInt ≤ 6 := hR11c 43 (n.toInt.toNat)
        have e20_2 : (J11 43 (n.toInt.toNat)).toInt = (I 43 (n.toInt.toNat)).toInt := congrArg Int32.toInt (congrFun (hF11c 43 rfl) (n.toInt.toNat))
        apply And.intro
        · intro h21
          have h21 : (J11 43 (n.toInt.toNat)).toInt ≤ i.toInt := h21
          exact ⟨hR11c, hxT11c, hF11c, rfl⟩
        · intro h21
          have h21 : i.toInt < (J11 43 (n.toInt.toNat)).toInt := h21
          refine And.intro ⟨(show 0 ≤ n.toInt from by first | assumption | omega), (show n.toInt ≤ 11 from by first | assumption | omega), (show 0 ≤ i.toInt from by first | assumption | omega), (show i.toInt ≤ 5 from by first | assumption | omega)⟩ ?_
          intro x30 I30 L30 hq30
          have hq30 : I30 = J11 ∧ L30 = L ∧ x30 = J11 42 (6 * n.toInt + i.toInt).toNat := hq30
          obtain ⟨eI30, eL30, c30_2⟩ := hq30
          replace eI30 := eI30.symm
          subst eI30
          replace eL30 := eL30.symm
          subst eL30
          have v30 : 0 ≤ x30.toInt ∧ x30.toInt ≤ 3 := by
            have q := p4 i.toInt.toNat (by omega)
            rw [c30_2, hF11c 42 rfl, show (6 * n.toInt + i.toInt).toNat = 6 * n.toInt.toNat + i.toInt.toNat by omega]
            exact ⟨(hR 42 _).1, q⟩
          refine And.intro (show f_in x30 4 from ⟨show 0 ≤ x30.toInt from by omega, show x30.toInt < 4 from by omega⟩) ?_
          have r45_3 : 0 ≤ (J11 79 (x30.toInt.toNat)).toInt ∧ (J11 79 (x30.toInt.toNat)).toInt ≤ 9 := hR11c 79 (x30.toInt.toNat)
          have e45_4 : (J11 79 (x30.toInt.toNat)).toInt = (I 79 (x30.toInt.toNat)).toInt := congrArg Int32.toInt (congrFun (hF11c 79 rfl) (x30.toInt.toNat))
          intro z46 q46 _ hq46 hl46 hu46
          have hq46 : z46.toInt = 43 + (J11 79 (x30.toInt.toNat)).toInt + 4294967296 * q46 := hq46
          try have hz46 : z46.toInt = 43 + (J11 79 (x30.toInt.toNat)).toInt := by omega
          refine And.intro ⟨hR11c, hxT11c, (show 0 ≤ z46.toInt from by first | assumption | omega), (show z46.toInt ≤ 52 from by first | assumption | omega), (show 0 ≤ (1 : Int) from by first | assumption | omega), (show (1 : Int) ≤ 3 from by first | assumption | omega), (show z46.toInt + (1 : Int) ≤ 53 from by first | assumption | omega)⟩ ?_
          intro I48 L48 hq48
          have hq48 : xR I48 ∧ xT I48 ∧ f_fr [25, 26, 27] J11 I48 ∧ L48 = L ∧ I48 25 8 = J11 25 8 := hq48
          obtain ⟨c48_0, c48_1, c48_2, eL48, c48_4⟩ := hq48
          replace eL48 := eL48.symm
          subst eL48
          have hF48 := f_fr_tr hF11c c48_2 rfl
          intro z51 q51 _ hq51 hl51 hu51
          have hq51 : z51.toInt = i.toInt + 1 + 4294967296 * q51 := hq51
          try have hz51 : z51.toInt = i.toInt + 1 := by omega
          exact ⟨z51, (by intro q9 h9; simp only [List.mem_cons, List.not_mem_nil, or_false] at h9; rcases h9 with h9 | h9 | h9 <;> subst h9 <;> repeat (first | exact List.mem_cons_self | apply List.mem_cons_of_mem)), rfl, rfl, c48_0, hF48, c48_1, (show 0 ≤ z51.toInt from by first | assumption | omega), (show z51.toInt ≤ (I 43 n.toInt.toNat).toInt from by first | assumption | omega), (show ((I 43 n.toInt.toNat).toInt - z51.toInt) < n11 from by omega)⟩
    refine f_wp_ok C f_cl flX0_ok fiX0_ok fjX0_ok (sn := none) (fun j h => by cases h) (cs := (f_cnl [(91, (2, 0, 9, pX10_begin, qX10_begin)), (97, (3, 1, 2, pX2_wordOf, qX2_wordOf)), (100, (3, 0, 9, pX10_addSlots, qX10_addSlots))])) (cz := (fun _ => none)) (f_cnl_of (P := fun j S => f_cok pP l eP (f_rm 1) sP mP aP bP hP9 cP xY 80 a cy dC dI 4 _ _ (.invokevirtual j) true S) (List.forall_mem_cons.mpr ⟨f_cokV C (mX10_begin hinj) (ci := 9) rfl (List.forall_mem_cons.mpr ⟨(mlX0_ok _ (List.mem_of_getElem? (i := 9) rfl)), kc_X10_begin⟩) (by decide +kernel) ⟨Nat.le_of_ble_eq_true rfl, Nat.le_of_ble_eq_true rfl⟩, List.forall_mem_cons.mpr ⟨f_cokV C (mX2_wordOf hinj) (ci := 2) rfl (List.forall_mem_cons.mpr ⟨(mlX0_ok _ (List.mem_of_getElem? (i := 10) rfl)), kc_X2_wordOf⟩) (by decide +kernel) ⟨Nat.le_of_ble_eq_true rfl, Nat.le_of_ble_eq_true rfl⟩, List.forall_mem_cons.mpr ⟨f_cokV C (mX10_addSlots hinj) (ci := 9) rfl (List.forall_mem_cons.mpr ⟨(mlX0_ok _ (List.mem_of_getElem? (i := 11) rfl)), kc_X10_addSlots⟩) (by decide +kernel) ⟨Nat.le_of_ble_eq_true rfl, Nat.le_of_ble_eq_true rfl⟩, fun _ h => absurd h List.not_mem_nil⟩⟩⟩)) (fun j S h => by cases h) tX0_beginWith_ok (cut := (f_cnl [(11, (fun (ls' : fLs) (st' : List Value) (I' : fM) (L' : fN) => ∃ i : Int32, (∀ q ∈ ([(2, .int i), (1, .int n), (0, .ref 78)] : fLs), q ∈ ls') ∧ st' = [] ∧ L' = L ∧ (xR I' ∧ f_fr [25, 26, 27] I I' ∧ xT I' ∧ (0 ≤ i.toInt) ∧ (i.toInt ≤ (I 43 n.toInt.toNat).toInt) ∧ ((I 43 n.toInt.toNat).toInt - i.toInt) < 7)))])) (f_cnl_of (P := fun (tQ : Nat) (P : fLs → List Value → fM → fN → Prop) => ∀ ls' st' I' L', P ls' st' I' L' → f_W pP l eP (f_rm 1) sP mP aP bP hP9 cP xY 80 a cy dC dI 4 (f_K 0 (qX0_beginWith [.ref 78, .int n] I L)) tQ ls' st' I' L') (List.forall_mem_cons.mpr ⟨(fun ls' st' I' L' h => by obtain ⟨i, hs, e1, e3, h9⟩ := h; rw [e1, e3]; exact f_W_sub hs (lp11 7 i I' h9)), fun _ h => absurd h List.not_mem_nil⟩)) 9 0 tX0_beginWith tX0_beginWith_ok _ _ _ _ ?_
    refine And.intro ⟨hR, (show 0 ≤ (36 : Int) from by first | assumption | omega), (show (36 : Int) ≤ 52 from by first | assumption | omega)⟩ ?_
    intro I6 L6 hq6
    have hq6 : xR I6 ∧ f_fr [25] I I6 ∧ L6 = L ∧ (I6 25 7).toInt = 0 ∧ I6 25 8 = (Int32.ofInt 36) := hq6
    obtain ⟨c6_0, c6_1, eL6, c6_3, c6_4⟩ := hq6
    replace eL6 := eL6.symm
    subst eL6
    have hxT6 := f_dep_fr xT_dep hxT c6_1 rfl
    have hF6 := f_fr_tr hF0 c6_1 rfl
    exact ⟨Int32.ofInt 0, (by intro q9 h9; simp only [List.mem_cons, List.not_mem_nil, or_false] at h9; rcases h9 with h9 | h9 | h9 <;> subst h9 <;> repeat (first | exact List.mem_cons_self | apply List.mem_cons_of_mem)), rfl, rfl, c6_0, hF6, hxT6, (show 0 ≤ (0 : Int) from by first | assumption | omega), (show (0 : Int) ≤ (I 43 n.toInt.toNat).toInt from by first | assumption | omega), (show ((I 43 n.toInt.toNat).toInt - (0 : Int)) < 7 from by omega)⟩
def tX0_judgesRight : List (Instr × Nat) := [(.iconst 0, 1), (.istore_n 2, 1), (.iload_n 2, 1), (.aload_n 0, 1), (.getfield 21, 3), (.getfield 29, 3), (.if_icmp .ge 58, 3), (.aload_n 0, 1), (.getfield 39, 3), (.iload_n 2, 1), (.ishr, 1), (.iconst 1, 1), (.iand, 1), (.ifCond .eq 41, 3), (.aload_n 0, 1), (.getfield 21, 3), (.iload_n 2, 1), (.invokevirtual 74, 3), (.iload_n 1, 1), (.if_icmp .ne 29, 3), (.aload_n 0, 1), (.iload_n 2, 1), (.invokevirtual 78, 3), (.aload_n 0, 1), (.getfield 17, 3), (.aconst_null, 1), (.invokevirtual 82, 3), (.aload_n 0, 1), (.getfield 21, 3), (.iload_n 2, 1), (.invokevirtual 88, 3), (.if_icmp .eq 5, 3), (.iconst 0, 1), (.ireturn, 1), (.iinc 2 1, 3), (.goto (-63), 3), (.iconst 1, 1), (.ireturn, 1)]
theorem tX0_judgesRight_ok : f_chk cX0_judgesRight 0 tX0_judgesRight = true := by decide +kernel
def pX0_judgesRight (av : List Value) (I : fM) (L : fN) : Prop := match av with
  | [.ref 78, .int w] => xR I ∧ xO I ∧ xT I ∧ xS I ∧ w.toInt ≤ 3
  | _ => False
def qX0_judgesRight (av : List Value) (I : fM) (L : fN) (r : Value) (I' : fM) (L' : fN) : Prop := match av, r with
  | [.ref 78, .int w], .int x => xR I' ∧ xO I' ∧ xT I' ∧ xS I' ∧ f_fr [25, 26, 27, 28, 31, 32, 33, 34, 35, 36, 37, 38, 39, 69] I I' ∧ f_fr [29, 30, 70] L L' ∧ (x.toInt = 0 ∨ x.toInt = 1)
  | _, _ => False
set_option maxHeartbeats 4000000 in
set_option maxRecDepth 100000 in
theorem mX0_judgesRight {l : Launch} {a : Nat → Nat} {cy dC : Nat → ClassId} {dI : Nat → Nat → Nat} (hinj : ∀ i j, i < 80 → j < 80 → a i = a j → i = j) : f_Met (xE a) l xY 80 a cy dC dI yX0_judgesRight cX0_judgesRight 3 3 36 pX0_judgesRight qX0_judgesRight := by
  refine f_met_of (xE_c a) hinj xY_hi (by decide) (fun av I L h => by unfold pX0_judgesRight at h; split at h <;> first | exact Nat.le_of_ble_eq_true rfl | exact h.elim) ?_
  intro pP eP sP mP aP bP hP9 cP C av I L hp
  unfold pX0_judgesRight at hp
  split at hp
  case h_2 => exact hp.elim
  case h_1 w =>
    obtain ⟨hR, hxO, hxT, hxS, p4⟩ := hp
    have he : 0 ≤ (I 40 7).toInt ∧ (I 40 7).toInt ≤ 12 := hR 40 7
    have hF0 : f_fr [25, 26, 27, 28, 31, 32, 33, 34, 35, 36, 37, 38, 39, 69] I I := f_fr_rf
    have hG0 : f_fr [29, 30, 70] L L := f_fr_rf
    have lp2 : ∀ (n2 : Nat), ∀ (n : Int32) (J2 : fM) (M2 : fN), xR J2 ∧ f_fr [25, 26, 27, 28, 31, 32, 33, 34, 35, 36, 37, 38, 39, 69] I J2 ∧ f_fr [29, 30, 70] L M2 ∧ xO J2 ∧ xT J2 ∧ xS J2 ∧ (0 ≤ n.toInt) ∧ (n.toInt ≤ (I 40 7).toInt) ∧ ((I 40 7).toInt - n.toInt) < n2 → f_W pP l eP (f_rm 36) sP mP aP bP hP9 cP xY 80 a cy dC dI 3 (f_K 3 (qX0_judgesRight [.ref 78, .int w] I L)) 2 [(2, .int n), (1, .int w), (0, .ref 78)] [] J2 M2 := by
      intro n2
      induction n2 with
      | zero =>
        intro n J2 M2 h9
        obtain ⟨hR2c, hF2c, hG2c, hxO2c, hxT2c, hxS2c, u2_1, u2_2, hm2⟩ := h9
        omega
      | succ n2 ih2 =>
        intro n J2 M2 h9
        obtain ⟨hR2c, hF2c, hG2c, hxO2c, hxT2c, hxS2c, u2_1, u2_2, hm2⟩ := h9
        refine f_wp_ok C f_cl flX0_ok fiX0_ok fjX0_ok (sn := none) (fun j h => by cases h) (cs := (f_cnl [(74, (2, 1, 2, pX2_highestWord, qX2_highestWord)), (78, (2, 0, 0, pX0_beginWith, qX0_beginWith)), (82, (2, 3, 9, pX10_search, qX10_search)), (88, (2, 3, 2, pX2_isRight, qX2_isRight))])) (cz := (fun _ => none)) (f_cnl_of (P := fun j S => f_cok pP l eP (f_rm 36) sP mP aP bP hP9 cP xY 80 a cy dC dI 3 _ _ (.invokevirtual j) true S) (List.forall_mem_cons.mpr ⟨f_cokV C (mX2_highestWord hinj) (ci := 2) rfl (List.forall_mem_cons.mpr ⟨(mlX0_ok _ (List.mem_of_getElem? (i := 5) rfl)), kc_X2_highestWord⟩) (by decide +kernel) ⟨Nat.le_of_ble_eq_true rfl, Nat.le_of_ble_eq_true rfl⟩, List.forall_mem_cons.mpr ⟨f_cokV C (mX0_beginWith hinj) (ci := 0) rfl (List.forall_mem_cons.mpr ⟨(mlX0_ok _ (List.mem_of_getElem? (i := 6) rfl)), kc_X0_beginWith⟩) (by decide +kernel) ⟨Nat.le_of_ble_eq_true rfl, Nat.le_of_ble_eq_true rfl⟩, List.forall_mem_cons.mpr ⟨f_cokV C (mX10_search hinj) (ci := 9) rfl (List.forall_mem_cons.mpr ⟨(mlX0_ok _ (List.mem_of_getElem? (i := 7) rfl)), kc_X10_search⟩) (by decide +kernel) ⟨Nat.le_of_ble_eq_true rfl, Nat.le_of_ble_eq_true rfl⟩, List.forall_mem_cons.mpr ⟨f_cokV C (mX2_isRight hinj) (ci := 2) rfl (List.forall_mem_cons.mpr ⟨(mlX0_ok _ (List.mem_of_getElem? (i := 8) rfl)), kc_X2_isRight⟩) (by decide +kernel) ⟨Nat.le_of_ble_eq_true rfl, Nat.le_of_ble_eq_true rfl⟩, fun _ h => absurd h List.not_mem_nil⟩⟩⟩⟩)) (fun j S h => by cases h) tX0_judgesRight_ok (cut := (f_cnl [(2, (fun (ls' : fLs) (st' : List Value) (I' : fM) (L' : fN) => ∃ n : Int32, (∀ q ∈ ([(2, .int n), (1, .int w), (0, .ref 78)] : fLs), q ∈ ls') ∧ st' = [] ∧ (xR I' ∧ f_fr [25, 26, 27, 28, 31, 32, 33, 34, 35, 36, 37, 38, 39, 69] I I' ∧ f_fr [29, 30, 70] L L' ∧ xO I' ∧ xT I' ∧ xS I' ∧ (0 ≤ n.toInt) ∧ (n.toInt ≤ (I 40 7).toInt) ∧ ((I 40 7).toInt - n.toInt) < n2)))])) (f_cnl_of (P := fun (tQ : Nat) (P : fLs → List Value → fM → fN → Prop) => ∀ ls' st' I' L', P ls' st' I' L' → f_W pP l eP (f_rm 36) sP mP aP bP hP9 cP xY 80 a cy dC dI 3 (f_K 3 (qX0_judgesRight [.ref 78, .int w] I L)) tQ ls' st' I' L') (List.forall_mem_cons.mpr ⟨(fun ls' st' I' L' h => by obtain ⟨n, hs, e1, h9⟩ := h; rw [e1]; exact f_W_sub hs (ih2 n I' L' h9)), fun _ h => absurd h List.not_mem_nil⟩)) 35 2 (f_seek 2 0 tX0_judgesRight) (f_seek_ok 2 0 tX0_judgesRight tX0_judgesRight_ok) _ _ _ _ ?_
        have r7_1 : 0 ≤ (J2 40 7).toInt ∧ (J2 40 7).toInt ≤ 12 := hR2c 40 7
        have e7_2 : (J2 40 7).toInt = (I 40 7).toInt := congrArg Int32.toInt (congrFun (hF2c 40 rfl) 7)
        apply And.intro
        · intro h10
          have h10 : (J2 40 7).toInt ≤ n.toInt := h10
          exact ⟨Or.inr rfl, hR2c, hxO2c, hxT2c, hxS2c, hF2c, hG2c, (show ((1 : Int) = 0 ∨ (1 : Int) = 1) from by first | assumption | omega | rfl)⟩
        · intro h10
          have h10 : n.toInt < (J2 40 7).toInt := h10
          have e14_4 : (J2 78 4).toInt = (I 78 4).toInt := congrArg Int32.toInt (congrFun (hF2c 78 rfl) 4)
          have b20 : 0 ≤ (((J2 78 4) >>> (n &&& 31)) &&& (Int32.ofInt 1)).toInt ∧ (((J2 78 4) >>> (n &&& 31)) &&& (Int32.ofInt 1)).toInt ≤ 1 := f_andc ((J2 78 4) >>> (n &&& 31)) 1 (by decide) (by decide)
          apply And.intro
          · intro h21
            have h21 : (((J2 78 4) >>> (n &&& 31)) &&& (Int32.ofInt 1)).toInt = 0 := h21
            intro z62 q62 _ hq62 hl62 hu62
            have hq62 : z62.toInt = n.toInt + 1 + 4294967296 * q62 := hq62
            try have hz62 : z62.toInt = n.toInt + 1 := by omega
            exact ⟨z62, (by intro q9 h9; simp only [List.mem_cons, List.not_mem_nil, or_false] at h9; rcases h9 with h9 | h9 | h9 <;> subst h9 <;> repeat (first | exact List.mem_cons_self | apply List.mem_cons_of_mem)), rfl, hR2c, hF2c, hG2c, hxO2c, hxT2c, hxS2c, (show 0 ≤ z62.toInt from by first | assumption | omega), (show z62.toInt ≤ (I 40 7).toInt from by first | assumption | omega), (show ((I 40 7).toInt - z62.toInt) < n2 from by omega)⟩
          · intro h21
            have h21 : ¬ (((J2 78 4) >>> (n &&& 31)) &&& (Int32.ofInt 1)).toInt = 0 := h21
            refine And.intro ⟨hR2c, (show 0 ≤ n.toInt from by first | assumption | omega), (show n.toInt ≤ 11 from by first | assumption | omega)⟩ ?_
            intro x29 I29 L29 hq29
            have hq29 : I29 = J2 ∧ L29 = M2 ∧ ((∀ i : Nat, (i : Int) < (J2 43 n.toInt.toNat).toInt → (J2 42 (6 * n.toInt.toNat + i)).toInt ≤ x29.toInt)) := hq29
            obtain ⟨eI29, eL29, c29_2⟩ := hq29
            replace eI29 := eI29.symm
            subst eI29
            replace eL29 := eL29.symm
            subst eL29
            apply And.intro
            · intro h33
              have h33 : ¬ x29.toInt = w.toInt := h33
              intro z62 q62 _ hq62 hl62 hu62
              have hq62 : z62.toInt = n.toInt + 1 + 4294967296 * q62 := hq62
              try have hz62 : z62.toInt = n.toInt + 1 := by omega
              exact ⟨z62, (by intro q9 h9; simp only [List.mem_cons, List.not_mem_nil, or_false] at h9; rcases h9 with h9 | h9 | h9 <;> subst h9 <;> repeat (first | exact List.mem_cons_self | apply List.mem_cons_of_mem)), rfl, hR2c, hF2c, hG2c, hxO2c, hxT2c, hxS2c, (show 0 ≤ z62.toInt from by first | assumption | omega), (show z62.toInt ≤ (I 40 7).toInt from by first | assumption | omega), (show ((I 40 7).toInt - z62.toInt) < n2 from by omega)⟩
            · intro h33
              have h33 : x29.toInt = w.toInt := h33
              refine And.intro ⟨hR2c, hxT2c, (show 0 ≤ n.toInt from by first | assumption | omega), (show n.toInt ≤ 11 from by first | assumption | omega), (fun i hi => by have := c29_2 i hi; omega)⟩ ?_
              intro I38 L38 hq38
              have hq38 : xR I38 ∧ xT I38 ∧ f_fr [25, 26, 27] J2 I38 ∧ L38 = M2 := hq38
              obtain ⟨c38_0, c38_1, c38_2, eL38⟩ := hq38
              replace eL38 := eL38.symm
              subst eL38
              have hxO38 := f_dep_fr xO_dep hxO2c c38_2 rfl
              have hxS38 := f_dep_fr xS_dep hxS2c c38_2 rfl
              have hF38 := f_fr_tr hF2c c38_2 rfl
              refine And.intro ⟨c38_0, hxO38, c38_1, hxS38, (by first | assumption | exact Or.inl rfl | exact Or.inr rfl | (intro h; cases h)), (by first | assumption | exact Or.inl rfl | exact Or.inr rfl | (intro h; cases h))⟩ ?_
              intro x46 I46 L46 hq46
              have hq46 : xR I46 ∧ xO I46 ∧ xT I46 ∧ xS I46 ∧ f_fr [28, 31, 32, 33, 34, 35, 36, 37, 38, 39, 69] I38 I46 ∧ f_fr [29, 30, 70] M2 L46 ∧ (((Value.null) = Value.ref 69 → xK I46 L46)) ∧ ((I46 69 = I38 69 ∨ 0 < (I38 16 (I38 25 8).toInt.toNat).toInt)) ∧ ((x46.toInt = 0 ∨ x46.toInt = 1)) := hq46
              obtain ⟨c46_0, c46_1, c46_2, c46_3, c46_4, c46_5, c46_6, c46_7, c46_8⟩ := hq46
              have hF46 := f_fr_tr hF38 c46_4 rfl
              have hG46 := f_fr_tr hG2c c46_5 rfl
              refine And.intro ⟨(show 0 ≤ n.toInt from by first | assumption | omega), (show n.toInt ≤ 11 from by first | assumption | omega)⟩ ?_
              intro x54 I54 L54 hq54
              have hq54 : I54 = I46 ∧ L54 = L46 ∧ ((x54.toInt = 0 ∨ x54.toInt = 1)) := hq54
              obtain ⟨eI54, eL54, c54_2⟩ := hq54
              replace eI54 := eI54.symm
              subst eI54
              replace eL54 := eL54.symm
              subst eL54
              apply And.intro
              · intro h57
                have h57 : x46.toInt = x54.toInt := h57
                intro z62 q62 _ hq62 hl62 hu62
                have hq62 : z62.toInt = n.toInt + 1 + 4294967296 * q62 := hq62
                try have hz62 : z62.toInt = n.toInt + 1 := by omega
                exact ⟨z62, (by intro q9 h9; simp only [List.mem_cons, List.not_mem_nil, or_false] at h9; rcases h9 with h9 | h9 | h9 <;> subst h9 <;> repeat (first | exact List.mem_cons_self | apply List.mem_cons_of_mem)), rfl, c46_0, hF46, hG46, c46_1, c46_2, c46_3, (show 0 ≤ z62.toInt from by first | assumption | omega), (show z62.toInt ≤ (I 40 7).toInt from by first | assumption | omega), (show ((I 40 7).toInt - z62.toInt) < n2 from by omega)⟩
              · intro h57
                have h57 : ¬ x46.toInt = x54.toInt := h57
                exact ⟨Or.inl rfl, c46_0, c46_1, c46_2, c46_3, hF46, hG46, (show ((0 : Int) = 0 ∨ (0 : Int) = 1) from by first | assumption | omega | rfl)⟩
    refine f_wp_ok C f_cl flX0_ok fiX0_ok fjX0_ok (sn := none) (fun j h => by cases h) (cs := (f_cnl [(74, (2, 1, 2, pX2_highestWord, qX2_highestWord)), (78, (2, 0, 0, pX0_beginWith, qX0_beginWith)), (82, (2, 3, 9, pX10_search, qX10_search)), (88, (2, 3, 2, pX2_isRight, qX2_isRight))])) (cz := (fun _ => none)) (f_cnl_of (P := fun j S => f_cok pP l eP (f_rm 36) sP mP aP bP hP9 cP xY 80 a cy dC dI 3 _ _ (.invokevirtual j) true S) (List.forall_mem_cons.mpr ⟨f_cokV C (mX2_highestWord hinj) (ci := 2) rfl (List.forall_mem_cons.mpr ⟨(mlX0_ok _ (List.mem_of_getElem? (i := 5) rfl)), kc_X2_highestWord⟩) (by decide +kernel) ⟨Nat.le_of_ble_eq_true rfl, Nat.le_of_ble_eq_true rfl⟩, List.forall_mem_cons.mpr ⟨f_cokV C (mX0_beginWith hinj) (ci := 0) rfl (List.forall_mem_cons.mpr ⟨(mlX0_ok _ (List.mem_of_getElem? (i := 6) rfl)), kc_X0_beginWith⟩) (by decide +kernel) ⟨Nat.le_of_ble_eq_true rfl, Nat.le_of_ble_eq_true rfl⟩, List.forall_mem_cons.mpr ⟨f_cokV C (mX10_search hinj) (ci := 9) rfl (List.forall_mem_cons.mpr ⟨(mlX0_ok _ (List.mem_of_getElem? (i := 7) rfl)), kc_X10_search⟩) (by decide +kernel) ⟨Nat.le_of_ble_eq_true rfl, Nat.le_of_ble_eq_true rfl⟩, List.forall_mem_cons.mpr ⟨f_cokV C (mX2_isRight hinj) (ci := 2) rfl (List.forall_mem_cons.mpr ⟨(mlX0_ok _ (List.mem_of_getElem? (i := 8) rfl)), kc_X2_isRight⟩) (by decide +kernel) ⟨Nat.le_of_ble_eq_true rfl, Nat.le_of_ble_eq_true rfl⟩, fun _ h => absurd h List.not_mem_nil⟩⟩⟩⟩)) (fun j S h => by cases h) tX0_judgesRight_ok (cut := (f_cnl [(2, (fun (ls' : fLs) (st' : List Value) (I' : fM) (L' : fN) => ∃ n : Int32, (∀ q ∈ ([(2, .int n), (1, .int w), (0, .ref 78)] : fLs), q ∈ ls') ∧ st' = [] ∧ (xR I' ∧ f_fr [25, 26, 27, 28, 31, 32, 33, 34, 35, 36, 37, 38, 39, 69] I I' ∧ f_fr [29, 30, 70] L L' ∧ xO I' ∧ xT I' ∧ xS I' ∧ (0 ≤ n.toInt) ∧ (n.toInt ≤ (I 40 7).toInt) ∧ ((I 40 7).toInt - n.toInt) < 13)))])) (f_cnl_of (P := fun (tQ : Nat) (P : fLs → List Value → fM → fN → Prop) => ∀ ls' st' I' L', P ls' st' I' L' → f_W pP l eP (f_rm 36) sP mP aP bP hP9 cP xY 80 a cy dC dI 3 (f_K 3 (qX0_judgesRight [.ref 78, .int w] I L)) tQ ls' st' I' L') (List.forall_mem_cons.mpr ⟨(fun ls' st' I' L' h => by obtain ⟨n, hs, e1, h9⟩ := h; rw [e1]; exact f_W_sub hs (lp2 13 n I' L' h9)), fun _ h => absurd h List.not_mem_nil⟩)) 5 0 tX0_judgesRight tX0_judgesRight_ok _ _ _ _ ?_
    have r2_1 : 0 ≤ (I 40 7).toInt ∧ (I 40 7).toInt ≤ 12 := hR 40 7
    exact ⟨Int32.ofInt 0, (by intro q9 h9; simp only [List.mem_cons, List.not_mem_nil, or_false] at h9; rcases h9 with h9 | h9 | h9 <;> subst h9 <;> repeat (first | exact List.mem_cons_self | apply List.mem_cons_of_mem)), rfl, hR, hF0, hG0, hxO, hxT, hxS, (show 0 ≤ (0 : Int) from by first | assumption | omega), (show (0 : Int) ≤ (I 40 7).toInt from by first | assumption | omega), (show ((I 40 7).toInt - (0 : Int)) < 13 from by omega)⟩
def tX0_assign : List (Instr × Nat) := [(.iload_n 1, 1), (.aload_n 0, 1), (.getfield 13, 3), (.getfield 45, 3), (.if_icmp .ge 8, 3), (.iload_n 1, 1), (.iconst 4, 1), (.if_icmp .lt 13, 3), (.iload_n 2, 1), (.ifCond .ne 7, 3), (.iconst 1, 1), (.goto 4, 3), (.iconst 0, 1), (.ireturn, 1), (.aload_n 0, 1), (.getfield 13, 3), (.getfield 45, 3), (.iload_n 1, 1), (.isub, 1), (.iconst 1, 1), (.isub, 1), (.istore_n 3, 1), (.aload_n 0, 1), (.getfield 13, 3), (.getfield 56, 3), (.istore 4, 2), (.iconst 1, 1), (.iload 4, 2), (.invokestatic 59, 3), (.bipush 10, 2), (.invokestatic 65, 3), (.istore 5, 2), (.iconst 0, 1), (.istore 6, 2), (.iload 6, 2), (.iload 5, 2), (.if_icmp .ge 66, 3), (.iload 6, 2), (.iload 4, 2), (.if_icmp .ge 7, 3), (.iload_n 2, 1), (.goto 6, 3), (.iload_n 2, 1), (.iconst 1, 1), (.isub, 1), (.istore 7, 2), (.iload 7, 2), (.ifCond .lt 39, 3), (.iload 7, 2), (.iload_n 3, 1), (.if_icmp .gt 33, 3), (.aload_n 0, 1), (.getfield 9, 3), (.iload_n 1, 1), (.iload 6, 2), (.iastore, 1), (.aload_n 0, 1), (.iload_n 1, 1), (.invokevirtual 70, 3), (.ifCond .eq 17, 3), (.aload_n 0, 1), (.iload_n 1, 1), (.iconst 1, 1), (.iadd, 1), (.iload 7, 2), (.invokevirtual 53, 3), (.ifCond .eq 5, 3), (.iconst 1, 1), (.ireturn, 1), (.iinc 6 1, 3), (.goto (-67), 3), (.iconst 0, 1), (.ireturn, 1)]
theorem tX0_assign_ok : f_chk cX0_assign 0 tX0_assign = true := by decide +kernel
def pX0_assign (d : Nat) (av : List Value) (I : fM) (L : fN) : Prop := match av with
  | [.ref 78, .int w, .int s] => dpos d ∧ xR I ∧ xO I ∧ xT I ∧ xS I ∧ 0 ≤ w.toInt ∧ w.toInt ≤ 4 ∧ 4 - w.toInt < d
  | _ => False
def qX0_assign (av : List Value) (I : fM) (L : fN) (r : Value) (I' : fM) (L' : fN) : Prop := match av, r with
  | [.ref 78, .int w, .int s], .int x => xR I' ∧ xO I' ∧ xT I' ∧ xS I' ∧ f_fr [25, 26, 27, 28, 31, 32, 33, 34, 35, 36, 37, 38, 39, 69, 79] I I' ∧ f_fr [29, 30, 70] L L' ∧ (x.toInt = 0 ∨ x.toInt = 1)
  | _, _ => False
set_option maxHeartbeats 4000000 in
set_option maxRecDepth 100000 in
theorem mX0_assign {l : Launch} {a : Nat → Nat} {cy dC : Nat → ClassId} {dI : Nat → Nat → Nat} (hinj : ∀ i j, i < 80 → j < 80 → a i = a j → i = j) : ∀ d : Nat, f_Met (xE a) l xY 80 a cy dC dI yX0_assign cX0_assign 8 3 (d + 37) (pX0_assign d) qX0_assign := by
  intro d
  induction d with
  | zero =>
    intro av I L hp
    exfalso
    unfold pX0_assign at hp
    split at hp
    case h_2 => exact hp.elim
    case h_1 w s => exact hp.1.elim
  | succ d ih =>
  refine f_met_of (xE_c a) hinj xY_hi (by decide) (fun av I L h => by unfold pX0_assign at h; split at h <;> first | exact Nat.le_of_ble_eq_true rfl | exact h.elim) ?_
  intro pP eP sP mP aP bP hP9 cP C av I L hp
  unfold pX0_assign at hp
  split at hp
  case h_2 => exact hp.elim
  case h_1 w s =>
    obtain ⟨p0, hR, hxO, hxT, hxS, p5, p6, p7⟩ := hp
    have hF0 : f_fr [25, 26, 27, 28, 31, 32, 33, 34, 35, 36, 37, 38, 39, 69, 79] I I := f_fr_rf
    have hG0 : f_fr [29, 30, 70] L L := f_fr_rf
    have lp63 : ∀ (n63 : Nat), ∀ (wl : Int32) (kd : Int32) (mt : Int32) (n : Int32) (J63 : fM) (M63 : fN), xR J63 ∧ f_fr [25, 26, 27, 28, 31, 32, 33, 34, 35, 36, 37, 38, 39, 69, 79] I J63 ∧ f_fr [29, 30, 70] L M63 ∧ xO J63 ∧ xT J63 ∧ xS J63 ∧ (w.toInt ≤ 3) ∧ (0 ≤ n.toInt) ∧ (n.toInt ≤ 10) ∧ (mt.toInt ≤ 10) ∧ (10 - n.toInt) < n63 → f_W pP l eP (f_rm (d + 1 + 37)) sP mP aP bP hP9 cP xY 80 a cy dC dI 8 (f_K 3 (qX0_assign [.ref 78, .int w, .int s] I L)) 63 [(6, .int n), (5, .int mt), (4, .int kd), (3, .int wl), (2, .int s), (1, .int w), (0, .ref 78)] [] J63 M63 := by
      intro n63
      induction n63 with
      | zero =>
        intro wl kd mt n J63 M63 h9
        obtain ⟨hR63c, hF63c, hG63c, hxO63c, hxT63c, hxS63c, u63_1, u63_2, u63_3, u63_4, hm63⟩ := h9
        omega
      | succ n63 ih63 =>
        intro wl kd mt n J63 M63 h9
        obtain ⟨hR63c, hF63c, hG63c, hxO63c, hxT63c, hxS63c, u63_1, u63_2, u63_3, u63_4, hm63⟩ := h9
        refine f_wp_ok C f_cl flX0_ok fiX0_ok fjX0_ok (sn := none) (fun j h => by cases h) (cs := (f_cnl [(70, (2, 3, 0, pX0_judgesRight, qX0_judgesRight)), (53, (3, 3, 0, (pX0_assign d), qX0_assign))])) (cz := (f_cnl [(59, (2, 1, 0, pX8_howMany, qX8_howMany)), (65, (2, 1, 0, pJ9_min_7cf53, qJ9_min_7cf53))])) (f_cnl_of (P := fun j S => f_cok pP l eP (f_rm (d + 1 + 37)) sP mP aP bP hP9 cP xY 80 a cy dC dI 8 _ _ (.invokevirtual j) true S) (List.forall_mem_cons.mpr ⟨f_cokV C (mX0_judgesRight hinj) (ci := 0) rfl (List.forall_mem_cons.mpr ⟨(mlX0_ok _ (List.mem_of_getElem? (i := 4) rfl)), kc_X0_judgesRight⟩) (by decide +kernel) ⟨by simp only [f_rm]; omega, by simp only [f_rm]; omega⟩, List.forall_mem_cons.mpr ⟨f_cokV C ih (ci := 0) rfl (List.forall_mem_cons.mpr ⟨(mlX0_ok _ (List.mem_of_getElem? (i := 1) rfl)), kc_X0_assign⟩) (by decide +kernel) ⟨by simp only [f_rm]; omega, by simp only [f_rm]; omega⟩, fun _ h => absurd h List.not_mem_nil⟩⟩)) (f_cnl_of (P := fun j S => f_cok pP l eP (f_rm (d + 1 + 37)) sP mP aP bP hP9 cP xY 80 a cy dC dI 8 _ _ (.invokestatic j) false S) (List.forall_mem_cons.mpr ⟨f_cokS C (mX8_howMany hinj) (List.forall_mem_cons.mpr ⟨(mlX0_ok _ (List.mem_of_getElem? (i := 2) rfl)), kc_X8_howMany⟩) (by decide +kernel) ⟨by simp only [f_rm]; omega, by simp only [f_rm]; omega⟩, List.forall_mem_cons.mpr ⟨f_cokMin C (mlX0_ok _ (List.mem_of_getElem? (i := 3) rfl)) ⟨by simp only [f_rm]; omega, by simp only [f_rm]; omega⟩, fun _ h => absurd h List.not_mem_nil⟩⟩)) tX0_assign_ok (cut := (f_cnl [(63, (fun (ls' : fLs) (st' : List Value) (I' : fM) (L' : fN) => ∃ wl : Int32, ∃ kd : Int32, ∃ mt : Int32, ∃ n : Int32, (∀ q ∈ ([(6, .int n), (5, .int mt), (4, .int kd), (3, .int wl), (2, .int s), (1, .int w), (0, .ref 78)] : fLs), q ∈ ls') ∧ st' = [] ∧ (xR I' ∧ f_fr [25, 26, 27, 28, 31, 32, 33, 34, 35, 36, 37, 38, 39, 69, 79] I I' ∧ f_fr [29, 30, 70] L L' ∧ xO I' ∧ xT I' ∧ xS I' ∧ (w.toInt ≤ 3) ∧ (0 ≤ n.toInt) ∧ (n.toInt ≤ 10) ∧ (mt.toInt ≤ 10) ∧ (10 - n.toInt) < n63)))])) (f_cnl_of (P := fun (tQ : Nat) (P : fLs → List Value → fM → fN → Prop) => ∀ ls' st' I' L', P ls' st' I' L' → f_W pP l eP (f_rm (d + 1 + 37)) sP mP aP bP hP9 cP xY 80 a cy dC dI 8 (f_K 3 (qX0_assign [.ref 78, .int w, .int s] I L)) tQ ls' st' I' L') (List.forall_mem_cons.mpr ⟨(fun ls' st' I' L' h => by obtain ⟨wl, kd, mt, n, hs, e1, h9⟩ := h; rw [e1]; exact f_W_sub hs (ih63 wl kd mt n I' L' h9)), fun _ h => absurd h List.not_mem_nil⟩)) 36 63 (f_seek 63 0 tX0_assign) (f_seek_ok 63 0 tX0_assign tX0_assign_ok) _ _ _ _ ?_
        apply And.intro
        · intro h67
          have h67 : mt.toInt ≤ n.toInt := h67
          exact ⟨Or.inl rfl, hR63c, hxO63c, hxT63c, hxS63c, hF63c, hG63c, (show ((0 : Int) = 0 ∨ (0 : Int) = 1) from by first | assumption | omega | rfl)⟩
        · intro h67
          have h67 : n.toInt < mt.toInt := h67
          apply And.intro
          · intro h74
            have h74 : kd.toInt ≤ n.toInt := h74
            intro z83 q83 _ hq83 hl83 hu83
            have hq83 : z83.toInt = s.toInt - 1 + 4294967296 * q83 := hq83
            try have hz83 : z83.toInt = s.toInt - 1 := by omega
            apply And.intro
            · intro h88
              have h88 : z83.toInt < 0 := h88
              intro z127 q127 _ hq127 hl127 hu127
              have hq127 : z127.toInt = n.toInt + 1 + 4294967296 * q127 := hq127
              try have hz127 : z127.toInt = n.toInt + 1 := by omega
              exact ⟨wl, kd, mt, z127, (by intro q9 h9; simp only [List.mem_cons, List.not_mem_nil, or_false] at h9; rcases h9 with h9 | h9 | h9 | h9 | h9 | h9 | h9 <;> subst h9 <;> repeat (first | exact List.mem_cons_self | apply List.mem_cons_of_mem)), rfl, hR63c, hF63c, hG63c, hxO63c, hxT63c, hxS63c, (show w.toInt ≤ 3 from by first | assumption | omega), (show 0 ≤ z127.toInt from by first | assumption | omega), (show z127.toInt ≤ 10 from by first | assumption | omega), (show mt.toInt ≤ 10 from by first | assumption | omega), (show (10 - z127.toInt) < n63 from by omega)⟩
            · intro h88
              have h88 : 0 ≤ z83.toInt := h88
              apply And.intro
              · intro h94
                have h94 : wl.toInt < z83.toInt := h94
                intro z127 q127 _ hq127 hl127 hu127
                have hq127 : z127.toInt = n.toInt + 1 + 4294967296 * q127 := hq127
                try have hz127 : z127.toInt = n.toInt + 1 := by omega
                exact ⟨wl, kd, mt, z127, (by intro q9 h9; simp only [List.mem_cons, List.not_mem_nil, or_false] at h9; rcases h9 with h9 | h9 | h9 | h9 | h9 | h9 | h9 <;> subst h9 <;> repeat (first | exact List.mem_cons_self | apply List.mem_cons_of_mem)), rfl, hR63c, hF63c, hG63c, hxO63c, hxT63c, hxS63c, (show w.toInt ≤ 3 from by first | assumption | omega), (show 0 ≤ z127.toInt from by first | assumption | omega), (show z127.toInt ≤ 10 from by first | assumption | omega), (show mt.toInt ≤ 10 from by first | assumption | omega), (show (10 - z127.toInt) < n63 from by omega)⟩
              · intro h94
                have h94 : z83.toInt ≤ wl.toInt := h94
                refine And.intro (show f_in w 4 from ⟨show 0 ≤ w.toInt from by omega, show w.toInt < 4 from by omega⟩) ?_
                have hR104 := xR_a (k := 79) (j := w.toInt.toNat) (x := n) hR63c (show 0 ≤ n.toInt ∧ n.toInt ≤ 9 from ⟨by omega, by omega⟩)
                have hF104 := f_fr_up (k := 79) (r := upd (J63 79) (w.toInt.toNat) n) hF63c rfl
                have hxO104 := f_dep_up xO_dep (k := 79) (r := upd (J63 79) (w.toInt.toNat) n) hxO63c rfl
                have hxT104 := f_dep_up xT_dep (k := 79) (r := upd (J63 79) (w.toInt.toNat) n) hxT63c rfl
                have hxS104 := f_dep_up xS_dep (k := 79) (r := upd (J63 79) (w.toInt.toNat) n) hxS63c rfl
                refine And.intro ⟨hR104, hxO104, hxT104, hxS104, (show w.toInt ≤ 3 from by first | assumption | omega)⟩ ?_
                intro x107 I107 L107 hq107
                have hq107 : xR I107 ∧ xO I107 ∧ xT I107 ∧ xS I107 ∧ f_fr [25, 26, 27, 28, 31, 32, 33, 34, 35, 36, 37, 38, 39, 69] (va_up J63 79 (upd (J63 79) (w.toInt.toNat) n)) I107 ∧ f_fr [29, 30, 70] M63 L107 ∧ ((x107.toInt = 0 ∨ x107.toInt = 1)) := hq107
                obtain ⟨c107_0, c107_1, c107_2, c107_3, c107_4, c107_5, c107_6⟩ := hq107
                have hF107 := f_fr_tr hF104 c107_4 rfl
                have hG107 := f_fr_tr hG63c c107_5 rfl
                apply And.intro
                · intro h110
                  have h110 : x107.toInt = 0 := h110
                  intro z127 q127 _ hq127 hl127 hu127
                  have hq127 : z127.toInt = n.toInt + 1 + 4294967296 * q127 := hq127
                  try have hz127 : z127.toInt = n.toInt + 1 := by omega
                  exact ⟨wl, kd, mt, z127, (by intro q9 h9; simp only [List.mem_cons, List.not_mem_nil, or_false] at h9; rcases h9 with h9 | h9 | h9 | h9 | h9 | h9 | h9 <;> subst h9 <;> repeat (first | exact List.mem_cons_self | apply List.mem_cons_of_mem)), rfl, c107_0, hF107, hG107, c107_1, c107_2, c107_3, (show w.toInt ≤ 3 from by first | assumption | omega), (show 0 ≤ z127.toInt from by first | assumption | omega), (show z127.toInt ≤ 10 from by first | assumption | omega), (show mt.toInt ≤ 10 from by first | assumption | omega), (show (10 - z127.toInt) < n63 from by omega)⟩
                · intro h110
                  have h110 : ¬ x107.toInt = 0 := h110
                  intro z116 q116 _ hq116 hl116 hu116
                  have hq116 : z116.toInt = w.toInt + 1 + 4294967296 * q116 := hq116
                  try have hz116 : z116.toInt = w.toInt + 1 := by omega
                  refine And.intro ⟨(dpos_of (by omega)), c107_0, c107_1, c107_2, c107_3, (show 0 ≤ z116.toInt from by first | assumption | omega), (show z116.toInt ≤ 4 from by first | assumption | omega), (show 4 - z116.toInt < d from by first | assumption | omega)⟩ ?_
                  intro x119 I119 L119 hq119
                  have hq119 : xR I119 ∧ xO I119 ∧ xT I119 ∧ xS I119 ∧ f_fr [25, 26, 27, 28, 31, 32, 33, 34, 35, 36, 37, 38, 39, 69, 79] I107 I119 ∧ f_fr [29, 30, 70] L107 L119 ∧ ((x119.toInt = 0 ∨ x119.toInt = 1)) := hq119
                  obtain ⟨c119_0, c119_1, c119_2, c119_3, c119_4, c119_5, c119_6⟩ := hq119
                  have hF119 := f_fr_tr hF107 c119_4 rfl
                  have hG119 := f_fr_tr hG107 c119_5 rfl
                  apply And.intro
                  · intro h122
                    have h122 : x119.toInt = 0 := h122
                    intro z127 q127 _ hq127 hl127 hu127
                    have hq127 : z127.toInt = n.toInt + 1 + 4294967296 * q127 := hq127
                    try have hz127 : z127.toInt = n.toInt + 1 := by omega
                    exact ⟨wl, kd, mt, z127, (by intro q9 h9; simp only [List.mem_cons, List.not_mem_nil, or_false] at h9; rcases h9 with h9 | h9 | h9 | h9 | h9 | h9 | h9 <;> subst h9 <;> repeat (first | exact List.mem_cons_self | apply List.mem_cons_of_mem)), rfl, c119_0, hF119, hG119, c119_1, c119_2, c119_3, (show w.toInt ≤ 3 from by first | assumption | omega), (show 0 ≤ z127.toInt from by first | assumption | omega), (show z127.toInt ≤ 10 from by first | assumption | omega), (show mt.toInt ≤ 10 from by first | assumption | omega), (show (10 - z127.toInt) < n63 from by omega)⟩
                  · intro h122
                    have h122 : ¬ x119.toInt = 0 := h122
                    exact ⟨Or.inr rfl, c119_0, c119_1, c119_2, c119_3, hF119, hG119, (show ((1 : Int) = 0 ∨ (1 : Int) = 1) from by first | assumption | omega | rfl)⟩
          · intro h74
            have h74 : n.toInt < kd.toInt := h74
            apply And.intro
            · intro h88
              have h88 : s.toInt < 0 := h88
              intro z127 q127 _ hq127 hl127 hu127
              have hq127 : z127.toInt = n.toInt + 1 + 4294967296 * q127 := hq127
              try have hz127 : z127.toInt = n.toInt + 1 := by omega
              exact ⟨wl, kd, mt, z127, (by intro q9 h9; simp only [List.mem_cons, List.not_mem_nil, or_false] at h9; rcases h9 with h9 | h9 | h9 | h9 | h9 | h9 | h9 <;> subst h9 <;> repeat (first | exact List.mem_cons_self | apply List.mem_cons_of_mem)), rfl, hR63c, hF63c, hG63c, hxO63c, hxT63c, hxS63c, (show w.toInt ≤ 3 from by first | assumption | omega), (show 0 ≤ z127.toInt from by first | assumption | omega), (show z127.toInt ≤ 10 from by first | assumption | omega), (show mt.toInt ≤ 10 from by first | assumption | omega), (show (10 - z127.toInt) < n63 from by omega)⟩
            · intro h88
              have h88 : 0 ≤ s.toInt := h88
              apply And.intro
              · intro h94
                have h94 : wl.toInt < s.toInt := h94
                intro z127 q127 _ hq127 hl127 hu127
                have hq127 : z127.toInt = n.toInt + 1 + 4294967296 * q127 := hq127
                try have hz127 : z127.toInt = n.toInt + 1 := by omega
                exact ⟨wl, kd, mt, z127, (by intro q9 h9; simp only [List.mem_cons, List.not_mem_nil, or_false] at h9; rcases h9 with h9 | h9 | h9 | h9 | h9 | h9 | h9 <;> subst h9 <;> repeat (first | exact List.mem_cons_self | apply List.mem_cons_of_mem)), rfl, hR63c, hF63c, hG63c, hxO63c, hxT63c, hxS63c, (show w.toInt ≤ 3 from by first | assumption | omega), (show 0 ≤ z127.toInt from by first | assumption | omega), (show z127.toInt ≤ 10 from by first | assumption | omega), (show mt.toInt ≤ 10 from by first | assumption | omega), (show (10 - z127.toInt) < n63 from by omega)⟩
              · intro h94
                have h94 : s.toInt ≤ wl.toInt := h94
                refine And.intro (show f_in w 4 from ⟨show 0 ≤ w.toInt from by omega, show w.toInt < 4 from by omega⟩) ?_
                have hR104 := xR_a (k := 79) (j := w.toInt.toNat) (x := n) hR63c (show 0 ≤ n.toInt ∧ n.toInt ≤ 9 from ⟨by omega, by omega⟩)
                have hF104 := f_fr_up (k := 79) (r := upd (J63 79) (w.toInt.toNat) n) hF63c rfl
                have hxO104 := f_dep_up xO_dep (k := 79) (r := upd (J63 79) (w.toInt.toNat) n) hxO63c rfl
                have hxT104 := f_dep_up xT_dep (k := 79) (r := upd (J63 79) (w.toInt.toNat) n) hxT63c rfl
                have hxS104 := f_dep_up xS_dep (k := 79) (r := upd (J63 79) (w.toInt.toNat) n) hxS63c rfl
                refine And.intro ⟨hR104, hxO104, hxT104, hxS104, (show w.toInt ≤ 3 from by first | assumption | omega)⟩ ?_
                intro x107 I107 L107 hq107
                have hq107 : xR I107 ∧ xO I107 ∧ xT I107 ∧ xS I107 ∧ f_fr [25, 26, 27, 28, 31, 32, 33, 34, 35, 36, 37, 38, 39, 69] (va_up J63 79 (upd (J63 79) (w.toInt.toNat) n)) I107 ∧ f_fr [29, 30, 70] M63 L107 ∧ ((x107.toInt = 0 ∨ x107.toInt = 1)) := hq107
                obtain ⟨c107_0, c107_1, c107_2, c107_3, c107_4, c107_5, c107_6⟩ := hq107
                have hF107 := f_fr_tr hF104 c107_4 rfl
                have hG107 := f_fr_tr hG63c c107_5 rfl
                apply And.intro
                · intro h110
                  have h110 : x107.toInt = 0 := h110
                  intro z127 q127 _ hq127 hl127 hu127
                  have hq127 : z127.toInt = n.toInt + 1 + 4294967296 * q127 := hq127
                  try have hz127 : z127.toInt = n.toInt + 1 := by omega
                  exact ⟨wl, kd, mt, z127, (by intro q9 h9; simp only [List.mem_cons, List.not_mem_nil, or_false] at h9; rcases h9 with h9 | h9 | h9 | h9 | h9 | h9 | h9 <;> subst h9 <;> repeat (first | exact List.mem_cons_self | apply List.mem_cons_of_mem)), rfl, c107_0, hF107, hG107, c107_1, c107_2, c107_3, (show w.toInt ≤ 3 from by first | assumption | omega), (show 0 ≤ z127.toInt from by first | assumption | omega), (show z127.toInt ≤ 10 from by first | assumption | omega), (show mt.toInt ≤ 10 from by first | assumption | omega), (show (10 - z127.toInt) < n63 from by omega)⟩
                · intro h110
                  have h110 : ¬ x107.toInt = 0 := h110
                  intro z116 q116 _ hq116 hl116 hu116
                  have hq116 : z116.toInt = w.toInt + 1 + 4294967296 * q116 := hq116
                  try have hz116 : z116.toInt = w.toInt + 1 := by omega
                  refine And.intro ⟨(dpos_of (by omega)), c107_0, c107_1, c107_2, c107_3, (show 0 ≤ z116.toInt from by first | assumption | omega), (show z116.toInt ≤ 4 from by first | assumption | omega), (show 4 - z116.toInt < d from by first | assumption | omega)⟩ ?_
                  intro x119 I119 L119 hq119
                  have hq119 : xR I119 ∧ xO I119 ∧ xT I119 ∧ xS I119 ∧ f_fr [25, 26, 27, 28, 31, 32, 33, 34, 35, 36, 37, 38, 39, 69, 79] I107 I119 ∧ f_fr [29, 30, 70] L107 L119 ∧ ((x119.toInt = 0 ∨ x119.toInt = 1)) := hq119
                  obtain ⟨c119_0, c119_1, c119_2, c119_3, c119_4, c119_5, c119_6⟩ := hq119
                  have hF119 := f_fr_tr hF107 c119_4 rfl
                  have hG119 := f_fr_tr hG107 c119_5 rfl
                  apply And.intro
                  · intro h122
                    have h122 : x119.toInt = 0 := h122
                    intro z127 q127 _ hq127 hl127 hu127
                    have hq127 : z127.toInt = n.toInt + 1 + 4294967296 * q127 := hq127
                    try have hz127 : z127.toInt = n.toInt + 1 := by omega
                    exact ⟨wl, kd, mt, z127, (by intro q9 h9; simp only [List.mem_cons, List.not_mem_nil, or_false] at h9; rcases h9 with h9 | h9 | h9 | h9 | h9 | h9 | h9 <;> subst h9 <;> repeat (first | exact List.mem_cons_self | apply List.mem_cons_of_mem)), rfl, c119_0, hF119, hG119, c119_1, c119_2, c119_3, (show w.toInt ≤ 3 from by first | assumption | omega), (show 0 ≤ z127.toInt from by first | assumption | omega), (show z127.toInt ≤ 10 from by first | assumption | omega), (show mt.toInt ≤ 10 from by first | assumption | omega), (show (10 - z127.toInt) < n63 from by omega)⟩
                  · intro h122
                    have h122 : ¬ x119.toInt = 0 := h122
                    exact ⟨Or.inr rfl, c119_0, c119_1, c119_2, c119_3, hF119, hG119, (show ((1 : Int) = 0 ∨ (1 : Int) = 1) from by first | assumption | omega | rfl)⟩
    refine f_wp_ok C f_cl flX0_ok fiX0_ok fjX0_ok (sn := none) (fun j h => by cases h) (cs := (f_cnl [(70, (2, 3, 0, pX0_judgesRight, qX0_judgesRight)), (53, (3, 3, 0, (pX0_assign d), qX0_assign))])) (cz := (f_cnl [(59, (2, 1, 0, pX8_howMany, qX8_howMany)), (65, (2, 1, 0, pJ9_min_7cf53, qJ9_min_7cf53))])) (f_cnl_of (P := fun j S => f_cok pP l eP (f_rm (d + 1 + 37)) sP mP aP bP hP9 cP xY 80 a cy dC dI 8 _ _ (.invokevirtual j) true S) (List.forall_mem_cons.mpr ⟨f_cokV C (mX0_judgesRight hinj) (ci := 0) rfl (List.forall_mem_cons.mpr ⟨(mlX0_ok _ (List.mem_of_getElem? (i := 4) rfl)), kc_X0_judgesRight⟩) (by decide +kernel) ⟨by simp only [f_rm]; omega, by simp only [f_rm]; omega⟩, List.forall_mem_cons.mpr ⟨f_cokV C ih (ci := 0) rfl (List.forall_mem_cons.mpr ⟨(mlX0_ok _ (List.mem_of_getElem? (i := 1) rfl)), kc_X0_assign⟩) (by decide +kernel) ⟨by simp only [f_rm]; omega, by simp only [f_rm]; omega⟩, fun _ h => absurd h List.not_mem_nil⟩⟩)) (f_cnl_of (P := fun j S => f_cok pP l eP (f_rm (d + 1 + 37)) sP mP aP bP hP9 cP xY 80 a cy dC dI 8 _ _ (.invokestatic j) false S) (List.forall_mem_cons.mpr ⟨f_cokS C (mX8_howMany hinj) (List.forall_mem_cons.mpr ⟨(mlX0_ok _ (List.mem_of_getElem? (i := 2) rfl)), kc_X8_howMany⟩) (by decide +kernel) ⟨by simp only [f_rm]; omega, by simp only [f_rm]; omega⟩, List.forall_mem_cons.mpr ⟨f_cokMin C (mlX0_ok _ (List.mem_of_getElem? (i := 3) rfl)) ⟨by simp only [f_rm]; omega, by simp only [f_rm]; omega⟩, fun _ h => absurd h List.not_mem_nil⟩⟩)) tX0_assign_ok (cut := (f_cnl [(63, (fun (ls' : fLs) (st' : List Value) (I' : fM) (L' : fN) => ∃ wl : Int32, ∃ kd : Int32, ∃ mt : Int32, ∃ n : Int32, (∀ q ∈ ([(6, .int n), (5, .int mt), (4, .int kd), (3, .int wl), (2, .int s), (1, .int w), (0, .ref 78)] : fLs), q ∈ ls') ∧ st' = [] ∧ (xR I' ∧ f_fr [25, 26, 27, 28, 31, 32, 33, 34, 35, 36, 37, 38, 39, 69, 79] I I' ∧ f_fr [29, 30, 70] L L' ∧ xO I' ∧ xT I' ∧ xS I' ∧ (w.toInt ≤ 3) ∧ (0 ≤ n.toInt) ∧ (n.toInt ≤ 10) ∧ (mt.toInt ≤ 10) ∧ (10 - n.toInt) < 11)))])) (f_cnl_of (P := fun (tQ : Nat) (P : fLs → List Value → fM → fN → Prop) => ∀ ls' st' I' L', P ls' st' I' L' → f_W pP l eP (f_rm (d + 1 + 37)) sP mP aP bP hP9 cP xY 80 a cy dC dI 8 (f_K 3 (qX0_assign [.ref 78, .int w, .int s] I L)) tQ ls' st' I' L') (List.forall_mem_cons.mpr ⟨(fun ls' st' I' L' h => by obtain ⟨wl, kd, mt, n, hs, e1, h9⟩ := h; rw [e1]; exact f_W_sub hs (lp63 11 wl kd mt n I' L' h9)), fun _ h => absurd h List.not_mem_nil⟩)) 31 0 tX0_assign tX0_assign_ok _ _ _ _ ?_
    have r5_1 : 0 ≤ (I 15 10).toInt ∧ (I 15 10).toInt ≤ 12 := hR 15 10
    apply And.intro
    · intro h8
      have h8 : (I 15 10).toInt ≤ w.toInt := h8
      apply And.intro
      · intro h17
        have h17 : ¬ s.toInt = 0 := h17
        exact ⟨Or.inl rfl, hR, hxO, hxT, hxS, hF0, hG0, (show ((0 : Int) = 0 ∨ (0 : Int) = 1) from by first | assumption | omega | rfl)⟩
      · intro h17
        have h17 : s.toInt = 0 := h17
        exact ⟨Or.inr rfl, hR, hxO, hxT, hxS, hF0, hG0, (show ((1 : Int) = 0 ∨ (1 : Int) = 1) from by first | assumption | omega | rfl)⟩
    · intro h8
      have h8 : w.toInt < (I 15 10).toInt := h8
      apply And.intro
      · intro h13
        have h13 : w.toInt < 4 := h13
        intro z34 q34 _ hq34 hl34 hu34
        have hq34 : z34.toInt = (I 15 10).toInt - w.toInt + 4294967296 * q34 := hq34
        try have hz34 : z34.toInt = (I 15 10).toInt - w.toInt := by omega
        intro z36 q36 _ hq36 hl36 hu36
        have hq36 : z36.toInt = z34.toInt - 1 + 4294967296 * q36 := hq36
        try have hz36 : z36.toInt = z34.toInt - 1 := by omega
        have r42_2 : 0 ≤ (I 15 9).toInt ∧ (I 15 9).toInt ≤ 5 := hR 15 9
        refine And.intro ⟨(show 0 ≤ (I 15 9).toInt from by first | assumption | omega), (show (I 15 9).toInt ≤ 5 from by first | assumption | omega)⟩ ?_
        intro x50 I50 L50 hq50
        have hq50 : I50 = I ∧ L50 = L ∧ (((1 : Int) = 0 → x50.toInt = (I 15 9).toInt)) ∧ (((1 : Int) = 1 → x50.toInt = (I 15 9).toInt + 2 * ((I 15 9).toInt * (I 15 9).toInt))) ∧ ((¬ (1 : Int) = 0 → ¬ (1 : Int) = 1 → x50.toInt = (I 15 9).toInt + 2 * ((I 15 9).toInt * (I 15 9).toInt) + 8 * ((I 15 9).toInt * (I 15 9).toInt * (I 15 9).toInt))) := hq50
        obtain ⟨eI50, eL50, c50_2, c50_3, c50_4⟩ := hq50
        replace eI50 := eI50.symm
        subst eI50
        replace eL50 := eL50.symm
        subst eL50
        refine And.intro trivial ?_
        intro x55 I55 L55 hq55
        have hq55 : I55 = I ∧ L55 = L ∧ ((x55 = x50 ∨ x55 = (Int32.ofInt 10))) ∧ x55.toInt ≤ x50.toInt ∧ x55.toInt ≤ (10 : Int) := hq55
        obtain ⟨eI55, eL55, c55_2, c55_3, c55_4⟩ := hq55
        replace eI55 := eI55.symm
        subst eI55
        replace eL55 := eL55.symm
        subst eL55
        exact ⟨z36, I 15 9, x55, Int32.ofInt 0, (by intro q9 h9; simp only [List.mem_cons, List.not_mem_nil, or_false] at h9; rcases h9 with h9 | h9 | h9 | h9 | h9 | h9 | h9 <;> subst h9 <;> repeat (first | exact List.mem_cons_self | apply List.mem_cons_of_mem)), rfl, hR, hF0, hG0, hxO, hxT, hxS, (show w.toInt ≤ 3 from by first | assumption | omega), (show 0 ≤ (0 : Int) from by first | assumption | omega), (show (0 : Int) ≤ 10 from by first | assumption | omega), (show x55.toInt ≤ 10 from by first | assumption | omega), (show (10 - (0 : Int)) < 11 from by omega)⟩
      · intro h13
        have h13 : 4 ≤ w.toInt := h13
        apply And.intro
        · intro h17
          have h17 : ¬ s.toInt = 0 := h17
          exact ⟨Or.inl rfl, hR, hxO, hxT, hxS, hF0, hG0, (show ((0 : Int) = 0 ∨ (0 : Int) = 1) from by first | assumption | omega | rfl)⟩
        · intro h17
          have h17 : s.toInt = 0 := h17
          exact ⟨Or.inr rfl, hR, hxO, hxT, hxS, hF0, hG0, (show ((1 : Int) = 0 ∨ (1 : Int) = 1) from by first | assumption | omega | rfl)⟩
-- callers take X0_assign at depth 5
def tX0_find : List (Instr × Nat) := [(.iconst 0, 1), (.istore_n 2, 1), (.iconst 0, 1), (.istore_n 3, 1), (.iload_n 3, 1), (.aload_n 0, 1), (.getfield 21, 3), (.getfield 29, 3), (.if_icmp .ge 27, 3), (.aload_n 0, 1), (.getfield 21, 3), (.iload_n 3, 1), (.iload_n 1, 1), (.invokevirtual 35, 3), (.ifCond .eq 9, 3), (.iload_n 2, 1), (.iconst 1, 1), (.iload_n 3, 1), (.ishl, 1), (.ior, 1), (.istore_n 2, 1), (.iinc 3 1, 3), (.goto (-32), 3), (.aload_n 0, 1), (.getfield 25, 3), (.ifCond .eq 12, 3), (.iload_n 2, 1), (.aload_n 0, 1), (.getfield 39, 3), (.if_icmp .ne 4, 3), (.return_, 1), (.aload_n 0, 1), (.iconst 1, 1), (.putfield 25, 3), (.aload_n 0, 1), (.iload_n 2, 1), (.putfield 39, 3), (.aload_n 0, 1), (.iconst 0, 1), (.putfield 42, 3), (.iconst 0, 1), (.istore_n 3, 1), (.iload_n 3, 1), (.aload_n 0, 1), (.getfield 13, 3), (.getfield 45, 3), (.if_icmp .gt 36, 3), (.iload_n 3, 1), (.iconst 4, 1), (.if_icmp .gt 31, 3), (.aload_n 0, 1), (.getfield 42, 3), (.ifCond .ne 24, 3), (.aload_n 0, 1), (.iload_n 3, 1), (.putfield 50, 3), (.aload_n 0, 1), (.aload_n 0, 1), (.iconst 0, 1), (.iload_n 3, 1), (.invokevirtual 53, 3), (.putfield 42, 3), (.iinc 3 1, 3), (.goto (-41), 3), (.return_, 1)]
theorem tX0_find_ok : f_chk cX0_find 0 tX0_find = true := by decide +kernel
def pX0_find (av : List Value) (I : fM) (L : fN) : Prop := match av with
  | [.ref 78, .int k] => xR I ∧ xO I ∧ xT I ∧ xS I
  | _ => False
def qX0_find (av : List Value) (I : fM) (L : fN) (r : Value) (I' : fM) (L' : fN) : Prop := match av, r with
  | [.ref 78, .int k], .null => xR I' ∧ xO I' ∧ xT I' ∧ xS I' ∧ f_fr [25, 26, 27, 28, 31, 32, 33, 34, 35, 36, 37, 38, 39, 69, 78, 79] I I' ∧ f_fr [29, 30, 70] L L'
  | _, _ => False
set_option maxHeartbeats 4000000 in
set_option maxRecDepth 100000 in
theorem mX0_find {l : Launch} {a : Nat → Nat} {cy dC : Nat → ClassId} {dI : Nat → Nat → Nat} (hinj : ∀ i j, i < 80 → j < 80 → a i = a j → i = j) : f_Met (xE a) l xY 80 a cy dC dI yX0_find cX0_find 4 0 43 pX0_find qX0_find := by
  refine f_met_of (xE_c a) hinj xY_hi (by decide) (fun av I L h => by unfold pX0_find at h; split at h <;> first | exact Nat.le_of_ble_eq_true rfl | exact h.elim) ?_
  intro pP eP sP mP aP bP hP9 cP C av I L hp
  unfold pX0_find at hp
  split at hp
  case h_2 => exact hp.elim
  case h_1 k =>
    obtain ⟨hR, hxO, hxT, hxS⟩ := hp
    have he : 0 ≤ (I 40 7).toInt ∧ (I 40 7).toInt ≤ 12 := hR 40 7
    have hF0 : f_fr [25, 26, 27, 28, 31, 32, 33, 34, 35, 36, 37, 38, 39, 69, 78, 79] I I := f_fr_rf
    have hG0 : f_fr [29, 30, 70] L L := f_fr_rf
    have lp72 : ∀ (n72 : Nat), ∀ (n : Int32) (J72 : fM) (M72 : fN), xR J72 ∧ f_fr [25, 26, 27, 28, 31, 32, 33, 34, 35, 36, 37, 38, 39, 69, 78, 79] I J72 ∧ f_fr [29, 30, 70] L M72 ∧ xO J72 ∧ xT J72 ∧ xS J72 ∧ (0 ≤ n.toInt) ∧ (n.toInt ≤ 5) ∧ (5 - n.toInt) < n72 → f_W pP l eP (f_rm 43) sP mP aP bP hP9 cP xY 80 a cy dC dI 4 (f_K 0 (qX0_find [.ref 78, .int k] I L)) 72 [(3, .int n), (1, .int k), (0, .ref 78)] [] J72 M72 := by
      intro n72
      induction n72 with
      | zero =>
        intro n J72 M72 h9
        obtain ⟨hR72c, hF72c, hG72c, hxO72c, hxT72c, hxS72c, u72_1, u72_2, hm72⟩ := h9
        omega
      | succ n72 ih72 =>
        intro n J72 M72 h9
        obtain ⟨hR72c, hF72c, hG72c, hxO72c, hxT72c, hxS72c, u72_1, u72_2, hm72⟩ := h9
        refine f_wp_ok C f_cl flX0_ok fiX0_ok fjX0_ok (sn := none) (fun j h => by cases h) (cs := (f_cnl [(35, (3, 3, 2, pX2_counts, qX2_counts)), (53, (3, 3, 0, (pX0_assign 5), qX0_assign))])) (cz := (fun _ => none)) (f_cnl_of (P := fun j S => f_cok pP l eP (f_rm 43) sP mP aP bP hP9 cP xY 80 a cy dC dI 4 _ _ (.invokevirtual j) true S) (List.forall_mem_cons.mpr ⟨f_cokV C (mX2_counts hinj) (ci := 2) rfl (List.forall_mem_cons.mpr ⟨(mlX0_ok _ (List.mem_of_getElem? (i := 0) rfl)), kc_X2_counts⟩) (by decide +kernel) ⟨Nat.le_of_ble_eq_true rfl, Nat.le_of_ble_eq_true rfl⟩, List.forall_mem_cons.mpr ⟨f_cokV C (mX0_assign hinj 5) (ci := 0) rfl (List.forall_mem_cons.mpr ⟨(mlX0_ok _ (List.mem_of_getElem? (i := 1) rfl)), kc_X0_assign⟩) (by decide +kernel) ⟨Nat.le_of_ble_eq_true rfl, Nat.le_of_ble_eq_true rfl⟩, fun _ h => absurd h List.not_mem_nil⟩⟩)) (fun j S h => by cases h) tX0_find_ok (cut := (f_cnl [(72, (fun (ls' : fLs) (st' : List Value) (I' : fM) (L' : fN) => ∃ n : Int32, (∀ q ∈ ([(3, .int n), (1, .int k), (0, .ref 78)] : fLs), q ∈ ls') ∧ st' = [] ∧ (xR I' ∧ f_fr [25, 26, 27, 28, 31, 32, 33, 34, 35, 36, 37, 38, 39, 69, 78, 79] I I' ∧ f_fr [29, 30, 70] L L' ∧ xO I' ∧ xT I' ∧ xS I' ∧ (0 ≤ n.toInt) ∧ (n.toInt ≤ 5) ∧ (5 - n.toInt) < n72)))])) (f_cnl_of (P := fun (tQ : Nat) (P : fLs → List Value → fM → fN → Prop) => ∀ ls' st' I' L', P ls' st' I' L' → f_W pP l eP (f_rm 43) sP mP aP bP hP9 cP xY 80 a cy dC dI 4 (f_K 0 (qX0_find [.ref 78, .int k] I L)) tQ ls' st' I' L') (List.forall_mem_cons.mpr ⟨(fun ls' st' I' L' h => by obtain ⟨n, hs, e1, h9⟩ := h; rw [e1]; exact f_W_sub hs (ih72 n I' L' h9)), fun _ h => absurd h List.not_mem_nil⟩)) 25 72 (f_seek 72 0 tX0_find) (f_seek_ok 72 0 tX0_find tX0_find_ok) _ _ _ _ ?_
        have r77_1 : 0 ≤ (J72 15 10).toInt ∧ (J72 15 10).toInt ≤ 12 := hR72c 15 10
        have e77_2 : (J72 15 10).toInt = (I 15 10).toInt := congrArg Int32.toInt (congrFun (hF72c 15 rfl) 10)
        apply And.intro
        · intro h80
          have h80 : (J72 15 10).toInt < n.toInt := h80
          exact ⟨hR72c, hxO72c, hxT72c, hxS72c, hF72c, hG72c⟩
        · intro h80
          have h80 : n.toInt ≤ (J72 15 10).toInt := h80
          apply And.intro
          · intro h85
            have h85 : 4 < n.toInt := h85
            exact ⟨hR72c, hxO72c, hxT72c, hxS72c, hF72c, hG72c⟩
          · intro h85
            have h85 : n.toInt ≤ 4 := h85
            apply And.intro
            · intro h92
              have h92 : ¬ (J72 78 6).toInt = 0 := h92
              exact ⟨hR72c, hxO72c, hxT72c, hxS72c, hF72c, hG72c⟩
            · intro h92
              have h92 : (J72 78 6).toInt = 0 := h92
              have hR97 := xR_f (k := 78) (j := 7) (x := n) hR72c (by exact f_rng _)
              have hF97 := f_fr_up (k := 78) (r := va_up (J72 78) 7 n) hF72c rfl
              have hxO97 := f_dep_up xO_dep (k := 78) (r := va_up (J72 78) 7 n) hxO72c rfl
              have hxT97 := f_dep_up xT_dep (k := 78) (r := va_up (J72 78) 7 n) hxT72c rfl
              have hxS97 := f_dep_up xS_dep (k := 78) (r := va_up (J72 78) 7 n) hxS72c rfl
              refine And.intro ⟨(dpos_of (by omega)), hR97, hxO97, hxT97, hxS97, (show 0 ≤ (0 : Int) from by first | assumption | omega), (show (0 : Int) ≤ 4 from by first | assumption | omega), (show 4 - (0 : Int) < 5 from by first | assumption | omega)⟩ ?_
              intro x104 I104 L104 hq104
              have hq104 : xR I104 ∧ xO I104 ∧ xT I104 ∧ xS I104 ∧ f_fr [25, 26, 27, 28, 31, 32, 33, 34, 35, 36, 37, 38, 39, 69, 79] (va_up J72 78 (va_up (J72 78) 7 n)) I104 ∧ f_fr [29, 30, 70] M72 L104 ∧ ((x104.toInt = 0 ∨ x104.toInt = 1)) := hq104
              obtain ⟨c104_0, c104_1, c104_2, c104_3, c104_4, c104_5, c104_6⟩ := hq104
              have hF104 := f_fr_tr hF97 c104_4 rfl
              have hG104 := f_fr_tr hG72c c104_5 rfl
              refine And.intro (f_b01 (show x104.toInt = 0 ∨ x104.toInt = 1 from by omega)) ?_
              have hR107 := xR_f (k := 78) (j := 6) (x := x104) c104_0 (by exact f_rng _)
              have hF107 := f_fr_up (k := 78) (r := va_up (I104 78) 6 x104) hF104 rfl
              have hxO107 := f_dep_up xO_dep (k := 78) (r := va_up (I104 78) 6 x104) c104_1 rfl
              have hxT107 := f_dep_up xT_dep (k := 78) (r := va_up (I104 78) 6 x104) c104_2 rfl
              have hxS107 := f_dep_up xS_dep (k := 78) (r := va_up (I104 78) 6 x104) c104_3 rfl
              intro z110 q110 _ hq110 hl110 hu110
              have hq110 : z110.toInt = n.toInt + 1 + 4294967296 * q110 := hq110
              try have hz110 : z110.toInt = n.toInt + 1 := by omega
              exact ⟨z110, (by intro q9 h9; simp only [List.mem_cons, List.not_mem_nil, or_false] at h9; rcases h9 with h9 | h9 | h9 <;> subst h9 <;> repeat (first | exact List.mem_cons_self | apply List.mem_cons_of_mem)), rfl, hR107, hF107, hG104, hxO107, hxT107, hxS107, (show 0 ≤ z110.toInt from by first | assumption | omega), (show z110.toInt ≤ 5 from by first | assumption | omega), (show (5 - z110.toInt) < n72 from by omega)⟩
    have lp4 : ∀ (n4 : Nat), ∀ (e : Int32) (n : Int32), (0 ≤ n.toInt) ∧ (n.toInt ≤ (I 40 7).toInt) ∧ ((I 40 7).toInt - n.toInt) < n4 → f_W pP l eP (f_rm 43) sP mP aP bP hP9 cP xY 80 a cy dC dI 4 (f_K 0 (qX0_find [.ref 78, .int k] I L)) 4 [(3, .int n), (2, .int e), (1, .int k), (0, .ref 78)] [] I L := by
      intro n4
      induction n4 with
      | zero =>
        intro e n h9
        obtain ⟨u4_1, u4_2, hm4⟩ := h9
        omega
      | succ n4 ih4 =>
        intro e n h9
        obtain ⟨u4_1, u4_2, hm4⟩ := h9
        refine f_wp_ok C f_cl flX0_ok fiX0_ok fjX0_ok (sn := none) (fun j h => by cases h) (cs := (f_cnl [(35, (3, 3, 2, pX2_counts, qX2_counts)), (53, (3, 3, 0, (pX0_assign 5), qX0_assign))])) (cz := (fun _ => none)) (f_cnl_of (P := fun j S => f_cok pP l eP (f_rm 43) sP mP aP bP hP9 cP xY 80 a cy dC dI 4 _ _ (.invokevirtual j) true S) (List.forall_mem_cons.mpr ⟨f_cokV C (mX2_counts hinj) (ci := 2) rfl (List.forall_mem_cons.mpr ⟨(mlX0_ok _ (List.mem_of_getElem? (i := 0) rfl)), kc_X2_counts⟩) (by decide +kernel) ⟨Nat.le_of_ble_eq_true rfl, Nat.le_of_ble_eq_true rfl⟩, List.forall_mem_cons.mpr ⟨f_cokV C (mX0_assign hinj 5) (ci := 0) rfl (List.forall_mem_cons.mpr ⟨(mlX0_ok _ (List.mem_of_getElem? (i := 1) rfl)), kc_X0_assign⟩) (by decide +kernel) ⟨Nat.le_of_ble_eq_true rfl, Nat.le_of_ble_eq_true rfl⟩, fun _ h => absurd h List.not_mem_nil⟩⟩)) (fun j S h => by cases h) tX0_find_ok (cut := (f_cnl [(4, (fun (ls' : fLs) (st' : List Value) (I' : fM) (L' : fN) => ∃ e : Int32, ∃ n : Int32, (∀ q ∈ ([(3, .int n), (2, .int e), (1, .int k), (0, .ref 78)] : fLs), q ∈ ls') ∧ st' = [] ∧ I' = I ∧ L' = L ∧ ((0 ≤ n.toInt) ∧ (n.toInt ≤ (I 40 7).toInt) ∧ ((I 40 7).toInt - n.toInt) < n4))), (72, (fun (ls' : fLs) (st' : List Value) (I' : fM) (L' : fN) => ∃ n : Int32, (∀ q ∈ ([(3, .int n), (1, .int k), (0, .ref 78)] : fLs), q ∈ ls') ∧ st' = [] ∧ (xR I' ∧ f_fr [25, 26, 27, 28, 31, 32, 33, 34, 35, 36, 37, 38, 39, 69, 78, 79] I I' ∧ f_fr [29, 30, 70] L L' ∧ xO I' ∧ xT I' ∧ xS I' ∧ (0 ≤ n.toInt) ∧ (n.toInt ≤ 5) ∧ (5 - n.toInt) < 6)))])) (f_cnl_of (P := fun (tQ : Nat) (P : fLs → List Value → fM → fN → Prop) => ∀ ls' st' I' L', P ls' st' I' L' → f_W pP l eP (f_rm 43) sP mP aP bP hP9 cP xY 80 a cy dC dI 4 (f_K 0 (qX0_find [.ref 78, .int k] I L)) tQ ls' st' I' L') (List.forall_mem_cons.mpr ⟨(fun ls' st' I' L' h => by obtain ⟨e, n, hs, e1, e2, e3, h9⟩ := h; rw [e1, e2, e3]; exact f_W_sub hs (ih4 e n h9)), List.forall_mem_cons.mpr ⟨(fun ls' st' I' L' h => by obtain ⟨n, hs, e1, h9⟩ := h; rw [e1]; exact f_W_sub hs (lp72 6 n I' L' h9)), fun _ h => absurd h List.not_mem_nil⟩⟩)) 26 4 (f_seek 4 0 tX0_find) (f_seek_ok 4 0 tX0_find tX0_find_ok) _ _ _ _ ?_
        have r9_1 : 0 ≤ (I 40 7).toInt ∧ (I 40 7).toInt ≤ 12 := hR 40 7
        apply And.intro
        · intro h12
          have h12 : (I 40 7).toInt ≤ n.toInt := h12
          apply And.intro
          · intro h43
            have h43 : (I 78 5).toInt = 0 := h43
            refine And.intro (Or.inr rfl) ?_
            have hR57 := xR_f (k := 78) (j := 5) (x := Int32.ofInt 1) hR (by exact f_rng _)
            have hF57 := f_fr_up (k := 78) (r := va_up (I 78) 5 (Int32.ofInt 1)) hF0 rfl
            have hxO57 := f_dep_up xO_dep (k := 78) (r := va_up (I 78) 5 (Int32.ofInt 1)) hxO rfl
            have hxT57 := f_dep_up xT_dep (k := 78) (r := va_up (I 78) 5 (Int32.ofInt 1)) hxT rfl
            have hxS57 := f_dep_up xS_dep (k := 78) (r := va_up (I 78) 5 (Int32.ofInt 1)) hxS rfl
            have hR62 := xR_f (k := 78) (j := 4) (x := e) hR57 (by exact f_rng _)
            have hF62 := f_fr_up (k := 78) (r := va_up (va_up (I 78) 5 (Int32.ofInt 1)) 4 e) hF57 rfl
            have hxO62 := f_dep_up xO_dep (k := 78) (r := va_up (va_up (I 78) 5 (Int32.ofInt 1)) 4 e) hxO57 rfl
            have hxT62 := f_dep_up xT_dep (k := 78) (r := va_up (va_up (I 78) 5 (Int32.ofInt 1)) 4 e) hxT57 rfl
            have hxS62 := f_dep_up xS_dep (k := 78) (r := va_up (va_up (I 78) 5 (Int32.ofInt 1)) 4 e) hxS57 rfl
            refine And.intro (Or.inl rfl) ?_
            have hR67 := xR_f (k := 78) (j := 6) (x := Int32.ofInt 0) hR62 (by exact f_rng _)
            have hF67 := f_fr_up (k := 78) (r := va_up (va_up (va_up (I 78) 5 (Int32.ofInt 1)) 4 e) 6 (Int32.ofInt 0)) hF62 rfl
            have hxO67 := f_dep_up xO_dep (k := 78) (r := va_up (va_up (va_up (I 78) 5 (Int32.ofInt 1)) 4 e) 6 (Int32.ofInt 0)) hxO62 rfl
            have hxT67 := f_dep_up xT_dep (k := 78) (r := va_up (va_up (va_up (I 78) 5 (Int32.ofInt 1)) 4 e) 6 (Int32.ofInt 0)) hxT62 rfl
            have hxS67 := f_dep_up xS_dep (k := 78) (r := va_up (va_up (va_up (I 78) 5 (Int32.ofInt 1)) 4 e) 6 (Int32.ofInt 0)) hxS62 rfl
            exact ⟨Int32.ofInt 0, (by intro q9 h9; simp only [List.mem_cons, List.not_mem_nil, or_false] at h9; rcases h9 with h9 | h9 | h9 <;> subst h9 <;> repeat (first | exact List.mem_cons_self | apply List.mem_cons_of_mem)), rfl, hR67, hF67, hG0, hxO67, hxT67, hxS67, (show 0 ≤ (0 : Int) from by first | assumption | omega), (show (0 : Int) ≤ 5 from by first | assumption | omega), (show (5 - (0 : Int)) < 6 from by omega)⟩
          · intro h43
            have h43 : ¬ (I 78 5).toInt = 0 := h43
            apply And.intro
            · intro h51
              have h51 : ¬ e.toInt = (I 78 4).toInt := h51
              refine And.intro (Or.inr rfl) ?_
              have hR57 := xR_f (k := 78) (j := 5) (x := Int32.ofInt 1) hR (by exact f_rng _)
              have hF57 := f_fr_up (k := 78) (r := va_up (I 78) 5 (Int32.ofInt 1)) hF0 rfl
              have hxO57 := f_dep_up xO_dep (k := 78) (r := va_up (I 78) 5 (Int32.ofInt 1)) hxO rfl
              have hxT57 := f_dep_up xT_dep (k := 78) (r := va_up (I 78) 5 (Int32.ofInt 1)) hxT rfl
              have hxS57 := f_dep_up xS_dep (k := 78) (r := va_up (I 78) 5 (Int32.ofInt 1)) hxS rfl
              have hR62 := xR_f (k := 78) (j := 4) (x := e) hR57 (by exact f_rng _)
              have hF62 := f_fr_up (k := 78) (r := va_up (va_up (I 78) 5 (Int32.ofInt 1)) 4 e) hF57 rfl
              have hxO62 := f_dep_up xO_dep (k := 78) (r := va_up (va_up (I 78) 5 (Int32.ofInt 1)) 4 e) hxO57 rfl
              have hxT62 := f_dep_up xT_dep (k := 78) (r := va_up (va_up (I 78) 5 (Int32.ofInt 1)) 4 e) hxT57 rfl
              have hxS62 := f_dep_up xS_dep (k := 78) (r := va_up (va_up (I 78) 5 (Int32.ofInt 1)) 4 e) hxS57 rfl
              refine And.intro (Or.inl rfl) ?_
              have hR67 := xR_f (k := 78) (j := 6) (x := Int32.ofInt 0) hR62 (by exact f_rng _)
              have hF67 := f_fr_up (k := 78) (r := va_up (va_up (va_up (I 78) 5 (Int32.ofInt 1)) 4 e) 6 (Int32.ofInt 0)) hF62 rfl
              have hxO67 := f_dep_up xO_dep (k := 78) (r := va_up (va_up (va_up (I 78) 5 (Int32.ofInt 1)) 4 e) 6 (Int32.ofInt 0)) hxO62 rfl
              have hxT67 := f_dep_up xT_dep (k := 78) (r := va_up (va_up (va_up (I 78) 5 (Int32.ofInt 1)) 4 e) 6 (Int32.ofInt 0)) hxT62 rfl
              have hxS67 := f_dep_up xS_dep (k := 78) (r := va_up (va_up (va_up (I 78) 5 (Int32.ofInt 1)) 4 e) 6 (Int32.ofInt 0)) hxS62 rfl
              exact ⟨Int32.ofInt 0, (by intro q9 h9; simp only [List.mem_cons, List.not_mem_nil, or_false] at h9; rcases h9 with h9 | h9 | h9 <;> subst h9 <;> repeat (first | exact List.mem_cons_self | apply List.mem_cons_of_mem)), rfl, hR67, hF67, hG0, hxO67, hxT67, hxS67, (show 0 ≤ (0 : Int) from by first | assumption | omega), (show (0 : Int) ≤ 5 from by first | assumption | omega), (show (5 - (0 : Int)) < 6 from by omega)⟩
            · intro h51
              have h51 : e.toInt = (I 78 4).toInt := h51
              exact ⟨hR, hxO, hxT, hxS, hF0, hG0⟩
        · intro h12
          have h12 : n.toInt < (I 40 7).toInt := h12
          refine And.intro ⟨(show 0 ≤ n.toInt from by first | assumption | omega), (show n.toInt ≤ 11 from by first | assumption | omega)⟩ ?_
          intro x21 I21 L21 hq21
          have hq21 : I21 = I ∧ L21 = L ∧ ((x21.toInt = 0 ∨ x21.toInt = 1)) := hq21
          obtain ⟨eI21, eL21, c21_2⟩ := hq21
          replace eI21 := eI21.symm
          subst eI21
          replace eL21 := eL21.symm
          subst eL21
          apply And.intro
          · intro h24
            have h24 : x21.toInt = 0 := h24
            intro z33 q33 _ hq33 hl33 hu33
            have hq33 : z33.toInt = n.toInt + 1 + 4294967296 * q33 := hq33
            try have hz33 : z33.toInt = n.toInt + 1 := by omega
            exact ⟨e, z33, (by intro q9 h9; simp only [List.mem_cons, List.not_mem_nil, or_false] at h9; rcases h9 with h9 | h9 | h9 | h9 <;> subst h9 <;> repeat (first | exact List.mem_cons_self | apply List.mem_cons_of_mem)), rfl, rfl, rfl, (show 0 ≤ z33.toInt from by first | assumption | omega), (show z33.toInt ≤ (I 40 7).toInt from by first | assumption | omega), (show ((I 40 7).toInt - z33.toInt) < n4 from by omega)⟩
          · intro h24
            have h24 : ¬ x21.toInt = 0 := h24
            intro z33 q33 _ hq33 hl33 hu33
            have hq33 : z33.toInt = n.toInt + 1 + 4294967296 * q33 := hq33
            try have hz33 : z33.toInt = n.toInt + 1 := by omega
            exact ⟨e ||| ((Int32.ofInt 1) <<< (n &&& 31)), z33, (by intro q9 h9; simp only [List.mem_cons, List.not_mem_nil, or_false] at h9; rcases h9 with h9 | h9 | h9 | h9 <;> subst h9 <;> repeat (first | exact List.mem_cons_self | apply List.mem_cons_of_mem)), rfl, rfl, rfl, (show 0 ≤ z33.toInt from by first | assumption | omega), (show z33.toInt ≤ (I 40 7).toInt from by first | assumption | omega), (show ((I 40 7).toInt - z33.toInt) < n4 from by omega)⟩
    refine f_wp_ok C f_cl flX0_ok fiX0_ok fjX0_ok (sn := none) (fun j h => by cases h) (cs := (f_cnl [(35, (3, 3, 2, pX2_counts, qX2_counts)), (53, (3, 3, 0, (pX0_assign 5), qX0_assign))])) (cz := (fun _ => none)) (f_cnl_of (P := fun j S => f_cok pP l eP (f_rm 43) sP mP aP bP hP9 cP xY 80 a cy dC dI 4 _ _ (.invokevirtual j) true S) (List.forall_mem_cons.mpr ⟨f_cokV C (mX2_counts hinj) (ci := 2) rfl (List.forall_mem_cons.mpr ⟨(mlX0_ok _ (List.mem_of_getElem? (i := 0) rfl)), kc_X2_counts⟩) (by decide +kernel) ⟨Nat.le_of_ble_eq_true rfl, Nat.le_of_ble_eq_true rfl⟩, List.forall_mem_cons.mpr ⟨f_cokV C (mX0_assign hinj 5) (ci := 0) rfl (List.forall_mem_cons.mpr ⟨(mlX0_ok _ (List.mem_of_getElem? (i := 1) rfl)), kc_X0_assign⟩) (by decide +kernel) ⟨Nat.le_of_ble_eq_true rfl, Nat.le_of_ble_eq_true rfl⟩, fun _ h => absurd h List.not_mem_nil⟩⟩)) (fun j S h => by cases h) tX0_find_ok (cut := (f_cnl [(4, (fun (ls' : fLs) (st' : List Value) (I' : fM) (L' : fN) => ∃ e : Int32, ∃ n : Int32, (∀ q ∈ ([(3, .int n), (2, .int e), (1, .int k), (0, .ref 78)] : fLs), q ∈ ls') ∧ st' = [] ∧ I' = I ∧ L' = L ∧ ((0 ≤ n.toInt) ∧ (n.toInt ≤ (I 40 7).toInt) ∧ ((I 40 7).toInt - n.toInt) < 13)))])) (f_cnl_of (P := fun (tQ : Nat) (P : fLs → List Value → fM → fN → Prop) => ∀ ls' st' I' L', P ls' st' I' L' → f_W pP l eP (f_rm 43) sP mP aP bP hP9 cP xY 80 a cy dC dI 4 (f_K 0 (qX0_find [.ref 78, .int k] I L)) tQ ls' st' I' L') (List.forall_mem_cons.mpr ⟨(fun ls' st' I' L' h => by obtain ⟨e, n, hs, e1, e2, e3, h9⟩ := h; rw [e1, e2, e3]; exact f_W_sub hs (lp4 13 e n h9)), fun _ h => absurd h List.not_mem_nil⟩)) 7 0 tX0_find tX0_find_ok _ _ _ _ ?_
    have r4_1 : 0 ≤ (I 40 7).toInt ∧ (I 40 7).toInt ≤ 12 := hR 40 7
    exact ⟨Int32.ofInt 0, Int32.ofInt 0, (by intro q9 h9; simp only [List.mem_cons, List.not_mem_nil, or_false] at h9; rcases h9 with h9 | h9 | h9 | h9 <;> subst h9 <;> repeat (first | exact List.mem_cons_self | apply List.mem_cons_of_mem)), rfl, rfl, rfl, (show 0 ≤ (0 : Int) from by first | assumption | omega), (show (0 : Int) ≤ (I 40 7).toInt from by first | assumption | omega), (show ((I 40 7).toInt - (0 : Int)) < 13 from by omega)⟩
