theorem tri8 {x y z q : Int} (h0 : 0 ≤ x) (h8 : x ≤ 8) (hy : y = x - 1) (hz : z = x * y + 4294967296 * q) (hl : -2147483648 ≤ z) (hu : z ≤ 2147483647) : 0 ≤ z ∧ z ≤ 56 := by
  subst hy
  have h : x = 0 ∨ x = 1 ∨ x = 2 ∨ x = 3 ∨ x = 4 ∨ x = 5 ∨ x = 6 ∨ x = 7 ∨ x = 8 := by omega
  rcases h with rfl | rfl | rfl | rfl | rfl | rfl | rfl | rfl | rfl <;> omega
def tX6_forget : List (Instr × Nat) := [(.aload_n 0, 1), (.bipush (-2), 2), (.putfield 46, 3), (.aload_n 0, 1), (.bipush (-2), 2), (.putfield 50, 3), (.aload_n 0, 1), (.getfield 15, 3), (.iconst 0, 1), (.bipush (-2), 2), (.iastore, 1), (.aload_n 0, 1), (.getfield 25, 3), (.bipush (-2), 2), (.invokestatic 53, 3), (.return_, 1)]
theorem tX6_forget_ok : f_chk cX6_forget 0 tX6_forget = true := by decide +kernel
def pX6_forget (av : List Value) (I : fM) (L : fN) : Prop := match av with
  | [.ref 72] => xR I
  | _ => False
def qX6_forget (av : List Value) (I : fM) (L : fN) (r : Value) (I' : fM) (L' : fN) : Prop := match av, r with
  | [.ref 72], .null => xR I' ∧ f_fr [72, 74, 76] I I' ∧ L' = L
  | _, _ => False
set_option maxHeartbeats 4000000 in
set_option maxRecDepth 100000 in
theorem mX6_forget {l : Launch} {a : Nat → Nat} {cy dC : Nat → ClassId} {dI : Nat → Nat → Nat} (hinj : ∀ i j, i < 80 → j < 80 → a i = a j → i = j) : f_Met (xE a) l xY 80 a cy dC dI yX6_forget cX6_forget 1 0 1 pX6_forget qX6_forget := by
  refine f_met_of (xE_c a) hinj xY_hi (by decide) (fun av I L h => by unfold pX6_forget at h; split at h <;> first | exact Nat.le_of_ble_eq_true rfl | exact h.elim) ?_
  intro pP eP sP mP aP bP hP9 cP C av I L hp
  unfold pX6_forget at hp
  split at hp
  case h_2 => exact hp.elim
  case h_1 =>
    have hR := hp
    have hF0 : f_fr [72, 74, 76] I I := f_fr_rf
    refine f_wp_ok C f_cl flX6_ok fiX6_ok fjX6_ok (sn := none) (fun j h => by cases h) (cs := (fun _ => none)) (cz := (f_cnl [(53, (2, 0, 0, pJ7_fill_53178, qJ7_fill_53178))])) (fun j S h => by cases h) (f_cnl_of (P := fun j S => f_cok pP l eP (f_rm 1) sP mP aP bP hP9 cP xY 80 a cy dC dI 1 _ _ (.invokestatic j) false S) (List.forall_mem_cons.mpr ⟨f_cokS C (mJ7_fill_53178 hinj) (List.forall_mem_cons.mpr ⟨(mlX6_ok _ (List.mem_of_getElem? (i := 1) rfl)), kc_J7_fill_53178⟩) (by decide +kernel) ⟨Nat.le_of_ble_eq_true rfl, Nat.le_of_ble_eq_true rfl⟩, fun _ h => absurd h List.not_mem_nil⟩)) tX6_forget_ok (cut := (fun _ => none)) (fun t P h => by cases h) 19 0 tX6_forget tX6_forget_ok _ _ _ _ ?_
    have hR3 := xR_f (k := 72) (j := 8) (x := Int32.ofInt (-2)) hR (by exact f_rng _)
    have hF3 := f_fr_up (k := 72) (r := va_up (I 72) 8 (Int32.ofInt (-2))) hF0 rfl
    have hR9 := xR_f (k := 72) (j := 9) (x := Int32.ofInt (-2)) hR3 (by exact f_rng _)
    have hF9 := f_fr_up (k := 72) (r := va_up (va_up (I 72) 8 (Int32.ofInt (-2))) 9 (Int32.ofInt (-2))) hF3 rfl
    refine And.intro (show f_in (Int32.ofInt 0) 5 from ⟨show 0 ≤ 0 from by omega, show 0 < 5 from by omega⟩) ?_
    have hR19 := xR_a (k := 74) (j := (Int32.ofInt 0).toInt.toNat) (x := Int32.ofInt (-2)) hR9 (by exact f_rng _)
    have hF19 := f_fr_up (k := 74) (r := upd (I 74) ((Int32.ofInt 0).toInt.toNat) (Int32.ofInt (-2))) hF9 rfl
    refine And.intro ⟨(by decide), hR19, (fun _ => f_rng _)⟩ ?_
    intro I26 L26 hq26
    have hq26 : xR I26 ∧ f_fr [76] (va_up (va_up (va_up I 72 (va_up (I 72) 8 (Int32.ofInt (-2)))) 72 (va_up (va_up (I 72) 8 (Int32.ofInt (-2))) 9 (Int32.ofInt (-2)))) 74 (upd (I 74) ((Int32.ofInt 0).toInt.toNat) (Int32.ofInt (-2)))) I26 ∧ L26 = L ∧ (∀ j : Nat, j < (fillN 76) → I26 76 j = (Int32.ofInt (-2))) := hq26
    obtain ⟨c26_0, c26_1, eL26, c26_3⟩ := hq26
    replace eL26 := eL26.symm
    subst eL26
    have hF26 := f_fr_tr hF19 c26_1 rfl
    exact ⟨c26_0, hF26, rfl⟩
def tX6_isSentenceWithout : List (Instr × Nat) := [(.aload_n 0, 1), (.getfield 35, 3), (.bipush 36, 2), (.invokevirtual 78, 3), (.iconst 0, 1), (.istore_n 2, 1), (.iload_n 2, 1), (.aload_n 0, 1), (.getfield 39, 3), (.getfield 63, 3), (.if_icmp .ge 33, 3), (.iload_n 1, 1), (.iload_n 2, 1), (.ishr, 1), (.iconst 1, 1), (.iand, 1), (.ifCond .ne 19, 3), (.aload_n 0, 1), (.getfield 35, 3), (.aload_n 0, 1), (.getfield 39, 3), (.getfield 84, 3), (.iload_n 2, 1), (.iaload, 1), (.invokevirtual 87, 3), (.iinc 2 1, 3), (.goto (-38), 3), (.aload_n 0, 1), (.getfield 35, 3), (.aconst_null, 1), (.invokevirtual 90, 3), (.ireturn, 1)]
theorem tX6_isSentenceWithout_ok : f_chk cX6_isSentenceWithout 0 tX6_isSentenceWithout = true := by decide +kernel
def pX6_isSentenceWithout (av : List Value) (I : fM) (L : fN) : Prop := match av with
  | [.ref 72, .int e] => xR I ∧ xO I ∧ xT I ∧ xS I
  | _ => False
def qX6_isSentenceWithout (av : List Value) (I : fM) (L : fN) (r : Value) (I' : fM) (L' : fN) : Prop := match av, r with
  | [.ref 72, .int e], .int x => xR I' ∧ xO I' ∧ xT I' ∧ xS I' ∧ f_fr [25, 26, 27, 28, 31, 32, 33, 34, 35, 36, 37, 38, 39, 69] I I' ∧ f_fr [29, 30, 70] L L' ∧ (x.toInt = 0 ∨ x.toInt = 1)
  | _, _ => False
set_option maxHeartbeats 4000000 in
set_option maxRecDepth 100000 in
theorem mX6_isSentenceWithout {l : Launch} {a : Nat → Nat} {cy dC : Nat → ClassId} {dI : Nat → Nat → Nat} (hinj : ∀ i j, i < 80 → j < 80 → a i = a j → i = j) : f_Met (xE a) l xY 80 a cy dC dI yX6_isSentenceWithout cX6_isSentenceWithout 3 3 36 pX6_isSentenceWithout qX6_isSentenceWithout := by
  refine f_met_of (xE_c a) hinj xY_hi (by decide) (fun av I L h => by unfold pX6_isSentenceWithout at h; split at h <;> first | exact Nat.le_of_ble_eq_true rfl | exact h.elim) ?_
  intro pP eP sP mP aP bP hP9 cP C av I L hp
  unfold pX6_isSentenceWithout at hp
  split at hp
  case h_2 => exact hp.elim
  case h_1 e =>
    obtain ⟨hR, hxO, hxT, hxS⟩ := hp
    have hn : 0 ≤ (I 40 6).toInt ∧ (I 40 6).toInt ≤ 8 := hR 40 6
    have hF0 : f_fr [25, 26, 27, 28, 31, 32, 33, 34, 35, 36, 37, 38, 39, 69] I I := f_fr_rf
    have hG0 : f_fr [29, 30, 70] L L := f_fr_rf
    have lp11 : ∀ (n11 : Nat), ∀ (i : Int32) (J11 : fM) (M11 : fN), xR J11 ∧ f_fr [25, 26, 27, 28, 31, 32, 33, 34, 35, 36, 37, 38, 39, 69] I J11 ∧ f_fr [29, 30, 70] L M11 ∧ xO J11 ∧ xT J11 ∧ xS J11 ∧ (0 ≤ i.toInt) ∧ (i.toInt ≤ (I 40 6).toInt) ∧ ((I 40 6).toInt - i.toInt) < n11 → f_W pP l eP (f_rm 36) sP mP aP bP hP9 cP xY 80 a cy dC dI 3 (f_K 3 (qX6_isSentenceWithout [.ref 72, .int e] I L)) 11 [(2, .int i), (1, .int e), (0, .ref 72)] [] J11 M11 := by
      intro n11
      induction n11 with
      | zero =>
        intro i J11 M11 h9
        obtain ⟨hR11c, hF11c, hG11c, hxO11c, hxT11c, hxS11c, u11_1, u11_2, hm11⟩ := h9
        omega
      | succ n11 ih11 =>
        intro i J11 M11 h9
        obtain ⟨hR11c, hF11c, hG11c, hxO11c, hxT11c, hxS11c, u11_1, u11_2, hm11⟩ := h9
        refine f_wp_ok C f_cl flX6_ok fiX6_ok fjX6_ok (sn := none) (fun j h => by cases h) (cs := (f_cnl [(78, (2, 0, 9, pX10_begin, qX10_begin)), (87, (2, 0, 9, pX10_addWord, qX10_addWord)), (90, (2, 3, 9, pX10_search, qX10_search))])) (cz := (fun _ => none)) (f_cnl_of (P := fun j S => f_cok pP l eP (f_rm 36) sP mP aP bP hP9 cP xY 80 a cy dC dI 3 _ _ (.invokevirtual j) true S) (List.forall_mem_cons.mpr ⟨f_cokV C (mX10_begin hinj) (ci := 9) rfl (List.forall_mem_cons.mpr ⟨(mlX6_ok _ (List.mem_of_getElem? (i := 5) rfl)), kc_X10_begin⟩) (by decide +kernel) ⟨Nat.le_of_ble_eq_true rfl, Nat.le_of_ble_eq_true rfl⟩, List.forall_mem_cons.mpr ⟨f_cokV C (mX10_addWord hinj) (ci := 9) rfl (List.forall_mem_cons.mpr ⟨(mlX6_ok _ (List.mem_of_getElem? (i := 6) rfl)), kc_X10_addWord⟩) (by decide +kernel) ⟨Nat.le_of_ble_eq_true rfl, Nat.le_of_ble_eq_true rfl⟩, List.forall_mem_cons.mpr ⟨f_cokV C (mX10_search hinj) (ci := 9) rfl (List.forall_mem_cons.mpr ⟨(mlX6_ok _ (List.mem_of_getElem? (i := 7) rfl)), kc_X10_search⟩) (by decide +kernel) ⟨Nat.le_of_ble_eq_true rfl, Nat.le_of_ble_eq_true rfl⟩, fun _ h => absurd h List.not_mem_nil⟩⟩⟩)) (fun j S h => by cases h) tX6_isSentenceWithout_ok (cut := (f_cnl [(11, (fun (ls' : fLs) (st' : List Value) (I' : fM) (L' : fN) => ∃ i : Int32, (∀ q ∈ ([(2, .int i), (1, .int e), (0, .ref 72)] : fLs), q ∈ ls') ∧ st' = [] ∧ (xR I' ∧ f_fr [25, 26, 27, 28, 31, 32, 33, 34, 35, 36, 37, 38, 39, 69] I I' ∧ f_fr [29, 30, 70] L L' ∧ xO I' ∧ xT I' ∧ xS I' ∧ (0 ≤ i.toInt) ∧ (i.toInt ≤ (I 40 6).toInt) ∧ ((I 40 6).toInt - i.toInt) < n11)))])) (f_cnl_of (P := fun (tQ : Nat) (P : fLs → List Value → fM → fN → Prop) => ∀ ls' st' I' L', P ls' st' I' L' → f_W pP l eP (f_rm 36) sP mP aP bP hP9 cP xY 80 a cy dC dI 3 (f_K 3 (qX6_isSentenceWithout [.ref 72, .int e] I L)) tQ ls' st' I' L') (List.forall_mem_cons.mpr ⟨(fun ls' st' I' L' h => by obtain ⟨i, hs, e1, h9⟩ := h; rw [e1]; exact f_W_sub hs (ih11 i I' L' h9)), fun _ h => absurd h List.not_mem_nil⟩)) 24 11 (f_seek 11 0 tX6_isSentenceWithout) (f_seek_ok 11 0 tX6_isSentenceWithout tX6_isSentenceWithout_ok) _ _ _ _ ?_
        have r16_1 : 0 ≤ (J11 40 6).toInt ∧ (J11 40 6).toInt ≤ 8 := hR11c 40 6
        have e16_2 : (J11 40 6).toInt = (I 40 6).toInt := congrArg Int32.toInt (congrFun (hF11c 40 rfl) 6)
        apply And.intro
        · intro h19
          have h19 : (J11 40 6).toInt ≤ i.toInt := h19
          refine And.intro ⟨hR11c, hxO11c, hxT11c, hxS11c, (by first | assumption | exact Or.inl rfl | exact Or.inr rfl | (intro h; cases h)), (by first | assumption | exact Or.inl rfl | exact Or.inr rfl | (intro h; cases h))⟩ ?_
          intro x57 I57 L57 hq57
          have hq57 : xR I57 ∧ xO I57 ∧ xT I57 ∧ xS I57 ∧ f_fr [28, 31, 32, 33, 34, 35, 36, 37, 38, 39, 69] J11 I57 ∧ f_fr [29, 30, 70] M11 L57 ∧ (((Value.null) = Value.ref 69 → xK I57 L57)) ∧ ((I57 69 = J11 69 ∨ 0 < (J11 16 (J11 25 8).toInt.toNat).toInt)) ∧ ((x57.toInt = 0 ∨ x57.toInt = 1)) := hq57
          obtain ⟨c57_0, c57_1, c57_2, c57_3, c57_4, c57_5, c57_6, c57_7, c57_8⟩ := hq57
          have hF57 := f_fr_tr hF11c c57_4 rfl
          have hG57 := f_fr_tr hG11c c57_5 rfl
          exact ⟨(f_b01 (show x57.toInt = 0 ∨ x57.toInt = 1 from by omega)), c57_0, c57_1, c57_2, c57_3, hF57, hG57, (show (x57.toInt = 0 ∨ x57.toInt = 1) from by first | assumption | omega | rfl)⟩
        · intro h19
          have h19 : i.toInt < (J11 40 6).toInt := h19
          have b26 : 0 ≤ ((e >>> (i &&& 31)) &&& (Int32.ofInt 1)).toInt ∧ ((e >>> (i &&& 31)) &&& (Int32.ofInt 1)).toInt ≤ 1 := f_andc (e >>> (i &&& 31)) 1 (by decide) (by decide)
          apply And.intro
          · intro h27
            have h27 : ¬ ((e >>> (i &&& 31)) &&& (Int32.ofInt 1)).toInt = 0 := h27
            intro z46 q46 _ hq46 hl46 hu46
            have hq46 : z46.toInt = i.toInt + 1 + 4294967296 * q46 := hq46
            try have hz46 : z46.toInt = i.toInt + 1 := by omega
            exact ⟨z46, (by intro q9 h9; simp only [List.mem_cons, List.not_mem_nil, or_false] at h9; rcases h9 with h9 | h9 | h9 <;> subst h9 <;> repeat (first | exact List.mem_cons_self | apply List.mem_cons_of_mem)), rfl, hR11c, hF11c, hG11c, hxO11c, hxT11c, hxS11c, (show 0 ≤ z46.toInt from by first | assumption | omega), (show z46.toInt ≤ (I 40 6).toInt from by first | assumption | omega), (show ((I 40 6).toInt - z46.toInt) < n11 from by omega)⟩
          · intro h27
            have h27 : ((e >>> (i &&& 31)) &&& (Int32.ofInt 1)).toInt = 0 := h27
            refine And.intro (show f_in i 8 from ⟨show 0 ≤ i.toInt from by omega, show i.toInt < 8 from by omega⟩) ?_
            have r42_3 : 0 ≤ (J11 41 (i.toInt.toNat)).toInt ∧ (J11 41 (i.toInt.toNat)).toInt ≤ 11 := hR11c 41 (i.toInt.toNat)
            have e42_4 : (J11 41 (i.toInt.toNat)).toInt = (I 41 (i.toInt.toNat)).toInt := congrArg Int32.toInt (congrFun (hF11c 41 rfl) (i.toInt.toNat))
            refine And.intro ⟨hR11c, hxT11c, (show 0 ≤ (J11 41 (i.toInt.toNat)).toInt from by first | assumption | omega), (show (J11 41 (i.toInt.toNat)).toInt ≤ 11 from by first | assumption | omega)⟩ ?_
            intro I43 L43 hq43
            have hq43 : xR I43 ∧ xT I43 ∧ f_fr [25, 26, 27] J11 I43 ∧ L43 = M11 ∧ I43 25 8 = J11 25 8 := hq43
            obtain ⟨c43_0, c43_1, c43_2, eL43, c43_4⟩ := hq43
            replace eL43 := eL43.symm
            subst eL43
            have hxO43 := f_dep_fr xO_dep hxO11c c43_2 rfl
            have hxS43 := f_dep_fr xS_dep hxS11c c43_2 rfl
            have hF43 := f_fr_tr hF11c c43_2 rfl
            intro z46 q46 _ hq46 hl46 hu46
            have hq46 : z46.toInt = i.toInt + 1 + 4294967296 * q46 := hq46
            try have hz46 : z46.toInt = i.toInt + 1 := by omega
            exact ⟨z46, (by intro q9 h9; simp only [List.mem_cons, List.not_mem_nil, or_false] at h9; rcases h9 with h9 | h9 | h9 <;> subst h9 <;> repeat (first | exact List.mem_cons_self | apply List.mem_cons_of_mem)), rfl, c43_0, hF43, hG11c, hxO43, c43_1, hxS43, (show 0 ≤ z46.toInt from by first | assumption | omega), (show z46.toInt ≤ (I 40 6).toInt from by first | assumption | omega), (show ((I 40 6).toInt - z46.toInt) < n11 from by omega)⟩
    refine f_wp_ok C f_cl flX6_ok fiX6_ok fjX6_ok (sn := none) (fun j h => by cases h) (cs := (f_cnl [(78, (2, 0, 9, pX10_begin, qX10_begin)), (87, (2, 0, 9, pX10_addWord, qX10_addWord)), (90, (2, 3, 9, pX10_search, qX10_search))])) (cz := (fun _ => none)) (f_cnl_of (P := fun j S => f_cok pP l eP (f_rm 36) sP mP aP bP hP9 cP xY 80 a cy dC dI 3 _ _ (.invokevirtual j) true S) (List.forall_mem_cons.mpr ⟨f_cokV C (mX10_begin hinj) (ci := 9) rfl (List.forall_mem_cons.mpr ⟨(mlX6_ok _ (List.mem_of_getElem? (i := 5) rfl)), kc_X10_begin⟩) (by decide +kernel) ⟨Nat.le_of_ble_eq_true rfl, Nat.le_of_ble_eq_true rfl⟩, List.forall_mem_cons.mpr ⟨f_cokV C (mX10_addWord hinj) (ci := 9) rfl (List.forall_mem_cons.mpr ⟨(mlX6_ok _ (List.mem_of_getElem? (i := 6) rfl)), kc_X10_addWord⟩) (by decide +kernel) ⟨Nat.le_of_ble_eq_true rfl, Nat.le_of_ble_eq_true rfl⟩, List.forall_mem_cons.mpr ⟨f_cokV C (mX10_search hinj) (ci := 9) rfl (List.forall_mem_cons.mpr ⟨(mlX6_ok _ (List.mem_of_getElem? (i := 7) rfl)), kc_X10_search⟩) (by decide +kernel) ⟨Nat.le_of_ble_eq_true rfl, Nat.le_of_ble_eq_true rfl⟩, fun _ h => absurd h List.not_mem_nil⟩⟩⟩)) (fun j S h => by cases h) tX6_isSentenceWithout_ok (cut := (f_cnl [(11, (fun (ls' : fLs) (st' : List Value) (I' : fM) (L' : fN) => ∃ i : Int32, (∀ q ∈ ([(2, .int i), (1, .int e), (0, .ref 72)] : fLs), q ∈ ls') ∧ st' = [] ∧ (xR I' ∧ f_fr [25, 26, 27, 28, 31, 32, 33, 34, 35, 36, 37, 38, 39, 69] I I' ∧ f_fr [29, 30, 70] L L' ∧ xO I' ∧ xT I' ∧ xS I' ∧ (0 ≤ i.toInt) ∧ (i.toInt ≤ (I 40 6).toInt) ∧ ((I 40 6).toInt - i.toInt) < 9)))])) (f_cnl_of (P := fun (tQ : Nat) (P : fLs → List Value → fM → fN → Prop) => ∀ ls' st' I' L', P ls' st' I' L' → f_W pP l eP (f_rm 36) sP mP aP bP hP9 cP xY 80 a cy dC dI 3 (f_K 3 (qX6_isSentenceWithout [.ref 72, .int e] I L)) tQ ls' st' I' L') (List.forall_mem_cons.mpr ⟨(fun ls' st' I' L' h => by obtain ⟨i, hs, e1, h9⟩ := h; rw [e1]; exact f_W_sub hs (lp11 9 i I' L' h9)), fun _ h => absurd h List.not_mem_nil⟩)) 9 0 tX6_isSentenceWithout tX6_isSentenceWithout_ok _ _ _ _ ?_
    refine And.intro ⟨hR, (show 0 ≤ (36 : Int) from by first | assumption | omega), (show (36 : Int) ≤ 52 from by first | assumption | omega)⟩ ?_
    intro I6 L6 hq6
    have hq6 : xR I6 ∧ f_fr [25] I I6 ∧ L6 = L ∧ (I6 25 7).toInt = 0 ∧ I6 25 8 = (Int32.ofInt 36) := hq6
    obtain ⟨c6_0, c6_1, eL6, c6_3, c6_4⟩ := hq6
    replace eL6 := eL6.symm
    subst eL6
    have hxO6 := f_dep_fr xO_dep hxO c6_1 rfl
    have hxT6 := f_dep_fr xT_dep hxT c6_1 rfl
    have hxS6 := f_dep_fr xS_dep hxS c6_1 rfl
    have hF6 := f_fr_tr hF0 c6_1 rfl
    exact ⟨Int32.ofInt 0, (by intro q9 h9; simp only [List.mem_cons, List.not_mem_nil, or_false] at h9; rcases h9 with h9 | h9 | h9 <;> subst h9 <;> repeat (first | exact List.mem_cons_self | apply List.mem_cons_of_mem)), rfl, c6_0, hF6, hG0, hxO6, hxT6, hxS6, (show 0 ≤ (0 : Int) from by first | assumption | omega), (show (0 : Int) ≤ (I 40 6).toInt from by first | assumption | omega), (show ((I 40 6).toInt - (0 : Int)) < 9 from by omega)⟩
def tX6_findLeftOut : List (Instr × Nat) := [(.aload_n 0, 1), (.getfield 39, 3), (.getfield 63, 3), (.istore_n 1, 1), (.iconst 0, 1), (.istore_n 2, 1), (.iload_n 2, 1), (.iload_n 1, 1), (.if_icmp .ge 42, 3), (.iconst 0, 1), (.istore_n 3, 1), (.iload_n 3, 1), (.iconst 1, 1), (.iload_n 1, 1), (.ishl, 1), (.if_icmp .ge 27, 3), (.iload_n 3, 1), (.invokestatic 66, 3), (.iload_n 2, 1), (.if_icmp .ne 13, 3), (.aload_n 0, 1), (.iload_n 3, 1), (.invokevirtual 72, 3), (.ifCond .eq 5, 3), (.iload_n 3, 1), (.ireturn, 1), (.iinc 3 1, 3), (.goto (-28), 3), (.iinc 2 1, 3), (.goto (-41), 3), (.iconst (-1), 1), (.ireturn, 1)]
theorem tX6_findLeftOut_ok : f_chk cX6_findLeftOut 0 tX6_findLeftOut = true := by decide +kernel
def pX6_findLeftOut (av : List Value) (I : fM) (L : fN) : Prop := match av with
  | [.ref 72] => xR I ∧ xO I ∧ xT I ∧ xS I
  | _ => False
def qX6_findLeftOut (av : List Value) (I : fM) (L : fN) (r : Value) (I' : fM) (L' : fN) : Prop := match av, r with
  | [.ref 72], .int x => xR I' ∧ xO I' ∧ xT I' ∧ xS I' ∧ f_fr [25, 26, 27, 28, 31, 32, 33, 34, 35, 36, 37, 38, 39, 69] I I' ∧ f_fr [29, 30, 70] L L'
  | _, _ => False
set_option maxHeartbeats 4000000 in
set_option maxRecDepth 100000 in
theorem mX6_findLeftOut {l : Launch} {a : Nat → Nat} {cy dC : Nat → ClassId} {dI : Nat → Nat → Nat} (hinj : ∀ i j, i < 80 → j < 80 → a i = a j → i = j) : f_Met (xE a) l xY 80 a cy dC dI yX6_findLeftOut cX6_findLeftOut 4 1 37 pX6_findLeftOut qX6_findLeftOut := by
  refine f_met_of (xE_c a) hinj xY_hi (by decide) (fun av I L h => by unfold pX6_findLeftOut at h; split at h <;> first | exact Nat.le_of_ble_eq_true rfl | exact h.elim) ?_
  intro pP eP sP mP aP bP hP9 cP C av I L hp
  unfold pX6_findLeftOut at hp
  split at hp
  case h_2 => exact hp.elim
  case h_1 =>
    obtain ⟨hR, hxO, hxT, hxS⟩ := hp
    have hn : 0 ≤ (I 40 6).toInt ∧ (I 40 6).toInt ≤ 8 := hR 40 6
    have hF0 : f_fr [25, 26, 27, 28, 31, 32, 33, 34, 35, 36, 37, 38, 39, 69] I I := f_fr_rf
    have hG0 : f_fr [29, 30, 70] L L := f_fr_rf
    have lp10 : ∀ (n10 : Nat), ∀ (wd : Int32) (m : Int32) (J10 : fM) (M10 : fN), xR J10 ∧ f_fr [25, 26, 27, 28, 31, 32, 33, 34, 35, 36, 37, 38, 39, 69] I J10 ∧ f_fr [29, 30, 70] L M10 ∧ xO J10 ∧ xT J10 ∧ xS J10 ∧ (wd.toInt = (I 40 6).toInt) ∧ (0 ≤ m.toInt) ∧ (m.toInt ≤ wd.toInt) ∧ (wd.toInt - m.toInt) < n10 → f_W pP l eP (f_rm 37) sP mP aP bP hP9 cP xY 80 a cy dC dI 4 (f_K 1 (qX6_findLeftOut [.ref 72] I L)) 10 [(2, .int m), (1, .int wd), (0, .ref 72)] [] J10 M10 := by
      intro n10
      induction n10 with
      | zero =>
        intro wd m J10 M10 h9
        obtain ⟨hR10c, hF10c, hG10c, hxO10c, hxT10c, hxS10c, u10_1, u10_2, u10_3, hm10⟩ := h9
        omega
      | succ n10 ih10 =>
        intro wd m J10 M10 h9
        obtain ⟨hR10c, hF10c, hG10c, hxO10c, hxT10c, hxS10c, u10_1, u10_2, u10_3, hm10⟩ := h9
        have lp17 : ∀ (n17 : Nat), ∀ (e : Int32) (J17 : fM) (M17 : fN), xR J17 ∧ f_fr [25, 26, 27, 28, 31, 32, 33, 34, 35, 36, 37, 38, 39, 69] I J17 ∧ f_fr [29, 30, 70] L M17 ∧ xO J17 ∧ xT J17 ∧ xS J17 ∧ (m.toInt < wd.toInt) ∧ (0 ≤ e.toInt) ∧ (e.toInt ≤ 2147483647) ∧ (2147483647 - e.toInt) < n17 → f_W pP l eP (f_rm 37) sP mP aP bP hP9 cP xY 80 a cy dC dI 4 (f_K 1 (qX6_findLeftOut [.ref 72] I L)) 17 [(3, .int e), (2, .int m), (1, .int wd), (0, .ref 72)] [] J17 M17 := by
          intro n17
          induction n17 with
          | zero =>
            intro e J17 M17 h9
            obtain ⟨hR17c, hF17c, hG17c, hxO17c, hxT17c, hxS17c, u17_1, u17_2, u17_3, hm17⟩ := h9
            omega
          | succ n17 ih17 =>
            intro e J17 M17 h9
            obtain ⟨hR17c, hF17c, hG17c, hxO17c, hxT17c, hxS17c, u17_1, u17_2, u17_3, hm17⟩ := h9
            refine f_wp_ok C f_cl flX6_ok fiX6_ok fjX6_ok (sn := none) (fun j h => by cases h) (cs := (f_cnl [(72, (2, 3, 6, pX6_isSentenceWithout, qX6_isSentenceWithout))])) (cz := (f_cnl [(66, (1, 1, 0, pJ6_bitCount_0f7a4, qJ6_bitCount_0f7a4))])) (f_cnl_of (P := fun j S => f_cok pP l eP (f_rm 37) sP mP aP bP hP9 cP xY 80 a cy dC dI 4 _ _ (.invokevirtual j) true S) (List.forall_mem_cons.mpr ⟨f_cokV C (mX6_isSentenceWithout hinj) (ci := 6) rfl (List.forall_mem_cons.mpr ⟨(mlX6_ok _ (List.mem_of_getElem? (i := 4) rfl)), kc_X6_isSentenceWithout⟩) (by decide +kernel) ⟨Nat.le_of_ble_eq_true rfl, Nat.le_of_ble_eq_true rfl⟩, fun _ h => absurd h List.not_mem_nil⟩)) (f_cnl_of (P := fun j S => f_cok pP l eP (f_rm 37) sP mP aP bP hP9 cP xY 80 a cy dC dI 4 _ _ (.invokestatic j) false S) (List.forall_mem_cons.mpr ⟨f_cokS C (mJ6_bitCount_0f7a4 hinj) (List.forall_mem_cons.mpr ⟨(mlX6_ok _ (List.mem_of_getElem? (i := 3) rfl)), kc_J6_bitCount_0f7a4⟩) (by decide +kernel) ⟨Nat.le_of_ble_eq_true rfl, Nat.le_of_ble_eq_true rfl⟩, fun _ h => absurd h List.not_mem_nil⟩)) tX6_findLeftOut_ok (cut := (f_cnl [(10, (fun (ls' : fLs) (st' : List Value) (I' : fM) (L' : fN) => ∃ wd : Int32, ∃ m : Int32, (∀ q ∈ ([(2, .int m), (1, .int wd), (0, .ref 72)] : fLs), q ∈ ls') ∧ st' = [] ∧ (xR I' ∧ f_fr [25, 26, 27, 28, 31, 32, 33, 34, 35, 36, 37, 38, 39, 69] I I' ∧ f_fr [29, 30, 70] L L' ∧ xO I' ∧ xT I' ∧ xS I' ∧ (wd.toInt = (I 40 6).toInt) ∧ (0 ≤ m.toInt) ∧ (m.toInt ≤ wd.toInt) ∧ (wd.toInt - m.toInt) < n10))), (17, (fun (ls' : fLs) (st' : List Value) (I' : fM) (L' : fN) => ∃ e : Int32, (∀ q ∈ ([(3, .int e), (2, .int m), (1, .int wd), (0, .ref 72)] : fLs), q ∈ ls') ∧ st' = [] ∧ (xR I' ∧ f_fr [25, 26, 27, 28, 31, 32, 33, 34, 35, 36, 37, 38, 39, 69] I I' ∧ f_fr [29, 30, 70] L L' ∧ xO I' ∧ xT I' ∧ xS I' ∧ (m.toInt < wd.toInt) ∧ (0 ≤ e.toInt) ∧ (e.toInt ≤ 2147483647) ∧ (2147483647 - e.toInt) < n17)))])) (f_cnl_of (P := fun (tQ : Nat) (P : fLs → List Value → fM → fN → Prop) => ∀ ls' st' I' L', P ls' st' I' L' → f_W pP l eP (f_rm 37) sP mP aP bP hP9 cP xY 80 a cy dC dI 4 (f_K 1 (qX6_findLeftOut [.ref 72] I L)) tQ ls' st' I' L') (List.forall_mem_cons.mpr ⟨(fun ls' st' I' L' h => by obtain ⟨wd, m, hs, e1, h9⟩ := h; rw [e1]; exact f_W_sub hs (ih10 wd m I' L' h9)), List.forall_mem_cons.mpr ⟨(fun ls' st' I' L' h => by obtain ⟨e, hs, e1, h9⟩ := h; rw [e1]; exact f_W_sub hs (ih17 e I' L' h9)), fun _ h => absurd h List.not_mem_nil⟩⟩)) 18 17 (f_seek 17 0 tX6_findLeftOut) (f_seek_ok 17 0 tX6_findLeftOut tX6_findLeftOut_ok) _ _ _ _ ?_
            have g20 := f_rng ((Int32.ofInt 1) <<< (wd &&& 31))
            apply And.intro
            · intro h21
              have h21 : ((Int32.ofInt 1) <<< (wd &&& 31)).toInt ≤ e.toInt := h21
              intro z48 q48 _ hq48 hl48 hu48
              have hq48 : z48.toInt = m.toInt + 1 + 4294967296 * q48 := hq48
              try have hz48 : z48.toInt = m.toInt + 1 := by omega
              exact ⟨wd, z48, (by intro q9 h9; simp only [List.mem_cons, List.not_mem_nil, or_false] at h9; rcases h9 with h9 | h9 | h9 <;> subst h9 <;> repeat (first | exact List.mem_cons_self | apply List.mem_cons_of_mem)), rfl, hR17c, hF17c, hG17c, hxO17c, hxT17c, hxS17c, (show wd.toInt = (I 40 6).toInt from by first | assumption | omega | rfl), (show 0 ≤ z48.toInt from by first | assumption | omega), (show z48.toInt ≤ wd.toInt from by first | assumption | omega), (show (wd.toInt - z48.toInt) < n10 from by omega)⟩
            · intro h21
              have h21 : e.toInt < ((Int32.ofInt 1) <<< (wd &&& 31)).toInt := h21
              refine And.intro trivial ?_
              intro x25 I25 L25 hq25
              have hq25 : I25 = J17 ∧ L25 = M17 := hq25
              obtain ⟨eI25, eL25⟩ := hq25
              replace eI25 := eI25.symm
              subst eI25
              replace eL25 := eL25.symm
              subst eL25
              apply And.intro
              · intro h29
                have h29 : ¬ x25.toInt = m.toInt := h29
                intro z42 q42 _ hq42 hl42 hu42
                have hq42 : z42.toInt = e.toInt + 1 + 4294967296 * q42 := hq42
                try have hz42 : z42.toInt = e.toInt + 1 := by omega
                exact ⟨z42, (by intro q9 h9; simp only [List.mem_cons, List.not_mem_nil, or_false] at h9; rcases h9 with h9 | h9 | h9 | h9 <;> subst h9 <;> repeat (first | exact List.mem_cons_self | apply List.mem_cons_of_mem)), rfl, hR17c, hF17c, hG17c, hxO17c, hxT17c, hxS17c, (show m.toInt < wd.toInt from by first | assumption | omega), (show 0 ≤ z42.toInt from by first | assumption | omega), (show z42.toInt ≤ 2147483647 from by first | assumption | omega), (show (2147483647 - z42.toInt) < n17 from by omega)⟩
              · intro h29
                have h29 : x25.toInt = m.toInt := h29
                refine And.intro ⟨hR17c, hxO17c, hxT17c, hxS17c⟩ ?_
                intro x34 I34 L34 hq34
                have hq34 : xR I34 ∧ xO I34 ∧ xT I34 ∧ xS I34 ∧ f_fr [25, 26, 27, 28, 31, 32, 33, 34, 35, 36, 37, 38, 39, 69] J17 I34 ∧ f_fr [29, 30, 70] M17 L34 ∧ ((x34.toInt = 0 ∨ x34.toInt = 1)) := hq34
                obtain ⟨c34_0, c34_1, c34_2, c34_3, c34_4, c34_5, c34_6⟩ := hq34
                have hF34 := f_fr_tr hF17c c34_4 rfl
                have hG34 := f_fr_tr hG17c c34_5 rfl
                apply And.intro
                · intro h37
                  have h37 : x34.toInt = 0 := h37
                  intro z42 q42 _ hq42 hl42 hu42
                  have hq42 : z42.toInt = e.toInt + 1 + 4294967296 * q42 := hq42
                  try have hz42 : z42.toInt = e.toInt + 1 := by omega
                  exact ⟨z42, (by intro q9 h9; simp only [List.mem_cons, List.not_mem_nil, or_false] at h9; rcases h9 with h9 | h9 | h9 | h9 <;> subst h9 <;> repeat (first | exact List.mem_cons_self | apply List.mem_cons_of_mem)), rfl, c34_0, hF34, hG34, c34_1, c34_2, c34_3, (show m.toInt < wd.toInt from by first | assumption | omega), (show 0 ≤ z42.toInt from by first | assumption | omega), (show z42.toInt ≤ 2147483647 from by first | assumption | omega), (show (2147483647 - z42.toInt) < n17 from by omega)⟩
                · intro h37
                  have h37 : ¬ x34.toInt = 0 := h37
                  exact ⟨c34_0, c34_1, c34_2, c34_3, hF34, hG34⟩
        refine f_wp_ok C f_cl flX6_ok fiX6_ok fjX6_ok (sn := none) (fun j h => by cases h) (cs := (f_cnl [(72, (2, 3, 6, pX6_isSentenceWithout, qX6_isSentenceWithout))])) (cz := (f_cnl [(66, (1, 1, 0, pJ6_bitCount_0f7a4, qJ6_bitCount_0f7a4))])) (f_cnl_of (P := fun j S => f_cok pP l eP (f_rm 37) sP mP aP bP hP9 cP xY 80 a cy dC dI 4 _ _ (.invokevirtual j) true S) (List.forall_mem_cons.mpr ⟨f_cokV C (mX6_isSentenceWithout hinj) (ci := 6) rfl (List.forall_mem_cons.mpr ⟨(mlX6_ok _ (List.mem_of_getElem? (i := 4) rfl)), kc_X6_isSentenceWithout⟩) (by decide +kernel) ⟨Nat.le_of_ble_eq_true rfl, Nat.le_of_ble_eq_true rfl⟩, fun _ h => absurd h List.not_mem_nil⟩)) (f_cnl_of (P := fun j S => f_cok pP l eP (f_rm 37) sP mP aP bP hP9 cP xY 80 a cy dC dI 4 _ _ (.invokestatic j) false S) (List.forall_mem_cons.mpr ⟨f_cokS C (mJ6_bitCount_0f7a4 hinj) (List.forall_mem_cons.mpr ⟨(mlX6_ok _ (List.mem_of_getElem? (i := 3) rfl)), kc_J6_bitCount_0f7a4⟩) (by decide +kernel) ⟨Nat.le_of_ble_eq_true rfl, Nat.le_of_ble_eq_true rfl⟩, fun _ h => absurd h List.not_mem_nil⟩)) tX6_findLeftOut_ok (cut := (f_cnl [(17, (fun (ls' : fLs) (st' : List Value) (I' : fM) (L' : fN) => ∃ e : Int32, (∀ q ∈ ([(3, .int e), (2, .int m), (1, .int wd), (0, .ref 72)] : fLs), q ∈ ls') ∧ st' = [] ∧ (xR I' ∧ f_fr [25, 26, 27, 28, 31, 32, 33, 34, 35, 36, 37, 38, 39, 69] I I' ∧ f_fr [29, 30, 70] L L' ∧ xO I' ∧ xT I' ∧ xS I' ∧ (m.toInt < wd.toInt) ∧ (0 ≤ e.toInt) ∧ (e.toInt ≤ 2147483647) ∧ (2147483647 - e.toInt) < 2147483648)))])) (f_cnl_of (P := fun (tQ : Nat) (P : fLs → List Value → fM → fN → Prop) => ∀ ls' st' I' L', P ls' st' I' L' → f_W pP l eP (f_rm 37) sP mP aP bP hP9 cP xY 80 a cy dC dI 4 (f_K 1 (qX6_findLeftOut [.ref 72] I L)) tQ ls' st' I' L') (List.forall_mem_cons.mpr ⟨(fun ls' st' I' L' h => by obtain ⟨e, hs, e1, h9⟩ := h; rw [e1]; exact f_W_sub hs (lp17 2147483648 e I' L' h9)), fun _ h => absurd h List.not_mem_nil⟩)) 8 10 (f_seek 10 0 tX6_findLeftOut) (f_seek_ok 10 0 tX6_findLeftOut tX6_findLeftOut_ok) _ _ _ _ ?_
        apply And.intro
        · intro h12
          have h12 : wd.toInt ≤ m.toInt := h12
          exact ⟨hR10c, hxO10c, hxT10c, hxS10c, hF10c, hG10c⟩
        · intro h12
          have h12 : m.toInt < wd.toInt := h12
          exact ⟨Int32.ofInt 0, (by intro q9 h9; simp only [List.mem_cons, List.not_mem_nil, or_false] at h9; rcases h9 with h9 | h9 | h9 | h9 <;> subst h9 <;> repeat (first | exact List.mem_cons_self | apply List.mem_cons_of_mem)), rfl, hR10c, hF10c, hG10c, hxO10c, hxT10c, hxS10c, (show m.toInt < wd.toInt from by first | assumption | omega), (show 0 ≤ (0 : Int) from by first | assumption | omega), (show (0 : Int) ≤ 2147483647 from by first | assumption | omega), (show (2147483647 - (0 : Int)) < 2147483648 from by omega)⟩
    refine f_wp_ok C f_cl flX6_ok fiX6_ok fjX6_ok (sn := none) (fun j h => by cases h) (cs := (f_cnl [(72, (2, 3, 6, pX6_isSentenceWithout, qX6_isSentenceWithout))])) (cz := (f_cnl [(66, (1, 1, 0, pJ6_bitCount_0f7a4, qJ6_bitCount_0f7a4))])) (f_cnl_of (P := fun j S => f_cok pP l eP (f_rm 37) sP mP aP bP hP9 cP xY 80 a cy dC dI 4 _ _ (.invokevirtual j) true S) (List.forall_mem_cons.mpr ⟨f_cokV C (mX6_isSentenceWithout hinj) (ci := 6) rfl (List.forall_mem_cons.mpr ⟨(mlX6_ok _ (List.mem_of_getElem? (i := 4) rfl)), kc_X6_isSentenceWithout⟩) (by decide +kernel) ⟨Nat.le_of_ble_eq_true rfl, Nat.le_of_ble_eq_true rfl⟩, fun _ h => absurd h List.not_mem_nil⟩)) (f_cnl_of (P := fun j S => f_cok pP l eP (f_rm 37) sP mP aP bP hP9 cP xY 80 a cy dC dI 4 _ _ (.invokestatic j) false S) (List.forall_mem_cons.mpr ⟨f_cokS C (mJ6_bitCount_0f7a4 hinj) (List.forall_mem_cons.mpr ⟨(mlX6_ok _ (List.mem_of_getElem? (i := 3) rfl)), kc_J6_bitCount_0f7a4⟩) (by decide +kernel) ⟨Nat.le_of_ble_eq_true rfl, Nat.le_of_ble_eq_true rfl⟩, fun _ h => absurd h List.not_mem_nil⟩)) tX6_findLeftOut_ok (cut := (f_cnl [(10, (fun (ls' : fLs) (st' : List Value) (I' : fM) (L' : fN) => ∃ wd : Int32, ∃ m : Int32, (∀ q ∈ ([(2, .int m), (1, .int wd), (0, .ref 72)] : fLs), q ∈ ls') ∧ st' = [] ∧ (xR I' ∧ f_fr [25, 26, 27, 28, 31, 32, 33, 34, 35, 36, 37, 38, 39, 69] I I' ∧ f_fr [29, 30, 70] L L' ∧ xO I' ∧ xT I' ∧ xS I' ∧ (wd.toInt = (I 40 6).toInt) ∧ (0 ≤ m.toInt) ∧ (m.toInt ≤ wd.toInt) ∧ (wd.toInt - m.toInt) < 9)))])) (f_cnl_of (P := fun (tQ : Nat) (P : fLs → List Value → fM → fN → Prop) => ∀ ls' st' I' L', P ls' st' I' L' → f_W pP l eP (f_rm 37) sP mP aP bP hP9 cP xY 80 a cy dC dI 4 (f_K 1 (qX6_findLeftOut [.ref 72] I L)) tQ ls' st' I' L') (List.forall_mem_cons.mpr ⟨(fun ls' st' I' L' h => by obtain ⟨wd, m, hs, e1, h9⟩ := h; rw [e1]; exact f_W_sub hs (lp10 9 wd m I' L' h9)), fun _ h => absurd h List.not_mem_nil⟩)) 9 0 tX6_findLeftOut tX6_findLeftOut_ok _ _ _ _ ?_
    have r4_1 : 0 ≤ (I 40 6).toInt ∧ (I 40 6).toInt ≤ 8 := hR 40 6
    exact ⟨I 40 6, Int32.ofInt 0, (by intro q9 h9; simp only [List.mem_cons, List.not_mem_nil, or_false] at h9; rcases h9 with h9 | h9 | h9 <;> subst h9 <;> repeat (first | exact List.mem_cons_self | apply List.mem_cons_of_mem)), rfl, hR, hF0, hG0, hxO, hxT, hxS, (show (I 40 6).toInt = (I 40 6).toInt from by first | assumption | omega | rfl), (show 0 ≤ (0 : Int) from by first | assumption | omega), (show (0 : Int) ≤ (I 40 6).toInt from by first | assumption | omega), (show ((I 40 6).toInt - (0 : Int)) < 9 from by omega)⟩
def tX6_leastLeftOut : List (Instr × Nat) := [(.aload_n 0, 1), (.getfield 46, 3), (.bipush (-2), 2), (.if_icmp .ne 11, 3), (.aload_n 0, 1), (.aload_n 0, 1), (.invokevirtual 59, 3), (.putfield 46, 3), (.aload_n 0, 1), (.getfield 46, 3), (.ireturn, 1)]
theorem tX6_leastLeftOut_ok : f_chk cX6_leastLeftOut 0 tX6_leastLeftOut = true := by decide +kernel
def pX6_leastLeftOut (av : List Value) (I : fM) (L : fN) : Prop := match av with
  | [.ref 72] => xR I ∧ xO I ∧ xT I ∧ xS I
  | _ => False
def qX6_leastLeftOut (av : List Value) (I : fM) (L : fN) (r : Value) (I' : fM) (L' : fN) : Prop := match av, r with
  | [.ref 72], .int x => xR I' ∧ xO I' ∧ xT I' ∧ xS I' ∧ f_fr [25, 26, 27, 28, 31, 32, 33, 34, 35, 36, 37, 38, 39, 69, 72] I I' ∧ f_fr [29, 30, 70] L L'
  | _, _ => False
set_option maxHeartbeats 4000000 in
set_option maxRecDepth 100000 in
theorem mX6_leastLeftOut {l : Launch} {a : Nat → Nat} {cy dC : Nat → ClassId} {dI : Nat → Nat → Nat} (hinj : ∀ i j, i < 80 → j < 80 → a i = a j → i = j) : f_Met (xE a) l xY 80 a cy dC dI yX6_leastLeftOut cX6_leastLeftOut 1 1 38 pX6_leastLeftOut qX6_leastLeftOut := by
  refine f_met_of (xE_c a) hinj xY_hi (by decide) (fun av I L h => by unfold pX6_leastLeftOut at h; split at h <;> first | exact Nat.le_of_ble_eq_true rfl | exact h.elim) ?_
  intro pP eP sP mP aP bP hP9 cP C av I L hp
  unfold pX6_leastLeftOut at hp
  split at hp
  case h_2 => exact hp.elim
  case h_1 =>
    obtain ⟨hR, hxO, hxT, hxS⟩ := hp
    have hF0 : f_fr [25, 26, 27, 28, 31, 32, 33, 34, 35, 36, 37, 38, 39, 69, 72] I I := f_fr_rf
    have hG0 : f_fr [29, 30, 70] L L := f_fr_rf
    refine f_wp_ok C f_cl flX6_ok fiX6_ok fjX6_ok (sn := none) (fun j h => by cases h) (cs := (f_cnl [(59, (1, 1, 6, pX6_findLeftOut, qX6_findLeftOut))])) (cz := (fun _ => none)) (f_cnl_of (P := fun j S => f_cok pP l eP (f_rm 38) sP mP aP bP hP9 cP xY 80 a cy dC dI 1 _ _ (.invokevirtual j) true S) (List.forall_mem_cons.mpr ⟨f_cokV C (mX6_findLeftOut hinj) (ci := 6) rfl (List.forall_mem_cons.mpr ⟨(mlX6_ok _ (List.mem_of_getElem? (i := 2) rfl)), kc_X6_findLeftOut⟩) (by decide +kernel) ⟨Nat.le_of_ble_eq_true rfl, Nat.le_of_ble_eq_true rfl⟩, fun _ h => absurd h List.not_mem_nil⟩)) (fun j S h => by cases h) tX6_leastLeftOut_ok (cut := (fun _ => none)) (fun t P h => by cases h) 14 0 tX6_leastLeftOut tX6_leastLeftOut_ok _ _ _ _ ?_
    apply And.intro
    · intro h6
      have h6 : ¬ (I 72 8).toInt = (-2) := h6
      exact ⟨hR, hxO, hxT, hxS, hF0, hG0⟩
    · intro h6
      have h6 : (I 72 8).toInt = (-2) := h6
      refine And.intro ⟨hR, hxO, hxT, hxS⟩ ?_
      intro x11 I11 L11 hq11
      have hq11 : xR I11 ∧ xO I11 ∧ xT I11 ∧ xS I11 ∧ f_fr [25, 26, 27, 28, 31, 32, 33, 34, 35, 36, 37, 38, 39, 69] I I11 ∧ f_fr [29, 30, 70] L L11 := hq11
      obtain ⟨c11_0, c11_1, c11_2, c11_3, c11_4, c11_5⟩ := hq11
      have hF11 := f_fr_tr hF0 c11_4 rfl
      have hG11 := f_fr_tr hG0 c11_5 rfl
      have hR14 := xR_f (k := 72) (j := 8) (x := x11) c11_0 (by exact f_rng _)
      have hF14 := f_fr_up (k := 72) (r := va_up (I11 72) 8 x11) hF11 rfl
      have hxO14 := f_dep_up xO_dep (k := 72) (r := va_up (I11 72) 8 x11) c11_1 rfl
      have hxT14 := f_dep_up xT_dep (k := 72) (r := va_up (I11 72) 8 x11) c11_2 rfl
      have hxS14 := f_dep_up xS_dep (k := 72) (r := va_up (I11 72) 8 x11) c11_3 rfl
      exact ⟨hR14, hxO14, hxT14, hxS14, hF14, hG11⟩
def tX6_isPassedByLike : List (Instr × Nat) := [(.iconst 0, 1), (.istore_n 3, 1), (.iload_n 3, 1), (.iload_n 1, 1), (.if_icmp .ge 40, 3), (.iload_n 2, 1), (.iload_n 3, 1), (.ishr, 1), (.iconst 1, 1), (.iand, 1), (.ifCond .ne 26, 3), (.aload_n 0, 1), (.getfield 39, 3), (.getfield 84, 3), (.iload_n 3, 1), (.iaload, 1), (.aload_n 0, 1), (.getfield 39, 3), (.getfield 84, 3), (.iload_n 1, 1), (.iaload, 1), (.if_icmp .ne 5, 3), (.iconst 1, 1), (.ireturn, 1), (.iinc 3 1, 3), (.goto (-39), 3), (.iconst 0, 1), (.ireturn, 1)]
theorem tX6_isPassedByLike_ok : f_chk cX6_isPassedByLike 0 tX6_isPassedByLike = true := by decide +kernel
def pX6_isPassedByLike (av : List Value) (I : fM) (L : fN) : Prop := match av with
  | [.ref 72, .int p, .int e] => 0 ≤ p.toInt ∧ p.toInt ≤ 7
  | _ => False
def qX6_isPassedByLike (av : List Value) (I : fM) (L : fN) (r : Value) (I' : fM) (L' : fN) : Prop := match av, r with
  | [.ref 72, .int p, .int e], .int x => I' = I ∧ L' = L ∧ (x.toInt = 0 ∨ x.toInt = 1)
  | _, _ => False
set_option maxHeartbeats 4000000 in
set_option maxRecDepth 100000 in
theorem mX6_isPassedByLike {l : Launch} {a : Nat → Nat} {cy dC : Nat → ClassId} {dI : Nat → Nat → Nat} (hinj : ∀ i j, i < 80 → j < 80 → a i = a j → i = j) : f_Met (xE a) l xY 80 a cy dC dI yX6_isPassedByLike cX6_isPassedByLike 4 3 0 pX6_isPassedByLike qX6_isPassedByLike := by
  refine f_met_of (xE_c a) hinj xY_hi (by decide) (fun av I L h => by unfold pX6_isPassedByLike at h; split at h <;> first | exact Nat.le_of_ble_eq_true rfl | exact h.elim) ?_
  intro pP eP sP mP aP bP hP9 cP C av I L hp
  unfold pX6_isPassedByLike at hp
  split at hp
  case h_2 => exact hp.elim
  case h_1 p e =>
    obtain ⟨p0, p1⟩ := hp
    have lp2 : ∀ (n2 : Nat), ∀ (i : Int32), (0 ≤ i.toInt) ∧ (i.toInt ≤ p.toInt) ∧ (p.toInt - i.toInt) < n2 → f_W pP l eP (f_rm 0) sP mP aP bP hP9 cP xY 80 a cy dC dI 4 (f_K 3 (qX6_isPassedByLike [.ref 72, .int p, .int e] I L)) 2 [(3, .int i), (2, .int e), (1, .int p), (0, .ref 72)] [] I L := by
      intro n2
      induction n2 with
      | zero =>
        intro i h9
        obtain ⟨u2_1, u2_2, hm2⟩ := h9
        omega
      | succ n2 ih2 =>
        intro i h9
        obtain ⟨u2_1, u2_2, hm2⟩ := h9
        refine f_wp_ok C f_cl flX6_ok fiX6_ok fjX6_ok (sn := none) (fun j h => by cases h) (cs := (fun _ => none)) (cz := (fun _ => none)) (fun j S h => by cases h) (fun j S h => by cases h) tX6_isPassedByLike_ok (cut := (f_cnl [(2, (fun (ls' : fLs) (st' : List Value) (I' : fM) (L' : fN) => ∃ i : Int32, (∀ q ∈ ([(3, .int i), (2, .int e), (1, .int p), (0, .ref 72)] : fLs), q ∈ ls') ∧ st' = [] ∧ I' = I ∧ L' = L ∧ ((0 ≤ i.toInt) ∧ (i.toInt ≤ p.toInt) ∧ (p.toInt - i.toInt) < n2)))])) (f_cnl_of (P := fun (tQ : Nat) (P : fLs → List Value → fM → fN → Prop) => ∀ ls' st' I' L', P ls' st' I' L' → f_W pP l eP (f_rm 0) sP mP aP bP hP9 cP xY 80 a cy dC dI 4 (f_K 3 (qX6_isPassedByLike [.ref 72, .int p, .int e] I L)) tQ ls' st' I' L') (List.forall_mem_cons.mpr ⟨(fun ls' st' I' L' h => by obtain ⟨i, hs, e1, e2, e3, h9⟩ := h; rw [e1, e2, e3]; exact f_W_sub hs (ih2 i h9)), fun _ h => absurd h List.not_mem_nil⟩)) 25 2 (f_seek 2 0 tX6_isPassedByLike) (f_seek_ok 2 0 tX6_isPassedByLike tX6_isPassedByLike_ok) _ _ _ _ ?_
        apply And.intro
        · intro h4
          have h4 : p.toInt ≤ i.toInt := h4
          exact ⟨Or.inl rfl, rfl, rfl, (show ((0 : Int) = 0 ∨ (0 : Int) = 1) from by first | assumption | omega | rfl)⟩
        · intro h4
          have h4 : i.toInt < p.toInt := h4
          have b11 : 0 ≤ ((e >>> (i &&& 31)) &&& (Int32.ofInt 1)).toInt ∧ ((e >>> (i &&& 31)) &&& (Int32.ofInt 1)).toInt ≤ 1 := f_andc (e >>> (i &&& 31)) 1 (by decide) (by decide)
          apply And.intro
          · intro h12
            have h12 : ¬ ((e >>> (i &&& 31)) &&& (Int32.ofInt 1)).toInt = 0 := h12
            intro z38 q38 _ hq38 hl38 hu38
            have hq38 : z38.toInt = i.toInt + 1 + 4294967296 * q38 := hq38
            try have hz38 : z38.toInt = i.toInt + 1 := by omega
            exact ⟨z38, (by intro q9 h9; simp only [List.mem_cons, List.not_mem_nil, or_false] at h9; rcases h9 with h9 | h9 | h9 | h9 <;> subst h9 <;> repeat (first | exact List.mem_cons_self | apply List.mem_cons_of_mem)), rfl, rfl, rfl, (show 0 ≤ z38.toInt from by first | assumption | omega), (show z38.toInt ≤ p.toInt from by first | assumption | omega), (show (p.toInt - z38.toInt) < n2 from by omega)⟩
          · intro h12
            have h12 : ((e >>> (i &&& 31)) &&& (Int32.ofInt 1)).toInt = 0 := h12
            refine And.intro (show f_in i 8 from ⟨show 0 ≤ i.toInt from by omega, show i.toInt < 8 from by omega⟩) ?_
            refine And.intro (show f_in p 8 from ⟨show 0 ≤ p.toInt from by omega, show p.toInt < 8 from by omega⟩) ?_
            apply And.intro
            · intro h33
              have h33 : ¬ (I 41 (i.toInt.toNat)).toInt = (I 41 (p.toInt.toNat)).toInt := h33
              intro z38 q38 _ hq38 hl38 hu38
              have hq38 : z38.toInt = i.toInt + 1 + 4294967296 * q38 := hq38
              try have hz38 : z38.toInt = i.toInt + 1 := by omega
              exact ⟨z38, (by intro q9 h9; simp only [List.mem_cons, List.not_mem_nil, or_false] at h9; rcases h9 with h9 | h9 | h9 | h9 <;> subst h9 <;> repeat (first | exact List.mem_cons_self | apply List.mem_cons_of_mem)), rfl, rfl, rfl, (show 0 ≤ z38.toInt from by first | assumption | omega), (show z38.toInt ≤ p.toInt from by first | assumption | omega), (show (p.toInt - z38.toInt) < n2 from by omega)⟩
            · intro h33
              have h33 : (I 41 (i.toInt.toNat)).toInt = (I 41 (p.toInt.toNat)).toInt := h33
              exact ⟨Or.inr rfl, rfl, rfl, (show ((1 : Int) = 0 ∨ (1 : Int) = 1) from by first | assumption | omega | rfl)⟩
    refine f_wp_ok C f_cl flX6_ok fiX6_ok fjX6_ok (sn := none) (fun j h => by cases h) (cs := (fun _ => none)) (cz := (fun _ => none)) (fun j S h => by cases h) (fun j S h => by cases h) tX6_isPassedByLike_ok (cut := (f_cnl [(2, (fun (ls' : fLs) (st' : List Value) (I' : fM) (L' : fN) => ∃ i : Int32, (∀ q ∈ ([(3, .int i), (2, .int e), (1, .int p), (0, .ref 72)] : fLs), q ∈ ls') ∧ st' = [] ∧ I' = I ∧ L' = L ∧ ((0 ≤ i.toInt) ∧ (i.toInt ≤ p.toInt) ∧ (p.toInt - i.toInt) < 8)))])) (f_cnl_of (P := fun (tQ : Nat) (P : fLs → List Value → fM → fN → Prop) => ∀ ls' st' I' L', P ls' st' I' L' → f_W pP l eP (f_rm 0) sP mP aP bP hP9 cP xY 80 a cy dC dI 4 (f_K 3 (qX6_isPassedByLike [.ref 72, .int p, .int e] I L)) tQ ls' st' I' L') (List.forall_mem_cons.mpr ⟨(fun ls' st' I' L' h => by obtain ⟨i, hs, e1, e2, e3, h9⟩ := h; rw [e1, e2, e3]; exact f_W_sub hs (lp2 8 i h9)), fun _ h => absurd h List.not_mem_nil⟩)) 5 0 tX6_isPassedByLike tX6_isPassedByLike_ok _ _ _ _ ?_
    exact ⟨Int32.ofInt 0, (by intro q9 h9; simp only [List.mem_cons, List.not_mem_nil, or_false] at h9; rcases h9 with h9 | h9 | h9 | h9 <;> subst h9 <;> repeat (first | exact List.mem_cons_self | apply List.mem_cons_of_mem)), rfl, rfl, rfl, (show 0 ≤ (0 : Int) from by first | assumption | omega), (show (0 : Int) ≤ p.toInt from by first | assumption | omega), (show (p.toInt - (0 : Int)) < 8 from by omega)⟩
def tX6_isOrderSentence : List (Instr × Nat) := [(.aload_n 0, 1), (.getfield 35, 3), (.bipush 36, 2), (.invokevirtual 78, 3), (.iconst 0, 1), (.istore_n 1, 1), (.iconst 0, 1), (.istore_n 2, 1), (.iload_n 2, 1), (.aload_n 0, 1), (.getfield 39, 3), (.getfield 63, 3), (.if_icmp .ge 44, 3), (.aload_n 0, 1), (.getfield 35, 3), (.aload_n 0, 1), (.getfield 39, 3), (.getfield 84, 3), (.aload_n 0, 1), (.getfield 11, 3), (.iload_n 2, 1), (.iaload, 1), (.iaload, 1), (.invokevirtual 87, 3), (.iload_n 1, 1), (.bipush 10, 2), (.imul, 1), (.aload_n 0, 1), (.getfield 11, 3), (.iload_n 2, 1), (.iaload, 1), (.iadd, 1), (.iconst 1, 1), (.iadd, 1), (.istore_n 1, 1), (.iinc 2 1, 3), (.goto (-49), 3), (.aload_n 0, 1), (.aload_n 0, 1), (.getfield 35, 3), (.aconst_null, 1), (.invokevirtual 90, 3), (.ifCond .eq 7, 3), (.iload_n 1, 1), (.goto 4, 3), (.iconst (-1), 1), (.putfield 94, 3), (.aload_n 0, 1), (.getfield 94, 3), (.iconst (-1), 1), (.if_icmp .eq 7, 3), (.iconst 1, 1), (.goto 4, 3), (.iconst 0, 1), (.ireturn, 1)]
theorem tX6_isOrderSentence_ok : f_chk cX6_isOrderSentence 0 tX6_isOrderSentence = true := by decide +kernel
def pX6_isOrderSentence (av : List Value) (I : fM) (L : fN) : Prop := match av with
  | [.ref 72] => xR I ∧ xO I ∧ xT I ∧ xS I ∧ (I 40 6).toInt ≤ 6
  | _ => False
def qX6_isOrderSentence (av : List Value) (I : fM) (L : fN) (r : Value) (I' : fM) (L' : fN) : Prop := match av, r with
  | [.ref 72], .int x => xR I' ∧ xO I' ∧ xT I' ∧ xS I' ∧ f_fr [25, 26, 27, 28, 31, 32, 33, 34, 35, 36, 37, 38, 39, 69, 72] I I' ∧ f_fr [29, 30, 70] L L' ∧ (x.toInt = 0 ∨ x.toInt = 1)
  | _, _ => False
set_option maxHeartbeats 4000000 in
set_option maxRecDepth 100000 in
theorem mX6_isOrderSentence {l : Launch} {a : Nat → Nat} {cy dC : Nat → ClassId} {dI : Nat → Nat → Nat} (hinj : ∀ i j, i < 80 → j < 80 → a i = a j → i = j) : f_Met (xE a) l xY 80 a cy dC dI yX6_isOrderSentence cX6_isOrderSentence 3 3 36 pX6_isOrderSentence qX6_isOrderSentence := by
  refine f_met_of (xE_c a) hinj xY_hi (by decide) (fun av I L h => by unfold pX6_isOrderSentence at h; split at h <;> first | exact Nat.le_of_ble_eq_true rfl | exact h.elim) ?_
  intro pP eP sP mP aP bP hP9 cP C av I L hp
  unfold pX6_isOrderSentence at hp
  split at hp
  case h_2 => exact hp.elim
  case h_1 =>
    obtain ⟨hR, hxO, hxT, hxS, p4⟩ := hp
    have hn : 0 ≤ (I 40 6).toInt ∧ (I 40 6).toInt ≤ 8 := hR 40 6
    have hF0 : f_fr [25, 26, 27, 28, 31, 32, 33, 34, 35, 36, 37, 38, 39, 69, 72] I I := f_fr_rf
    have hG0 : f_fr [29, 30, 70] L L := f_fr_rf
    have lp13 : ∀ (n13 : Nat), ∀ (dg : Int32) (i : Int32) (J13 : fM) (M13 : fN), xR J13 ∧ f_fr [25, 26, 27, 28, 31, 32, 33, 34, 35, 36, 37, 38, 39, 69, 72] I J13 ∧ f_fr [29, 30, 70] L M13 ∧ xO J13 ∧ xT J13 ∧ xS J13 ∧ (0 ≤ i.toInt) ∧ (i.toInt ≤ (I 40 6).toInt) ∧ ((I 40 6).toInt - i.toInt) < n13 → f_W pP l eP (f_rm 36) sP mP aP bP hP9 cP xY 80 a cy dC dI 3 (f_K 3 (qX6_isOrderSentence [.ref 72] I L)) 13 [(2, .int i), (1, .int dg), (0, .ref 72)] [] J13 M13 := by
      intro n13
      induction n13 with
      | zero =>
        intro dg i J13 M13 h9
        obtain ⟨hR13c, hF13c, hG13c, hxO13c, hxT13c, hxS13c, u13_1, u13_2, hm13⟩ := h9
        omega
      | succ n13 ih13 =>
        intro dg i J13 M13 h9
        obtain ⟨hR13c, hF13c, hG13c, hxO13c, hxT13c, hxS13c, u13_1, u13_2, hm13⟩ := h9
        refine f_wp_ok C f_cl flX6_ok fiX6_ok fjX6_ok (sn := none) (fun j h => by cases h) (cs := (f_cnl [(78, (2, 0, 9, pX10_begin, qX10_begin)), (87, (2, 0, 9, pX10_addWord, qX10_addWord)), (90, (2, 3, 9, pX10_search, qX10_search))])) (cz := (fun _ => none)) (f_cnl_of (P := fun j S => f_cok pP l eP (f_rm 36) sP mP aP bP hP9 cP xY 80 a cy dC dI 3 _ _ (.invokevirtual j) true S) (List.forall_mem_cons.mpr ⟨f_cokV C (mX10_begin hinj) (ci := 9) rfl (List.forall_mem_cons.mpr ⟨(mlX6_ok _ (List.mem_of_getElem? (i := 5) rfl)), kc_X10_begin⟩) (by decide +kernel) ⟨Nat.le_of_ble_eq_true rfl, Nat.le_of_ble_eq_true rfl⟩, List.forall_mem_cons.mpr ⟨f_cokV C (mX10_addWord hinj) (ci := 9) rfl (List.forall_mem_cons.mpr ⟨(mlX6_ok _ (List.mem_of_getElem? (i := 6) rfl)), kc_X10_addWord⟩) (by decide +kernel) ⟨Nat.le_of_ble_eq_true rfl, Nat.le_of_ble_eq_true rfl⟩, List.forall_mem_cons.mpr ⟨f_cokV C (mX10_search hinj) (ci := 9) rfl (List.forall_mem_cons.mpr ⟨(mlX6_ok _ (List.mem_of_getElem? (i := 7) rfl)), kc_X10_search⟩) (by decide +kernel) ⟨Nat.le_of_ble_eq_true rfl, Nat.le_of_ble_eq_true rfl⟩, fun _ h => absurd h List.not_mem_nil⟩⟩⟩)) (fun j S h => by cases h) tX6_isOrderSentence_ok (cut := (f_cnl [(13, (fun (ls' : fLs) (st' : List Value) (I' : fM) (L' : fN) => ∃ dg : Int32, ∃ i : Int32, (∀ q ∈ ([(2, .int i), (1, .int dg), (0, .ref 72)] : fLs), q ∈ ls') ∧ st' = [] ∧ (xR I' ∧ f_fr [25, 26, 27, 28, 31, 32, 33, 34, 35, 36, 37, 38, 39, 69, 72] I I' ∧ f_fr [29, 30, 70] L L' ∧ xO I' ∧ xT I' ∧ xS I' ∧ (0 ≤ i.toInt) ∧ (i.toInt ≤ (I 40 6).toInt) ∧ ((I 40 6).toInt - i.toInt) < n13)))])) (f_cnl_of (P := fun (tQ : Nat) (P : fLs → List Value → fM → fN → Prop) => ∀ ls' st' I' L', P ls' st' I' L' → f_W pP l eP (f_rm 36) sP mP aP bP hP9 cP xY 80 a cy dC dI 3 (f_K 3 (qX6_isOrderSentence [.ref 72] I L)) tQ ls' st' I' L') (List.forall_mem_cons.mpr ⟨(fun ls' st' I' L' h => by obtain ⟨dg, i, hs, e1, h9⟩ := h; rw [e1]; exact f_W_sub hs (ih13 dg i I' L' h9)), fun _ h => absurd h List.not_mem_nil⟩)) 32 13 (f_seek 13 0 tX6_isOrderSentence) (f_seek_ok 13 0 tX6_isOrderSentence tX6_isOrderSentence_ok) _ _ _ _ ?_
        have r18_1 : 0 ≤ (J13 40 6).toInt ∧ (J13 40 6).toInt ≤ 8 := hR13c 40 6
        have e18_2 : (J13 40 6).toInt = (I 40 6).toInt := congrArg Int32.toInt (congrFun (hF13c 40 rfl) 6)
        apply And.intro
        · intro h21
          have h21 : (J13 40 6).toInt ≤ i.toInt := h21
          refine And.intro ⟨hR13c, hxO13c, hxT13c, hxS13c, (by first | assumption | exact Or.inl rfl | exact Or.inr rfl | (intro h; cases h)), (by first | assumption | exact Or.inl rfl | exact Or.inr rfl | (intro h; cases h))⟩ ?_
          intro x71 I71 L71 hq71
          have hq71 : xR I71 ∧ xO I71 ∧ xT I71 ∧ xS I71 ∧ f_fr [28, 31, 32, 33, 34, 35, 36, 37, 38, 39, 69] J13 I71 ∧ f_fr [29, 30, 70] M13 L71 ∧ (((Value.null) = Value.ref 69 → xK I71 L71)) ∧ ((I71 69 = J13 69 ∨ 0 < (J13 16 (J13 25 8).toInt.toNat).toInt)) ∧ ((x71.toInt = 0 ∨ x71.toInt = 1)) := hq71
          obtain ⟨c71_0, c71_1, c71_2, c71_3, c71_4, c71_5, c71_6, c71_7, c71_8⟩ := hq71
          have hF71 := f_fr_tr hF13c c71_4 rfl
          have hG71 := f_fr_tr hG13c c71_5 rfl
          apply And.intro
          · intro h74
            have h74 : x71.toInt = 0 := h74
            have hR82 := xR_f (k := 72) (j := 10) (x := Int32.ofInt (-1)) c71_0 (by exact f_rng _)
            have hF82 := f_fr_up (k := 72) (r := va_up (I71 72) 10 (Int32.ofInt (-1))) hF71 rfl
            have hxO82 := f_dep_up xO_dep (k := 72) (r := va_up (I71 72) 10 (Int32.ofInt (-1))) c71_1 rfl
            have hxT82 := f_dep_up xT_dep (k := 72) (r := va_up (I71 72) 10 (Int32.ofInt (-1))) c71_2 rfl
            have hxS82 := f_dep_up xS_dep (k := 72) (r := va_up (I71 72) 10 (Int32.ofInt (-1))) c71_3 rfl
            apply And.intro
            · intro h90
              have h90 : (-1 : Int) = (-1) := h90
              exact ⟨Or.inl rfl, hR82, hxO82, hxT82, hxS82, hF82, hG71, (show ((0 : Int) = 0 ∨ (0 : Int) = 1) from by first | assumption | omega | rfl)⟩
            · intro h90
              have h90 : ¬ (-1 : Int) = (-1) := h90
              exfalso
              omega
          · intro h74
            have h74 : ¬ x71.toInt = 0 := h74
            have hR82 := xR_f (k := 72) (j := 10) (x := dg) c71_0 (by exact f_rng _)
            have hF82 := f_fr_up (k := 72) (r := va_up (I71 72) 10 dg) hF71 rfl
            have hxO82 := f_dep_up xO_dep (k := 72) (r := va_up (I71 72) 10 dg) c71_1 rfl
            have hxT82 := f_dep_up xT_dep (k := 72) (r := va_up (I71 72) 10 dg) c71_2 rfl
            have hxS82 := f_dep_up xS_dep (k := 72) (r := va_up (I71 72) 10 dg) c71_3 rfl
            apply And.intro
            · intro h90
              have h90 : dg.toInt = (-1) := h90
              exact ⟨Or.inl rfl, hR82, hxO82, hxT82, hxS82, hF82, hG71, (show ((0 : Int) = 0 ∨ (0 : Int) = 1) from by first | assumption | omega | rfl)⟩
            · intro h90
              have h90 : ¬ dg.toInt = (-1) := h90
              exact ⟨Or.inr rfl, hR82, hxO82, hxT82, hxS82, hF82, hG71, (show ((1 : Int) = 0 ∨ (1 : Int) = 1) from by first | assumption | omega | rfl)⟩
        · intro h21
          have h21 : i.toInt < (J13 40 6).toInt := h21
          refine And.intro (show f_in i 6 from ⟨show 0 ≤ i.toInt from by omega, show i.toInt < 6 from by omega⟩) ?_
          have r40_3 : 0 ≤ (J13 73 (i.toInt.toNat)).toInt ∧ (J13 73 (i.toInt.toNat)).toInt ≤ 7 := hR13c 73 (i.toInt.toNat)
          have e40_4 : (J13 73 (i.toInt.toNat)).toInt = (I 73 (i.toInt.toNat)).toInt := congrArg Int32.toInt (congrFun (hF13c 73 rfl) (i.toInt.toNat))
          refine And.intro (show f_in (J13 73 (i.toInt.toNat)) 8 from ⟨show 0 ≤ (J13 73 (i.toInt.toNat)).toInt from by omega, show (J13 73 (i.toInt.toNat)).toInt < 8 from by omega⟩) ?_
          have r41_5 : 0 ≤ (J13 41 ((J13 73 (i.toInt.toNat)).toInt.toNat)).toInt ∧ (J13 41 ((J13 73 (i.toInt.toNat)).toInt.toNat)).toInt ≤ 11 := hR13c 41 ((J13 73 (i.toInt.toNat)).toInt.toNat)
          have e41_6 : (J13 41 ((J13 73 (i.toInt.toNat)).toInt.toNat)).toInt = (I 41 ((J13 73 (i.toInt.toNat)).toInt.toNat)).toInt := congrArg Int32.toInt (congrFun (hF13c 41 rfl) ((J13 73 (i.toInt.toNat)).toInt.toNat))
          refine And.intro ⟨hR13c, hxT13c, (show 0 ≤ (J13 41 ((J13 73 (i.toInt.toNat)).toInt.toNat)).toInt from by first | assumption | omega), (show (J13 41 ((J13 73 (i.toInt.toNat)).toInt.toNat)).toInt ≤ 11 from by first | assumption | omega)⟩ ?_
          intro I42 L42 hq42
          have hq42 : xR I42 ∧ xT I42 ∧ f_fr [25, 26, 27] J13 I42 ∧ L42 = M13 ∧ I42 25 8 = J13 25 8 := hq42
          obtain ⟨c42_0, c42_1, c42_2, eL42, c42_4⟩ := hq42
          replace eL42 := eL42.symm
          subst eL42
          have hxO42 := f_dep_fr xO_dep hxO13c c42_2 rfl
          have hxS42 := f_dep_fr xS_dep hxS13c c42_2 rfl
          have hF42 := f_fr_tr hF13c c42_2 rfl
          intro z48 q48 _ hq48 hl48 hu48
          have hq48 : z48.toInt = dg.toInt * 10 + 4294967296 * q48 := hq48
          try have hz48 : z48.toInt = dg.toInt * 10 := by omega
          refine And.intro (show f_in i 6 from ⟨show 0 ≤ i.toInt from by omega, show i.toInt < 6 from by omega⟩) ?_
          have r54_7 : 0 ≤ (I42 73 (i.toInt.toNat)).toInt ∧ (I42 73 (i.toInt.toNat)).toInt ≤ 7 := c42_0 73 (i.toInt.toNat)
          have e54_8 : (I42 73 (i.toInt.toNat)).toInt = (J13 73 (i.toInt.toNat)).toInt := congrArg Int32.toInt (congrFun (c42_2 73 rfl) (i.toInt.toNat))
          intro z55 q55 _ hq55 hl55 hu55
          have hq55 : z55.toInt = z48.toInt + (I42 73 (i.toInt.toNat)).toInt + 4294967296 * q55 := hq55
          try have hz55 : z55.toInt = z48.toInt + (I42 73 (i.toInt.toNat)).toInt := by omega
          intro z57 q57 _ hq57 hl57 hu57
          have hq57 : z57.toInt = z55.toInt + 1 + 4294967296 * q57 := hq57
          try have hz57 : z57.toInt = z55.toInt + 1 := by omega
          intro z59 q59 _ hq59 hl59 hu59
          have hq59 : z59.toInt = i.toInt + 1 + 4294967296 * q59 := hq59
          try have hz59 : z59.toInt = i.toInt + 1 := by omega
          exact ⟨z57, z59, (by intro q9 h9; simp only [List.mem_cons, List.not_mem_nil, or_false] at h9; rcases h9 with h9 | h9 | h9 <;> subst h9 <;> repeat (first | exact List.mem_cons_self | apply List.mem_cons_of_mem)), rfl, c42_0, hF42, hG13c, hxO42, c42_1, hxS42, (show 0 ≤ z59.toInt from by first | assumption | omega), (show z59.toInt ≤ (I 40 6).toInt from by first | assumption | omega), (show ((I 40 6).toInt - z59.toInt) < n13 from by omega)⟩
    refine f_wp_ok C f_cl flX6_ok fiX6_ok fjX6_ok (sn := none) (fun j h => by cases h) (cs := (f_cnl [(78, (2, 0, 9, pX10_begin, qX10_begin)), (87, (2, 0, 9, pX10_addWord, qX10_addWord)), (90, (2, 3, 9, pX10_search, qX10_search))])) (cz := (fun _ => none)) (f_cnl_of (P := fun j S => f_cok pP l eP (f_rm 36) sP mP aP bP hP9 cP xY 80 a cy dC dI 3 _ _ (.invokevirtual j) true S) (List.forall_mem_cons.mpr ⟨f_cokV C (mX10_begin hinj) (ci := 9) rfl (List.forall_mem_cons.mpr ⟨(mlX6_ok _ (List.mem_of_getElem? (i := 5) rfl)), kc_X10_begin⟩) (by decide +kernel) ⟨Nat.le_of_ble_eq_true rfl, Nat.le_of_ble_eq_true rfl⟩, List.forall_mem_cons.mpr ⟨f_cokV C (mX10_addWord hinj) (ci := 9) rfl (List.forall_mem_cons.mpr ⟨(mlX6_ok _ (List.mem_of_getElem? (i := 6) rfl)), kc_X10_addWord⟩) (by decide +kernel) ⟨Nat.le_of_ble_eq_true rfl, Nat.le_of_ble_eq_true rfl⟩, List.forall_mem_cons.mpr ⟨f_cokV C (mX10_search hinj) (ci := 9) rfl (List.forall_mem_cons.mpr ⟨(mlX6_ok _ (List.mem_of_getElem? (i := 7) rfl)), kc_X10_search⟩) (by decide +kernel) ⟨Nat.le_of_ble_eq_true rfl, Nat.le_of_ble_eq_true rfl⟩, fun _ h => absurd h List.not_mem_nil⟩⟩⟩)) (fun j S h => by cases h) tX6_isOrderSentence_ok (cut := (f_cnl [(13, (fun (ls' : fLs) (st' : List Value) (I' : fM) (L' : fN) => ∃ dg : Int32, ∃ i : Int32, (∀ q ∈ ([(2, .int i), (1, .int dg), (0, .ref 72)] : fLs), q ∈ ls') ∧ st' = [] ∧ (xR I' ∧ f_fr [25, 26, 27, 28, 31, 32, 33, 34, 35, 36, 37, 38, 39, 69, 72] I I' ∧ f_fr [29, 30, 70] L L' ∧ xO I' ∧ xT I' ∧ xS I' ∧ (0 ≤ i.toInt) ∧ (i.toInt ≤ (I 40 6).toInt) ∧ ((I 40 6).toInt - i.toInt) < 7)))])) (f_cnl_of (P := fun (tQ : Nat) (P : fLs → List Value → fM → fN → Prop) => ∀ ls' st' I' L', P ls' st' I' L' → f_W pP l eP (f_rm 36) sP mP aP bP hP9 cP xY 80 a cy dC dI 3 (f_K 3 (qX6_isOrderSentence [.ref 72] I L)) tQ ls' st' I' L') (List.forall_mem_cons.mpr ⟨(fun ls' st' I' L' h => by obtain ⟨dg, i, hs, e1, h9⟩ := h; rw [e1]; exact f_W_sub hs (lp13 7 dg i I' L' h9)), fun _ h => absurd h List.not_mem_nil⟩)) 11 0 tX6_isOrderSentence tX6_isOrderSentence_ok _ _ _ _ ?_
    refine And.intro ⟨hR, (show 0 ≤ (36 : Int) from by first | assumption | omega), (show (36 : Int) ≤ 52 from by first | assumption | omega)⟩ ?_
    intro I6 L6 hq6
    have hq6 : xR I6 ∧ f_fr [25] I I6 ∧ L6 = L ∧ (I6 25 7).toInt = 0 ∧ I6 25 8 = (Int32.ofInt 36) := hq6
    obtain ⟨c6_0, c6_1, eL6, c6_3, c6_4⟩ := hq6
    replace eL6 := eL6.symm
    subst eL6
    have hxO6 := f_dep_fr xO_dep hxO c6_1 rfl
    have hxT6 := f_dep_fr xT_dep hxT c6_1 rfl
    have hxS6 := f_dep_fr xS_dep hxS c6_1 rfl
    have hF6 := f_fr_tr hF0 c6_1 rfl
    exact ⟨Int32.ofInt 0, Int32.ofInt 0, (by intro q9 h9; simp only [List.mem_cons, List.not_mem_nil, or_false] at h9; rcases h9 with h9 | h9 | h9 <;> subst h9 <;> repeat (first | exact List.mem_cons_self | apply List.mem_cons_of_mem)), rfl, c6_0, hF6, hG0, hxO6, hxT6, hxS6, (show 0 ≤ (0 : Int) from by first | assumption | omega), (show (0 : Int) ≤ (I 40 6).toInt from by first | assumption | omega), (show ((I 40 6).toInt - (0 : Int)) < 7 from by omega)⟩
def tX6_arrange : List (Instr × Nat) := [(.aload_n 0, 1), (.getfield 39, 3), (.getfield 63, 3), (.istore 4, 2), (.iload_n 1, 1), (.iload 4, 2), (.if_icmp .lt 8, 3), (.aload_n 0, 1), (.invokevirtual 108, 3), (.ireturn, 1), (.iload 4, 2), (.iload_n 1, 1), (.isub, 1), (.iconst 1, 1), (.isub, 1), (.istore 5, 2), (.iconst 0, 1), (.istore 6, 2), (.iconst 0, 1), (.istore 7, 2), (.iload 7, 2), (.iload 4, 2), (.if_icmp .ge 98, 3), (.iload 6, 2), (.iload_n 2, 1), (.if_icmp .gt 92, 3), (.iload_n 3, 1), (.iload 7, 2), (.ishr, 1), (.iconst 1, 1), (.iand, 1), (.ifCond .eq 6, 3), (.goto 74, 3), (.iload_n 2, 1), (.iload 6, 2), (.isub, 1), (.iload 5, 2), (.iload 5, 2), (.iconst 1, 1), (.isub, 1), (.imul, 1), (.iconst 2, 1), (.idiv, 1), (.if_icmp .gt 7, 3), (.iconst 1, 1), (.goto 4, 3), (.iconst 0, 1), (.istore 8, 2), (.iload 8, 2), (.ifCond .eq 43, 3), (.aload_n 0, 1), (.iload 7, 2), (.iload_n 3, 1), (.invokevirtual 112, 3), (.ifCond .ne 33, 3), (.aload_n 0, 1), (.getfield 11, 3), (.iload_n 1, 1), (.iload 7, 2), (.iastore, 1), (.aload_n 0, 1), (.iload_n 1, 1), (.iconst 1, 1), (.iadd, 1), (.iload_n 2, 1), (.iload 6, 2), (.isub, 1), (.iload_n 3, 1), (.iconst 1, 1), (.iload 7, 2), (.ishl, 1), (.ior, 1), (.invokevirtual 104, 3), (.ifCond .eq 5, 3), (.iconst 1, 1), (.ireturn, 1), (.iinc 6 1, 3), (.iinc 7 1, 3), (.goto (-99), 3), (.iconst 0, 1), (.ireturn, 1)]
theorem tX6_arrange_ok : f_chk cX6_arrange 0 tX6_arrange = true := by decide +kernel
def pX6_arrange (d : Nat) (av : List Value) (I : fM) (L : fN) : Prop := match av with
  | [.ref 72, .int f, .int p, .int e] => dpos d ∧ xR I ∧ xO I ∧ xT I ∧ xS I ∧ (I 40 6).toInt ≤ 6 ∧ 0 ≤ f.toInt ∧ f.toInt ≤ (I 40 6).toInt ∧ (I 40 6).toInt - f.toInt < d
  | _ => False
def qX6_arrange (av : List Value) (I : fM) (L : fN) (r : Value) (I' : fM) (L' : fN) : Prop := match av, r with
  | [.ref 72, .int f, .int p, .int e], .int x => xR I' ∧ xO I' ∧ xT I' ∧ xS I' ∧ f_fr [25, 26, 27, 28, 31, 32, 33, 34, 35, 36, 37, 38, 39, 69, 72, 73] I I' ∧ f_fr [29, 30, 70] L L' ∧ (x.toInt = 0 ∨ x.toInt = 1)
  | _, _ => False
set_option maxHeartbeats 4000000 in
set_option maxRecDepth 100000 in
theorem mX6_arrange {l : Launch} {a : Nat → Nat} {cy dC : Nat → ClassId} {dI : Nat → Nat → Nat} (hinj : ∀ i j, i < 80 → j < 80 → a i = a j → i = j) : ∀ d : Nat, f_Met (xE a) l xY 80 a cy dC dI yX6_arrange cX6_arrange 9 3 (d + 37) (pX6_arrange d) qX6_arrange := by
  intro d
  induction d with
  | zero =>
    intro av I L hp
    exfalso
    unfold pX6_arrange at hp
    split at hp
    case h_2 => exact hp.elim
    case h_1 f p e => exact hp.1.elim
  | succ d ih =>
  refine f_met_of (xE_c a) hinj xY_hi (by decide) (fun av I L h => by unfold pX6_arrange at h; split at h <;> first | exact Nat.le_of_ble_eq_true rfl | exact h.elim) ?_
  intro pP eP sP mP aP bP hP9 cP C av I L hp
  unfold pX6_arrange at hp
  split at hp
  case h_2 => exact hp.elim
  case h_1 f p e =>
    obtain ⟨p0, hR, hxO, hxT, hxS, p5, p6, p7, p8⟩ := hp
    have hn : 0 ≤ (I 40 6).toInt ∧ (I 40 6).toInt ≤ 8 := hR 40 6
    have hF0 : f_fr [25, 26, 27, 28, 31, 32, 33, 34, 35, 36, 37, 38, 39, 69, 72, 73] I I := f_fr_rf
    have hG0 : f_fr [29, 30, 70] L L := f_fr_rf
    have lp34 : ∀ (n34 : Nat), ∀ (n : Int32) (r : Int32) (ps : Int32) (i : Int32) (J34 : fM) (M34 : fN), xR J34 ∧ f_fr [25, 26, 27, 28, 31, 32, 33, 34, 35, 36, 37, 38, 39, 69, 72, 73] I J34 ∧ f_fr [29, 30, 70] L M34 ∧ xO J34 ∧ xT J34 ∧ xS J34 ∧ (n.toInt = (I 40 6).toInt) ∧ (f.toInt < n.toInt) ∧ (0 ≤ i.toInt) ∧ (i.toInt ≤ n.toInt) ∧ (n.toInt - i.toInt) < n34 → f_W pP l eP (f_rm (d + 1 + 37)) sP mP aP bP hP9 cP xY 80 a cy dC dI 9 (f_K 3 (qX6_arrange [.ref 72, .int f, .int p, .int e] I L)) 34 [(7, .int i), (6, .int ps), (5, .int r), (4, .int n), (3, .int e), (2, .int p), (1, .int f), (0, .ref 72)] [] J34 M34 := by
      intro n34
      induction n34 with
      | zero =>
        intro n r ps i J34 M34 h9
        obtain ⟨hR34c, hF34c, hG34c, hxO34c, hxT34c, hxS34c, u34_1, u34_2, u34_3, u34_4, hm34⟩ := h9
        omega
      | succ n34 ih34 =>
        intro n r ps i J34 M34 h9
        obtain ⟨hR34c, hF34c, hG34c, hxO34c, hxT34c, hxS34c, u34_1, u34_2, u34_3, u34_4, hm34⟩ := h9
        refine f_wp_ok C f_cl flX6_ok fiX6_ok fjX6_ok (sn := none) (fun j h => by cases h) (cs := (f_cnl [(108, (1, 3, 6, pX6_isOrderSentence, qX6_isOrderSentence)), (112, (3, 3, 6, pX6_isPassedByLike, qX6_isPassedByLike)), (104, (4, 3, 6, (pX6_arrange d), qX6_arrange))])) (cz := (fun _ => none)) (f_cnl_of (P := fun j S => f_cok pP l eP (f_rm (d + 1 + 37)) sP mP aP bP hP9 cP xY 80 a cy dC dI 9 _ _ (.invokevirtual j) true S) (List.forall_mem_cons.mpr ⟨f_cokV C (mX6_isOrderSentence hinj) (ci := 6) rfl (List.forall_mem_cons.mpr ⟨(mlX6_ok _ (List.mem_of_getElem? (i := 11) rfl)), kc_X6_isOrderSentence⟩) (by decide +kernel) ⟨by simp only [f_rm]; omega, by simp only [f_rm]; omega⟩, List.forall_mem_cons.mpr ⟨f_cokV C (mX6_isPassedByLike hinj) (ci := 6) rfl (List.forall_mem_cons.mpr ⟨(mlX6_ok _ (List.mem_of_getElem? (i := 12) rfl)), kc_X6_isPassedByLike⟩) (by decide +kernel) ⟨by simp only [f_rm]; omega, by simp only [f_rm]; omega⟩, List.forall_mem_cons.mpr ⟨f_cokV C ih (ci := 6) rfl (List.forall_mem_cons.mpr ⟨(mlX6_ok _ (List.mem_of_getElem? (i := 10) rfl)), kc_X6_arrange⟩) (by decide +kernel) ⟨by simp only [f_rm]; omega, by simp only [f_rm]; omega⟩, fun _ h => absurd h List.not_mem_nil⟩⟩⟩)) (fun j S h => by cases h) tX6_arrange_ok (cut := (f_cnl [(34, (fun (ls' : fLs) (st' : List Value) (I' : fM) (L' : fN) => ∃ n : Int32, ∃ r : Int32, ∃ ps : Int32, ∃ i : Int32, (∀ q ∈ ([(7, .int i), (6, .int ps), (5, .int r), (4, .int n), (3, .int e), (2, .int p), (1, .int f), (0, .ref 72)] : fLs), q ∈ ls') ∧ st' = [] ∧ (xR I' ∧ f_fr [25, 26, 27, 28, 31, 32, 33, 34, 35, 36, 37, 38, 39, 69, 72, 73] I I' ∧ f_fr [29, 30, 70] L L' ∧ xO I' ∧ xT I' ∧ xS I' ∧ (n.toInt = (I 40 6).toInt) ∧ (f.toInt < n.toInt) ∧ (0 ≤ i.toInt) ∧ (i.toInt ≤ n.toInt) ∧ (n.toInt - i.toInt) < n34)))])) (f_cnl_of (P := fun (tQ : Nat) (P : fLs → List Value → fM → fN → Prop) => ∀ ls' st' I' L', P ls' st' I' L' → f_W pP l eP (f_rm (d + 1 + 37)) sP mP aP bP hP9 cP xY 80 a cy dC dI 9 (f_K 3 (qX6_arrange [.ref 72, .int f, .int p, .int e] I L)) tQ ls' st' I' L') (List.forall_mem_cons.mpr ⟨(fun ls' st' I' L' h => by obtain ⟨n, r, ps, i, hs, e1, h9⟩ := h; rw [e1]; exact f_W_sub hs (ih34 n r ps i I' L' h9)), fun _ h => absurd h List.not_mem_nil⟩)) 58 34 (f_seek 34 0 tX6_arrange) (f_seek_ok 34 0 tX6_arrange tX6_arrange_ok) _ _ _ _ ?_
        apply And.intro
        · intro h38
          have h38 : n.toInt ≤ i.toInt := h38
          exact ⟨Or.inl rfl, hR34c, hxO34c, hxT34c, hxS34c, hF34c, hG34c, (show ((0 : Int) = 0 ∨ (0 : Int) = 1) from by first | assumption | omega | rfl)⟩
        · intro h38
          have h38 : i.toInt < n.toInt := h38
          apply And.intro
          · intro h44
            have h44 : p.toInt < ps.toInt := h44
            exact ⟨Or.inl rfl, hR34c, hxO34c, hxT34c, hxS34c, hF34c, hG34c, (show ((0 : Int) = 0 ∨ (0 : Int) = 1) from by first | assumption | omega | rfl)⟩
          · intro h44
            have h44 : ps.toInt ≤ p.toInt := h44
            have b52 : 0 ≤ ((e >>> (i &&& 31)) &&& (Int32.ofInt 1)).toInt ∧ ((e >>> (i &&& 31)) &&& (Int32.ofInt 1)).toInt ≤ 1 := f_andc (e >>> (i &&& 31)) 1 (by decide) (by decide)
            apply And.intro
            · intro h53
              have h53 : ((e >>> (i &&& 31)) &&& (Int32.ofInt 1)).toInt = 0 := h53
              intro z62 q62 _ hq62 hl62 hu62
              have hq62 : z62.toInt = p.toInt - ps.toInt + 4294967296 * q62 := hq62
              try have hz62 : z62.toInt = p.toInt - ps.toInt := by omega
              intro z68 q68 _ hq68 hl68 hu68
              have hq68 : z68.toInt = r.toInt - 1 + 4294967296 * q68 := hq68
              try have hz68 : z68.toInt = r.toInt - 1 := by omega
              intro z69 q69 _ hq69 hl69 hu69
              have hq69 : z69.toInt = r.toInt * z68.toInt + 4294967296 * q69 := hq69
              refine And.intro (by decide) ?_
              try have d71 : (z69 / (Int32.ofInt 2)).toInt = z69.toInt / 2 := t_div (show 0 ≤ z69.toInt from by omega) (show 0 < 2 from by omega)
              apply And.intro
              · intro h72
                have h72 : (z69 / (Int32.ofInt 2)).toInt < z62.toInt := h72
                apply And.intro
                · intro h84
                  have h84 : (0 : Int) = 0 := h84
                  intro z127 q127 _ hq127 hl127 hu127
                  have hq127 : z127.toInt = ps.toInt + 1 + 4294967296 * q127 := hq127
                  try have hz127 : z127.toInt = ps.toInt + 1 := by omega
                  intro z130 q130 _ hq130 hl130 hu130
                  have hq130 : z130.toInt = i.toInt + 1 + 4294967296 * q130 := hq130
                  try have hz130 : z130.toInt = i.toInt + 1 := by omega
                  exact ⟨n, r, z127, z130, (by intro q9 h9; simp only [List.mem_cons, List.not_mem_nil, or_false] at h9; rcases h9 with h9 | h9 | h9 | h9 | h9 | h9 | h9 | h9 <;> subst h9 <;> repeat (first | exact List.mem_cons_self | apply List.mem_cons_of_mem)), rfl, hR34c, hF34c, hG34c, hxO34c, hxT34c, hxS34c, (show n.toInt = (I 40 6).toInt from by first | assumption | omega | rfl), (show f.toInt < n.toInt from by first | assumption | omega), (show 0 ≤ z130.toInt from by first | assumption | omega), (show z130.toInt ≤ n.toInt from by first | assumption | omega), (show (n.toInt - z130.toInt) < n34 from by omega)⟩
                · intro h84
                  have h84 : ¬ (0 : Int) = 0 := h84
                  exfalso
                  omega
              · intro h72
                have h72 : z62.toInt ≤ (z69 / (Int32.ofInt 2)).toInt := h72
                apply And.intro
                · intro h84
                  have h84 : (1 : Int) = 0 := h84
                  exfalso
                  omega
                · intro h84
                  have h84 : ¬ (1 : Int) = 0 := h84
                  refine And.intro ⟨(show 0 ≤ i.toInt from by first | assumption | omega), (show i.toInt ≤ 7 from by first | assumption | omega)⟩ ?_
                  intro x91 I91 L91 hq91
                  have hq91 : I91 = J34 ∧ L91 = M34 ∧ ((x91.toInt = 0 ∨ x91.toInt = 1)) := hq91
                  obtain ⟨eI91, eL91, c91_2⟩ := hq91
                  replace eI91 := eI91.symm
                  subst eI91
                  replace eL91 := eL91.symm
                  subst eL91
                  apply And.intro
                  · intro h94
                    have h94 : ¬ x91.toInt = 0 := h94
                    intro z127 q127 _ hq127 hl127 hu127
                    have hq127 : z127.toInt = ps.toInt + 1 + 4294967296 * q127 := hq127
                    try have hz127 : z127.toInt = ps.toInt + 1 := by omega
                    intro z130 q130 _ hq130 hl130 hu130
                    have hq130 : z130.toInt = i.toInt + 1 + 4294967296 * q130 := hq130
                    try have hz130 : z130.toInt = i.toInt + 1 := by omega
                    exact ⟨n, r, z127, z130, (by intro q9 h9; simp only [List.mem_cons, List.not_mem_nil, or_false] at h9; rcases h9 with h9 | h9 | h9 | h9 | h9 | h9 | h9 | h9 <;> subst h9 <;> repeat (first | exact List.mem_cons_self | apply List.mem_cons_of_mem)), rfl, hR34c, hF34c, hG34c, hxO34c, hxT34c, hxS34c, (show n.toInt = (I 40 6).toInt from by first | assumption | omega | rfl), (show f.toInt < n.toInt from by first | assumption | omega), (show 0 ≤ z130.toInt from by first | assumption | omega), (show z130.toInt ≤ n.toInt from by first | assumption | omega), (show (n.toInt - z130.toInt) < n34 from by omega)⟩
                  · intro h94
                    have h94 : x91.toInt = 0 := h94
                    refine And.intro (show f_in f 6 from ⟨show 0 ≤ f.toInt from by omega, show f.toInt < 6 from by omega⟩) ?_
                    have hR104 := xR_a (k := 73) (j := f.toInt.toNat) (x := i) hR34c (show 0 ≤ i.toInt ∧ i.toInt ≤ 7 from ⟨by omega, by omega⟩)
                    have hF104 := f_fr_up (k := 73) (r := upd (J34 73) (f.toInt.toNat) i) hF34c rfl
                    have hxO104 := f_dep_up xO_dep (k := 73) (r := upd (J34 73) (f.toInt.toNat) i) hxO34c rfl
                    have hxT104 := f_dep_up xT_dep (k := 73) (r := upd (J34 73) (f.toInt.toNat) i) hxT34c rfl
                    have hxS104 := f_dep_up xS_dep (k := 73) (r := upd (J34 73) (f.toInt.toNat) i) hxS34c rfl
                    intro z108 q108 _ hq108 hl108 hu108
                    have hq108 : z108.toInt = f.toInt + 1 + 4294967296 * q108 := hq108
                    try have hz108 : z108.toInt = f.toInt + 1 := by omega
                    intro z112 q112 _ hq112 hl112 hu112
                    have hq112 : z112.toInt = p.toInt - ps.toInt + 4294967296 * q112 := hq112
                    try have hz112 : z112.toInt = p.toInt - ps.toInt := by omega
                    have e119_2 : (J34 40 6).toInt = (I 40 6).toInt := congrArg Int32.toInt (congrFun (hF34c 40 rfl) 6)
                    refine And.intro ⟨(dpos_of (by omega)), hR104, hxO104, hxT104, hxS104, (show (J34 40 6).toInt ≤ 6 from by first | assumption | omega), (show 0 ≤ z108.toInt from by first | assumption | omega), (show z108.toInt ≤ (J34 40 6).toInt from by first | assumption | omega), (show (J34 40 6).toInt - z108.toInt < d from by first | assumption | omega)⟩ ?_
                    intro x119 I119 L119 hq119
                    have hq119 : xR I119 ∧ xO I119 ∧ xT I119 ∧ xS I119 ∧ f_fr [25, 26, 27, 28, 31, 32, 33, 34, 35, 36, 37, 38, 39, 69, 72, 73] (va_up J34 73 (upd (J34 73) (f.toInt.toNat) i)) I119 ∧ f_fr [29, 30, 70] M34 L119 ∧ ((x119.toInt = 0 ∨ x119.toInt = 1)) := hq119
                    obtain ⟨c119_0, c119_1, c119_2, c119_3, c119_4, c119_5, c119_6⟩ := hq119
                    have hF119 := f_fr_tr hF104 c119_4 rfl
                    have hG119 := f_fr_tr hG34c c119_5 rfl
                    apply And.intro
                    · intro h122
                      have h122 : x119.toInt = 0 := h122
                      intro z127 q127 _ hq127 hl127 hu127
                      have hq127 : z127.toInt = ps.toInt + 1 + 4294967296 * q127 := hq127
                      try have hz127 : z127.toInt = ps.toInt + 1 := by omega
                      intro z130 q130 _ hq130 hl130 hu130
                      have hq130 : z130.toInt = i.toInt + 1 + 4294967296 * q130 := hq130
                      try have hz130 : z130.toInt = i.toInt + 1 := by omega
                      exact ⟨n, r, z127, z130, (by intro q9 h9; simp only [List.mem_cons, List.not_mem_nil, or_false] at h9; rcases h9 with h9 | h9 | h9 | h9 | h9 | h9 | h9 | h9 <;> subst h9 <;> repeat (first | exact List.mem_cons_self | apply List.mem_cons_of_mem)), rfl, c119_0, hF119, hG119, c119_1, c119_2, c119_3, (show n.toInt = (I 40 6).toInt from by first | assumption | omega | rfl), (show f.toInt < n.toInt from by first | assumption | omega), (show 0 ≤ z130.toInt from by first | assumption | omega), (show z130.toInt ≤ n.toInt from by first | assumption | omega), (show (n.toInt - z130.toInt) < n34 from by omega)⟩
                    · intro h122
                      have h122 : ¬ x119.toInt = 0 := h122
                      exact ⟨Or.inr rfl, c119_0, c119_1, c119_2, c119_3, hF119, hG119, (show ((1 : Int) = 0 ∨ (1 : Int) = 1) from by first | assumption | omega | rfl)⟩
            · intro h53
              have h53 : ¬ ((e >>> (i &&& 31)) &&& (Int32.ofInt 1)).toInt = 0 := h53
              intro z130 q130 _ hq130 hl130 hu130
              have hq130 : z130.toInt = i.toInt + 1 + 4294967296 * q130 := hq130
              try have hz130 : z130.toInt = i.toInt + 1 := by omega
              exact ⟨n, r, ps, z130, (by intro q9 h9; simp only [List.mem_cons, List.not_mem_nil, or_false] at h9; rcases h9 with h9 | h9 | h9 | h9 | h9 | h9 | h9 | h9 <;> subst h9 <;> repeat (first | exact List.mem_cons_self | apply List.mem_cons_of_mem)), rfl, hR34c, hF34c, hG34c, hxO34c, hxT34c, hxS34c, (show n.toInt = (I 40 6).toInt from by first | assumption | omega | rfl), (show f.toInt < n.toInt from by first | assumption | omega), (show 0 ≤ z130.toInt from by first | assumption | omega), (show z130.toInt ≤ n.toInt from by first | assumption | omega), (show (n.toInt - z130.toInt) < n34 from by omega)⟩
    refine f_wp_ok C f_cl flX6_ok fiX6_ok fjX6_ok (sn := none) (fun j h => by cases h) (cs := (f_cnl [(108, (1, 3, 6, pX6_isOrderSentence, qX6_isOrderSentence)), (112, (3, 3, 6, pX6_isPassedByLike, qX6_isPassedByLike)), (104, (4, 3, 6, (pX6_arrange d), qX6_arrange))])) (cz := (fun _ => none)) (f_cnl_of (P := fun j S => f_cok pP l eP (f_rm (d + 1 + 37)) sP mP aP bP hP9 cP xY 80 a cy dC dI 9 _ _ (.invokevirtual j) true S) (List.forall_mem_cons.mpr ⟨f_cokV C (mX6_isOrderSentence hinj) (ci := 6) rfl (List.forall_mem_cons.mpr ⟨(mlX6_ok _ (List.mem_of_getElem? (i := 11) rfl)), kc_X6_isOrderSentence⟩) (by decide +kernel) ⟨by simp only [f_rm]; omega, by simp only [f_rm]; omega⟩, List.forall_mem_cons.mpr ⟨f_cokV C (mX6_isPassedByLike hinj) (ci := 6) rfl (List.forall_mem_cons.mpr ⟨(mlX6_ok _ (List.mem_of_getElem? (i := 12) rfl)), kc_X6_isPassedByLike⟩) (by decide +kernel) ⟨by simp only [f_rm]; omega, by simp only [f_rm]; omega⟩, List.forall_mem_cons.mpr ⟨f_cokV C ih (ci := 6) rfl (List.forall_mem_cons.mpr ⟨(mlX6_ok _ (List.mem_of_getElem? (i := 10) rfl)), kc_X6_arrange⟩) (by decide +kernel) ⟨by simp only [f_rm]; omega, by simp only [f_rm]; omega⟩, fun _ h => absurd h List.not_mem_nil⟩⟩⟩)) (fun j S h => by cases h) tX6_arrange_ok (cut := (f_cnl [(34, (fun (ls' : fLs) (st' : List Value) (I' : fM) (L' : fN) => ∃ n : Int32, ∃ r : Int32, ∃ ps : Int32, ∃ i : Int32, (∀ q ∈ ([(7, .int i), (6, .int ps), (5, .int r), (4, .int n), (3, .int e), (2, .int p), (1, .int f), (0, .ref 72)] : fLs), q ∈ ls') ∧ st' = [] ∧ (xR I' ∧ f_fr [25, 26, 27, 28, 31, 32, 33, 34, 35, 36, 37, 38, 39, 69, 72, 73] I I' ∧ f_fr [29, 30, 70] L L' ∧ xO I' ∧ xT I' ∧ xS I' ∧ (n.toInt = (I 40 6).toInt) ∧ (f.toInt < n.toInt) ∧ (0 ≤ i.toInt) ∧ (i.toInt ≤ n.toInt) ∧ (n.toInt - i.toInt) < 7)))])) (f_cnl_of (P := fun (tQ : Nat) (P : fLs → List Value → fM → fN → Prop) => ∀ ls' st' I' L', P ls' st' I' L' → f_W pP l eP (f_rm (d + 1 + 37)) sP mP aP bP hP9 cP xY 80 a cy dC dI 9 (f_K 3 (qX6_arrange [.ref 72, .int f, .int p, .int e] I L)) tQ ls' st' I' L') (List.forall_mem_cons.mpr ⟨(fun ls' st' I' L' h => by obtain ⟨n, r, ps, i, hs, e1, h9⟩ := h; rw [e1]; exact f_W_sub hs (lp34 7 n r ps i I' L' h9)), fun _ h => absurd h List.not_mem_nil⟩)) 20 0 tX6_arrange tX6_arrange_ok _ _ _ _ ?_
    have r4_1 : 0 ≤ (I 40 6).toInt ∧ (I 40 6).toInt ≤ 8 := hR 40 6
    apply And.intro
    · intro h12
      have h12 : f.toInt < (I 40 6).toInt := h12
      intro z23 q23 _ hq23 hl23 hu23
      have hq23 : z23.toInt = (I 40 6).toInt - f.toInt + 4294967296 * q23 := hq23
      try have hz23 : z23.toInt = (I 40 6).toInt - f.toInt := by omega
      intro z25 q25 _ hq25 hl25 hu25
      have hq25 : z25.toInt = z23.toInt - 1 + 4294967296 * q25 := hq25
      try have hz25 : z25.toInt = z23.toInt - 1 := by omega
      exact ⟨I 40 6, z25, Int32.ofInt 0, Int32.ofInt 0, (by intro q9 h9; simp only [List.mem_cons, List.not_mem_nil, or_false] at h9; rcases h9 with h9 | h9 | h9 | h9 | h9 | h9 | h9 | h9 <;> subst h9 <;> repeat (first | exact List.mem_cons_self | apply List.mem_cons_of_mem)), rfl, hR, hF0, hG0, hxO, hxT, hxS, (show (I 40 6).toInt = (I 40 6).toInt from by first | assumption | omega | rfl), (show f.toInt < (I 40 6).toInt from by first | assumption | omega), (show 0 ≤ (0 : Int) from by first | assumption | omega), (show (0 : Int) ≤ (I 40 6).toInt from by first | assumption | omega), (show ((I 40 6).toInt - (0 : Int)) < 7 from by omega)⟩
    · intro h12
      have h12 : (I 40 6).toInt ≤ f.toInt := h12
      refine And.intro ⟨hR, hxO, hxT, hxS, (show (I 40 6).toInt ≤ 6 from by first | assumption | omega)⟩ ?_
      intro x16 I16 L16 hq16
      have hq16 : xR I16 ∧ xO I16 ∧ xT I16 ∧ xS I16 ∧ f_fr [25, 26, 27, 28, 31, 32, 33, 34, 35, 36, 37, 38, 39, 69, 72] I I16 ∧ f_fr [29, 30, 70] L L16 ∧ ((x16.toInt = 0 ∨ x16.toInt = 1)) := hq16
      obtain ⟨c16_0, c16_1, c16_2, c16_3, c16_4, c16_5, c16_6⟩ := hq16
      have hF16 := f_fr_tr hF0 c16_4 rfl
      have hG16 := f_fr_tr hG0 c16_5 rfl
      exact ⟨(f_b01 (show x16.toInt = 0 ∨ x16.toInt = 1 from by omega)), c16_0, c16_1, c16_2, c16_3, hF16, hG16, (show (x16.toInt = 0 ∨ x16.toInt = 1) from by first | assumption | omega | rfl)⟩
-- callers take X6_arrange at depth 7
def tX6_findOrder : List (Instr × Nat) := [(.aload_n 0, 1), (.getfield 50, 3), (.bipush (-2), 2), (.if_icmp .eq 4, 3), (.return_, 1), (.aload_n 0, 1), (.iconst (-1), 1), (.putfield 50, 3), (.aload_n 0, 1), (.iconst (-1), 1), (.putfield 94, 3), (.aload_n 0, 1), (.getfield 39, 3), (.getfield 63, 3), (.istore_n 1, 1), (.aload_n 0, 1), (.getfield 35, 3), (.aload_n 0, 1), (.getfield 39, 3), (.invokevirtual 97, 3), (.iload_n 1, 1), (.bipush 6, 2), (.if_icmp .gt 14, 3), (.aload_n 0, 1), (.getfield 35, 3), (.iconst 1, 1), (.invokevirtual 101, 3), (.ifCond .ne 4, 3), (.return_, 1), (.iconst 0, 1), (.istore_n 2, 1), (.iload_n 2, 1), (.iload_n 1, 1), (.iload_n 1, 1), (.iconst 1, 1), (.isub, 1), (.imul, 1), (.iconst 2, 1), (.idiv, 1), (.if_icmp .gt 25, 3), (.aload_n 0, 1), (.iconst 0, 1), (.iload_n 2, 1), (.iconst 0, 1), (.invokevirtual 104, 3), (.ifCond .eq 9, 3), (.aload_n 0, 1), (.iload_n 2, 1), (.putfield 50, 3), (.return_, 1), (.iinc 2 1, 3), (.goto (-30), 3), (.return_, 1)]
theorem tX6_findOrder_ok : f_chk cX6_findOrder 0 tX6_findOrder = true := by decide +kernel
def pX6_findOrder (av : List Value) (I : fM) (L : fN) : Prop := match av with
  | [.ref 72] => xR I ∧ xO I ∧ xT I ∧ xS I
  | _ => False
def qX6_findOrder (av : List Value) (I : fM) (L : fN) (r : Value) (I' : fM) (L' : fN) : Prop := match av, r with
  | [.ref 72], .null => xR I' ∧ xO I' ∧ xT I' ∧ xS I' ∧ f_fr [25, 26, 27, 28, 31, 32, 33, 34, 35, 36, 37, 38, 39, 69, 72, 73] I I' ∧ f_fr [29, 30, 70] L L'
  | _, _ => False
set_option maxHeartbeats 4000000 in
set_option maxRecDepth 100000 in
theorem mX6_findOrder {l : Launch} {a : Nat → Nat} {cy dC : Nat → ClassId} {dI : Nat → Nat → Nat} (hinj : ∀ i j, i < 80 → j < 80 → a i = a j → i = j) : f_Met (xE a) l xY 80 a cy dC dI yX6_findOrder cX6_findOrder 3 0 45 pX6_findOrder qX6_findOrder := by
  refine f_met_of (xE_c a) hinj xY_hi (by decide) (fun av I L h => by unfold pX6_findOrder at h; split at h <;> first | exact Nat.le_of_ble_eq_true rfl | exact h.elim) ?_
  intro pP eP sP mP aP bP hP9 cP C av I L hp
  unfold pX6_findOrder at hp
  split at hp
  case h_2 => exact hp.elim
  case h_1 =>
    obtain ⟨hR, hxO, hxT, hxS⟩ := hp
    have hn : 0 ≤ (I 40 6).toInt ∧ (I 40 6).toInt ≤ 8 := hR 40 6
    have hF0 : f_fr [25, 26, 27, 28, 31, 32, 33, 34, 35, 36, 37, 38, 39, 69, 72, 73] I I := f_fr_rf
    have hG0 : f_fr [29, 30, 70] L L := f_fr_rf
    have lp59 : ∀ (n59 : Nat), ∀ (wd : Int32) (m : Int32) (J59 : fM) (M59 : fN), xR J59 ∧ f_fr [25, 26, 27, 28, 31, 32, 33, 34, 35, 36, 37, 38, 39, 69, 72, 73] I J59 ∧ f_fr [29, 30, 70] L M59 ∧ xO J59 ∧ xT J59 ∧ xS J59 ∧ (wd.toInt = (I 40 6).toInt) ∧ (wd.toInt ≤ 6) ∧ (0 ≤ m.toInt) ∧ (m.toInt ≤ 2147483647) ∧ (2147483647 - m.toInt) < n59 → f_W pP l eP (f_rm 45) sP mP aP bP hP9 cP xY 80 a cy dC dI 3 (f_K 0 (qX6_findOrder [.ref 72] I L)) 59 [(2, .int m), (1, .int wd), (0, .ref 72)] [] J59 M59 := by
      intro n59
      induction n59 with
      | zero =>
        intro wd m J59 M59 h9
        obtain ⟨hR59c, hF59c, hG59c, hxO59c, hxT59c, hxS59c, u59_1, u59_2, u59_3, u59_4, hm59⟩ := h9
        omega
      | succ n59 ih59 =>
        intro wd m J59 M59 h9
        obtain ⟨hR59c, hF59c, hG59c, hxO59c, hxT59c, hxS59c, u59_1, u59_2, u59_3, u59_4, hm59⟩ := h9
        refine f_wp_ok C f_cl flX6_ok fiX6_ok fjX6_ok (sn := none) (fun j h => by cases h) (cs := (f_cnl [(97, (2, 0, 9, pX10_beginWithRow, qX10_beginWithRow)), (101, (2, 1, 9, pX10_countEven, qX10_countEven)), (104, (4, 3, 6, (pX6_arrange 7), qX6_arrange))])) (cz := (fun _ => none)) (f_cnl_of (P := fun j S => f_cok pP l eP (f_rm 45) sP mP aP bP hP9 cP xY 80 a cy dC dI 3 _ _ (.invokevirtual j) true S) (List.forall_mem_cons.mpr ⟨f_cokV C (mX10_beginWithRow hinj) (ci := 9) rfl (List.forall_mem_cons.mpr ⟨(mlX6_ok _ (List.mem_of_getElem? (i := 8) rfl)), kc_X10_beginWithRow⟩) (by decide +kernel) ⟨Nat.le_of_ble_eq_true rfl, Nat.le_of_ble_eq_true rfl⟩, List.forall_mem_cons.mpr ⟨f_cokV C (mX10_countEven hinj) (ci := 9) rfl (List.forall_mem_cons.mpr ⟨(mlX6_ok _ (List.mem_of_getElem? (i := 9) rfl)), kc_X10_countEven⟩) (by decide +kernel) ⟨Nat.le_of_ble_eq_true rfl, Nat.le_of_ble_eq_true rfl⟩, List.forall_mem_cons.mpr ⟨f_cokV C (mX6_arrange hinj 7) (ci := 6) rfl (List.forall_mem_cons.mpr ⟨(mlX6_ok _ (List.mem_of_getElem? (i := 10) rfl)), kc_X6_arrange⟩) (by decide +kernel) ⟨Nat.le_of_ble_eq_true rfl, Nat.le_of_ble_eq_true rfl⟩, fun _ h => absurd h List.not_mem_nil⟩⟩⟩)) (fun j S h => by cases h) tX6_findOrder_ok (cut := (f_cnl [(59, (fun (ls' : fLs) (st' : List Value) (I' : fM) (L' : fN) => ∃ wd : Int32, ∃ m : Int32, (∀ q ∈ ([(2, .int m), (1, .int wd), (0, .ref 72)] : fLs), q ∈ ls') ∧ st' = [] ∧ (xR I' ∧ f_fr [25, 26, 27, 28, 31, 32, 33, 34, 35, 36, 37, 38, 39, 69, 72, 73] I I' ∧ f_fr [29, 30, 70] L L' ∧ xO I' ∧ xT I' ∧ xS I' ∧ (wd.toInt = (I 40 6).toInt) ∧ (wd.toInt ≤ 6) ∧ (0 ≤ m.toInt) ∧ (m.toInt ≤ 2147483647) ∧ (2147483647 - m.toInt) < n59)))])) (f_cnl_of (P := fun (tQ : Nat) (P : fLs → List Value → fM → fN → Prop) => ∀ ls' st' I' L', P ls' st' I' L' → f_W pP l eP (f_rm 45) sP mP aP bP hP9 cP xY 80 a cy dC dI 3 (f_K 0 (qX6_findOrder [.ref 72] I L)) tQ ls' st' I' L') (List.forall_mem_cons.mpr ⟨(fun ls' st' I' L' h => by obtain ⟨wd, m, hs, e1, h9⟩ := h; rw [e1]; exact f_W_sub hs (ih59 wd m I' L' h9)), fun _ h => absurd h List.not_mem_nil⟩)) 22 59 (f_seek 59 0 tX6_findOrder) (f_seek_ok 59 0 tX6_findOrder tX6_findOrder_ok) _ _ _ _ ?_
        intro z63 q63 _ hq63 hl63 hu63
        have hq63 : z63.toInt = wd.toInt - 1 + 4294967296 * q63 := hq63
        try have hz63 : z63.toInt = wd.toInt - 1 := by omega
        intro z64 q64 _ hq64 hl64 hu64
        have hq64 : z64.toInt = wd.toInt * z63.toInt + 4294967296 * q64 := hq64
        have t64 : 0 ≤ z64.toInt ∧ z64.toInt ≤ 56 := tri8 (x := wd.toInt) (y := z63.toInt) (by omega) (by omega) (by omega) hq64 hl64 hu64
        refine And.intro (by decide) ?_
        try have d66 : (z64 / (Int32.ofInt 2)).toInt = z64.toInt / 2 := t_div (show 0 ≤ z64.toInt from by omega) (show 0 < 2 from by omega)
        apply And.intro
        · intro h67
          have h67 : (z64 / (Int32.ofInt 2)).toInt < m.toInt := h67
          exact ⟨hR59c, hxO59c, hxT59c, hxS59c, hF59c, hG59c⟩
        · intro h67
          have h67 : m.toInt ≤ (z64 / (Int32.ofInt 2)).toInt := h67
          have r74_1 : 0 ≤ (J59 40 6).toInt ∧ (J59 40 6).toInt ≤ 8 := hR59c 40 6
          have e74_2 : (J59 40 6).toInt = (I 40 6).toInt := congrArg Int32.toInt (congrFun (hF59c 40 rfl) 6)
          refine And.intro ⟨(dpos_of (by omega)), hR59c, hxO59c, hxT59c, hxS59c, (show (J59 40 6).toInt ≤ 6 from by first | assumption | omega), (show 0 ≤ (0 : Int) from by first | assumption | omega), (show (0 : Int) ≤ (J59 40 6).toInt from by first | assumption | omega), (show (J59 40 6).toInt - (0 : Int) < 7 from by first | assumption | omega)⟩ ?_
          intro x74 I74 L74 hq74
          have hq74 : xR I74 ∧ xO I74 ∧ xT I74 ∧ xS I74 ∧ f_fr [25, 26, 27, 28, 31, 32, 33, 34, 35, 36, 37, 38, 39, 69, 72, 73] J59 I74 ∧ f_fr [29, 30, 70] M59 L74 ∧ ((x74.toInt = 0 ∨ x74.toInt = 1)) := hq74
          obtain ⟨c74_0, c74_1, c74_2, c74_3, c74_4, c74_5, c74_6⟩ := hq74
          have hF74 := f_fr_tr hF59c c74_4 rfl
          have hG74 := f_fr_tr hG59c c74_5 rfl
          apply And.intro
          · intro h77
            have h77 : x74.toInt = 0 := h77
            intro z86 q86 _ hq86 hl86 hu86
            have hq86 : z86.toInt = m.toInt + 1 + 4294967296 * q86 := hq86
            try have hz86 : z86.toInt = m.toInt + 1 := by omega
            exact ⟨wd, z86, (by intro q9 h9; simp only [List.mem_cons, List.not_mem_nil, or_false] at h9; rcases h9 with h9 | h9 | h9 <;> subst h9 <;> repeat (first | exact List.mem_cons_self | apply List.mem_cons_of_mem)), rfl, c74_0, hF74, hG74, c74_1, c74_2, c74_3, (show wd.toInt = (I 40 6).toInt from by first | assumption | omega | rfl), (show wd.toInt ≤ 6 from by first | assumption | omega), (show 0 ≤ z86.toInt from by first | assumption | omega), (show z86.toInt ≤ 2147483647 from by first | assumption | omega), (show (2147483647 - z86.toInt) < n59 from by omega)⟩
          · intro h77
            have h77 : ¬ x74.toInt = 0 := h77
            have hR82 := xR_f (k := 72) (j := 9) (x := m) c74_0 (by exact f_rng _)
            have hF82 := f_fr_up (k := 72) (r := va_up (I74 72) 9 m) hF74 rfl
            have hxO82 := f_dep_up xO_dep (k := 72) (r := va_up (I74 72) 9 m) c74_1 rfl
            have hxT82 := f_dep_up xT_dep (k := 72) (r := va_up (I74 72) 9 m) c74_2 rfl
            have hxS82 := f_dep_up xS_dep (k := 72) (r := va_up (I74 72) 9 m) c74_3 rfl
            exact ⟨hR82, hxO82, hxT82, hxS82, hF82, hG74⟩
    refine f_wp_ok C f_cl flX6_ok fiX6_ok fjX6_ok (sn := none) (fun j h => by cases h) (cs := (f_cnl [(97, (2, 0, 9, pX10_beginWithRow, qX10_beginWithRow)), (101, (2, 1, 9, pX10_countEven, qX10_countEven)), (104, (4, 3, 6, (pX6_arrange 7), qX6_arrange))])) (cz := (fun _ => none)) (f_cnl_of (P := fun j S => f_cok pP l eP (f_rm 45) sP mP aP bP hP9 cP xY 80 a cy dC dI 3 _ _ (.invokevirtual j) true S) (List.forall_mem_cons.mpr ⟨f_cokV C (mX10_beginWithRow hinj) (ci := 9) rfl (List.forall_mem_cons.mpr ⟨(mlX6_ok _ (List.mem_of_getElem? (i := 8) rfl)), kc_X10_beginWithRow⟩) (by decide +kernel) ⟨Nat.le_of_ble_eq_true rfl, Nat.le_of_ble_eq_true rfl⟩, List.forall_mem_cons.mpr ⟨f_cokV C (mX10_countEven hinj) (ci := 9) rfl (List.forall_mem_cons.mpr ⟨(mlX6_ok _ (List.mem_of_getElem? (i := 9) rfl)), kc_X10_countEven⟩) (by decide +kernel) ⟨Nat.le_of_ble_eq_true rfl, Nat.le_of_ble_eq_true rfl⟩, List.forall_mem_cons.mpr ⟨f_cokV C (mX6_arrange hinj 7) (ci := 6) rfl (List.forall_mem_cons.mpr ⟨(mlX6_ok _ (List.mem_of_getElem? (i := 10) rfl)), kc_X6_arrange⟩) (by decide +kernel) ⟨Nat.le_of_ble_eq_true rfl, Nat.le_of_ble_eq_true rfl⟩, fun _ h => absurd h List.not_mem_nil⟩⟩⟩)) (fun j S h => by cases h) tX6_findOrder_ok (cut := (f_cnl [(59, (fun (ls' : fLs) (st' : List Value) (I' : fM) (L' : fN) => ∃ wd : Int32, ∃ m : Int32, (∀ q ∈ ([(2, .int m), (1, .int wd), (0, .ref 72)] : fLs), q ∈ ls') ∧ st' = [] ∧ (xR I' ∧ f_fr [25, 26, 27, 28, 31, 32, 33, 34, 35, 36, 37, 38, 39, 69, 72, 73] I I' ∧ f_fr [29, 30, 70] L L' ∧ xO I' ∧ xT I' ∧ xS I' ∧ (wd.toInt = (I 40 6).toInt) ∧ (wd.toInt ≤ 6) ∧ (0 ≤ m.toInt) ∧ (m.toInt ≤ 2147483647) ∧ (2147483647 - m.toInt) < 2147483648)))])) (f_cnl_of (P := fun (tQ : Nat) (P : fLs → List Value → fM → fN → Prop) => ∀ ls' st' I' L', P ls' st' I' L' → f_W pP l eP (f_rm 45) sP mP aP bP hP9 cP xY 80 a cy dC dI 3 (f_K 0 (qX6_findOrder [.ref 72] I L)) tQ ls' st' I' L') (List.forall_mem_cons.mpr ⟨(fun ls' st' I' L' h => by obtain ⟨wd, m, hs, e1, h9⟩ := h; rw [e1]; exact f_W_sub hs (lp59 2147483648 wd m I' L' h9)), fun _ h => absurd h List.not_mem_nil⟩)) 32 0 tX6_findOrder tX6_findOrder_ok _ _ _ _ ?_
    apply And.intro
    · intro h6
      have h6 : (I 72 9).toInt = (-2) := h6
      have hR12 := xR_f (k := 72) (j := 9) (x := Int32.ofInt (-1)) hR (by exact f_rng _)
      have hF12 := f_fr_up (k := 72) (r := va_up (I 72) 9 (Int32.ofInt (-1))) hF0 rfl
      have hxO12 := f_dep_up xO_dep (k := 72) (r := va_up (I 72) 9 (Int32.ofInt (-1))) hxO rfl
      have hxT12 := f_dep_up xT_dep (k := 72) (r := va_up (I 72) 9 (Int32.ofInt (-1))) hxT rfl
      have hxS12 := f_dep_up xS_dep (k := 72) (r := va_up (I 72) 9 (Int32.ofInt (-1))) hxS rfl
      have hR17 := xR_f (k := 72) (j := 10) (x := Int32.ofInt (-1)) hR12 (by exact f_rng _)
      have hF17 := f_fr_up (k := 72) (r := va_up (va_up (I 72) 9 (Int32.ofInt (-1))) 10 (Int32.ofInt (-1))) hF12 rfl
      have hxO17 := f_dep_up xO_dep (k := 72) (r := va_up (va_up (I 72) 9 (Int32.ofInt (-1))) 10 (Int32.ofInt (-1))) hxO12 rfl
      have hxT17 := f_dep_up xT_dep (k := 72) (r := va_up (va_up (I 72) 9 (Int32.ofInt (-1))) 10 (Int32.ofInt (-1))) hxT12 rfl
      have hxS17 := f_dep_up xS_dep (k := 72) (r := va_up (va_up (I 72) 9 (Int32.ofInt (-1))) 10 (Int32.ofInt (-1))) hxS12 rfl
      have r24_2 : 0 ≤ (I 40 6).toInt ∧ (I 40 6).toInt ≤ 8 := hR17 40 6
      refine And.intro ⟨hR17, hxT17⟩ ?_
      intro I36 L36 hq36
      have hq36 : xR I36 ∧ xT I36 ∧ f_fr [25, 26, 27] (va_up (va_up I 72 (va_up (I 72) 9 (Int32.ofInt (-1)))) 72 (va_up (va_up (I 72) 9 (Int32.ofInt (-1))) 10 (Int32.ofInt (-1)))) I36 ∧ L36 = L ∧ (I36 25 8).toInt = 36 := hq36
      obtain ⟨c36_0, c36_1, c36_2, eL36, c36_4⟩ := hq36
      replace eL36 := eL36.symm
      subst eL36
      have hxO36 := f_dep_fr xO_dep hxO17 c36_2 rfl
      have hxS36 := f_dep_fr xS_dep hxS17 c36_2 rfl
      have hF36 := f_fr_tr hF17 c36_2 rfl
      apply And.intro
      · intro h42
        have h42 : 6 < (I 40 6).toInt := h42
        exact ⟨c36_0, hxO36, c36_1, hxS36, hF36, hG0⟩
      · intro h42
        have h42 : (I 40 6).toInt ≤ 6 := h42
        refine And.intro ⟨c36_0, c36_1⟩ ?_
        intro x50 I50 L50 hq50
        have hq50 : I50 = I36 ∧ f_fr [29, 30] L L50 := hq50
        obtain ⟨eI50, c50_1⟩ := hq50
        replace eI50 := eI50.symm
        subst eI50
        have hG50 := f_fr_tr hG0 c50_1 rfl
        apply And.intro
        · intro h53
          have h53 : ¬ x50.toInt = 0 := h53
          exact ⟨I 40 6, Int32.ofInt 0, (by intro q9 h9; simp only [List.mem_cons, List.not_mem_nil, or_false] at h9; rcases h9 with h9 | h9 | h9 <;> subst h9 <;> repeat (first | exact List.mem_cons_self | apply List.mem_cons_of_mem)), rfl, c36_0, hF36, hG50, hxO36, c36_1, hxS36, (show (I 40 6).toInt = (I 40 6).toInt from by first | assumption | omega | rfl), (show (I 40 6).toInt ≤ 6 from by first | assumption | omega), (show 0 ≤ (0 : Int) from by first | assumption | omega), (show (0 : Int) ≤ 2147483647 from by first | assumption | omega), (show (2147483647 - (0 : Int)) < 2147483648 from by omega)⟩
        · intro h53
          have h53 : x50.toInt = 0 := h53
          exact ⟨c36_0, hxO36, c36_1, hxS36, hF36, hG50⟩
    · intro h6
      have h6 : ¬ (I 72 9).toInt = (-2) := h6
      exact ⟨hR, hxO, hxT, hxS, hF0, hG0⟩
def tX6_isSentenceIf : List (Instr × Nat) := [(.aload_n 0, 1), (.getfield 35, 3), (.bipush 36, 2), (.invokevirtual 78, 3), (.iconst 0, 1), (.istore 4, 2), (.iload 4, 2), (.aload_n 0, 1), (.getfield 39, 3), (.getfield 63, 3), (.if_icmp .ge 44, 3), (.iload 4, 2), (.iload_n 1, 1), (.if_icmp .ne 15, 3), (.aload_n 0, 1), (.getfield 35, 3), (.iload_n 2, 1), (.iload_n 3, 1), (.invokevirtual 177, 3), (.goto 20, 3), (.aload_n 0, 1), (.getfield 35, 3), (.aload_n 0, 1), (.getfield 39, 3), (.getfield 84, 3), (.iload 4, 2), (.iaload, 1), (.invokevirtual 87, 3), (.iinc 4 1, 3), (.goto (-50), 3), (.aload_n 0, 1), (.getfield 35, 3), (.aconst_null, 1), (.invokevirtual 90, 3), (.ireturn, 1)]
theorem tX6_isSentenceIf_ok : f_chk cX6_isSentenceIf 0 tX6_isSentenceIf = true := by decide +kernel
def pX6_isSentenceIf (av : List Value) (I : fM) (L : fN) : Prop := match av with
  | [.ref 72, .int p, .int f, .int m] => xR I ∧ xO I ∧ xT I ∧ xS I ∧ 0 ≤ f.toInt ∧ f.toInt ≤ 52 ∧ 0 ≤ m.toInt ∧ m.toInt ≤ 3 ∧ f.toInt + m.toInt ≤ 53
  | _ => False
def qX6_isSentenceIf (av : List Value) (I : fM) (L : fN) (r : Value) (I' : fM) (L' : fN) : Prop := match av, r with
  | [.ref 72, .int p, .int f, .int m], .int x => xR I' ∧ xO I' ∧ xT I' ∧ xS I' ∧ f_fr [25, 26, 27, 28, 31, 32, 33, 34, 35, 36, 37, 38, 39, 69] I I' ∧ f_fr [29, 30, 70] L L' ∧ (x.toInt = 0 ∨ x.toInt = 1)
  | _, _ => False
set_option maxHeartbeats 4000000 in
set_option maxRecDepth 100000 in
theorem mX6_isSentenceIf {l : Launch} {a : Nat → Nat} {cy dC : Nat → ClassId} {dI : Nat → Nat → Nat} (hinj : ∀ i j, i < 80 → j < 80 → a i = a j → i = j) : f_Met (xE a) l xY 80 a cy dC dI yX6_isSentenceIf cX6_isSentenceIf 5 3 36 pX6_isSentenceIf qX6_isSentenceIf := by
  refine f_met_of (xE_c a) hinj xY_hi (by decide) (fun av I L h => by unfold pX6_isSentenceIf at h; split at h <;> first | exact Nat.le_of_ble_eq_true rfl | exact h.elim) ?_
  intro pP eP sP mP aP bP hP9 cP C av I L hp
  unfold pX6_isSentenceIf at hp
  split at hp
  case h_2 => exact hp.elim
  case h_1 p f m =>
    obtain ⟨hR, hxO, hxT, hxS, p4, p5, p6, p7, p8⟩ := hp
    have hn : 0 ≤ (I 40 6).toInt ∧ (I 40 6).toInt ≤ 8 := hR 40 6
    have hF0 : f_fr [25, 26, 27, 28, 31, 32, 33, 34, 35, 36, 37, 38, 39, 69] I I := f_fr_rf
    have hG0 : f_fr [29, 30, 70] L L := f_fr_rf
    have lp12 : ∀ (n12 : Nat), ∀ (i : Int32) (J12 : fM) (M12 : fN), xR J12 ∧ f_fr [25, 26, 27, 28, 31, 32, 33, 34, 35, 36, 37, 38, 39, 69] I J12 ∧ f_fr [29, 30, 70] L M12 ∧ xO J12 ∧ xT J12 ∧ xS J12 ∧ (0 ≤ i.toInt) ∧ (i.toInt ≤ (I 40 6).toInt) ∧ ((I 40 6).toInt - i.toInt) < n12 → f_W pP l eP (f_rm 36) sP mP aP bP hP9 cP xY 80 a cy dC dI 5 (f_K 3 (qX6_isSentenceIf [.ref 72, .int p, .int f, .int m] I L)) 12 [(4, .int i), (3, .int m), (2, .int f), (1, .int p), (0, .ref 72)] [] J12 M12 := by
      intro n12
      induction n12 with
      | zero =>
        intro i J12 M12 h9
        obtain ⟨hR12c, hF12c, hG12c, hxO12c, hxT12c, hxS12c, u12_1, u12_2, hm12⟩ := h9
        omega
      | succ n12 ih12 =>
        intro i J12 M12 h9
        obtain ⟨hR12c, hF12c, hG12c, hxO12c, hxT12c, hxS12c, u12_1, u12_2, hm12⟩ := h9
        refine f_wp_ok C f_cl flX6_ok fiX6_ok fjX6_ok (sn := none) (fun j h => by cases h) (cs := (f_cnl [(78, (2, 0, 9, pX10_begin, qX10_begin)), (177, (3, 0, 9, pX10_addSlots, qX10_addSlots)), (87, (2, 0, 9, pX10_addWord, qX10_addWord)), (90, (2, 3, 9, pX10_search, qX10_search))])) (cz := (fun _ => none)) (f_cnl_of (P := fun j S => f_cok pP l eP (f_rm 36) sP mP aP bP hP9 cP xY 80 a cy dC dI 5 _ _ (.invokevirtual j) true S) (List.forall_mem_cons.mpr ⟨f_cokV C (mX10_begin hinj) (ci := 9) rfl (List.forall_mem_cons.mpr ⟨(mlX6_ok _ (List.mem_of_getElem? (i := 5) rfl)), kc_X10_begin⟩) (by decide +kernel) ⟨Nat.le_of_ble_eq_true rfl, Nat.le_of_ble_eq_true rfl⟩, List.forall_mem_cons.mpr ⟨f_cokV C (mX10_addSlots hinj) (ci := 9) rfl (List.forall_mem_cons.mpr ⟨(mlX6_ok _ (List.mem_of_getElem? (i := 28) rfl)), kc_X10_addSlots⟩) (by decide +kernel) ⟨Nat.le_of_ble_eq_true rfl, Nat.le_of_ble_eq_true rfl⟩, List.forall_mem_cons.mpr ⟨f_cokV C (mX10_addWord hinj) (ci := 9) rfl (List.forall_mem_cons.mpr ⟨(mlX6_ok _ (List.mem_of_getElem? (i := 6) rfl)), kc_X10_addWord⟩) (by decide +kernel) ⟨Nat.le_of_ble_eq_true rfl, Nat.le_of_ble_eq_true rfl⟩, List.forall_mem_cons.mpr ⟨f_cokV C (mX10_search hinj) (ci := 9) rfl (List.forall_mem_cons.mpr ⟨(mlX6_ok _ (List.mem_of_getElem? (i := 7) rfl)), kc_X10_search⟩) (by decide +kernel) ⟨Nat.le_of_ble_eq_true rfl, Nat.le_of_ble_eq_true rfl⟩, fun _ h => absurd h List.not_mem_nil⟩⟩⟩⟩)) (fun j S h => by cases h) tX6_isSentenceIf_ok (cut := (f_cnl [(12, (fun (ls' : fLs) (st' : List Value) (I' : fM) (L' : fN) => ∃ i : Int32, (∀ q ∈ ([(4, .int i), (3, .int m), (2, .int f), (1, .int p), (0, .ref 72)] : fLs), q ∈ ls') ∧ st' = [] ∧ (xR I' ∧ f_fr [25, 26, 27, 28, 31, 32, 33, 34, 35, 36, 37, 38, 39, 69] I I' ∧ f_fr [29, 30, 70] L L' ∧ xO I' ∧ xT I' ∧ xS I' ∧ (0 ≤ i.toInt) ∧ (i.toInt ≤ (I 40 6).toInt) ∧ ((I 40 6).toInt - i.toInt) < n12)))])) (f_cnl_of (P := fun (tQ : Nat) (P : fLs → List Value → fM → fN → Prop) => ∀ ls' st' I' L', P ls' st' I' L' → f_W pP l eP (f_rm 36) sP mP aP bP hP9 cP xY 80 a cy dC dI 5 (f_K 3 (qX6_isSentenceIf [.ref 72, .int p, .int f, .int m] I L)) tQ ls' st' I' L') (List.forall_mem_cons.mpr ⟨(fun ls' st' I' L' h => by obtain ⟨i, hs, e1, h9⟩ := h; rw [e1]; exact f_W_sub hs (ih12 i I' L' h9)), fun _ h => absurd h List.not_mem_nil⟩)) 21 12 (f_seek 12 0 tX6_isSentenceIf) (f_seek_ok 12 0 tX6_isSentenceIf tX6_isSentenceIf_ok) _ _ _ _ ?_
        have r18_1 : 0 ≤ (J12 40 6).toInt ∧ (J12 40 6).toInt ≤ 8 := hR12c 40 6
        have e18_2 : (J12 40 6).toInt = (I 40 6).toInt := congrArg Int32.toInt (congrFun (hF12c 40 rfl) 6)
        apply And.intro
        · intro h21
          have h21 : (J12 40 6).toInt ≤ i.toInt := h21
          refine And.intro ⟨hR12c, hxO12c, hxT12c, hxS12c, (by first | assumption | exact Or.inl rfl | exact Or.inr rfl | (intro h; cases h)), (by first | assumption | exact Or.inl rfl | exact Or.inr rfl | (intro h; cases h))⟩ ?_
          intro x70 I70 L70 hq70
          have hq70 : xR I70 ∧ xO I70 ∧ xT I70 ∧ xS I70 ∧ f_fr [28, 31, 32, 33, 34, 35, 36, 37, 38, 39, 69] J12 I70 ∧ f_fr [29, 30, 70] M12 L70 ∧ (((Value.null) = Value.ref 69 → xK I70 L70)) ∧ ((I70 69 = J12 69 ∨ 0 < (J12 16 (J12 25 8).toInt.toNat).toInt)) ∧ ((x70.toInt = 0 ∨ x70.toInt = 1)) := hq70
          obtain ⟨c70_0, c70_1, c70_2, c70_3, c70_4, c70_5, c70_6, c70_7, c70_8⟩ := hq70
          have hF70 := f_fr_tr hF12c c70_4 rfl
          have hG70 := f_fr_tr hG12c c70_5 rfl
          exact ⟨(f_b01 (show x70.toInt = 0 ∨ x70.toInt = 1 from by omega)), c70_0, c70_1, c70_2, c70_3, hF70, hG70, (show (x70.toInt = 0 ∨ x70.toInt = 1) from by first | assumption | omega | rfl)⟩
        · intro h21
          have h21 : i.toInt < (J12 40 6).toInt := h21
          apply And.intro
          · intro h27
            have h27 : ¬ i.toInt = p.toInt := h27
            refine And.intro (show f_in i 8 from ⟨show 0 ≤ i.toInt from by omega, show i.toInt < 8 from by omega⟩) ?_
            have r55_3 : 0 ≤ (J12 41 (i.toInt.toNat)).toInt ∧ (J12 41 (i.toInt.toNat)).toInt ≤ 11 := hR12c 41 (i.toInt.toNat)
            have e55_4 : (J12 41 (i.toInt.toNat)).toInt = (I 41 (i.toInt.toNat)).toInt := congrArg Int32.toInt (congrFun (hF12c 41 rfl) (i.toInt.toNat))
            refine And.intro ⟨hR12c, hxT12c, (show 0 ≤ (J12 41 (i.toInt.toNat)).toInt from by first | assumption | omega), (show (J12 41 (i.toInt.toNat)).toInt ≤ 11 from by first | assumption | omega)⟩ ?_
            intro I56 L56 hq56
            have hq56 : xR I56 ∧ xT I56 ∧ f_fr [25, 26, 27] J12 I56 ∧ L56 = M12 ∧ I56 25 8 = J12 25 8 := hq56
            obtain ⟨c56_0, c56_1, c56_2, eL56, c56_4⟩ := hq56
            replace eL56 := eL56.symm
            subst eL56
            have hxO56 := f_dep_fr xO_dep hxO12c c56_2 rfl
            have hxS56 := f_dep_fr xS_dep hxS12c c56_2 rfl
            have hF56 := f_fr_tr hF12c c56_2 rfl
            intro z59 q59 _ hq59 hl59 hu59
            have hq59 : z59.toInt = i.toInt + 1 + 4294967296 * q59 := hq59
            try have hz59 : z59.toInt = i.toInt + 1 := by omega
            exact ⟨z59, (by intro q9 h9; simp only [List.mem_cons, List.not_mem_nil, or_false] at h9; rcases h9 with h9 | h9 | h9 | h9 | h9 <;> subst h9 <;> repeat (first | exact List.mem_cons_self | apply List.mem_cons_of_mem)), rfl, c56_0, hF56, hG12c, hxO56, c56_1, hxS56, (show 0 ≤ z59.toInt from by first | assumption | omega), (show z59.toInt ≤ (I 40 6).toInt from by first | assumption | omega), (show ((I 40 6).toInt - z59.toInt) < n12 from by omega)⟩
          · intro h27
            have h27 : i.toInt = p.toInt := h27
            refine And.intro ⟨hR12c, hxT12c, (show 0 ≤ f.toInt from by first | assumption | omega), (show f.toInt ≤ 52 from by first | assumption | omega), (show 0 ≤ m.toInt from by first | assumption | omega), (show m.toInt ≤ 3 from by first | assumption | omega), (show f.toInt + m.toInt ≤ 53 from by first | assumption | omega)⟩ ?_
            intro I36 L36 hq36
            have hq36 : xR I36 ∧ xT I36 ∧ f_fr [25, 26, 27] J12 I36 ∧ L36 = M12 ∧ I36 25 8 = J12 25 8 := hq36
            obtain ⟨c36_0, c36_1, c36_2, eL36, c36_4⟩ := hq36
            replace eL36 := eL36.symm
            subst eL36
            have hxO36 := f_dep_fr xO_dep hxO12c c36_2 rfl
            have hxS36 := f_dep_fr xS_dep hxS12c c36_2 rfl
            have hF36 := f_fr_tr hF12c c36_2 rfl
            intro z59 q59 _ hq59 hl59 hu59
            have hq59 : z59.toInt = i.toInt + 1 + 4294967296 * q59 := hq59
            try have hz59 : z59.toInt = i.toInt + 1 := by omega
            exact ⟨z59, (by intro q9 h9; simp only [List.mem_cons, List.not_mem_nil, or_false] at h9; rcases h9 with h9 | h9 | h9 | h9 | h9 <;> subst h9 <;> repeat (first | exact List.mem_cons_self | apply List.mem_cons_of_mem)), rfl, c36_0, hF36, hG12c, hxO36, c36_1, hxS36, (show 0 ≤ z59.toInt from by first | assumption | omega), (show z59.toInt ≤ (I 40 6).toInt from by first | assumption | omega), (show ((I 40 6).toInt - z59.toInt) < n12 from by omega)⟩
    refine f_wp_ok C f_cl flX6_ok fiX6_ok fjX6_ok (sn := none) (fun j h => by cases h) (cs := (f_cnl [(78, (2, 0, 9, pX10_begin, qX10_begin)), (177, (3, 0, 9, pX10_addSlots, qX10_addSlots)), (87, (2, 0, 9, pX10_addWord, qX10_addWord)), (90, (2, 3, 9, pX10_search, qX10_search))])) (cz := (fun _ => none)) (f_cnl_of (P := fun j S => f_cok pP l eP (f_rm 36) sP mP aP bP hP9 cP xY 80 a cy dC dI 5 _ _ (.invokevirtual j) true S) (List.forall_mem_cons.mpr ⟨f_cokV C (mX10_begin hinj) (ci := 9) rfl (List.forall_mem_cons.mpr ⟨(mlX6_ok _ (List.mem_of_getElem? (i := 5) rfl)), kc_X10_begin⟩) (by decide +kernel) ⟨Nat.le_of_ble_eq_true rfl, Nat.le_of_ble_eq_true rfl⟩, List.forall_mem_cons.mpr ⟨f_cokV C (mX10_addSlots hinj) (ci := 9) rfl (List.forall_mem_cons.mpr ⟨(mlX6_ok _ (List.mem_of_getElem? (i := 28) rfl)), kc_X10_addSlots⟩) (by decide +kernel) ⟨Nat.le_of_ble_eq_true rfl, Nat.le_of_ble_eq_true rfl⟩, List.forall_mem_cons.mpr ⟨f_cokV C (mX10_addWord hinj) (ci := 9) rfl (List.forall_mem_cons.mpr ⟨(mlX6_ok _ (List.mem_of_getElem? (i := 6) rfl)), kc_X10_addWord⟩) (by decide +kernel) ⟨Nat.le_of_ble_eq_true rfl, Nat.le_of_ble_eq_true rfl⟩, List.forall_mem_cons.mpr ⟨f_cokV C (mX10_search hinj) (ci := 9) rfl (List.forall_mem_cons.mpr ⟨(mlX6_ok _ (List.mem_of_getElem? (i := 7) rfl)), kc_X10_search⟩) (by decide +kernel) ⟨Nat.le_of_ble_eq_true rfl, Nat.le_of_ble_eq_true rfl⟩, fun _ h => absurd h List.not_mem_nil⟩⟩⟩⟩)) (fun j S h => by cases h) tX6_isSentenceIf_ok (cut := (f_cnl [(12, (fun (ls' : fLs) (st' : List Value) (I' : fM) (L' : fN) => ∃ i : Int32, (∀ q ∈ ([(4, .int i), (3, .int m), (2, .int f), (1, .int p), (0, .ref 72)] : fLs), q ∈ ls') ∧ st' = [] ∧ (xR I' ∧ f_fr [25, 26, 27, 28, 31, 32, 33, 34, 35, 36, 37, 38, 39, 69] I I' ∧ f_fr [29, 30, 70] L L' ∧ xO I' ∧ xT I' ∧ xS I' ∧ (0 ≤ i.toInt) ∧ (i.toInt ≤ (I 40 6).toInt) ∧ ((I 40 6).toInt - i.toInt) < 9)))])) (f_cnl_of (P := fun (tQ : Nat) (P : fLs → List Value → fM → fN → Prop) => ∀ ls' st' I' L', P ls' st' I' L' → f_W pP l eP (f_rm 36) sP mP aP bP hP9 cP xY 80 a cy dC dI 5 (f_K 3 (qX6_isSentenceIf [.ref 72, .int p, .int f, .int m] I L)) tQ ls' st' I' L') (List.forall_mem_cons.mpr ⟨(fun ls' st' I' L' h => by obtain ⟨i, hs, e1, h9⟩ := h; rw [e1]; exact f_W_sub hs (lp12 9 i I' L' h9)), fun _ h => absurd h List.not_mem_nil⟩)) 9 0 tX6_isSentenceIf tX6_isSentenceIf_ok _ _ _ _ ?_
    refine And.intro ⟨hR, (show 0 ≤ (36 : Int) from by first | assumption | omega), (show (36 : Int) ≤ 52 from by first | assumption | omega)⟩ ?_
    intro I6 L6 hq6
    have hq6 : xR I6 ∧ f_fr [25] I I6 ∧ L6 = L ∧ (I6 25 7).toInt = 0 ∧ I6 25 8 = (Int32.ofInt 36) := hq6
    obtain ⟨c6_0, c6_1, eL6, c6_3, c6_4⟩ := hq6
    replace eL6 := eL6.symm
    subst eL6
    have hxO6 := f_dep_fr xO_dep hxO c6_1 rfl
    have hxT6 := f_dep_fr xT_dep hxT c6_1 rfl
    have hxS6 := f_dep_fr xS_dep hxS c6_1 rfl
    have hF6 := f_fr_tr hF0 c6_1 rfl
    exact ⟨Int32.ofInt 0, (by intro q9 h9; simp only [List.mem_cons, List.not_mem_nil, or_false] at h9; rcases h9 with h9 | h9 | h9 | h9 | h9 <;> subst h9 <;> repeat (first | exact List.mem_cons_self | apply List.mem_cons_of_mem)), rfl, c6_0, hF6, hG0, hxO6, hxT6, hxS6, (show 0 ≤ (0 : Int) from by first | assumption | omega), (show (0 : Int) ≤ (I 40 6).toInt from by first | assumption | omega), (show ((I 40 6).toInt - (0 : Int)) < 9 from by omega)⟩
def tX6_isSpan : List (Instr × Nat) := [(.aload_n 0, 1), (.getfield 35, 3), (.bipush 37, 2), (.iload_n 3, 1), (.iadd, 1), (.invokevirtual 78, 3), (.iload_n 1, 1), (.istore 4, 2), (.iload 4, 2), (.iload_n 2, 1), (.if_icmp .gt 26, 3), (.aload_n 0, 1), (.getfield 35, 3), (.aload_n 0, 1), (.getfield 39, 3), (.getfield 84, 3), (.iload 4, 2), (.iaload, 1), (.invokevirtual 87, 3), (.iinc 4 1, 3), (.goto (-26), 3), (.aload_n 0, 1), (.getfield 35, 3), (.aconst_null, 1), (.invokevirtual 90, 3), (.ireturn, 1)]
theorem tX6_isSpan_ok : f_chk cX6_isSpan 0 tX6_isSpan = true := by decide +kernel
def pX6_isSpan (av : List Value) (I : fM) (L : fN) : Prop := match av with
  | [.ref 72, .int f, .int t, .int k] => xR I ∧ xO I ∧ xT I ∧ xS I ∧ 0 ≤ f.toInt ∧ f.toInt ≤ 7 ∧ t.toInt ≤ 7 ∧ 0 ≤ k.toInt ∧ k.toInt ≤ 4
  | _ => False
def qX6_isSpan (av : List Value) (I : fM) (L : fN) (r : Value) (I' : fM) (L' : fN) : Prop := match av, r with
  | [.ref 72, .int f, .int t, .int k], .int x => xR I' ∧ xO I' ∧ xT I' ∧ xS I' ∧ f_fr [25, 26, 27, 28, 31, 32, 33, 34, 35, 36, 37, 38, 39, 69] I I' ∧ f_fr [29, 30, 70] L L' ∧ (x.toInt = 0 ∨ x.toInt = 1)
  | _, _ => False
set_option maxHeartbeats 4000000 in
set_option maxRecDepth 100000 in
theorem mX6_isSpan {l : Launch} {a : Nat → Nat} {cy dC : Nat → ClassId} {dI : Nat → Nat → Nat} (hinj : ∀ i j, i < 80 → j < 80 → a i = a j → i = j) : f_Met (xE a) l xY 80 a cy dC dI yX6_isSpan cX6_isSpan 5 3 36 pX6_isSpan qX6_isSpan := by
  refine f_met_of (xE_c a) hinj xY_hi (by decide) (fun av I L h => by unfold pX6_isSpan at h; split at h <;> first | exact Nat.le_of_ble_eq_true rfl | exact h.elim) ?_
  intro pP eP sP mP aP bP hP9 cP C av I L hp
  unfold pX6_isSpan at hp
  split at hp
  case h_2 => exact hp.elim
  case h_1 f t k =>
    obtain ⟨hR, hxO, hxT, hxS, p4, p5, p6, p7, p8⟩ := hp
    have hF0 : f_fr [25, 26, 27, 28, 31, 32, 33, 34, 35, 36, 37, 38, 39, 69] I I := f_fr_rf
    have hG0 : f_fr [29, 30, 70] L L := f_fr_rf
    have lp14 : ∀ (n14 : Nat), ∀ (i : Int32) (J14 : fM) (M14 : fN), xR J14 ∧ f_fr [25, 26, 27, 28, 31, 32, 33, 34, 35, 36, 37, 38, 39, 69] I J14 ∧ f_fr [29, 30, 70] L M14 ∧ xO J14 ∧ xT J14 ∧ xS J14 ∧ (0 ≤ i.toInt) ∧ (i.toInt ≤ 8) ∧ (8 - i.toInt) < n14 → f_W pP l eP (f_rm 36) sP mP aP bP hP9 cP xY 80 a cy dC dI 5 (f_K 3 (qX6_isSpan [.ref 72, .int f, .int t, .int k] I L)) 14 [(4, .int i), (3, .int k), (2, .int t), (1, .int f), (0, .ref 72)] [] J14 M14 := by
      intro n14
      induction n14 with
      | zero =>
        intro i J14 M14 h9
        obtain ⟨hR14c, hF14c, hG14c, hxO14c, hxT14c, hxS14c, u14_1, u14_2, hm14⟩ := h9
        omega
      | succ n14 ih14 =>
        intro i J14 M14 h9
        obtain ⟨hR14c, hF14c, hG14c, hxO14c, hxT14c, hxS14c, u14_1, u14_2, hm14⟩ := h9
        refine f_wp_ok C f_cl flX6_ok fiX6_ok fjX6_ok (sn := none) (fun j h => by cases h) (cs := (f_cnl [(78, (2, 0, 9, pX10_begin, qX10_begin)), (87, (2, 0, 9, pX10_addWord, qX10_addWord)), (90, (2, 3, 9, pX10_search, qX10_search))])) (cz := (fun _ => none)) (f_cnl_of (P := fun j S => f_cok pP l eP (f_rm 36) sP mP aP bP hP9 cP xY 80 a cy dC dI 5 _ _ (.invokevirtual j) true S) (List.forall_mem_cons.mpr ⟨f_cokV C (mX10_begin hinj) (ci := 9) rfl (List.forall_mem_cons.mpr ⟨(mlX6_ok _ (List.mem_of_getElem? (i := 5) rfl)), kc_X10_begin⟩) (by decide +kernel) ⟨Nat.le_of_ble_eq_true rfl, Nat.le_of_ble_eq_true rfl⟩, List.forall_mem_cons.mpr ⟨f_cokV C (mX10_addWord hinj) (ci := 9) rfl (List.forall_mem_cons.mpr ⟨(mlX6_ok _ (List.mem_of_getElem? (i := 6) rfl)), kc_X10_addWord⟩) (by decide +kernel) ⟨Nat.le_of_ble_eq_true rfl, Nat.le_of_ble_eq_true rfl⟩, List.forall_mem_cons.mpr ⟨f_cokV C (mX10_search hinj) (ci := 9) rfl (List.forall_mem_cons.mpr ⟨(mlX6_ok _ (List.mem_of_getElem? (i := 7) rfl)), kc_X10_search⟩) (by decide +kernel) ⟨Nat.le_of_ble_eq_true rfl, Nat.le_of_ble_eq_true rfl⟩, fun _ h => absurd h List.not_mem_nil⟩⟩⟩)) (fun j S h => by cases h) tX6_isSpan_ok (cut := (f_cnl [(14, (fun (ls' : fLs) (st' : List Value) (I' : fM) (L' : fN) => ∃ i : Int32, (∀ q ∈ ([(4, .int i), (3, .int k), (2, .int t), (1, .int f), (0, .ref 72)] : fLs), q ∈ ls') ∧ st' = [] ∧ (xR I' ∧ f_fr [25, 26, 27, 28, 31, 32, 33, 34, 35, 36, 37, 38, 39, 69] I I' ∧ f_fr [29, 30, 70] L L' ∧ xO I' ∧ xT I' ∧ xS I' ∧ (0 ≤ i.toInt) ∧ (i.toInt ≤ 8) ∧ (8 - i.toInt) < n14)))])) (f_cnl_of (P := fun (tQ : Nat) (P : fLs → List Value → fM → fN → Prop) => ∀ ls' st' I' L', P ls' st' I' L' → f_W pP l eP (f_rm 36) sP mP aP bP hP9 cP xY 80 a cy dC dI 5 (f_K 3 (qX6_isSpan [.ref 72, .int f, .int t, .int k] I L)) tQ ls' st' I' L') (List.forall_mem_cons.mpr ⟨(fun ls' st' I' L' h => by obtain ⟨i, hs, e1, h9⟩ := h; rw [e1]; exact f_W_sub hs (ih14 i I' L' h9)), fun _ h => absurd h List.not_mem_nil⟩)) 16 14 (f_seek 14 0 tX6_isSpan) (f_seek_ok 14 0 tX6_isSpan tX6_isSpan_ok) _ _ _ _ ?_
        apply And.intro
        · intro h17
          have h17 : t.toInt < i.toInt := h17
          refine And.intro ⟨hR14c, hxO14c, hxT14c, hxS14c, (by first | assumption | exact Or.inl rfl | exact Or.inr rfl | (intro h; cases h)), (by first | assumption | exact Or.inl rfl | exact Or.inr rfl | (intro h; cases h))⟩ ?_
          intro x48 I48 L48 hq48
          have hq48 : xR I48 ∧ xO I48 ∧ xT I48 ∧ xS I48 ∧ f_fr [28, 31, 32, 33, 34, 35, 36, 37, 38, 39, 69] J14 I48 ∧ f_fr [29, 30, 70] M14 L48 ∧ (((Value.null) = Value.ref 69 → xK I48 L48)) ∧ ((I48 69 = J14 69 ∨ 0 < (J14 16 (J14 25 8).toInt.toNat).toInt)) ∧ ((x48.toInt = 0 ∨ x48.toInt = 1)) := hq48
          obtain ⟨c48_0, c48_1, c48_2, c48_3, c48_4, c48_5, c48_6, c48_7, c48_8⟩ := hq48
          have hF48 := f_fr_tr hF14c c48_4 rfl
          have hG48 := f_fr_tr hG14c c48_5 rfl
          exact ⟨(f_b01 (show x48.toInt = 0 ∨ x48.toInt = 1 from by omega)), c48_0, c48_1, c48_2, c48_3, hF48, hG48, (show (x48.toInt = 0 ∨ x48.toInt = 1) from by first | assumption | omega | rfl)⟩
        · intro h17
          have h17 : i.toInt ≤ t.toInt := h17
          refine And.intro (show f_in i 8 from ⟨show 0 ≤ i.toInt from by omega, show i.toInt < 8 from by omega⟩) ?_
          have r33_1 : 0 ≤ (J14 41 (i.toInt.toNat)).toInt ∧ (J14 41 (i.toInt.toNat)).toInt ≤ 11 := hR14c 41 (i.toInt.toNat)
          have e33_2 : (J14 41 (i.toInt.toNat)).toInt = (I 41 (i.toInt.toNat)).toInt := congrArg Int32.toInt (congrFun (hF14c 41 rfl) (i.toInt.toNat))
          refine And.intro ⟨hR14c, hxT14c, (show 0 ≤ (J14 41 (i.toInt.toNat)).toInt from by first | assumption | omega), (show (J14 41 (i.toInt.toNat)).toInt ≤ 11 from by first | assumption | omega)⟩ ?_
          intro I34 L34 hq34
          have hq34 : xR I34 ∧ xT I34 ∧ f_fr [25, 26, 27] J14 I34 ∧ L34 = M14 ∧ I34 25 8 = J14 25 8 := hq34
          obtain ⟨c34_0, c34_1, c34_2, eL34, c34_4⟩ := hq34
          replace eL34 := eL34.symm
          subst eL34
          have hxO34 := f_dep_fr xO_dep hxO14c c34_2 rfl
          have hxS34 := f_dep_fr xS_dep hxS14c c34_2 rfl
          have hF34 := f_fr_tr hF14c c34_2 rfl
          intro z37 q37 _ hq37 hl37 hu37
          have hq37 : z37.toInt = i.toInt + 1 + 4294967296 * q37 := hq37
          try have hz37 : z37.toInt = i.toInt + 1 := by omega
          exact ⟨z37, (by intro q9 h9; simp only [List.mem_cons, List.not_mem_nil, or_false] at h9; rcases h9 with h9 | h9 | h9 | h9 | h9 <;> subst h9 <;> repeat (first | exact List.mem_cons_self | apply List.mem_cons_of_mem)), rfl, c34_0, hF34, hG14c, hxO34, c34_1, hxS34, (show 0 ≤ z37.toInt from by first | assumption | omega), (show z37.toInt ≤ 8 from by first | assumption | omega), (show (8 - z37.toInt) < n14 from by omega)⟩
    refine f_wp_ok C f_cl flX6_ok fiX6_ok fjX6_ok (sn := none) (fun j h => by cases h) (cs := (f_cnl [(78, (2, 0, 9, pX10_begin, qX10_begin)), (87, (2, 0, 9, pX10_addWord, qX10_addWord)), (90, (2, 3, 9, pX10_search, qX10_search))])) (cz := (fun _ => none)) (f_cnl_of (P := fun j S => f_cok pP l eP (f_rm 36) sP mP aP bP hP9 cP xY 80 a cy dC dI 5 _ _ (.invokevirtual j) true S) (List.forall_mem_cons.mpr ⟨f_cokV C (mX10_begin hinj) (ci := 9) rfl (List.forall_mem_cons.mpr ⟨(mlX6_ok _ (List.mem_of_getElem? (i := 5) rfl)), kc_X10_begin⟩) (by decide +kernel) ⟨Nat.le_of_ble_eq_true rfl, Nat.le_of_ble_eq_true rfl⟩, List.forall_mem_cons.mpr ⟨f_cokV C (mX10_addWord hinj) (ci := 9) rfl (List.forall_mem_cons.mpr ⟨(mlX6_ok _ (List.mem_of_getElem? (i := 6) rfl)), kc_X10_addWord⟩) (by decide +kernel) ⟨Nat.le_of_ble_eq_true rfl, Nat.le_of_ble_eq_true rfl⟩, List.forall_mem_cons.mpr ⟨f_cokV C (mX10_search hinj) (ci := 9) rfl (List.forall_mem_cons.mpr ⟨(mlX6_ok _ (List.mem_of_getElem? (i := 7) rfl)), kc_X10_search⟩) (by decide +kernel) ⟨Nat.le_of_ble_eq_true rfl, Nat.le_of_ble_eq_true rfl⟩, fun _ h => absurd h List.not_mem_nil⟩⟩⟩)) (fun j S h => by cases h) tX6_isSpan_ok (cut := (f_cnl [(14, (fun (ls' : fLs) (st' : List Value) (I' : fM) (L' : fN) => ∃ i : Int32, (∀ q ∈ ([(4, .int i), (3, .int k), (2, .int t), (1, .int f), (0, .ref 72)] : fLs), q ∈ ls') ∧ st' = [] ∧ (xR I' ∧ f_fr [25, 26, 27, 28, 31, 32, 33, 34, 35, 36, 37, 38, 39, 69] I I' ∧ f_fr [29, 30, 70] L L' ∧ xO I' ∧ xT I' ∧ xS I' ∧ (0 ≤ i.toInt) ∧ (i.toInt ≤ 8) ∧ (8 - i.toInt) < 9)))])) (f_cnl_of (P := fun (tQ : Nat) (P : fLs → List Value → fM → fN → Prop) => ∀ ls' st' I' L', P ls' st' I' L' → f_W pP l eP (f_rm 36) sP mP aP bP hP9 cP xY 80 a cy dC dI 5 (f_K 3 (qX6_isSpan [.ref 72, .int f, .int t, .int k] I L)) tQ ls' st' I' L') (List.forall_mem_cons.mpr ⟨(fun ls' st' I' L' h => by obtain ⟨i, hs, e1, h9⟩ := h; rw [e1]; exact f_W_sub hs (lp14 9 i I' L' h9)), fun _ h => absurd h List.not_mem_nil⟩)) 11 0 tX6_isSpan tX6_isSpan_ok _ _ _ _ ?_
    intro z7 q7 _ hq7 hl7 hu7
    have hq7 : z7.toInt = 37 + k.toInt + 4294967296 * q7 := hq7
    try have hz7 : z7.toInt = 37 + k.toInt := by omega
    refine And.intro ⟨hR, (show 0 ≤ z7.toInt from by first | assumption | omega), (show z7.toInt ≤ 52 from by first | assumption | omega)⟩ ?_
    intro I8 L8 hq8
    have hq8 : xR I8 ∧ f_fr [25] I I8 ∧ L8 = L ∧ (I8 25 7).toInt = 0 ∧ I8 25 8 = z7 := hq8
    obtain ⟨c8_0, c8_1, eL8, c8_3, c8_4⟩ := hq8
    replace eL8 := eL8.symm
    subst eL8
    have hxO8 := f_dep_fr xO_dep hxO c8_1 rfl
    have hxT8 := f_dep_fr xT_dep hxT c8_1 rfl
    have hxS8 := f_dep_fr xS_dep hxS c8_1 rfl
    have hF8 := f_fr_tr hF0 c8_1 rfl
    exact ⟨f, (by intro q9 h9; simp only [List.mem_cons, List.not_mem_nil, or_false] at h9; rcases h9 with h9 | h9 | h9 | h9 | h9 <;> subst h9 <;> repeat (first | exact List.mem_cons_self | apply List.mem_cons_of_mem)), rfl, c8_0, hF8, hG0, hxO8, hxT8, hxS8, (show 0 ≤ f.toInt from by first | assumption | omega), (show f.toInt ≤ 8 from by first | assumption | omega), (show (8 - f.toInt) < 9 from by omega)⟩
def tX6_wordsFor : List (Instr × Nat) := [(.iconst 0, 1), (.istore_n 2, 1), (.iconst 0, 1), (.istore_n 3, 1), (.iload_n 3, 1), (.aload_n 0, 1), (.getfield 31, 3), (.getfield 125, 3), (.if_icmp .ge 36, 3), (.aload_n 0, 1), (.iload_n 1, 1), (.iload_n 3, 1), (.invokestatic 171, 3), (.aload_n 0, 1), (.getfield 31, 3), (.getfield 174, 3), (.iload_n 3, 1), (.iaload, 1), (.invokevirtual 168, 3), (.ifCond .eq 9, 3), (.iload_n 2, 1), (.iconst 1, 1), (.iload_n 3, 1), (.ishl, 1), (.ior, 1), (.istore_n 2, 1), (.iinc 3 1, 3), (.goto (-41), 3), (.iload_n 2, 1), (.ireturn, 1)]
theorem tX6_wordsFor_ok : f_chk cX6_wordsFor 0 tX6_wordsFor = true := by decide +kernel
def pX6_wordsFor (av : List Value) (I : fM) (L : fN) : Prop := match av with
  | [.ref 72, .int p] => xR I ∧ xO I ∧ xT I ∧ xS I
  | _ => False
def qX6_wordsFor (av : List Value) (I : fM) (L : fN) (r : Value) (I' : fM) (L' : fN) : Prop := match av, r with
  | [.ref 72, .int p], .int x => xR I' ∧ xO I' ∧ xT I' ∧ xS I' ∧ f_fr [25, 26, 27, 28, 31, 32, 33, 34, 35, 36, 37, 38, 39, 69] I I' ∧ f_fr [29, 30, 70] L L'
  | _, _ => False
set_option maxHeartbeats 4000000 in
set_option maxRecDepth 100000 in
theorem mX6_wordsFor {l : Launch} {a : Nat → Nat} {cy dC : Nat → ClassId} {dI : Nat → Nat → Nat} (hinj : ∀ i j, i < 80 → j < 80 → a i = a j → i = j) : f_Met (xE a) l xY 80 a cy dC dI yX6_wordsFor cX6_wordsFor 4 1 37 pX6_wordsFor qX6_wordsFor := by
  refine f_met_of (xE_c a) hinj xY_hi (by decide) (fun av I L h => by unfold pX6_wordsFor at h; split at h <;> first | exact Nat.le_of_ble_eq_true rfl | exact h.elim) ?_
  intro pP eP sP mP aP bP hP9 cP C av I L hp
  unfold pX6_wordsFor at hp
  split at hp
  case h_2 => exact hp.elim
  case h_1 p =>
    obtain ⟨hR, hxO, hxT, hxS⟩ := hp
    have hw : 0 ≤ (I 15 10).toInt ∧ (I 15 10).toInt ≤ 12 := hR 15 10
    have hF0 : f_fr [25, 26, 27, 28, 31, 32, 33, 34, 35, 36, 37, 38, 39, 69] I I := f_fr_rf
    have hG0 : f_fr [29, 30, 70] L L := f_fr_rf
    have lp4 : ∀ (n4 : Nat), ∀ (e : Int32) (i : Int32) (J4 : fM) (M4 : fN), xR J4 ∧ f_fr [25, 26, 27, 28, 31, 32, 33, 34, 35, 36, 37, 38, 39, 69] I J4 ∧ f_fr [29, 30, 70] L M4 ∧ xO J4 ∧ xT J4 ∧ xS J4 ∧ (0 ≤ i.toInt) ∧ (i.toInt ≤ (I 15 10).toInt) ∧ ((I 15 10).toInt - i.toInt) < n4 → f_W pP l eP (f_rm 37) sP mP aP bP hP9 cP xY 80 a cy dC dI 4 (f_K 1 (qX6_wordsFor [.ref 72, .int p] I L)) 4 [(3, .int i), (2, .int e), (1, .int p), (0, .ref 72)] [] J4 M4 := by
      intro n4
      induction n4 with
      | zero =>
        intro e i J4 M4 h9
        obtain ⟨hR4c, hF4c, hG4c, hxO4c, hxT4c, hxS4c, u4_1, u4_2, hm4⟩ := h9
        omega
      | succ n4 ih4 =>
        intro e i J4 M4 h9
        obtain ⟨hR4c, hF4c, hG4c, hxO4c, hxT4c, hxS4c, u4_1, u4_2, hm4⟩ := h9
        refine f_wp_ok C f_cl flX6_ok fiX6_ok fjX6_ok (sn := none) (fun j h => by cases h) (cs := (f_cnl [(168, (4, 3, 6, pX6_isSentenceIf, qX6_isSentenceIf))])) (cz := (f_cnl [(171, (1, 1, 3, pX3_firstSlot, qX3_firstSlot))])) (f_cnl_of (P := fun j S => f_cok pP l eP (f_rm 37) sP mP aP bP hP9 cP xY 80 a cy dC dI 4 _ _ (.invokevirtual j) true S) (List.forall_mem_cons.mpr ⟨f_cokV C (mX6_isSentenceIf hinj) (ci := 6) rfl (List.forall_mem_cons.mpr ⟨(mlX6_ok _ (List.mem_of_getElem? (i := 26) rfl)), kc_X6_isSentenceIf⟩) (by decide +kernel) ⟨Nat.le_of_ble_eq_true rfl, Nat.le_of_ble_eq_true rfl⟩, fun _ h => absurd h List.not_mem_nil⟩)) (f_cnl_of (P := fun j S => f_cok pP l eP (f_rm 37) sP mP aP bP hP9 cP xY 80 a cy dC dI 4 _ _ (.invokestatic j) false S) (List.forall_mem_cons.mpr ⟨f_cokS C (mX3_firstSlot hinj) (List.forall_mem_cons.mpr ⟨(mlX6_ok _ (List.mem_of_getElem? (i := 27) rfl)), kc_X3_firstSlot⟩) (by decide +kernel) ⟨Nat.le_of_ble_eq_true rfl, Nat.le_of_ble_eq_true rfl⟩, fun _ h => absurd h List.not_mem_nil⟩)) tX6_wordsFor_ok (cut := (f_cnl [(4, (fun (ls' : fLs) (st' : List Value) (I' : fM) (L' : fN) => ∃ e : Int32, ∃ i : Int32, (∀ q ∈ ([(3, .int i), (2, .int e), (1, .int p), (0, .ref 72)] : fLs), q ∈ ls') ∧ st' = [] ∧ (xR I' ∧ f_fr [25, 26, 27, 28, 31, 32, 33, 34, 35, 36, 37, 38, 39, 69] I I' ∧ f_fr [29, 30, 70] L L' ∧ xO I' ∧ xT I' ∧ xS I' ∧ (0 ≤ i.toInt) ∧ (i.toInt ≤ (I 15 10).toInt) ∧ ((I 15 10).toInt - i.toInt) < n4)))])) (f_cnl_of (P := fun (tQ : Nat) (P : fLs → List Value → fM → fN → Prop) => ∀ ls' st' I' L', P ls' st' I' L' → f_W pP l eP (f_rm 37) sP mP aP bP hP9 cP xY 80 a cy dC dI 4 (f_K 1 (qX6_wordsFor [.ref 72, .int p] I L)) tQ ls' st' I' L') (List.forall_mem_cons.mpr ⟨(fun ls' st' I' L' h => by obtain ⟨e, i, hs, e1, h9⟩ := h; rw [e1]; exact f_W_sub hs (ih4 e i I' L' h9)), fun _ h => absurd h List.not_mem_nil⟩)) 27 4 (f_seek 4 0 tX6_wordsFor) (f_seek_ok 4 0 tX6_wordsFor tX6_wordsFor_ok) _ _ _ _ ?_
        have r9_1 : 0 ≤ (J4 15 10).toInt ∧ (J4 15 10).toInt ≤ 12 := hR4c 15 10
        have e9_2 : (J4 15 10).toInt = (I 15 10).toInt := congrArg Int32.toInt (congrFun (hF4c 15 rfl) 10)
        apply And.intro
        · intro h12
          have h12 : (J4 15 10).toInt ≤ i.toInt := h12
          exact ⟨hR4c, hxO4c, hxT4c, hxS4c, hF4c, hG4c⟩
        · intro h12
          have h12 : i.toInt < (J4 15 10).toInt := h12
          refine And.intro ⟨(show 0 ≤ i.toInt from by first | assumption | omega), (show i.toInt ≤ 11 from by first | assumption | omega)⟩ ?_
          intro x18 I18 L18 hq18
          have hq18 : I18 = J4 ∧ L18 = M4 ∧ x18.toInt = 3 * i.toInt := hq18
          obtain ⟨eI18, eL18, c18_2⟩ := hq18
          replace eI18 := eI18.symm
          subst eI18
          replace eL18 := eL18.symm
          subst eL18
          refine And.intro (show f_in i 12 from ⟨show 0 ≤ i.toInt from by omega, show i.toInt < 12 from by omega⟩) ?_
          have r29_3 : 0 ≤ (J4 24 (i.toInt.toNat)).toInt ∧ (J4 24 (i.toInt.toNat)).toInt ≤ 3 := hR4c 24 (i.toInt.toNat)
          have e29_4 : (J4 24 (i.toInt.toNat)).toInt = (I 24 (i.toInt.toNat)).toInt := congrArg Int32.toInt (congrFun (hF4c 24 rfl) (i.toInt.toNat))
          refine And.intro ⟨hR4c, hxO4c, hxT4c, hxS4c, (show 0 ≤ x18.toInt from by first | assumption | omega), (show x18.toInt ≤ 52 from by first | assumption | omega), (show 0 ≤ (J4 24 (i.toInt.toNat)).toInt from by first | assumption | omega), (show (J4 24 (i.toInt.toNat)).toInt ≤ 3 from by first | assumption | omega), (show x18.toInt + (J4 24 (i.toInt.toNat)).toInt ≤ 53 from by first | assumption | omega)⟩ ?_
          intro x30 I30 L30 hq30
          have hq30 : xR I30 ∧ xO I30 ∧ xT I30 ∧ xS I30 ∧ f_fr [25, 26, 27, 28, 31, 32, 33, 34, 35, 36, 37, 38, 39, 69] J4 I30 ∧ f_fr [29, 30, 70] M4 L30 ∧ ((x30.toInt = 0 ∨ x30.toInt = 1)) := hq30
          obtain ⟨c30_0, c30_1, c30_2, c30_3, c30_4, c30_5, c30_6⟩ := hq30
          have hF30 := f_fr_tr hF4c c30_4 rfl
          have hG30 := f_fr_tr hG4c c30_5 rfl
          apply And.intro
          · intro h33
            have h33 : x30.toInt = 0 := h33
            intro z42 q42 _ hq42 hl42 hu42
            have hq42 : z42.toInt = i.toInt + 1 + 4294967296 * q42 := hq42
            try have hz42 : z42.toInt = i.toInt + 1 := by omega
            exact ⟨e, z42, (by intro q9 h9; simp only [List.mem_cons, List.not_mem_nil, or_false] at h9; rcases h9 with h9 | h9 | h9 | h9 <;> subst h9 <;> repeat (first | exact List.mem_cons_self | apply List.mem_cons_of_mem)), rfl, c30_0, hF30, hG30, c30_1, c30_2, c30_3, (show 0 ≤ z42.toInt from by first | assumption | omega), (show z42.toInt ≤ (I 15 10).toInt from by first | assumption | omega), (show ((I 15 10).toInt - z42.toInt) < n4 from by omega)⟩
          · intro h33
            have h33 : ¬ x30.toInt = 0 := h33
            intro z42 q42 _ hq42 hl42 hu42
            have hq42 : z42.toInt = i.toInt + 1 + 4294967296 * q42 := hq42
            try have hz42 : z42.toInt = i.toInt + 1 := by omega
            exact ⟨e ||| ((Int32.ofInt 1) <<< (i &&& 31)), z42, (by intro q9 h9; simp only [List.mem_cons, List.not_mem_nil, or_false] at h9; rcases h9 with h9 | h9 | h9 | h9 <;> subst h9 <;> repeat (first | exact List.mem_cons_self | apply List.mem_cons_of_mem)), rfl, c30_0, hF30, hG30, c30_1, c30_2, c30_3, (show 0 ≤ z42.toInt from by first | assumption | omega), (show z42.toInt ≤ (I 15 10).toInt from by first | assumption | omega), (show ((I 15 10).toInt - z42.toInt) < n4 from by omega)⟩
    refine f_wp_ok C f_cl flX6_ok fiX6_ok fjX6_ok (sn := none) (fun j h => by cases h) (cs := (f_cnl [(168, (4, 3, 6, pX6_isSentenceIf, qX6_isSentenceIf))])) (cz := (f_cnl [(171, (1, 1, 3, pX3_firstSlot, qX3_firstSlot))])) (f_cnl_of (P := fun j S => f_cok pP l eP (f_rm 37) sP mP aP bP hP9 cP xY 80 a cy dC dI 4 _ _ (.invokevirtual j) true S) (List.forall_mem_cons.mpr ⟨f_cokV C (mX6_isSentenceIf hinj) (ci := 6) rfl (List.forall_mem_cons.mpr ⟨(mlX6_ok _ (List.mem_of_getElem? (i := 26) rfl)), kc_X6_isSentenceIf⟩) (by decide +kernel) ⟨Nat.le_of_ble_eq_true rfl, Nat.le_of_ble_eq_true rfl⟩, fun _ h => absurd h List.not_mem_nil⟩)) (f_cnl_of (P := fun j S => f_cok pP l eP (f_rm 37) sP mP aP bP hP9 cP xY 80 a cy dC dI 4 _ _ (.invokestatic j) false S) (List.forall_mem_cons.mpr ⟨f_cokS C (mX3_firstSlot hinj) (List.forall_mem_cons.mpr ⟨(mlX6_ok _ (List.mem_of_getElem? (i := 27) rfl)), kc_X3_firstSlot⟩) (by decide +kernel) ⟨Nat.le_of_ble_eq_true rfl, Nat.le_of_ble_eq_true rfl⟩, fun _ h => absurd h List.not_mem_nil⟩)) tX6_wordsFor_ok (cut := (f_cnl [(4, (fun (ls' : fLs) (st' : List Value) (I' : fM) (L' : fN) => ∃ e : Int32, ∃ i : Int32, (∀ q ∈ ([(3, .int i), (2, .int e), (1, .int p), (0, .ref 72)] : fLs), q ∈ ls') ∧ st' = [] ∧ (xR I' ∧ f_fr [25, 26, 27, 28, 31, 32, 33, 34, 35, 36, 37, 38, 39, 69] I I' ∧ f_fr [29, 30, 70] L L' ∧ xO I' ∧ xT I' ∧ xS I' ∧ (0 ≤ i.toInt) ∧ (i.toInt ≤ (I 15 10).toInt) ∧ ((I 15 10).toInt - i.toInt) < 13)))])) (f_cnl_of (P := fun (tQ : Nat) (P : fLs → List Value → fM → fN → Prop) => ∀ ls' st' I' L', P ls' st' I' L' → f_W pP l eP (f_rm 37) sP mP aP bP hP9 cP xY 80 a cy dC dI 4 (f_K 1 (qX6_wordsFor [.ref 72, .int p] I L)) tQ ls' st' I' L') (List.forall_mem_cons.mpr ⟨(fun ls' st' I' L' h => by obtain ⟨e, i, hs, e1, h9⟩ := h; rw [e1]; exact f_W_sub hs (lp4 13 e i I' L' h9)), fun _ h => absurd h List.not_mem_nil⟩)) 7 0 tX6_wordsFor tX6_wordsFor_ok _ _ _ _ ?_
    have r4_1 : 0 ≤ (I 15 10).toInt ∧ (I 15 10).toInt ≤ 12 := hR 15 10
    exact ⟨Int32.ofInt 0, Int32.ofInt 0, (by intro q9 h9; simp only [List.mem_cons, List.not_mem_nil, or_false] at h9; rcases h9 with h9 | h9 | h9 | h9 <;> subst h9 <;> repeat (first | exact List.mem_cons_self | apply List.mem_cons_of_mem)), rfl, hR, hF0, hG0, hxO, hxT, hxS, (show 0 ≤ (0 : Int) from by first | assumption | omega), (show (0 : Int) ≤ (I 15 10).toInt from by first | assumption | omega), (show ((I 15 10).toInt - (0 : Int)) < 13 from by omega)⟩
