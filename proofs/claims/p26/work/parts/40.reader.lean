/-- a tag of c - b kinds -/
def wfK (x : Int32) (b c : Int) : Prop := ∃ n : Nat, wfT x n ∧ (n : Int) + 1 = 2 * (c - b)
theorem wfK_lt {x : Int32} {b c : Int} (h : wfK x b c) : b < c := by
  obtain ⟨n, h1, h2⟩ := h
  omega
theorem wfK_join {x y z : Int32} {b c e : Int} (hx : wfK x b c) (hy : wfK y c e) (hz : ∀ na nb, wfT x na → wfT y nb → wfT z (1 + na + nb)) : wfK z b e := by
  obtain ⟨n, h1, h2⟩ := hx
  obtain ⟨m, g1, g2⟩ := hy
  exact ⟨1 + n + m, hz n m h1 g1, by omega⟩
theorem wfK_ex {x y : Int32} {b c e : Int} (hx : wfK x b c) (hy : wfK y c e) (hb : 0 ≤ b) (he : e ≤ 4) : ∃ na nb, wfT x na ∧ wfT y nb ∧ 1 + na + nb ≤ 7 := by
  obtain ⟨n, h1, h2⟩ := hx
  obtain ⟨m, g1, g2⟩ := hy
  exact ⟨n, m, h1, g1, by omega⟩
def tX4_isOpen : List (Instr × Nat) := [(.aload_n 0, 1), (.getfield 43, 3), (.ifCond .ne 17, 3), (.aload_n 0, 1), (.getfield 21, 3), (.getfield 71, 3), (.ifCond .eq 7, 3), (.iconst 1, 1), (.goto 4, 3), (.iconst 0, 1), (.ireturn, 1)]
theorem tX4_isOpen_ok : f_chk cX4_isOpen 0 tX4_isOpen = true := by decide +kernel
def pX4_isOpen (av : List Value) (I : fM) (L : fN) : Prop := match av with
  | [.ref 3] => True
  | _ => False
def qX4_isOpen (av : List Value) (I : fM) (L : fN) (r : Value) (I' : fM) (L' : fN) : Prop := match av, r with
  | [.ref 3], .int x => I' = I ∧ L' = L ∧ ((I 3 2).toInt = 0 ∨ x.toInt = 0) ∧ (x.toInt = 0 ∨ x.toInt = 1)
  | _, _ => False
set_option maxHeartbeats 4000000 in
set_option maxRecDepth 100000 in
theorem mX4_isOpen {l : Launch} {a : Nat → Nat} {cy dC : Nat → ClassId} {dI : Nat → Nat → Nat} (hinj : ∀ i j, i < 80 → j < 80 → a i = a j → i = j) : f_Met (xE a) l xY 80 a cy dC dI yX4_isOpen cX4_isOpen 1 3 0 pX4_isOpen qX4_isOpen := by
  refine f_met_of (xE_c a) hinj xY_hi (by decide) (fun av I L h => by unfold pX4_isOpen at h; split at h <;> first | exact Nat.le_of_ble_eq_true rfl | exact h.elim) ?_
  intro pP eP sP mP aP bP hP9 cP C av I L hp
  unfold pX4_isOpen at hp
  split at hp
  case h_2 => exact hp.elim
  case h_1 =>
    have p0 := hp
    refine f_wp_ok C f_cl flX4_ok fiX4_ok fjX4_ok (sn := none) (fun j h => by cases h) (cs := (fun _ => none)) (cz := (fun _ => none)) (fun j S h => by cases h) (fun j S h => by cases h) tX4_isOpen_ok (cut := (fun _ => none)) (fun t P h => by cases h) 13 0 tX4_isOpen tX4_isOpen_ok _ _ _ _ ?_
    apply And.intro
    · intro h4
      have h4 : ¬ (I 3 2).toInt = 0 := h4
      exact ⟨Or.inl rfl, rfl, rfl, (show ((I 3 2).toInt = 0 ∨ (0 : Int) = 0) from by first | assumption | omega | rfl), (show ((0 : Int) = 0 ∨ (0 : Int) = 1) from by first | assumption | omega | rfl)⟩
    · intro h4
      have h4 : (I 3 2).toInt = 0 := h4
      apply And.intro
      · intro h14
        have h14 : (I 1 2).toInt = 0 := h14
        exact ⟨Or.inl rfl, rfl, rfl, (show ((I 3 2).toInt = 0 ∨ (0 : Int) = 0) from by first | assumption | omega | rfl), (show ((0 : Int) = 0 ∨ (0 : Int) = 1) from by first | assumption | omega | rfl)⟩
      · intro h14
        have h14 : ¬ (I 1 2).toInt = 0 := h14
        exact ⟨Or.inr rfl, rfl, rfl, (show ((I 3 2).toInt = 0 ∨ (1 : Int) = 0) from by first | assumption | omega | rfl), (show ((1 : Int) = 0 ∨ (1 : Int) = 1) from by first | assumption | omega | rfl)⟩
def tX4_isKeyword : List (Instr × Nat) := [(.aload_n 0, 1), (.getfield 21, 3), (.getfield 71, 3), (.iconst 1, 1), (.if_icmp .ne 19, 3), (.aload_n 0, 1), (.getfield 21, 3), (.getfield 46, 3), (.lload_n 1, 1), (.lcmp, 1), (.ifCond .ne 7, 3), (.iconst 1, 1), (.goto 4, 3), (.iconst 0, 1), (.ireturn, 1)]
theorem tX4_isKeyword_ok : f_chk cX4_isKeyword 0 tX4_isKeyword = true := by decide +kernel
def pX4_isKeyword (av : List Value) (I : fM) (L : fN) : Prop := match av with
  | [.ref 3, .long w] => True
  | _ => False
def qX4_isKeyword (av : List Value) (I : fM) (L : fN) (r : Value) (I' : fM) (L' : fN) : Prop := match av, r with
  | [.ref 3, .long w], .int x => I' = I ∧ L' = L ∧ (x.toInt = 0 ∨ x.toInt = 1)
  | _, _ => False
set_option maxHeartbeats 4000000 in
set_option maxRecDepth 100000 in
theorem mX4_isKeyword {l : Launch} {a : Nat → Nat} {cy dC : Nat → ClassId} {dI : Nat → Nat → Nat} (hinj : ∀ i j, i < 80 → j < 80 → a i = a j → i = j) : f_Met (xE a) l xY 80 a cy dC dI yX4_isKeyword cX4_isKeyword 3 3 0 pX4_isKeyword qX4_isKeyword := by
  refine f_met_of (xE_c a) hinj xY_hi (by decide) (fun av I L h => by unfold pX4_isKeyword at h; split at h <;> first | exact Nat.le_of_ble_eq_true rfl | exact h.elim) ?_
  intro pP eP sP mP aP bP hP9 cP C av I L hp
  unfold pX4_isKeyword at hp
  split at hp
  case h_2 => exact hp.elim
  case h_1 w =>
    have p0 := hp
    refine f_wp_ok C f_cl flX4_ok fiX4_ok fjX4_ok (sn := none) (fun j h => by cases h) (cs := (fun _ => none)) (cz := (fun _ => none)) (fun j S h => by cases h) (fun j S h => by cases h) tX4_isKeyword_ok (cut := (fun _ => none)) (fun t P h => by cases h) 17 0 tX4_isKeyword tX4_isKeyword_ok _ _ _ _ ?_
    apply And.intro
    · intro h8
      have h8 : ¬ (I 1 2).toInt = 1 := h8
      exact ⟨Or.inl rfl, rfl, rfl, (show ((0 : Int) = 0 ∨ (0 : Int) = 1) from by first | assumption | omega | rfl)⟩
    · intro h8
      have h8 : (I 1 2).toInt = 1 := h8
      apply And.intro
      · intro h20
        have h20 : ¬ (lg_cmp (L 1 4) w).toInt = 0 := h20
        exact ⟨Or.inl rfl, rfl, rfl, (show ((0 : Int) = 0 ∨ (0 : Int) = 1) from by first | assumption | omega | rfl)⟩
      · intro h20
        have h20 : (lg_cmp (L 1 4) w).toInt = 0 := h20
        exact ⟨Or.inr rfl, rfl, rfl, (show ((1 : Int) = 0 ∨ (1 : Int) = 1) from by first | assumption | omega | rfl)⟩
def tX4_isName : List (Instr × Nat) := [(.aload_n 0, 1), (.getfield 21, 3), (.getfield 71, 3), (.iconst 1, 1), (.if_icmp .ne 77, 3), (.aload_n 0, 1), (.getfield 21, 3), (.getfield 46, 3), (.ldc2_w 74, 3), (.lcmp, 1), (.ifCond .eq 63, 3), (.aload_n 0, 1), (.getfield 21, 3), (.getfield 46, 3), (.ldc2_w 86, 3), (.lcmp, 1), (.ifCond .eq 49, 3), (.aload_n 0, 1), (.getfield 21, 3), (.getfield 46, 3), (.ldc2_w 95, 3), (.lcmp, 1), (.ifCond .eq 35, 3), (.aload_n 0, 1), (.getfield 21, 3), (.getfield 46, 3), (.ldc2_w 115, 3), (.lcmp, 1), (.ifCond .eq 21, 3), (.aload_n 0, 1), (.getfield 21, 3), (.getfield 46, 3), (.ldc2_w 124, 3), (.lcmp, 1), (.ifCond .eq 7, 3), (.iconst 1, 1), (.goto 4, 3), (.iconst 0, 1), (.ireturn, 1)]
theorem tX4_isName_ok : f_chk cX4_isName 0 tX4_isName = true := by decide +kernel
def pX4_isName (av : List Value) (I : fM) (L : fN) : Prop := match av with
  | [.ref 3] => True
  | _ => False
def qX4_isName (av : List Value) (I : fM) (L : fN) (r : Value) (I' : fM) (L' : fN) : Prop := match av, r with
  | [.ref 3], .int x => I' = I ∧ L' = L ∧ (x.toInt = 0 ∨ x.toInt = 1)
  | _, _ => False
set_option maxHeartbeats 4000000 in
set_option maxRecDepth 100000 in
theorem mX4_isName {l : Launch} {a : Nat → Nat} {cy dC : Nat → ClassId} {dI : Nat → Nat → Nat} (hinj : ∀ i j, i < 80 → j < 80 → a i = a j → i = j) : f_Met (xE a) l xY 80 a cy dC dI yX4_isName cX4_isName 1 3 0 pX4_isName qX4_isName := by
  refine f_met_of (xE_c a) hinj xY_hi (by decide) (fun av I L h => by unfold pX4_isName at h; split at h <;> first | exact Nat.le_of_ble_eq_true rfl | exact h.elim) ?_
  intro pP eP sP mP aP bP hP9 cP C av I L hp
  unfold pX4_isName at hp
  split at hp
  case h_2 => exact hp.elim
  case h_1 =>
    have p0 := hp
    refine f_wp_ok C f_cl flX4_ok fiX4_ok fjX4_ok (sn := none) (fun j h => by cases h) (cs := (fun _ => none)) (cz := (fun _ => none)) (fun j S h => by cases h) (fun j S h => by cases h) tX4_isName_ok (cut := (fun _ => none)) (fun t P h => by cases h) 41 0 tX4_isName tX4_isName_ok _ _ _ _ ?_
    apply And.intro
    · intro h8
      have h8 : ¬ (I 1 2).toInt = 1 := h8
      exact ⟨Or.inl rfl, rfl, rfl, (show ((0 : Int) = 0 ∨ (0 : Int) = 1) from by first | assumption | omega | rfl)⟩
    · intro h8
      have h8 : (I 1 2).toInt = 1 := h8
      apply And.intro
      · intro h22
        have h22 : (lg_cmp (L 1 4) (370116 : Int64)).toInt = 0 := h22
        exact ⟨Or.inl rfl, rfl, rfl, (show ((0 : Int) = 0 ∨ (0 : Int) = 1) from by first | assumption | omega | rfl)⟩
      · intro h22
        have h22 : ¬ (lg_cmp (L 1 4) (370116 : Int64)).toInt = 0 := h22
        apply And.intro
        · intro h36
          have h36 : (lg_cmp (L 1 4) (244780 : Int64)).toInt = 0 := h36
          exact ⟨Or.inl rfl, rfl, rfl, (show ((0 : Int) = 0 ∨ (0 : Int) = 1) from by first | assumption | omega | rfl)⟩
        · intro h36
          have h36 : ¬ (lg_cmp (L 1 4) (244780 : Int64)).toInt = 0 := h36
          apply And.intro
          · intro h50
            have h50 : (lg_cmp (L 1 4) (769604 : Int64)).toInt = 0 := h50
            exact ⟨Or.inl rfl, rfl, rfl, (show ((0 : Int) = 0 ∨ (0 : Int) = 1) from by first | assumption | omega | rfl)⟩
          · intro h50
            have h50 : ¬ (lg_cmp (L 1 4) (769604 : Int64)).toInt = 0 := h50
            apply And.intro
            · intro h64
              have h64 : (lg_cmp (L 1 4) (307 : Int64)).toInt = 0 := h64
              exact ⟨Or.inl rfl, rfl, rfl, (show ((0 : Int) = 0 ∨ (0 : Int) = 1) from by first | assumption | omega | rfl)⟩
            · intro h64
              have h64 : ¬ (lg_cmp (L 1 4) (307 : Int64)).toInt = 0 := h64
              apply And.intro
              · intro h78
                have h78 : (lg_cmp (L 1 4) (498 : Int64)).toInt = 0 := h78
                exact ⟨Or.inl rfl, rfl, rfl, (show ((0 : Int) = 0 ∨ (0 : Int) = 1) from by first | assumption | omega | rfl)⟩
              · intro h78
                have h78 : ¬ (lg_cmp (L 1 4) (498 : Int64)).toInt = 0 := h78
                exact ⟨Or.inr rfl, rfl, rfl, (show ((1 : Int) = 0 ∨ (1 : Int) = 1) from by first | assumption | omega | rfl)⟩
def tX4_refuse : List (Instr × Nat) := [(.aload_n 0, 1), (.aload_n 0, 1), (.getfield 21, 3), (.getfield 71, 3), (.iconst 2, 1), (.if_icmp .ne 7, 3), (.iconst 1, 1), (.goto 4, 3), (.iload_n 1, 1), (.putfield 43, 3), (.aload_n 0, 1), (.aload_n 0, 1), (.getfield 21, 3), (.getfield 149, 3), (.putfield 17, 3), (.iconst 0, 1), (.ireturn, 1)]
theorem tX4_refuse_ok : f_chk cX4_refuse 0 tX4_refuse = true := by decide +kernel
def pX4_refuse (av : List Value) (I : fM) (L : fN) : Prop := match av with
  | [.ref 3, .int n] => xR I ∧ 1 ≤ n.toInt
  | _ => False
def qX4_refuse (av : List Value) (I : fM) (L : fN) (r : Value) (I' : fM) (L' : fN) : Prop := match av, r with
  | [.ref 3, .int n], .int x => xR I' ∧ f_fr [3] I I' ∧ L' = L ∧ x.toInt = 0 ∧ 1 ≤ (I' 3 2).toInt ∧ (I' 3 4).toInt = (I 3 4).toInt
  | _, _ => False
set_option maxHeartbeats 4000000 in
set_option maxRecDepth 100000 in
theorem mX4_refuse {l : Launch} {a : Nat → Nat} {cy dC : Nat → ClassId} {dI : Nat → Nat → Nat} (hinj : ∀ i j, i < 80 → j < 80 → a i = a j → i = j) : f_Met (xE a) l xY 80 a cy dC dI yX4_refuse cX4_refuse 2 3 0 pX4_refuse qX4_refuse := by
  refine f_met_of (xE_c a) hinj xY_hi (by decide) (fun av I L h => by unfold pX4_refuse at h; split at h <;> first | exact Nat.le_of_ble_eq_true rfl | exact h.elim) ?_
  intro pP eP sP mP aP bP hP9 cP C av I L hp
  unfold pX4_refuse at hp
  split at hp
  case h_2 => exact hp.elim
  case h_1 n =>
    obtain ⟨hR, p1⟩ := hp
    have hF0 : f_fr [3] I I := f_fr_rf
    refine f_wp_ok C f_cl flX4_ok fiX4_ok fjX4_ok (sn := none) (fun j h => by cases h) (cs := (fun _ => none)) (cz := (fun _ => none)) (fun j S h => by cases h) (fun j S h => by cases h) tX4_refuse_ok (cut := (fun _ => none)) (fun t P h => by cases h) 19 0 tX4_refuse tX4_refuse_ok _ _ _ _ ?_
    apply And.intro
    · intro h9
      have h9 : ¬ (I 1 2).toInt = 2 := h9
      have hR17 := xR_f (k := 3) (j := 2) (x := n) hR (by exact f_rng _)
      have hF17 := f_fr_up (k := 3) (r := va_up (I 3) 2 n) hF0 rfl
      have r25_2 : 0 ≤ (I 1 3).toInt ∧ (I 1 3).toInt ≤ 1600 := hR17 1 3
      have hR28 := xR_f (k := 3) (j := 3) (x := I 1 3) hR17 (by exact f_rng _)
      have hF28 := f_fr_up (k := 3) (r := va_up (va_up (I 3) 2 n) 3 (I 1 3)) hF17 rfl
      exact ⟨Or.inl rfl, hR28, hF28, rfl, (show (0 : Int) = 0 from by first | assumption | omega | rfl), (show 1 ≤ n.toInt from by first | assumption | omega | rfl), (show (I 3 4).toInt = (I 3 4).toInt from by first | assumption | omega | rfl)⟩
    · intro h9
      have h9 : (I 1 2).toInt = 2 := h9
      have hR17 := xR_f (k := 3) (j := 2) (x := Int32.ofInt 1) hR (by exact f_rng _)
      have hF17 := f_fr_up (k := 3) (r := va_up (I 3) 2 (Int32.ofInt 1)) hF0 rfl
      have r25_2 : 0 ≤ (I 1 3).toInt ∧ (I 1 3).toInt ≤ 1600 := hR17 1 3
      have hR28 := xR_f (k := 3) (j := 3) (x := I 1 3) hR17 (by exact f_rng _)
      have hF28 := f_fr_up (k := 3) (r := va_up (va_up (I 3) 2 (Int32.ofInt 1)) 3 (I 1 3)) hF17 rfl
      exact ⟨Or.inl rfl, hR28, hF28, rfl, (show (0 : Int) = 0 from by first | assumption | omega | rfl), (show 1 ≤ (1 : Int) from by first | assumption | omega | rfl), (show (I 3 4).toInt = (I 3 4).toInt from by first | assumption | omega | rfl)⟩
def tX4_pass : List (Instr × Nat) := [(.iload_n 1, 1), (.ifCond .ne 9, 3), (.aload_n 0, 1), (.iconst 2, 1), (.invokevirtual 57, 3), (.ireturn, 1), (.aload_n 0, 1), (.getfield 21, 3), (.invokevirtual 61, 3), (.iconst 1, 1), (.ireturn, 1)]
theorem tX4_pass_ok : f_chk cX4_pass 0 tX4_pass = true := by decide +kernel
def pX4_pass (av : List Value) (I : fM) (L : fN) : Prop := match av with
  | [.ref 3, .int c] => xR I
  | _ => False
def qX4_pass (av : List Value) (I : fM) (L : fN) (r : Value) (I' : fM) (L' : fN) : Prop := match av, r with
  | [.ref 3, .int c], .int x => xR I' ∧ f_fr [1, 3] I I' ∧ f_fr [1] L L' ∧ (I' 3 4).toInt = (I 3 4).toInt ∧ (x.toInt = 1 ∧ (I' 3 2).toInt = (I 3 2).toInt ∧ ¬ c.toInt = 0 ∨ x.toInt = 0 ∧ 1 ≤ (I' 3 2).toInt)
  | _, _ => False
set_option maxHeartbeats 4000000 in
set_option maxRecDepth 100000 in
theorem mX4_pass {l : Launch} {a : Nat → Nat} {cy dC : Nat → ClassId} {dI : Nat → Nat → Nat} (hinj : ∀ i j, i < 80 → j < 80 → a i = a j → i = j) : f_Met (xE a) l xY 80 a cy dC dI yX4_pass cX4_pass 2 3 6 pX4_pass qX4_pass := by
  refine f_met_of (xE_c a) hinj xY_hi (by decide) (fun av I L h => by unfold pX4_pass at h; split at h <;> first | exact Nat.le_of_ble_eq_true rfl | exact h.elim) ?_
  intro pP eP sP mP aP bP hP9 cP C av I L hp
  unfold pX4_pass at hp
  split at hp
  case h_2 => exact hp.elim
  case h_1 c =>
    have hR := hp
    have hF0 : f_fr [1, 3] I I := f_fr_rf
    have hG0 : f_fr [1] L L := f_fr_rf
    refine f_wp_ok C f_cl flX4_ok fiX4_ok fjX4_ok (sn := none) (fun j h => by cases h) (cs := (f_cnl [(57, (2, 3, 4, pX4_refuse, qX4_refuse)), (61, (1, 0, 8, pX9_next, qX9_next))])) (cz := (fun _ => none)) (f_cnl_of (P := fun j S => f_cok pP l eP (f_rm 6) sP mP aP bP hP9 cP xY 80 a cy dC dI 2 _ _ (.invokevirtual j) true S) (List.forall_mem_cons.mpr ⟨f_cokV C (mX4_refuse hinj) (ci := 4) rfl (List.forall_mem_cons.mpr ⟨(mlX4_ok _ (List.mem_of_getElem? (i := 6) rfl)), kc_X4_refuse⟩) (by decide +kernel) ⟨Nat.le_of_ble_eq_true rfl, Nat.le_of_ble_eq_true rfl⟩, List.forall_mem_cons.mpr ⟨f_cokV C (mX9_next hinj) (ci := 8) rfl (List.forall_mem_cons.mpr ⟨(mlX4_ok _ (List.mem_of_getElem? (i := 7) rfl)), kc_X9_next⟩) (by decide +kernel) ⟨Nat.le_of_ble_eq_true rfl, Nat.le_of_ble_eq_true rfl⟩, fun _ h => absurd h List.not_mem_nil⟩⟩)) (fun j S h => by cases h) tX4_pass_ok (cut := (fun _ => none)) (fun t P h => by cases h) 10 0 tX4_pass tX4_pass_ok _ _ _ _ ?_
    apply And.intro
    · intro h1
      have h1 : ¬ c.toInt = 0 := h1
      refine And.intro hR ?_
      intro I14 L14 hq14
      have hq14 : xR I14 ∧ f_fr [1] I I14 ∧ f_fr [1] L L14 := hq14
      obtain ⟨c14_0, c14_1, c14_2⟩ := hq14
      have hF14 := f_fr_tr hF0 c14_1 rfl
      have hG14 := f_fr_tr hG0 c14_2 rfl
      have e18_2 : (I14 3 4).toInt = (I 3 4).toInt := congrArg Int32.toInt (congrFun (c14_1 3 rfl) 4)
      have e18_4 : (I14 3 2).toInt = (I 3 2).toInt := congrArg Int32.toInt (congrFun (c14_1 3 rfl) 2)
      exact ⟨Or.inr rfl, c14_0, hF14, hG14, (show (I14 3 4).toInt = (I 3 4).toInt from by first | assumption | omega | rfl), (show ((1 : Int) = 1 ∧ (I14 3 2).toInt = (I 3 2).toInt ∧ ¬ c.toInt = 0 ∨ (1 : Int) = 0 ∧ 1 ≤ (I14 3 2).toInt) from by first | assumption | omega | rfl)⟩
    · intro h1
      have h1 : c.toInt = 0 := h1
      refine And.intro ⟨hR, (show 1 ≤ (2 : Int) from by first | assumption | omega)⟩ ?_
      intro x6 I6 L6 hq6
      have hq6 : xR I6 ∧ f_fr [3] I I6 ∧ L6 = L ∧ x6.toInt = 0 ∧ 1 ≤ (I6 3 2).toInt ∧ (I6 3 4).toInt = (I 3 4).toInt := hq6
      obtain ⟨c6_0, c6_1, eL6, c6_3, c6_4, c6_5⟩ := hq6
      replace eL6 := eL6.symm
      subst eL6
      have hF6 := f_fr_tr hF0 c6_1 rfl
      exact ⟨(f_b01 (show x6.toInt = 0 ∨ x6.toInt = 1 from by omega)), c6_0, hF6, hG0, (show (I6 3 4).toInt = (I 3 4).toInt from by first | assumption | omega | rfl), (show (x6.toInt = 1 ∧ (I6 3 2).toInt = (I 3 2).toInt ∧ ¬ c.toInt = 0 ∨ x6.toInt = 0 ∧ 1 ≤ (I6 3 2).toInt) from by first | assumption | omega | rfl)⟩
def tX4_begin : List (Instr × Nat) := [(.aload_n 0, 1), (.iconst 0, 1), (.putfield 43, 3), (.aload_n 0, 1), (.iconst (-1), 1), (.putfield 17, 3), (.aload_n 0, 1), (.getfield 21, 3), (.invokevirtual 68, 3), (.return_, 1)]
theorem tX4_begin_ok : f_chk cX4_begin 0 tX4_begin = true := by decide +kernel
def pX4_begin (av : List Value) (I : fM) (L : fN) : Prop := match av with
  | [.ref 3] => xR I
  | _ => False
def qX4_begin (av : List Value) (I : fM) (L : fN) (r : Value) (I' : fM) (L' : fN) : Prop := match av, r with
  | [.ref 3], .null => xR I' ∧ f_fr [1, 3] I I' ∧ f_fr [1] L L' ∧ (I' 3 2).toInt = 0
  | _, _ => False
set_option maxHeartbeats 4000000 in
set_option maxRecDepth 100000 in
theorem mX4_begin {l : Launch} {a : Nat → Nat} {cy dC : Nat → ClassId} {dI : Nat → Nat → Nat} (hinj : ∀ i j, i < 80 → j < 80 → a i = a j → i = j) : f_Met (xE a) l xY 80 a cy dC dI yX4_begin cX4_begin 1 0 7 pX4_begin qX4_begin := by
  refine f_met_of (xE_c a) hinj xY_hi (by decide) (fun av I L h => by unfold pX4_begin at h; split at h <;> first | exact Nat.le_of_ble_eq_true rfl | exact h.elim) ?_
  intro pP eP sP mP aP bP hP9 cP C av I L hp
  unfold pX4_begin at hp
  split at hp
  case h_2 => exact hp.elim
  case h_1 =>
    have hR := hp
    have hF0 : f_fr [1, 3] I I := f_fr_rf
    have hG0 : f_fr [1] L L := f_fr_rf
    refine f_wp_ok C f_cl flX4_ok fiX4_ok fjX4_ok (sn := none) (fun j h => by cases h) (cs := (f_cnl [(68, (1, 0, 8, pX9_rewind, qX9_rewind))])) (cz := (fun _ => none)) (f_cnl_of (P := fun j S => f_cok pP l eP (f_rm 7) sP mP aP bP hP9 cP xY 80 a cy dC dI 1 _ _ (.invokevirtual j) true S) (List.forall_mem_cons.mpr ⟨f_cokV C (mX9_rewind hinj) (ci := 8) rfl (List.forall_mem_cons.mpr ⟨(mlX4_ok _ (List.mem_of_getElem? (i := 9) rfl)), kc_X9_rewind⟩) (by decide +kernel) ⟨Nat.le_of_ble_eq_true rfl, Nat.le_of_ble_eq_true rfl⟩, fun _ h => absurd h List.not_mem_nil⟩)) (fun j S h => by cases h) tX4_begin_ok (cut := (fun _ => none)) (fun t P h => by cases h) 13 0 tX4_begin tX4_begin_ok _ _ _ _ ?_
    have hR2 := xR_f (k := 3) (j := 2) (x := Int32.ofInt 0) hR (by exact f_rng _)
    have hF2 := f_fr_up (k := 3) (r := va_up (I 3) 2 (Int32.ofInt 0)) hF0 rfl
    have hR7 := xR_f (k := 3) (j := 3) (x := Int32.ofInt (-1)) hR2 (by exact f_rng _)
    have hF7 := f_fr_up (k := 3) (r := va_up (va_up (I 3) 2 (Int32.ofInt 0)) 3 (Int32.ofInt (-1))) hF2 rfl
    refine And.intro hR7 ?_
    intro I14 L14 hq14
    have hq14 : xR I14 ∧ f_fr [1] (va_up (va_up I 3 (va_up (I 3) 2 (Int32.ofInt 0))) 3 (va_up (va_up (I 3) 2 (Int32.ofInt 0)) 3 (Int32.ofInt (-1)))) I14 ∧ f_fr [1] L L14 := hq14
    obtain ⟨c14_0, c14_1, c14_2⟩ := hq14
    have hF14 := f_fr_tr hF7 c14_1 rfl
    have hG14 := f_fr_tr hG0 c14_2 rfl
    have e17_2 : (I14 3 2).toInt = 0 := congrArg Int32.toInt (congrFun (c14_1 3 rfl) 2)
    exact ⟨c14_0, hF14, hG14, (show (I14 3 2).toInt = 0 from by first | assumption | omega | rfl)⟩
def tX4_readKindOfTag : List (Instr × Nat) := [(.aload_n 1, 1), (.aload_n 0, 1), (.getfield 21, 3), (.getfield 46, 3), (.invokevirtual 126, 3), (.istore_n 2, 1), (.aload_n 0, 1), (.invokevirtual 54, 3), (.ifCond .eq 11, 3), (.aload_n 0, 1), (.getfield 129, 3), (.iconst 4, 1), (.if_icmp .lt 11, 3), (.aload_n 0, 1), (.iconst 2, 1), (.invokevirtual 57, 3), (.pop, 1), (.iconst (-1), 1), (.ireturn, 1), (.iload_n 2, 1), (.iconst (-1), 1), (.if_icmp .ne 11, 3), (.aload_n 0, 1), (.iconst 5, 1), (.invokevirtual 57, 3), (.pop, 1), (.iconst (-1), 1), (.ireturn, 1), (.aload_n 0, 1), (.dup, 1), (.getfield 129, 3), (.iconst 1, 1), (.iadd, 1), (.putfield 129, 3), (.aload_n 0, 1), (.getfield 21, 3), (.invokevirtual 61, 3), (.iload_n 2, 1), (.invokestatic 145, 3), (.ireturn, 1)]
theorem tX4_readKindOfTag_ok : f_chk cX4_readKindOfTag 0 tX4_readKindOfTag = true := by decide +kernel
def pX4_readKindOfTag (av : List Value) (I : fM) (L : fN) : Prop := match av with
  | [.ref 3, .ref k] => (k = 5 ∨ k = 10) ∧ xR I ∧ (I 3 2).toInt = 0 ∧ 0 ≤ (I 3 4).toInt
  | _ => False
def qX4_readKindOfTag (av : List Value) (I : fM) (L : fN) (r : Value) (I' : fM) (L' : fN) : Prop := match av, r with
  | [.ref 3, .ref k], .int x => xR I' ∧ f_fr [1, 3] I I' ∧ f_fr [1] L L' ∧ (1 ≤ (I' 3 2).toInt ∨ ((I' 3 2).toInt = 0 ∧ (I' 3 4).toInt ≤ 4 ∧ wfK x (I 3 4).toInt (I' 3 4).toInt))
  | _, _ => False
set_option maxHeartbeats 4000000 in
set_option maxRecDepth 100000 in
theorem mX4_readKindOfTag {l : Launch} {a : Nat → Nat} {cy dC : Nat → ClassId} {dI : Nat → Nat → Nat} (hinj : ∀ i j, i < 80 → j < 80 → a i = a j → i = j) : f_Met (xE a) l xY 80 a cy dC dI yX4_readKindOfTag cX4_readKindOfTag 3 1 6 pX4_readKindOfTag qX4_readKindOfTag := by
  refine f_met_of (xE_c a) hinj xY_hi (by decide) (fun av I L h => by unfold pX4_readKindOfTag at h; split at h <;> first | exact Nat.le_of_ble_eq_true rfl | exact h.elim) ?_
  intro pP eP sP mP aP bP hP9 cP C av I L hp
  unfold pX4_readKindOfTag at hp
  split at hp
  case h_2 => exact hp.elim
  case h_1 k =>
    obtain ⟨p0, hR, p2, p3⟩ := hp
    rcases p0 with rfl | rfl
    -- pat [.ref 3, .ref 5]
    · skip
      have hR : xR I := hR
      have p2 : (I 3 2).toInt = 0 := p2
      have p3 : 0 ≤ (I 3 4).toInt := p3
      have hk5 : (I 5 4).toInt ≤ 5 := (hR 5 4).2
      have hF0 : f_fr [1, 3] I I := f_fr_rf
      have hG0 : f_fr [1] L L := f_fr_rf
      refine f_wp_ok C f_cl flX4_ok fiX4_ok fjX4_ok (sn := none) (fun j h => by cases h) (cs := (f_cnl [(126, (2, 1, 1, pX1_kindCalled, qX1_kindCalled)), (54, (1, 3, 4, pX4_isName, qX4_isName)), (57, (2, 3, 4, pX4_refuse, qX4_refuse)), (61, (1, 0, 8, pX9_next, qX9_next))])) (cz := (f_cnl [(145, (1, 1, 0, pX8_ofKind, qX8_ofKind))])) (f_cnl_of (P := fun j S => f_cok pP l eP (f_rm 6) sP mP aP bP hP9 cP xY 80 a cy dC dI 3 _ _ (.invokevirtual j) true S) (List.forall_mem_cons.mpr ⟨f_cokV C (mX1_kindCalled hinj) (ci := 1) rfl (List.forall_mem_cons.mpr ⟨(mlX4_ok _ (List.mem_of_getElem? (i := 19) rfl)), kc_X1_kindCalled⟩) (by decide +kernel) ⟨Nat.le_of_ble_eq_true rfl, Nat.le_of_ble_eq_true rfl⟩, List.forall_mem_cons.mpr ⟨f_cokV C (mX4_isName hinj) (ci := 4) rfl (List.forall_mem_cons.mpr ⟨(mlX4_ok _ (List.mem_of_getElem? (i := 5) rfl)), kc_X4_isName⟩) (by decide +kernel) ⟨Nat.le_of_ble_eq_true rfl, Nat.le_of_ble_eq_true rfl⟩, List.forall_mem_cons.mpr ⟨f_cokV C (mX4_refuse hinj) (ci := 4) rfl (List.forall_mem_cons.mpr ⟨(mlX4_ok _ (List.mem_of_getElem? (i := 6) rfl)), kc_X4_refuse⟩) (by decide +kernel) ⟨Nat.le_of_ble_eq_true rfl, Nat.le_of_ble_eq_true rfl⟩, List.forall_mem_cons.mpr ⟨f_cokV C (mX9_next hinj) (ci := 8) rfl (List.forall_mem_cons.mpr ⟨(mlX4_ok _ (List.mem_of_getElem? (i := 7) rfl)), kc_X9_next⟩) (by decide +kernel) ⟨Nat.le_of_ble_eq_true rfl, Nat.le_of_ble_eq_true rfl⟩, fun _ h => absurd h List.not_mem_nil⟩⟩⟩⟩)) (f_cnl_of (P := fun j S => f_cok pP l eP (f_rm 6) sP mP aP bP hP9 cP xY 80 a cy dC dI 3 _ _ (.invokestatic j) false S) (List.forall_mem_cons.mpr ⟨f_cokS C (mX8_ofKind hinj) (List.forall_mem_cons.mpr ⟨(mlX4_ok _ (List.mem_of_getElem? (i := 23) rfl)), kc_X8_ofKind⟩) (by decide +kernel) ⟨Nat.le_of_ble_eq_true rfl, Nat.le_of_ble_eq_true rfl⟩, fun _ h => absurd h List.not_mem_nil⟩)) tX4_readKindOfTag_ok (cut := (fun _ => none)) (fun t P h => by cases h) 31 0 tX4_readKindOfTag tX4_readKindOfTag_ok _ _ _ _ ?_
      refine And.intro ⟨(by decide), hR⟩ ?_
      intro x8 I8 L8 hq8
      have hq8 : I8 = I ∧ L8 = L ∧ -1 ≤ x8.toInt ∧ x8.toInt < (I 5 4).toInt := hq8
      obtain ⟨eI8, eL8, c8_2, c8_3⟩ := hq8
      replace eI8 := eI8.symm
      subst eI8
      replace eL8 := eL8.symm
      subst eL8
      refine And.intro trivial ?_
      intro x13 I13 L13 hq13
      have hq13 : I13 = I ∧ L13 = L ∧ ((x13.toInt = 0 ∨ x13.toInt = 1)) := hq13
      obtain ⟨eI13, eL13, c13_2⟩ := hq13
      replace eI13 := eI13.symm
      subst eI13
      replace eL13 := eL13.symm
      subst eL13
      apply And.intro
      · intro h16
        have h16 : x13.toInt = 0 := h16
        refine And.intro ⟨hR, (show 1 ≤ (2 : Int) from by first | assumption | omega)⟩ ?_
        intro x29 I29 L29 hq29
        have hq29 : xR I29 ∧ f_fr [3] I I29 ∧ L29 = L ∧ x29.toInt = 0 ∧ 1 ≤ (I29 3 2).toInt ∧ (I29 3 4).toInt = (I 3 4).toInt := hq29
        obtain ⟨c29_0, c29_1, eL29, c29_3, c29_4, c29_5⟩ := hq29
        replace eL29 := eL29.symm
        subst eL29
        have hF29 := f_fr_tr hF0 c29_1 rfl
        exact ⟨c29_0, hF29, hG0, (Or.inl (by omega))⟩
      · intro h16
        have h16 : ¬ x13.toInt = 0 := h16
        apply And.intro
        · intro h24
          have h24 : (I 3 4).toInt < 4 := h24
          apply And.intro
          · intro h37
            have h37 : ¬ x8.toInt = (-1) := h37
            intro z54 q54 _ hq54 hl54 hu54
            have hq54 : z54.toInt = (I 3 4).toInt + 1 + 4294967296 * q54 := hq54
            try have hz54 : z54.toInt = (I 3 4).toInt + 1 := by omega
            have hR55 := xR_f (k := 3) (j := 4) (x := z54) hR (by exact f_rng _)
            have hF55 := f_fr_up (k := 3) (r := va_up (I 3) 4 z54) hF0 rfl
            refine And.intro hR55 ?_
            intro I62 L62 hq62
            have hq62 : xR I62 ∧ f_fr [1] (va_up I 3 (va_up (I 3) 4 z54)) I62 ∧ f_fr [1] L L62 := hq62
            obtain ⟨c62_0, c62_1, c62_2⟩ := hq62
            have hF62 := f_fr_tr hF55 c62_1 rfl
            have hG62 := f_fr_tr hG0 c62_2 rfl
            refine And.intro ⟨(show 0 ≤ x8.toInt from by first | assumption | omega), (show x8.toInt ≤ 4 from by first | assumption | omega)⟩ ?_
            intro x66 I66 L66 hq66
            have hq66 : I66 = I62 ∧ L66 = L62 ∧ wfT x66 1 := hq66
            obtain ⟨eI66, eL66, c66_2⟩ := hq66
            replace eI66 := eI66.symm
            subst eI66
            replace eL66 := eL66.symm
            subst eL66
            have e69_3 : (I62 3 2).toInt = (I 3 2).toInt := congrArg Int32.toInt (congrFun (c62_1 3 rfl) 2)
            have e69_5 : (I62 3 4).toInt = z54.toInt := congrArg Int32.toInt (congrFun (c62_1 3 rfl) 4)
            exact ⟨c62_0, hF62, hG62, (show (1 ≤ (I62 3 2).toInt ∨ ((I62 3 2).toInt = 0 ∧ (I62 3 4).toInt ≤ 4 ∧ wfK x66 (I 3 4).toInt (I62 3 4).toInt)) from Or.inr ⟨by omega, by omega, ⟨1, c66_2, by omega⟩⟩)⟩
          · intro h37
            have h37 : x8.toInt = (-1) := h37
            refine And.intro ⟨hR, (show 1 ≤ (5 : Int) from by first | assumption | omega)⟩ ?_
            intro x42 I42 L42 hq42
            have hq42 : xR I42 ∧ f_fr [3] I I42 ∧ L42 = L ∧ x42.toInt = 0 ∧ 1 ≤ (I42 3 2).toInt ∧ (I42 3 4).toInt = (I 3 4).toInt := hq42
            obtain ⟨c42_0, c42_1, eL42, c42_3, c42_4, c42_5⟩ := hq42
            replace eL42 := eL42.symm
            subst eL42
            have hF42 := f_fr_tr hF0 c42_1 rfl
            exact ⟨c42_0, hF42, hG0, (Or.inl (by omega))⟩
        · intro h24
          have h24 : 4 ≤ (I 3 4).toInt := h24
          refine And.intro ⟨hR, (show 1 ≤ (2 : Int) from by first | assumption | omega)⟩ ?_
          intro x29 I29 L29 hq29
          have hq29 : xR I29 ∧ f_fr [3] I I29 ∧ L29 = L ∧ x29.toInt = 0 ∧ 1 ≤ (I29 3 2).toInt ∧ (I29 3 4).toInt = (I 3 4).toInt := hq29
          obtain ⟨c29_0, c29_1, eL29, c29_3, c29_4, c29_5⟩ := hq29
          replace eL29 := eL29.symm
          subst eL29
          have hF29 := f_fr_tr hF0 c29_1 rfl
          exact ⟨c29_0, hF29, hG0, (Or.inl (by omega))⟩
    -- pat [.ref 3, .ref 10]
    · skip
      have hR : xR I := hR
      have p2 : (I 3 2).toInt = 0 := p2
      have p3 : 0 ≤ (I 3 4).toInt := p3
      have hk5 : (I 10 4).toInt ≤ 5 := (hR 10 4).2
      have hF0 : f_fr [1, 3] I I := f_fr_rf
      have hG0 : f_fr [1] L L := f_fr_rf
      refine f_wp_ok C f_cl flX4_ok fiX4_ok fjX4_ok (sn := none) (fun j h => by cases h) (cs := (f_cnl [(126, (2, 1, 1, pX1_kindCalled, qX1_kindCalled)), (54, (1, 3, 4, pX4_isName, qX4_isName)), (57, (2, 3, 4, pX4_refuse, qX4_refuse)), (61, (1, 0, 8, pX9_next, qX9_next))])) (cz := (f_cnl [(145, (1, 1, 0, pX8_ofKind, qX8_ofKind))])) (f_cnl_of (P := fun j S => f_cok pP l eP (f_rm 6) sP mP aP bP hP9 cP xY 80 a cy dC dI 3 _ _ (.invokevirtual j) true S) (List.forall_mem_cons.mpr ⟨f_cokV C (mX1_kindCalled hinj) (ci := 1) rfl (List.forall_mem_cons.mpr ⟨(mlX4_ok _ (List.mem_of_getElem? (i := 19) rfl)), kc_X1_kindCalled⟩) (by decide +kernel) ⟨Nat.le_of_ble_eq_true rfl, Nat.le_of_ble_eq_true rfl⟩, List.forall_mem_cons.mpr ⟨f_cokV C (mX4_isName hinj) (ci := 4) rfl (List.forall_mem_cons.mpr ⟨(mlX4_ok _ (List.mem_of_getElem? (i := 5) rfl)), kc_X4_isName⟩) (by decide +kernel) ⟨Nat.le_of_ble_eq_true rfl, Nat.le_of_ble_eq_true rfl⟩, List.forall_mem_cons.mpr ⟨f_cokV C (mX4_refuse hinj) (ci := 4) rfl (List.forall_mem_cons.mpr ⟨(mlX4_ok _ (List.mem_of_getElem? (i := 6) rfl)), kc_X4_refuse⟩) (by decide +kernel) ⟨Nat.le_of_ble_eq_true rfl, Nat.le_of_ble_eq_true rfl⟩, List.forall_mem_cons.mpr ⟨f_cokV C (mX9_next hinj) (ci := 8) rfl (List.forall_mem_cons.mpr ⟨(mlX4_ok _ (List.mem_of_getElem? (i := 7) rfl)), kc_X9_next⟩) (by decide +kernel) ⟨Nat.le_of_ble_eq_true rfl, Nat.le_of_ble_eq_true rfl⟩, fun _ h => absurd h List.not_mem_nil⟩⟩⟩⟩)) (f_cnl_of (P := fun j S => f_cok pP l eP (f_rm 6) sP mP aP bP hP9 cP xY 80 a cy dC dI 3 _ _ (.invokestatic j) false S) (List.forall_mem_cons.mpr ⟨f_cokS C (mX8_ofKind hinj) (List.forall_mem_cons.mpr ⟨(mlX4_ok _ (List.mem_of_getElem? (i := 23) rfl)), kc_X8_ofKind⟩) (by decide +kernel) ⟨Nat.le_of_ble_eq_true rfl, Nat.le_of_ble_eq_true rfl⟩, fun _ h => absurd h List.not_mem_nil⟩)) tX4_readKindOfTag_ok (cut := (fun _ => none)) (fun t P h => by cases h) 31 0 tX4_readKindOfTag tX4_readKindOfTag_ok _ _ _ _ ?_
      refine And.intro ⟨(by decide), hR⟩ ?_
      intro x8 I8 L8 hq8
      have hq8 : I8 = I ∧ L8 = L ∧ -1 ≤ x8.toInt ∧ x8.toInt < (I 10 4).toInt := hq8
      obtain ⟨eI8, eL8, c8_2, c8_3⟩ := hq8
      replace eI8 := eI8.symm
      subst eI8
      replace eL8 := eL8.symm
      subst eL8
      refine And.intro trivial ?_
      intro x13 I13 L13 hq13
      have hq13 : I13 = I ∧ L13 = L ∧ ((x13.toInt = 0 ∨ x13.toInt = 1)) := hq13
      obtain ⟨eI13, eL13, c13_2⟩ := hq13
      replace eI13 := eI13.symm
      subst eI13
      replace eL13 := eL13.symm
      subst eL13
      apply And.intro
      · intro h16
        have h16 : x13.toInt = 0 := h16
        refine And.intro ⟨hR, (show 1 ≤ (2 : Int) from by first | assumption | omega)⟩ ?_
        intro x29 I29 L29 hq29
        have hq29 : xR I29 ∧ f_fr [3] I I29 ∧ L29 = L ∧ x29.toInt = 0 ∧ 1 ≤ (I29 3 2).toInt ∧ (I29 3 4).toInt = (I 3 4).toInt := hq29
        obtain ⟨c29_0, c29_1, eL29, c29_3, c29_4, c29_5⟩ := hq29
        replace eL29 := eL29.symm
        subst eL29
        have hF29 := f_fr_tr hF0 c29_1 rfl
        exact ⟨c29_0, hF29, hG0, (Or.inl (by omega))⟩
      · intro h16
        have h16 : ¬ x13.toInt = 0 := h16
        apply And.intro
        · intro h24
          have h24 : (I 3 4).toInt < 4 := h24
          apply And.intro
          · intro h37
            have h37 : ¬ x8.toInt = (-1) := h37
            intro z54 q54 _ hq54 hl54 hu54
            have hq54 : z54.toInt = (I 3 4).toInt + 1 + 4294967296 * q54 := hq54
            try have hz54 : z54.toInt = (I 3 4).toInt + 1 := by omega
            have hR55 := xR_f (k := 3) (j := 4) (x := z54) hR (by exact f_rng _)
            have hF55 := f_fr_up (k := 3) (r := va_up (I 3) 4 z54) hF0 rfl
            refine And.intro hR55 ?_
            intro I62 L62 hq62
            have hq62 : xR I62 ∧ f_fr [1] (va_up I 3 (va_up (I 3) 4 z54)) I62 ∧ f_fr [1] L L62 := hq62
            obtain ⟨c62_0, c62_1, c62_2⟩ := hq62
            have hF62 := f_fr_tr hF55 c62_1 rfl
            have hG62 := f_fr_tr hG0 c62_2 rfl
            refine And.intro ⟨(show 0 ≤ x8.toInt from by first | assumption | omega), (show x8.toInt ≤ 4 from by first | assumption | omega)⟩ ?_
            intro x66 I66 L66 hq66
            have hq66 : I66 = I62 ∧ L66 = L62 ∧ wfT x66 1 := hq66
            obtain ⟨eI66, eL66, c66_2⟩ := hq66
            replace eI66 := eI66.symm
            subst eI66
            replace eL66 := eL66.symm
            subst eL66
            have e69_3 : (I62 3 2).toInt = (I 3 2).toInt := congrArg Int32.toInt (congrFun (c62_1 3 rfl) 2)
            have e69_5 : (I62 3 4).toInt = z54.toInt := congrArg Int32.toInt (congrFun (c62_1 3 rfl) 4)
            exact ⟨c62_0, hF62, hG62, (show (1 ≤ (I62 3 2).toInt ∨ ((I62 3 2).toInt = 0 ∧ (I62 3 4).toInt ≤ 4 ∧ wfK x66 (I 3 4).toInt (I62 3 4).toInt)) from Or.inr ⟨by omega, by omega, ⟨1, c66_2, by omega⟩⟩)⟩
          · intro h37
            have h37 : x8.toInt = (-1) := h37
            refine And.intro ⟨hR, (show 1 ≤ (5 : Int) from by first | assumption | omega)⟩ ?_
            intro x42 I42 L42 hq42
            have hq42 : xR I42 ∧ f_fr [3] I I42 ∧ L42 = L ∧ x42.toInt = 0 ∧ 1 ≤ (I42 3 2).toInt ∧ (I42 3 4).toInt = (I 3 4).toInt := hq42
            obtain ⟨c42_0, c42_1, eL42, c42_3, c42_4, c42_5⟩ := hq42
            replace eL42 := eL42.symm
            subst eL42
            have hF42 := f_fr_tr hF0 c42_1 rfl
            exact ⟨c42_0, hF42, hG0, (Or.inl (by omega))⟩
        · intro h24
          have h24 : 4 ≤ (I 3 4).toInt := h24
          refine And.intro ⟨hR, (show 1 ≤ (2 : Int) from by first | assumption | omega)⟩ ?_
          intro x29 I29 L29 hq29
          have hq29 : xR I29 ∧ f_fr [3] I I29 ∧ L29 = L ∧ x29.toInt = 0 ∧ 1 ≤ (I29 3 2).toInt ∧ (I29 3 4).toInt = (I 3 4).toInt := hq29
          obtain ⟨c29_0, c29_1, eL29, c29_3, c29_4, c29_5⟩ := hq29
          replace eL29 := eL29.symm
          subst eL29
          have hF29 := f_fr_tr hF0 c29_1 rfl
          exact ⟨c29_0, hF29, hG0, (Or.inl (by omega))⟩
    -- pat [.ref 3, .ref k]
def tX4_passNewName : List (Instr × Nat) := [(.aload_n 0, 1), (.invokevirtual 54, 3), (.ifCond .eq 39, 3), (.aload_n 1, 1), (.aload_n 0, 1), (.getfield 21, 3), (.getfield 46, 3), (.invokevirtual 126, 3), (.iconst (-1), 1), (.if_icmp .ne 18, 3), (.aload_n 1, 1), (.aload_n 0, 1), (.getfield 21, 3), (.getfield 46, 3), (.invokevirtual 50, 3), (.iconst (-1), 1), (.if_icmp .eq 9, 3), (.aload_n 0, 1), (.iconst 3, 1), (.invokevirtual 57, 3), (.ireturn, 1), (.aload_n 0, 1), (.aload_n 0, 1), (.invokevirtual 54, 3), (.invokevirtual 103, 3), (.ireturn, 1)]
theorem tX4_passNewName_ok : f_chk cX4_passNewName 0 tX4_passNewName = true := by decide +kernel
def pX4_passNewName (av : List Value) (I : fM) (L : fN) : Prop := match av with
  | [.ref 3, .ref k] => (k = 5 ∨ k = 10) ∧ xR I ∧ (I 3 2).toInt = 0
  | _ => False
def qX4_passNewName (av : List Value) (I : fM) (L : fN) (r : Value) (I' : fM) (L' : fN) : Prop := match av, r with
  | [.ref 3, .ref k], .int x => xR I' ∧ f_fr [1, 3] I I' ∧ f_fr [1] L L' ∧ (x.toInt = 1 ∧ (I' 3 2).toInt = 0 ∨ x.toInt = 0 ∧ 1 ≤ (I' 3 2).toInt)
  | _, _ => False
set_option maxHeartbeats 4000000 in
set_option maxRecDepth 100000 in
theorem mX4_passNewName {l : Launch} {a : Nat → Nat} {cy dC : Nat → ClassId} {dI : Nat → Nat → Nat} (hinj : ∀ i j, i < 80 → j < 80 → a i = a j → i = j) : f_Met (xE a) l xY 80 a cy dC dI yX4_passNewName cX4_passNewName 2 3 7 pX4_passNewName qX4_passNewName := by
  refine f_met_of (xE_c a) hinj xY_hi (by decide) (fun av I L h => by unfold pX4_passNewName at h; split at h <;> first | exact Nat.le_of_ble_eq_true rfl | exact h.elim) ?_
  intro pP eP sP mP aP bP hP9 cP C av I L hp
  unfold pX4_passNewName at hp
  split at hp
  case h_2 => exact hp.elim
  case h_1 k =>
    obtain ⟨p0, hR, p2⟩ := hp
    rcases p0 with rfl | rfl
    -- pat [.ref 3, .ref 5]
    · skip
      have hR : xR I := hR
      have p2 : (I 3 2).toInt = 0 := p2
      have hF0 : f_fr [1, 3] I I := f_fr_rf
      have hG0 : f_fr [1] L L := f_fr_rf
      refine f_wp_ok C f_cl flX4_ok fiX4_ok fjX4_ok (sn := none) (fun j h => by cases h) (cs := (f_cnl [(54, (1, 3, 4, pX4_isName, qX4_isName)), (126, (2, 1, 1, pX1_kindCalled, qX1_kindCalled)), (50, (2, 1, 1, pX1_wordCalled, qX1_wordCalled)), (57, (2, 3, 4, pX4_refuse, qX4_refuse)), (103, (2, 3, 4, pX4_pass, qX4_pass))])) (cz := (fun _ => none)) (f_cnl_of (P := fun j S => f_cok pP l eP (f_rm 7) sP mP aP bP hP9 cP xY 80 a cy dC dI 2 _ _ (.invokevirtual j) true S) (List.forall_mem_cons.mpr ⟨f_cokV C (mX4_isName hinj) (ci := 4) rfl (List.forall_mem_cons.mpr ⟨(mlX4_ok _ (List.mem_of_getElem? (i := 5) rfl)), kc_X4_isName⟩) (by decide +kernel) ⟨Nat.le_of_ble_eq_true rfl, Nat.le_of_ble_eq_true rfl⟩, List.forall_mem_cons.mpr ⟨f_cokV C (mX1_kindCalled hinj) (ci := 1) rfl (List.forall_mem_cons.mpr ⟨(mlX4_ok _ (List.mem_of_getElem? (i := 19) rfl)), kc_X1_kindCalled⟩) (by decide +kernel) ⟨Nat.le_of_ble_eq_true rfl, Nat.le_of_ble_eq_true rfl⟩, List.forall_mem_cons.mpr ⟨f_cokV C (mX1_wordCalled hinj) (ci := 1) rfl (List.forall_mem_cons.mpr ⟨(mlX4_ok _ (List.mem_of_getElem? (i := 4) rfl)), kc_X1_wordCalled⟩) (by decide +kernel) ⟨Nat.le_of_ble_eq_true rfl, Nat.le_of_ble_eq_true rfl⟩, List.forall_mem_cons.mpr ⟨f_cokV C (mX4_refuse hinj) (ci := 4) rfl (List.forall_mem_cons.mpr ⟨(mlX4_ok _ (List.mem_of_getElem? (i := 6) rfl)), kc_X4_refuse⟩) (by decide +kernel) ⟨Nat.le_of_ble_eq_true rfl, Nat.le_of_ble_eq_true rfl⟩, List.forall_mem_cons.mpr ⟨f_cokV C (mX4_pass hinj) (ci := 4) rfl (List.forall_mem_cons.mpr ⟨(mlX4_ok _ (List.mem_of_getElem? (i := 14) rfl)), kc_X4_pass⟩) (by decide +kernel) ⟨Nat.le_of_ble_eq_true rfl, Nat.le_of_ble_eq_true rfl⟩, fun _ h => absurd h List.not_mem_nil⟩⟩⟩⟩⟩)) (fun j S h => by cases h) tX4_passNewName_ok (cut := (fun _ => none)) (fun t P h => by cases h) 25 0 tX4_passNewName tX4_passNewName_ok _ _ _ _ ?_
      refine And.intro trivial ?_
      intro x1 I1 L1 hq1
      have hq1 : I1 = I ∧ L1 = L ∧ ((x1.toInt = 0 ∨ x1.toInt = 1)) := hq1
      obtain ⟨eI1, eL1, c1_2⟩ := hq1
      replace eI1 := eI1.symm
      subst eI1
      replace eL1 := eL1.symm
      subst eL1
      apply And.intro
      · intro h4
        have h4 : x1.toInt = 0 := h4
        refine And.intro trivial ?_
        intro x45 I45 L45 hq45
        have hq45 : I45 = I ∧ L45 = L ∧ ((x45.toInt = 0 ∨ x45.toInt = 1)) := hq45
        obtain ⟨eI45, eL45, c45_2⟩ := hq45
        replace eI45 := eI45.symm
        subst eI45
        replace eL45 := eL45.symm
        subst eL45
        refine And.intro hR ?_
        intro x48 I48 L48 hq48
        have hq48 : xR I48 ∧ f_fr [1, 3] I I48 ∧ f_fr [1] L L48 ∧ (I48 3 4).toInt = (I 3 4).toInt ∧ ((x48.toInt = 1 ∧ (I48 3 2).toInt = (I 3 2).toInt ∧ ¬ x45.toInt = 0 ∨ x48.toInt = 0 ∧ 1 ≤ (I48 3 2).toInt)) := hq48
        obtain ⟨c48_0, c48_1, c48_2, c48_3, c48_4⟩ := hq48
        have hF48 := f_fr_tr hF0 c48_1 rfl
        have hG48 := f_fr_tr hG0 c48_2 rfl
        exact ⟨(f_b01 (show x48.toInt = 0 ∨ x48.toInt = 1 from by omega)), c48_0, hF48, hG48, (show (x48.toInt = 1 ∧ (I48 3 2).toInt = 0 ∨ x48.toInt = 0 ∧ 1 ≤ (I48 3 2).toInt) from by first | assumption | omega | rfl)⟩
      · intro h4
        have h4 : ¬ x1.toInt = 0 := h4
        refine And.intro ⟨(by decide), hR⟩ ?_
        intro x15 I15 L15 hq15
        have hq15 : I15 = I ∧ L15 = L ∧ -1 ≤ x15.toInt ∧ x15.toInt < (I 5 4).toInt := hq15
        obtain ⟨eI15, eL15, c15_2, c15_3⟩ := hq15
        replace eI15 := eI15.symm
        subst eI15
        replace eL15 := eL15.symm
        subst eL15
        apply And.intro
        · intro h19
          have h19 : ¬ x15.toInt = (-1) := h19
          refine And.intro ⟨hR, (show 1 ≤ (3 : Int) from by first | assumption | omega)⟩ ?_
          intro x39 I39 L39 hq39
          have hq39 : xR I39 ∧ f_fr [3] I I39 ∧ L39 = L ∧ x39.toInt = 0 ∧ 1 ≤ (I39 3 2).toInt ∧ (I39 3 4).toInt = (I 3 4).toInt := hq39
          obtain ⟨c39_0, c39_1, eL39, c39_3, c39_4, c39_5⟩ := hq39
          replace eL39 := eL39.symm
          subst eL39
          have hF39 := f_fr_tr hF0 c39_1 rfl
          exact ⟨(f_b01 (show x39.toInt = 0 ∨ x39.toInt = 1 from by omega)), c39_0, hF39, hG0, (show (x39.toInt = 1 ∧ (I39 3 2).toInt = 0 ∨ x39.toInt = 0 ∧ 1 ≤ (I39 3 2).toInt) from by first | assumption | omega | rfl)⟩
        · intro h19
          have h19 : x15.toInt = (-1) := h19
          refine And.intro ⟨(by decide), hR⟩ ?_
          intro x30 I30 L30 hq30
          have hq30 : I30 = I ∧ L30 = L ∧ -1 ≤ x30.toInt ∧ x30.toInt < (I 5 5).toInt := hq30
          obtain ⟨eI30, eL30, c30_2, c30_3⟩ := hq30
          replace eI30 := eI30.symm
          subst eI30
          replace eL30 := eL30.symm
          subst eL30
          apply And.intro
          · intro h34
            have h34 : x30.toInt = (-1) := h34
            refine And.intro trivial ?_
            intro x45 I45 L45 hq45
            have hq45 : I45 = I ∧ L45 = L ∧ ((x45.toInt = 0 ∨ x45.toInt = 1)) := hq45
            obtain ⟨eI45, eL45, c45_2⟩ := hq45
            replace eI45 := eI45.symm
            subst eI45
            replace eL45 := eL45.symm
            subst eL45
            refine And.intro hR ?_
            intro x48 I48 L48 hq48
            have hq48 : xR I48 ∧ f_fr [1, 3] I I48 ∧ f_fr [1] L L48 ∧ (I48 3 4).toInt = (I 3 4).toInt ∧ ((x48.toInt = 1 ∧ (I48 3 2).toInt = (I 3 2).toInt ∧ ¬ x45.toInt = 0 ∨ x48.toInt = 0 ∧ 1 ≤ (I48 3 2).toInt)) := hq48
            obtain ⟨c48_0, c48_1, c48_2, c48_3, c48_4⟩ := hq48
            have hF48 := f_fr_tr hF0 c48_1 rfl
            have hG48 := f_fr_tr hG0 c48_2 rfl
            exact ⟨(f_b01 (show x48.toInt = 0 ∨ x48.toInt = 1 from by omega)), c48_0, hF48, hG48, (show (x48.toInt = 1 ∧ (I48 3 2).toInt = 0 ∨ x48.toInt = 0 ∧ 1 ≤ (I48 3 2).toInt) from by first | assumption | omega | rfl)⟩
          · intro h34
            have h34 : ¬ x30.toInt = (-1) := h34
            refine And.intro ⟨hR, (show 1 ≤ (3 : Int) from by first | assumption | omega)⟩ ?_
            intro x39 I39 L39 hq39
            have hq39 : xR I39 ∧ f_fr [3] I I39 ∧ L39 = L ∧ x39.toInt = 0 ∧ 1 ≤ (I39 3 2).toInt ∧ (I39 3 4).toInt = (I 3 4).toInt := hq39
            obtain ⟨c39_0, c39_1, eL39, c39_3, c39_4, c39_5⟩ := hq39
            replace eL39 := eL39.symm
            subst eL39
            have hF39 := f_fr_tr hF0 c39_1 rfl
            exact ⟨(f_b01 (show x39.toInt = 0 ∨ x39.toInt = 1 from by omega)), c39_0, hF39, hG0, (show (x39.toInt = 1 ∧ (I39 3 2).toInt = 0 ∨ x39.toInt = 0 ∧ 1 ≤ (I39 3 2).toInt) from by first | assumption | omega | rfl)⟩
    -- pat [.ref 3, .ref 10]
    · skip
      have hR : xR I := hR
      have p2 : (I 3 2).toInt = 0 := p2
      have hF0 : f_fr [1, 3] I I := f_fr_rf
      have hG0 : f_fr [1] L L := f_fr_rf
      refine f_wp_ok C f_cl flX4_ok fiX4_ok fjX4_ok (sn := none) (fun j h => by cases h) (cs := (f_cnl [(54, (1, 3, 4, pX4_isName, qX4_isName)), (126, (2, 1, 1, pX1_kindCalled, qX1_kindCalled)), (50, (2, 1, 1, pX1_wordCalled, qX1_wordCalled)), (57, (2, 3, 4, pX4_refuse, qX4_refuse)), (103, (2, 3, 4, pX4_pass, qX4_pass))])) (cz := (fun _ => none)) (f_cnl_of (P := fun j S => f_cok pP l eP (f_rm 7) sP mP aP bP hP9 cP xY 80 a cy dC dI 2 _ _ (.invokevirtual j) true S) (List.forall_mem_cons.mpr ⟨f_cokV C (mX4_isName hinj) (ci := 4) rfl (List.forall_mem_cons.mpr ⟨(mlX4_ok _ (List.mem_of_getElem? (i := 5) rfl)), kc_X4_isName⟩) (by decide +kernel) ⟨Nat.le_of_ble_eq_true rfl, Nat.le_of_ble_eq_true rfl⟩, List.forall_mem_cons.mpr ⟨f_cokV C (mX1_kindCalled hinj) (ci := 1) rfl (List.forall_mem_cons.mpr ⟨(mlX4_ok _ (List.mem_of_getElem? (i := 19) rfl)), kc_X1_kindCalled⟩) (by decide +kernel) ⟨Nat.le_of_ble_eq_true rfl, Nat.le_of_ble_eq_true rfl⟩, List.forall_mem_cons.mpr ⟨f_cokV C (mX1_wordCalled hinj) (ci := 1) rfl (List.forall_mem_cons.mpr ⟨(mlX4_ok _ (List.mem_of_getElem? (i := 4) rfl)), kc_X1_wordCalled⟩) (by decide +kernel) ⟨Nat.le_of_ble_eq_true rfl, Nat.le_of_ble_eq_true rfl⟩, List.forall_mem_cons.mpr ⟨f_cokV C (mX4_refuse hinj) (ci := 4) rfl (List.forall_mem_cons.mpr ⟨(mlX4_ok _ (List.mem_of_getElem? (i := 6) rfl)), kc_X4_refuse⟩) (by decide +kernel) ⟨Nat.le_of_ble_eq_true rfl, Nat.le_of_ble_eq_true rfl⟩, List.forall_mem_cons.mpr ⟨f_cokV C (mX4_pass hinj) (ci := 4) rfl (List.forall_mem_cons.mpr ⟨(mlX4_ok _ (List.mem_of_getElem? (i := 14) rfl)), kc_X4_pass⟩) (by decide +kernel) ⟨Nat.le_of_ble_eq_true rfl, Nat.le_of_ble_eq_true rfl⟩, fun _ h => absurd h List.not_mem_nil⟩⟩⟩⟩⟩)) (fun j S h => by cases h) tX4_passNewName_ok (cut := (fun _ => none)) (fun t P h => by cases h) 25 0 tX4_passNewName tX4_passNewName_ok _ _ _ _ ?_
      refine And.intro trivial ?_
      intro x1 I1 L1 hq1
      have hq1 : I1 = I ∧ L1 = L ∧ ((x1.toInt = 0 ∨ x1.toInt = 1)) := hq1
      obtain ⟨eI1, eL1, c1_2⟩ := hq1
      replace eI1 := eI1.symm
      subst eI1
      replace eL1 := eL1.symm
      subst eL1
      apply And.intro
      · intro h4
        have h4 : x1.toInt = 0 := h4
        refine And.intro trivial ?_
        intro x45 I45 L45 hq45
        have hq45 : I45 = I ∧ L45 = L ∧ ((x45.toInt = 0 ∨ x45.toInt = 1)) := hq45
        obtain ⟨eI45, eL45, c45_2⟩ := hq45
        replace eI45 := eI45.symm
        subst eI45
        replace eL45 := eL45.symm
        subst eL45
        refine And.intro hR ?_
        intro x48 I48 L48 hq48
        have hq48 : xR I48 ∧ f_fr [1, 3] I I48 ∧ f_fr [1] L L48 ∧ (I48 3 4).toInt = (I 3 4).toInt ∧ ((x48.toInt = 1 ∧ (I48 3 2).toInt = (I 3 2).toInt ∧ ¬ x45.toInt = 0 ∨ x48.toInt = 0 ∧ 1 ≤ (I48 3 2).toInt)) := hq48
        obtain ⟨c48_0, c48_1, c48_2, c48_3, c48_4⟩ := hq48
        have hF48 := f_fr_tr hF0 c48_1 rfl
        have hG48 := f_fr_tr hG0 c48_2 rfl
        exact ⟨(f_b01 (show x48.toInt = 0 ∨ x48.toInt = 1 from by omega)), c48_0, hF48, hG48, (show (x48.toInt = 1 ∧ (I48 3 2).toInt = 0 ∨ x48.toInt = 0 ∧ 1 ≤ (I48 3 2).toInt) from by first | assumption | omega | rfl)⟩
      · intro h4
        have h4 : ¬ x1.toInt = 0 := h4
        refine And.intro ⟨(by decide), hR⟩ ?_
        intro x15 I15 L15 hq15
        have hq15 : I15 = I ∧ L15 = L ∧ -1 ≤ x15.toInt ∧ x15.toInt < (I 10 4).toInt := hq15
        obtain ⟨eI15, eL15, c15_2, c15_3⟩ := hq15
        replace eI15 := eI15.symm
        subst eI15
        replace eL15 := eL15.symm
        subst eL15
        apply And.intro
        · intro h19
          have h19 : ¬ x15.toInt = (-1) := h19
          refine And.intro ⟨hR, (show 1 ≤ (3 : Int) from by first | assumption | omega)⟩ ?_
          intro x39 I39 L39 hq39
          have hq39 : xR I39 ∧ f_fr [3] I I39 ∧ L39 = L ∧ x39.toInt = 0 ∧ 1 ≤ (I39 3 2).toInt ∧ (I39 3 4).toInt = (I 3 4).toInt := hq39
          obtain ⟨c39_0, c39_1, eL39, c39_3, c39_4, c39_5⟩ := hq39
          replace eL39 := eL39.symm
          subst eL39
          have hF39 := f_fr_tr hF0 c39_1 rfl
          exact ⟨(f_b01 (show x39.toInt = 0 ∨ x39.toInt = 1 from by omega)), c39_0, hF39, hG0, (show (x39.toInt = 1 ∧ (I39 3 2).toInt = 0 ∨ x39.toInt = 0 ∧ 1 ≤ (I39 3 2).toInt) from by first | assumption | omega | rfl)⟩
        · intro h19
          have h19 : x15.toInt = (-1) := h19
          refine And.intro ⟨(by decide), hR⟩ ?_
          intro x30 I30 L30 hq30
          have hq30 : I30 = I ∧ L30 = L ∧ -1 ≤ x30.toInt ∧ x30.toInt < (I 10 5).toInt := hq30
          obtain ⟨eI30, eL30, c30_2, c30_3⟩ := hq30
          replace eI30 := eI30.symm
          subst eI30
          replace eL30 := eL30.symm
          subst eL30
          apply And.intro
          · intro h34
            have h34 : x30.toInt = (-1) := h34
            refine And.intro trivial ?_
            intro x45 I45 L45 hq45
            have hq45 : I45 = I ∧ L45 = L ∧ ((x45.toInt = 0 ∨ x45.toInt = 1)) := hq45
            obtain ⟨eI45, eL45, c45_2⟩ := hq45
            replace eI45 := eI45.symm
            subst eI45
            replace eL45 := eL45.symm
            subst eL45
            refine And.intro hR ?_
            intro x48 I48 L48 hq48
            have hq48 : xR I48 ∧ f_fr [1, 3] I I48 ∧ f_fr [1] L L48 ∧ (I48 3 4).toInt = (I 3 4).toInt ∧ ((x48.toInt = 1 ∧ (I48 3 2).toInt = (I 3 2).toInt ∧ ¬ x45.toInt = 0 ∨ x48.toInt = 0 ∧ 1 ≤ (I48 3 2).toInt)) := hq48
            obtain ⟨c48_0, c48_1, c48_2, c48_3, c48_4⟩ := hq48
            have hF48 := f_fr_tr hF0 c48_1 rfl
            have hG48 := f_fr_tr hG0 c48_2 rfl
            exact ⟨(f_b01 (show x48.toInt = 0 ∨ x48.toInt = 1 from by omega)), c48_0, hF48, hG48, (show (x48.toInt = 1 ∧ (I48 3 2).toInt = 0 ∨ x48.toInt = 0 ∧ 1 ≤ (I48 3 2).toInt) from by first | assumption | omega | rfl)⟩
          · intro h34
            have h34 : ¬ x30.toInt = (-1) := h34
            refine And.intro ⟨hR, (show 1 ≤ (3 : Int) from by first | assumption | omega)⟩ ?_
            intro x39 I39 L39 hq39
            have hq39 : xR I39 ∧ f_fr [3] I I39 ∧ L39 = L ∧ x39.toInt = 0 ∧ 1 ≤ (I39 3 2).toInt ∧ (I39 3 4).toInt = (I 3 4).toInt := hq39
            obtain ⟨c39_0, c39_1, eL39, c39_3, c39_4, c39_5⟩ := hq39
            replace eL39 := eL39.symm
            subst eL39
            have hF39 := f_fr_tr hF0 c39_1 rfl
            exact ⟨(f_b01 (show x39.toInt = 0 ∨ x39.toInt = 1 from by omega)), c39_0, hF39, hG0, (show (x39.toInt = 1 ∧ (I39 3 2).toInt = 0 ∨ x39.toInt = 0 ∧ 1 ≤ (I39 3 2).toInt) from by first | assumption | omega | rfl)⟩
    -- pat [.ref 3, .ref k]
def pX4_readTag (d : Nat) (av : List Value) (I : fM) (L : fN) : Prop := match av with
  | [.ref 3, .ref k, .int e] => dpos d ∧ (k = 5 ∨ k = 10) ∧ xR I ∧ (I 3 2).toInt = 0 ∧ (e.toInt = 0 ∨ 0 ≤ (I 3 4).toInt) ∧ 0 ≤ e.toInt ∧ e.toInt ≤ 4 ∧ 5 - e.toInt ≤ d
  | _ => False
def qX4_readTag (av : List Value) (I : fM) (L : fN) (r : Value) (I' : fM) (L' : fN) : Prop := match av, r with
  | [.ref 3, .ref k, .int e], .int x => xR I' ∧ f_fr [1, 3] I I' ∧ f_fr [1] L L' ∧ (1 ≤ (I' 3 2).toInt ∨ ((I' 3 2).toInt = 0 ∧ (I' 3 4).toInt ≤ 4 ∧ (e.toInt = 0 → wfK x 0 (I' 3 4).toInt) ∧ (¬ e.toInt = 0 → wfK x (I 3 4).toInt (I' 3 4).toInt)))
  | _, _ => False
def tX4_readUnit : List (Instr × Nat) := [(.aload_n 0, 1), (.getfield 21, 3), (.getfield 71, 3), (.bipush 40, 2), (.if_icmp .eq 9, 3), (.aload_n 0, 1), (.aload_n 1, 1), (.invokevirtual 141, 3), (.ireturn, 1), (.aload_n 0, 1), (.iload_n 2, 1), (.iconst 3, 1), (.if_icmp .gt 7, 3), (.iconst 1, 1), (.goto 4, 3), (.iconst 0, 1), (.invokevirtual 103, 3), (.ifCond .ne 5, 3), (.iconst (-1), 1), (.ireturn, 1), (.aload_n 0, 1), (.aload_n 1, 1), (.iload_n 2, 1), (.iconst 1, 1), (.iadd, 1), (.invokevirtual 91, 3), (.istore_n 3, 1), (.aload_n 0, 1), (.getfield 43, 3), (.ifCond .ne 31, 3), (.aload_n 0, 1), (.aload_n 0, 1), (.getfield 21, 3), (.getfield 71, 3), (.bipush 41, 2), (.if_icmp .ne 7, 3), (.iconst 1, 1), (.goto 4, 3), (.iconst 0, 1), (.invokevirtual 103, 3), (.ifCond .eq 7, 3), (.iload_n 3, 1), (.goto 4, 3), (.iconst (-1), 1), (.ireturn, 1)]
theorem tX4_readUnit_ok : f_chk cX4_readUnit 0 tX4_readUnit = true := by decide +kernel
def pX4_readUnit (d : Nat) (av : List Value) (I : fM) (L : fN) : Prop := match av with
  | [.ref 3, .ref k, .int e] => (k = 5 ∨ k = 10) ∧ xR I ∧ (I 3 2).toInt = 0 ∧ 0 ≤ (I 3 4).toInt ∧ 0 ≤ e.toInt ∧ e.toInt ≤ 4 ∧ 4 - e.toInt ≤ d
  | _ => False
def qX4_readUnit (av : List Value) (I : fM) (L : fN) (r : Value) (I' : fM) (L' : fN) : Prop := match av, r with
  | [.ref 3, .ref k, .int e], .int x => xR I' ∧ f_fr [1, 3] I I' ∧ f_fr [1] L L' ∧ (1 ≤ (I' 3 2).toInt ∨ ((I' 3 2).toInt = 0 ∧ (I' 3 4).toInt ≤ 4 ∧ wfK x (I 3 4).toInt (I' 3 4).toInt))
  | _, _ => False
set_option maxHeartbeats 4000000 in
set_option maxRecDepth 100000 in
theorem mX4_readUnit {l : Launch} {a : Nat → Nat} {cy dC : Nat → ClassId} {dI : Nat → Nat → Nat} (hinj : ∀ i j, i < 80 → j < 80 → a i = a j → i = j) (d : Nat) (ih : f_Met (xE a) l xY 80 a cy dC dI yX4_readTag cX4_readTag 6 1 (2 * d + 14) (pX4_readTag d) qX4_readTag) : f_Met (xE a) l xY 80 a cy dC dI yX4_readUnit cX4_readUnit 4 1 (2 * d + 15) (pX4_readUnit d) qX4_readUnit := by
  refine f_met_of (xE_c a) hinj xY_hi (by decide) (fun av I L h => by unfold pX4_readUnit at h; split at h <;> first | exact Nat.le_of_ble_eq_true rfl | exact h.elim) ?_
  intro pP eP sP mP aP bP hP9 cP C av I L hp
  unfold pX4_readUnit at hp
  split at hp
  case h_2 => exact hp.elim
  case h_1 k e =>
    obtain ⟨p0, hR, p2, p3, p4, p5, p6⟩ := hp
    rcases p0 with rfl | rfl
    -- pat [.ref 3, .ref 5, .int e]
    · skip
      have hR : xR I := hR
      have p2 : (I 3 2).toInt = 0 := p2
      have p3 : 0 ≤ (I 3 4).toInt := p3
      have p4 : 0 ≤ e.toInt := p4
      have p5 : e.toInt ≤ 4 := p5
      have p6 : 4 - e.toInt ≤ d := p6
      have hF0 : f_fr [1, 3] I I := f_fr_rf
      have hG0 : f_fr [1] L L := f_fr_rf
      refine f_wp_ok C f_cl flX4_ok fiX4_ok fjX4_ok (sn := none) (fun j h => by cases h) (cs := (f_cnl [(141, (2, 1, 4, pX4_readKindOfTag, qX4_readKindOfTag)), (103, (2, 3, 4, pX4_pass, qX4_pass)), (91, (3, 1, 4, (pX4_readTag d), qX4_readTag))])) (cz := (fun _ => none)) (f_cnl_of (P := fun j S => f_cok pP l eP (f_rm (2 * d + 15)) sP mP aP bP hP9 cP xY 80 a cy dC dI 4 _ _ (.invokevirtual j) true S) (List.forall_mem_cons.mpr ⟨f_cokV C (mX4_readKindOfTag hinj) (ci := 4) rfl (List.forall_mem_cons.mpr ⟨(mlX4_ok _ (List.mem_of_getElem? (i := 22) rfl)), kc_X4_readKindOfTag⟩) (by decide +kernel) ⟨by simp only [f_rm]; omega, by simp only [f_rm]; omega⟩, List.forall_mem_cons.mpr ⟨f_cokV C (mX4_pass hinj) (ci := 4) rfl (List.forall_mem_cons.mpr ⟨(mlX4_ok _ (List.mem_of_getElem? (i := 14) rfl)), kc_X4_pass⟩) (by decide +kernel) ⟨by simp only [f_rm]; omega, by simp only [f_rm]; omega⟩, List.forall_mem_cons.mpr ⟨f_cokV C ih (ci := 4) rfl (List.forall_mem_cons.mpr ⟨(mlX4_ok _ (List.mem_of_getElem? (i := 12) rfl)), kc_X4_readTag⟩) (by decide +kernel) ⟨by simp only [f_rm]; omega, by simp only [f_rm]; omega⟩, fun _ h => absurd h List.not_mem_nil⟩⟩⟩)) (fun j S h => by cases h) tX4_readUnit_ok (cut := (fun _ => none)) (fun t P h => by cases h) 39 0 tX4_readUnit tX4_readUnit_ok _ _ _ _ ?_
      apply And.intro
      · intro h9
        have h9 : (I 1 2).toInt = 40 := h9
        apply And.intro
        · intro h21
          have h21 : 3 < e.toInt := h21
          refine And.intro hR ?_
          intro x29 I29 L29 hq29
          have hq29 : xR I29 ∧ f_fr [1, 3] I I29 ∧ f_fr [1] L L29 ∧ (I29 3 4).toInt = (I 3 4).toInt ∧ ((x29.toInt = 1 ∧ (I29 3 2).toInt = (I 3 2).toInt ∧ ¬ (0 : Int) = 0 ∨ x29.toInt = 0 ∧ 1 ≤ (I29 3 2).toInt)) := hq29
          obtain ⟨c29_0, c29_1, c29_2, c29_3, c29_4⟩ := hq29
          have hF29 := f_fr_tr hF0 c29_1 rfl
          have hG29 := f_fr_tr hG0 c29_2 rfl
          apply And.intro
          · intro h32
            have h32 : ¬ x29.toInt = 0 := h32
            intro z41 q41 _ hq41 hl41 hu41
            have hq41 : z41.toInt = e.toInt + 1 + 4294967296 * q41 := hq41
            try have hz41 : z41.toInt = e.toInt + 1 := by omega
            refine And.intro ⟨(dpos_of (by omega)), (by decide), c29_0, (show (I29 3 2).toInt = 0 from by first | assumption | omega | rfl), (show (z41.toInt = 0 ∨ 0 ≤ (I29 3 4).toInt) from by first | assumption | omega | rfl), (show 0 ≤ z41.toInt from by first | assumption | omega), (show z41.toInt ≤ 4 from by first | assumption | omega), (show 5 - z41.toInt ≤ d from by first | assumption | omega)⟩ ?_
            intro x42 I42 L42 hq42
            have hq42 : xR I42 ∧ f_fr [1, 3] I29 I42 ∧ f_fr [1] L29 L42 ∧ ((1 ≤ (I42 3 2).toInt ∨ ((I42 3 2).toInt = 0 ∧ (I42 3 4).toInt ≤ 4 ∧ (z41.toInt = 0 → wfK x42 0 (I42 3 4).toInt) ∧ (¬ z41.toInt = 0 → wfK x42 (I29 3 4).toInt (I42 3 4).toInt)))) := hq42
            obtain ⟨c42_0, c42_1, c42_2, c42_3⟩ := hq42
            have hF42 := f_fr_tr hF29 c42_1 rfl
            have hG42 := f_fr_tr hG29 c42_2 rfl
            have f42 : 0 ≤ (I42 3 2).toInt := by rcases c42_3 with q | ⟨q, -⟩ <;> omega
            apply And.intro
            · intro h50
              have h50 : ¬ (I42 3 2).toInt = 0 := h50
              exact ⟨c42_0, hF42, hG42, (show (1 ≤ (I42 3 2).toInt ∨ ((I42 3 2).toInt = 0 ∧ (I42 3 4).toInt ≤ 4 ∧ wfK (Int32.ofInt (-1)) (I 3 4).toInt (I42 3 4).toInt)) from by
                first
                | exact Or.inl (by omega)
                | exact Or.inr ⟨by omega, by omega, by rw [show (I71 3 4).toInt = (I42 3 4).toInt by omega, show (I 3 4).toInt = (I29 3 4).toInt by omega]; exact w42⟩)⟩
            · intro h50
              have h50 : (I42 3 2).toInt = 0 := h50
              obtain ⟨k42, -, w42⟩ := (c42_3.resolve_left (fun q => by omega)).2
              have w42 := w42 (by omega)
              apply And.intro
              · intro h63
                have h63 : ¬ (I42 1 2).toInt = 41 := h63
                refine And.intro c42_0 ?_
                intro x71 I71 L71 hq71
                have hq71 : xR I71 ∧ f_fr [1, 3] I42 I71 ∧ f_fr [1] L42 L71 ∧ (I71 3 4).toInt = (I42 3 4).toInt ∧ ((x71.toInt = 1 ∧ (I71 3 2).toInt = (I42 3 2).toInt ∧ ¬ (0 : Int) = 0 ∨ x71.toInt = 0 ∧ 1 ≤ (I71 3 2).toInt)) := hq71
                obtain ⟨c71_0, c71_1, c71_2, c71_3, c71_4⟩ := hq71
                have hF71 := f_fr_tr hF42 c71_1 rfl
                have hG71 := f_fr_tr hG42 c71_2 rfl
                apply And.intro
                · intro h74
                  have h74 : x71.toInt = 0 := h74
                  exact ⟨c71_0, hF71, hG71, (show (1 ≤ (I71 3 2).toInt ∨ ((I71 3 2).toInt = 0 ∧ (I71 3 4).toInt ≤ 4 ∧ wfK (Int32.ofInt (-1)) (I 3 4).toInt (I71 3 4).toInt)) from by
                    first
                    | exact Or.inl (by omega)
                    | exact Or.inr ⟨by omega, by omega, by rw [show (I71 3 4).toInt = (I42 3 4).toInt by omega, show (I 3 4).toInt = (I29 3 4).toInt by omega]; exact w42⟩)⟩
                · intro h74
                  have h74 : ¬ x71.toInt = 0 := h74
                  exact ⟨c71_0, hF71, hG71, (show (1 ≤ (I71 3 2).toInt ∨ ((I71 3 2).toInt = 0 ∧ (I71 3 4).toInt ≤ 4 ∧ wfK x42 (I 3 4).toInt (I71 3 4).toInt)) from by
                    first
                    | exact Or.inl (by omega)
                    | exact Or.inr ⟨by omega, by omega, by rw [show (I71 3 4).toInt = (I42 3 4).toInt by omega, show (I 3 4).toInt = (I29 3 4).toInt by omega]; exact w42⟩)⟩
              · intro h63
                have h63 : (I42 1 2).toInt = 41 := h63
                refine And.intro c42_0 ?_
                intro x71 I71 L71 hq71
                have hq71 : xR I71 ∧ f_fr [1, 3] I42 I71 ∧ f_fr [1] L42 L71 ∧ (I71 3 4).toInt = (I42 3 4).toInt ∧ ((x71.toInt = 1 ∧ (I71 3 2).toInt = (I42 3 2).toInt ∧ ¬ (1 : Int) = 0 ∨ x71.toInt = 0 ∧ 1 ≤ (I71 3 2).toInt)) := hq71
                obtain ⟨c71_0, c71_1, c71_2, c71_3, c71_4⟩ := hq71
                have hF71 := f_fr_tr hF42 c71_1 rfl
                have hG71 := f_fr_tr hG42 c71_2 rfl
                apply And.intro
                · intro h74
                  have h74 : x71.toInt = 0 := h74
                  exact ⟨c71_0, hF71, hG71, (show (1 ≤ (I71 3 2).toInt ∨ ((I71 3 2).toInt = 0 ∧ (I71 3 4).toInt ≤ 4 ∧ wfK (Int32.ofInt (-1)) (I 3 4).toInt (I71 3 4).toInt)) from by
                    first
                    | exact Or.inl (by omega)
                    | exact Or.inr ⟨by omega, by omega, by rw [show (I71 3 4).toInt = (I42 3 4).toInt by omega, show (I 3 4).toInt = (I29 3 4).toInt by omega]; exact w42⟩)⟩
                · intro h74
                  have h74 : ¬ x71.toInt = 0 := h74
                  exact ⟨c71_0, hF71, hG71, (show (1 ≤ (I71 3 2).toInt ∨ ((I71 3 2).toInt = 0 ∧ (I71 3 4).toInt ≤ 4 ∧ wfK x42 (I 3 4).toInt (I71 3 4).toInt)) from by
                    first
                    | exact Or.inl (by omega)
                    | exact Or.inr ⟨by omega, by omega, by rw [show (I71 3 4).toInt = (I42 3 4).toInt by omega, show (I 3 4).toInt = (I29 3 4).toInt by omega]; exact w42⟩)⟩
          · intro h32
            have h32 : x29.toInt = 0 := h32
            exact ⟨c29_0, hF29, hG29, (Or.inl (by omega))⟩
        · intro h21
          have h21 : e.toInt ≤ 3 := h21
          refine And.intro hR ?_
          intro x29 I29 L29 hq29
          have hq29 : xR I29 ∧ f_fr [1, 3] I I29 ∧ f_fr [1] L L29 ∧ (I29 3 4).toInt = (I 3 4).toInt ∧ ((x29.toInt = 1 ∧ (I29 3 2).toInt = (I 3 2).toInt ∧ ¬ (1 : Int) = 0 ∨ x29.toInt = 0 ∧ 1 ≤ (I29 3 2).toInt)) := hq29
          obtain ⟨c29_0, c29_1, c29_2, c29_3, c29_4⟩ := hq29
          have hF29 := f_fr_tr hF0 c29_1 rfl
          have hG29 := f_fr_tr hG0 c29_2 rfl
          apply And.intro
          · intro h32
            have h32 : ¬ x29.toInt = 0 := h32
            intro z41 q41 _ hq41 hl41 hu41
            have hq41 : z41.toInt = e.toInt + 1 + 4294967296 * q41 := hq41
            try have hz41 : z41.toInt = e.toInt + 1 := by omega
            refine And.intro ⟨(dpos_of (by omega)), (by decide), c29_0, (show (I29 3 2).toInt = 0 from by first | assumption | omega | rfl), (show (z41.toInt = 0 ∨ 0 ≤ (I29 3 4).toInt) from by first | assumption | omega | rfl), (show 0 ≤ z41.toInt from by first | assumption | omega), (show z41.toInt ≤ 4 from by first | assumption | omega), (show 5 - z41.toInt ≤ d from by first | assumption | omega)⟩ ?_
            intro x42 I42 L42 hq42
            have hq42 : xR I42 ∧ f_fr [1, 3] I29 I42 ∧ f_fr [1] L29 L42 ∧ ((1 ≤ (I42 3 2).toInt ∨ ((I42 3 2).toInt = 0 ∧ (I42 3 4).toInt ≤ 4 ∧ (z41.toInt = 0 → wfK x42 0 (I42 3 4).toInt) ∧ (¬ z41.toInt = 0 → wfK x42 (I29 3 4).toInt (I42 3 4).toInt)))) := hq42
            obtain ⟨c42_0, c42_1, c42_2, c42_3⟩ := hq42
            have hF42 := f_fr_tr hF29 c42_1 rfl
            have hG42 := f_fr_tr hG29 c42_2 rfl
            have f42 : 0 ≤ (I42 3 2).toInt := by rcases c42_3 with q | ⟨q, -⟩ <;> omega
            apply And.intro
            · intro h50
              have h50 : ¬ (I42 3 2).toInt = 0 := h50
              exact ⟨c42_0, hF42, hG42, (show (1 ≤ (I42 3 2).toInt ∨ ((I42 3 2).toInt = 0 ∧ (I42 3 4).toInt ≤ 4 ∧ wfK (Int32.ofInt (-1)) (I 3 4).toInt (I42 3 4).toInt)) from by
                first
                | exact Or.inl (by omega)
                | exact Or.inr ⟨by omega, by omega, by rw [show (I71 3 4).toInt = (I42 3 4).toInt by omega, show (I 3 4).toInt = (I29 3 4).toInt by omega]; exact w42⟩)⟩
            · intro h50
              have h50 : (I42 3 2).toInt = 0 := h50
              obtain ⟨k42, -, w42⟩ := (c42_3.resolve_left (fun q => by omega)).2
              have w42 := w42 (by omega)
              apply And.intro
              · intro h63
                have h63 : ¬ (I42 1 2).toInt = 41 := h63
                refine And.intro c42_0 ?_
                intro x71 I71 L71 hq71
                have hq71 : xR I71 ∧ f_fr [1, 3] I42 I71 ∧ f_fr [1] L42 L71 ∧ (I71 3 4).toInt = (I42 3 4).toInt ∧ ((x71.toInt = 1 ∧ (I71 3 2).toInt = (I42 3 2).toInt ∧ ¬ (0 : Int) = 0 ∨ x71.toInt = 0 ∧ 1 ≤ (I71 3 2).toInt)) := hq71
                obtain ⟨c71_0, c71_1, c71_2, c71_3, c71_4⟩ := hq71
                have hF71 := f_fr_tr hF42 c71_1 rfl
                have hG71 := f_fr_tr hG42 c71_2 rfl
                apply And.intro
                · intro h74
                  have h74 : x71.toInt = 0 := h74
                  exact ⟨c71_0, hF71, hG71, (show (1 ≤ (I71 3 2).toInt ∨ ((I71 3 2).toInt = 0 ∧ (I71 3 4).toInt ≤ 4 ∧ wfK (Int32.ofInt (-1)) (I 3 4).toInt (I71 3 4).toInt)) from by
                    first
                    | exact Or.inl (by omega)
                    | exact Or.inr ⟨by omega, by omega, by rw [show (I71 3 4).toInt = (I42 3 4).toInt by omega, show (I 3 4).toInt = (I29 3 4).toInt by omega]; exact w42⟩)⟩
                · intro h74
                  have h74 : ¬ x71.toInt = 0 := h74
                  exact ⟨c71_0, hF71, hG71, (show (1 ≤ (I71 3 2).toInt ∨ ((I71 3 2).toInt = 0 ∧ (I71 3 4).toInt ≤ 4 ∧ wfK x42 (I 3 4).toInt (I71 3 4).toInt)) from by
                    first
                    | exact Or.inl (by omega)
                    | exact Or.inr ⟨by omega, by omega, by rw [show (I71 3 4).toInt = (I42 3 4).toInt by omega, show (I 3 4).toInt = (I29 3 4).toInt by omega]; exact w42⟩)⟩
              · intro h63
                have h63 : (I42 1 2).toInt = 41 := h63
                refine And.intro c42_0 ?_
                intro x71 I71 L71 hq71
                have hq71 : xR I71 ∧ f_fr [1, 3] I42 I71 ∧ f_fr [1] L42 L71 ∧ (I71 3 4).toInt = (I42 3 4).toInt ∧ ((x71.toInt = 1 ∧ (I71 3 2).toInt = (I42 3 2).toInt ∧ ¬ (1 : Int) = 0 ∨ x71.toInt = 0 ∧ 1 ≤ (I71 3 2).toInt)) := hq71
                obtain ⟨c71_0, c71_1, c71_2, c71_3, c71_4⟩ := hq71
                have hF71 := f_fr_tr hF42 c71_1 rfl
                have hG71 := f_fr_tr hG42 c71_2 rfl
                apply And.intro
                · intro h74
                  have h74 : x71.toInt = 0 := h74
                  exact ⟨c71_0, hF71, hG71, (show (1 ≤ (I71 3 2).toInt ∨ ((I71 3 2).toInt = 0 ∧ (I71 3 4).toInt ≤ 4 ∧ wfK (Int32.ofInt (-1)) (I 3 4).toInt (I71 3 4).toInt)) from by
                    first
                    | exact Or.inl (by omega)
                    | exact Or.inr ⟨by omega, by omega, by rw [show (I71 3 4).toInt = (I42 3 4).toInt by omega, show (I 3 4).toInt = (I29 3 4).toInt by omega]; exact w42⟩)⟩
                · intro h74
                  have h74 : ¬ x71.toInt = 0 := h74
                  exact ⟨c71_0, hF71, hG71, (show (1 ≤ (I71 3 2).toInt ∨ ((I71 3 2).toInt = 0 ∧ (I71 3 4).toInt ≤ 4 ∧ wfK x42 (I 3 4).toInt (I71 3 4).toInt)) from by
                    first
                    | exact Or.inl (by omega)
                    | exact Or.inr ⟨by omega, by omega, by rw [show (I71 3 4).toInt = (I42 3 4).toInt by omega, show (I 3 4).toInt = (I29 3 4).toInt by omega]; exact w42⟩)⟩
          · intro h32
            have h32 : x29.toInt = 0 := h32
            exact ⟨c29_0, hF29, hG29, (Or.inl (by omega))⟩
      · intro h9
        have h9 : ¬ (I 1 2).toInt = 40 := h9
        refine And.intro ⟨(by decide), hR, (show (I 3 2).toInt = 0 from by first | assumption | omega | rfl), (show 0 ≤ (I 3 4).toInt from by first | assumption | omega)⟩ ?_
        intro x14 I14 L14 hq14
        have hq14 : xR I14 ∧ f_fr [1, 3] I I14 ∧ f_fr [1] L L14 ∧ ((1 ≤ (I14 3 2).toInt ∨ ((I14 3 2).toInt = 0 ∧ (I14 3 4).toInt ≤ 4 ∧ wfK x14 (I 3 4).toInt (I14 3 4).toInt))) := hq14
        obtain ⟨c14_0, c14_1, c14_2, c14_3⟩ := hq14
        have hF14 := f_fr_tr hF0 c14_1 rfl
        have hG14 := f_fr_tr hG0 c14_2 rfl
        exact ⟨c14_0, hF14, hG14, c14_3⟩
    -- pat [.ref 3, .ref 10, .int e]
    · skip
      have hR : xR I := hR
      have p2 : (I 3 2).toInt = 0 := p2
      have p3 : 0 ≤ (I 3 4).toInt := p3
      have p4 : 0 ≤ e.toInt := p4
      have p5 : e.toInt ≤ 4 := p5
      have p6 : 4 - e.toInt ≤ d := p6
      have hF0 : f_fr [1, 3] I I := f_fr_rf
      have hG0 : f_fr [1] L L := f_fr_rf
      refine f_wp_ok C f_cl flX4_ok fiX4_ok fjX4_ok (sn := none) (fun j h => by cases h) (cs := (f_cnl [(141, (2, 1, 4, pX4_readKindOfTag, qX4_readKindOfTag)), (103, (2, 3, 4, pX4_pass, qX4_pass)), (91, (3, 1, 4, (pX4_readTag d), qX4_readTag))])) (cz := (fun _ => none)) (f_cnl_of (P := fun j S => f_cok pP l eP (f_rm (2 * d + 15)) sP mP aP bP hP9 cP xY 80 a cy dC dI 4 _ _ (.invokevirtual j) true S) (List.forall_mem_cons.mpr ⟨f_cokV C (mX4_readKindOfTag hinj) (ci := 4) rfl (List.forall_mem_cons.mpr ⟨(mlX4_ok _ (List.mem_of_getElem? (i := 22) rfl)), kc_X4_readKindOfTag⟩) (by decide +kernel) ⟨by simp only [f_rm]; omega, by simp only [f_rm]; omega⟩, List.forall_mem_cons.mpr ⟨f_cokV C (mX4_pass hinj) (ci := 4) rfl (List.forall_mem_cons.mpr ⟨(mlX4_ok _ (List.mem_of_getElem? (i := 14) rfl)), kc_X4_pass⟩) (by decide +kernel) ⟨by simp only [f_rm]; omega, by simp only [f_rm]; omega⟩, List.forall_mem_cons.mpr ⟨f_cokV C ih (ci := 4) rfl (List.forall_mem_cons.mpr ⟨(mlX4_ok _ (List.mem_of_getElem? (i := 12) rfl)), kc_X4_readTag⟩) (by decide +kernel) ⟨by simp only [f_rm]; omega, by simp only [f_rm]; omega⟩, fun _ h => absurd h List.not_mem_nil⟩⟩⟩)) (fun j S h => by cases h) tX4_readUnit_ok (cut := (fun _ => none)) (fun t P h => by cases h) 39 0 tX4_readUnit tX4_readUnit_ok _ _ _ _ ?_
      apply And.intro
      · intro h9
        have h9 : (I 1 2).toInt = 40 := h9
        apply And.intro
        · intro h21
          have h21 : 3 < e.toInt := h21
          refine And.intro hR ?_
          intro x29 I29 L29 hq29
          have hq29 : xR I29 ∧ f_fr [1, 3] I I29 ∧ f_fr [1] L L29 ∧ (I29 3 4).toInt = (I 3 4).toInt ∧ ((x29.toInt = 1 ∧ (I29 3 2).toInt = (I 3 2).toInt ∧ ¬ (0 : Int) = 0 ∨ x29.toInt = 0 ∧ 1 ≤ (I29 3 2).toInt)) := hq29
          obtain ⟨c29_0, c29_1, c29_2, c29_3, c29_4⟩ := hq29
          have hF29 := f_fr_tr hF0 c29_1 rfl
          have hG29 := f_fr_tr hG0 c29_2 rfl
          apply And.intro
          · intro h32
            have h32 : ¬ x29.toInt = 0 := h32
            intro z41 q41 _ hq41 hl41 hu41
            have hq41 : z41.toInt = e.toInt + 1 + 4294967296 * q41 := hq41
            try have hz41 : z41.toInt = e.toInt + 1 := by omega
            refine And.intro ⟨(dpos_of (by omega)), (by decide), c29_0, (show (I29 3 2).toInt = 0 from by first | assumption | omega | rfl), (show (z41.toInt = 0 ∨ 0 ≤ (I29 3 4).toInt) from by first | assumption | omega | rfl), (show 0 ≤ z41.toInt from by first | assumption | omega), (show z41.toInt ≤ 4 from by first | assumption | omega), (show 5 - z41.toInt ≤ d from by first | assumption | omega)⟩ ?_
            intro x42 I42 L42 hq42
            have hq42 : xR I42 ∧ f_fr [1, 3] I29 I42 ∧ f_fr [1] L29 L42 ∧ ((1 ≤ (I42 3 2).toInt ∨ ((I42 3 2).toInt = 0 ∧ (I42 3 4).toInt ≤ 4 ∧ (z41.toInt = 0 → wfK x42 0 (I42 3 4).toInt) ∧ (¬ z41.toInt = 0 → wfK x42 (I29 3 4).toInt (I42 3 4).toInt)))) := hq42
            obtain ⟨c42_0, c42_1, c42_2, c42_3⟩ := hq42
            have hF42 := f_fr_tr hF29 c42_1 rfl
            have hG42 := f_fr_tr hG29 c42_2 rfl
            have f42 : 0 ≤ (I42 3 2).toInt := by rcases c42_3 with q | ⟨q, -⟩ <;> omega
            apply And.intro
            · intro h50
              have h50 : ¬ (I42 3 2).toInt = 0 := h50
              exact ⟨c42_0, hF42, hG42, (show (1 ≤ (I42 3 2).toInt ∨ ((I42 3 2).toInt = 0 ∧ (I42 3 4).toInt ≤ 4 ∧ wfK (Int32.ofInt (-1)) (I 3 4).toInt (I42 3 4).toInt)) from by
                first
                | exact Or.inl (by omega)
                | exact Or.inr ⟨by omega, by omega, by rw [show (I71 3 4).toInt = (I42 3 4).toInt by omega, show (I 3 4).toInt = (I29 3 4).toInt by omega]; exact w42⟩)⟩
            · intro h50
              have h50 : (I42 3 2).toInt = 0 := h50
              obtain ⟨k42, -, w42⟩ := (c42_3.resolve_left (fun q => by omega)).2
              have w42 := w42 (by omega)
              apply And.intro
              · intro h63
                have h63 : ¬ (I42 1 2).toInt = 41 := h63
                refine And.intro c42_0 ?_
                intro x71 I71 L71 hq71
                have hq71 : xR I71 ∧ f_fr [1, 3] I42 I71 ∧ f_fr [1] L42 L71 ∧ (I71 3 4).toInt = (I42 3 4).toInt ∧ ((x71.toInt = 1 ∧ (I71 3 2).toInt = (I42 3 2).toInt ∧ ¬ (0 : Int) = 0 ∨ x71.toInt = 0 ∧ 1 ≤ (I71 3 2).toInt)) := hq71
                obtain ⟨c71_0, c71_1, c71_2, c71_3, c71_4⟩ := hq71
                have hF71 := f_fr_tr hF42 c71_1 rfl
                have hG71 := f_fr_tr hG42 c71_2 rfl
                apply And.intro
                · intro h74
                  have h74 : x71.toInt = 0 := h74
                  exact ⟨c71_0, hF71, hG71, (show (1 ≤ (I71 3 2).toInt ∨ ((I71 3 2).toInt = 0 ∧ (I71 3 4).toInt ≤ 4 ∧ wfK (Int32.ofInt (-1)) (I 3 4).toInt (I71 3 4).toInt)) from by
                    first
                    | exact Or.inl (by omega)
                    | exact Or.inr ⟨by omega, by omega, by rw [show (I71 3 4).toInt = (I42 3 4).toInt by omega, show (I 3 4).toInt = (I29 3 4).toInt by omega]; exact w42⟩)⟩
                · intro h74
                  have h74 : ¬ x71.toInt = 0 := h74
                  exact ⟨c71_0, hF71, hG71, (show (1 ≤ (I71 3 2).toInt ∨ ((I71 3 2).toInt = 0 ∧ (I71 3 4).toInt ≤ 4 ∧ wfK x42 (I 3 4).toInt (I71 3 4).toInt)) from by
                    first
                    | exact Or.inl (by omega)
                    | exact Or.inr ⟨by omega, by omega, by rw [show (I71 3 4).toInt = (I42 3 4).toInt by omega, show (I 3 4).toInt = (I29 3 4).toInt by omega]; exact w42⟩)⟩
              · intro h63
                have h63 : (I42 1 2).toInt = 41 := h63
                refine And.intro c42_0 ?_
                intro x71 I71 L71 hq71
                have hq71 : xR I71 ∧ f_fr [1, 3] I42 I71 ∧ f_fr [1] L42 L71 ∧ (I71 3 4).toInt = (I42 3 4).toInt ∧ ((x71.toInt = 1 ∧ (I71 3 2).toInt = (I42 3 2).toInt ∧ ¬ (1 : Int) = 0 ∨ x71.toInt = 0 ∧ 1 ≤ (I71 3 2).toInt)) := hq71
                obtain ⟨c71_0, c71_1, c71_2, c71_3, c71_4⟩ := hq71
                have hF71 := f_fr_tr hF42 c71_1 rfl
                have hG71 := f_fr_tr hG42 c71_2 rfl
                apply And.intro
                · intro h74
                  have h74 : x71.toInt = 0 := h74
                  exact ⟨c71_0, hF71, hG71, (show (1 ≤ (I71 3 2).toInt ∨ ((I71 3 2).toInt = 0 ∧ (I71 3 4).toInt ≤ 4 ∧ wfK (Int32.ofInt (-1)) (I 3 4).toInt (I71 3 4).toInt)) from by
                    first
                    | exact Or.inl (by omega)
                    | exact Or.inr ⟨by omega, by omega, by rw [show (I71 3 4).toInt = (I42 3 4).toInt by omega, show (I 3 4).toInt = (I29 3 4).toInt by omega]; exact w42⟩)⟩
                · intro h74
                  have h74 : ¬ x71.toInt = 0 := h74
                  exact ⟨c71_0, hF71, hG71, (show (1 ≤ (I71 3 2).toInt ∨ ((I71 3 2).toInt = 0 ∧ (I71 3 4).toInt ≤ 4 ∧ wfK x42 (I 3 4).toInt (I71 3 4).toInt)) from by
                    first
                    | exact Or.inl (by omega)
                    | exact Or.inr ⟨by omega, by omega, by rw [show (I71 3 4).toInt = (I42 3 4).toInt by omega, show (I 3 4).toInt = (I29 3 4).toInt by omega]; exact w42⟩)⟩
          · intro h32
            have h32 : x29.toInt = 0 := h32
            exact ⟨c29_0, hF29, hG29, (Or.inl (by omega))⟩
        · intro h21
          have h21 : e.toInt ≤ 3 := h21
          refine And.intro hR ?_
          intro x29 I29 L29 hq29
          have hq29 : xR I29 ∧ f_fr [1, 3] I I29 ∧ f_fr [1] L L29 ∧ (I29 3 4).toInt = (I 3 4).toInt ∧ ((x29.toInt = 1 ∧ (I29 3 2).toInt = (I 3 2).toInt ∧ ¬ (1 : Int) = 0 ∨ x29.toInt = 0 ∧ 1 ≤ (I29 3 2).toInt)) := hq29
          obtain ⟨c29_0, c29_1, c29_2, c29_3, c29_4⟩ := hq29
          have hF29 := f_fr_tr hF0 c29_1 rfl
          have hG29 := f_fr_tr hG0 c29_2 rfl
          apply And.intro
          · intro h32
            have h32 : ¬ x29.toInt = 0 := h32
            intro z41 q41 _ hq41 hl41 hu41
            have hq41 : z41.toInt = e.toInt + 1 + 4294967296 * q41 := hq41
            try have hz41 : z41.toInt = e.toInt + 1 := by omega
            refine And.intro ⟨(dpos_of (by omega)), (by decide), c29_0, (show (I29 3 2).toInt = 0 from by first | assumption | omega | rfl), (show (z41.toInt = 0 ∨ 0 ≤ (I29 3 4).toInt) from by first | assumption | omega | rfl), (show 0 ≤ z41.toInt from by first | assumption | omega), (show z41.toInt ≤ 4 from by first | assumption | omega), (show 5 - z41.toInt ≤ d from by first | assumption | omega)⟩ ?_
            intro x42 I42 L42 hq42
            have hq42 : xR I42 ∧ f_fr [1, 3] I29 I42 ∧ f_fr [1] L29 L42 ∧ ((1 ≤ (I42 3 2).toInt ∨ ((I42 3 2).toInt = 0 ∧ (I42 3 4).toInt ≤ 4 ∧ (z41.toInt = 0 → wfK x42 0 (I42 3 4).toInt) ∧ (¬ z41.toInt = 0 → wfK x42 (I29 3 4).toInt (I42 3 4).toInt)))) := hq42
            obtain ⟨c42_0, c42_1, c42_2, c42_3⟩ := hq42
            have hF42 := f_fr_tr hF29 c42_1 rfl
            have hG42 := f_fr_tr hG29 c42_2 rfl
            have f42 : 0 ≤ (I42 3 2).toInt := by rcases c42_3 with q | ⟨q, -⟩ <;> omega
            apply And.intro
            · intro h50
              have h50 : ¬ (I42 3 2).toInt = 0 := h50
              exact ⟨c42_0, hF42, hG42, (show (1 ≤ (I42 3 2).toInt ∨ ((I42 3 2).toInt = 0 ∧ (I42 3 4).toInt ≤ 4 ∧ wfK (Int32.ofInt (-1)) (I 3 4).toInt (I42 3 4).toInt)) from by
                first
                | exact Or.inl (by omega)
                | exact Or.inr ⟨by omega, by omega, by rw [show (I71 3 4).toInt = (I42 3 4).toInt by omega, show (I 3 4).toInt = (I29 3 4).toInt by omega]; exact w42⟩)⟩
            · intro h50
              have h50 : (I42 3 2).toInt = 0 := h50
              obtain ⟨k42, -, w42⟩ := (c42_3.resolve_left (fun q => by omega)).2
              have w42 := w42 (by omega)
              apply And.intro
              · intro h63
                have h63 : ¬ (I42 1 2).toInt = 41 := h63
                refine And.intro c42_0 ?_
                intro x71 I71 L71 hq71
                have hq71 : xR I71 ∧ f_fr [1, 3] I42 I71 ∧ f_fr [1] L42 L71 ∧ (I71 3 4).toInt = (I42 3 4).toInt ∧ ((x71.toInt = 1 ∧ (I71 3 2).toInt = (I42 3 2).toInt ∧ ¬ (0 : Int) = 0 ∨ x71.toInt = 0 ∧ 1 ≤ (I71 3 2).toInt)) := hq71
                obtain ⟨c71_0, c71_1, c71_2, c71_3, c71_4⟩ := hq71
                have hF71 := f_fr_tr hF42 c71_1 rfl
                have hG71 := f_fr_tr hG42 c71_2 rfl
                apply And.intro
                · intro h74
                  have h74 : x71.toInt = 0 := h74
                  exact ⟨c71_0, hF71, hG71, (show (1 ≤ (I71 3 2).toInt ∨ ((I71 3 2).toInt = 0 ∧ (I71 3 4).toInt ≤ 4 ∧ wfK (Int32.ofInt (-1)) (I 3 4).toInt (I71 3 4).toInt)) from by
                    first
                    | exact Or.inl (by omega)
                    | exact Or.inr ⟨by omega, by omega, by rw [show (I71 3 4).toInt = (I42 3 4).toInt by omega, show (I 3 4).toInt = (I29 3 4).toInt by omega]; exact w42⟩)⟩
                · intro h74
                  have h74 : ¬ x71.toInt = 0 := h74
                  exact ⟨c71_0, hF71, hG71, (show (1 ≤ (I71 3 2).toInt ∨ ((I71 3 2).toInt = 0 ∧ (I71 3 4).toInt ≤ 4 ∧ wfK x42 (I 3 4).toInt (I71 3 4).toInt)) from by
                    first
                    | exact Or.inl (by omega)
                    | exact Or.inr ⟨by omega, by omega, by rw [show (I71 3 4).toInt = (I42 3 4).toInt by omega, show (I 3 4).toInt = (I29 3 4).toInt by omega]; exact w42⟩)⟩
              · intro h63
                have h63 : (I42 1 2).toInt = 41 := h63
                refine And.intro c42_0 ?_
                intro x71 I71 L71 hq71
                have hq71 : xR I71 ∧ f_fr [1, 3] I42 I71 ∧ f_fr [1] L42 L71 ∧ (I71 3 4).toInt = (I42 3 4).toInt ∧ ((x71.toInt = 1 ∧ (I71 3 2).toInt = (I42 3 2).toInt ∧ ¬ (1 : Int) = 0 ∨ x71.toInt = 0 ∧ 1 ≤ (I71 3 2).toInt)) := hq71
                obtain ⟨c71_0, c71_1, c71_2, c71_3, c71_4⟩ := hq71
                have hF71 := f_fr_tr hF42 c71_1 rfl
                have hG71 := f_fr_tr hG42 c71_2 rfl
                apply And.intro
                · intro h74
                  have h74 : x71.toInt = 0 := h74
                  exact ⟨c71_0, hF71, hG71, (show (1 ≤ (I71 3 2).toInt ∨ ((I71 3 2).toInt = 0 ∧ (I71 3 4).toInt ≤ 4 ∧ wfK (Int32.ofInt (-1)) (I 3 4).toInt (I71 3 4).toInt)) from by
                    first
                    | exact Or.inl (by omega)
                    | exact Or.inr ⟨by omega, by omega, by rw [show (I71 3 4).toInt = (I42 3 4).toInt by omega, show (I 3 4).toInt = (I29 3 4).toInt by omega]; exact w42⟩)⟩
                · intro h74
                  have h74 : ¬ x71.toInt = 0 := h74
                  exact ⟨c71_0, hF71, hG71, (show (1 ≤ (I71 3 2).toInt ∨ ((I71 3 2).toInt = 0 ∧ (I71 3 4).toInt ≤ 4 ∧ wfK x42 (I 3 4).toInt (I71 3 4).toInt)) from by
                    first
                    | exact Or.inl (by omega)
                    | exact Or.inr ⟨by omega, by omega, by rw [show (I71 3 4).toInt = (I42 3 4).toInt by omega, show (I 3 4).toInt = (I29 3 4).toInt by omega]; exact w42⟩)⟩
          · intro h32
            have h32 : x29.toInt = 0 := h32
            exact ⟨c29_0, hF29, hG29, (Or.inl (by omega))⟩
      · intro h9
        have h9 : ¬ (I 1 2).toInt = 40 := h9
        refine And.intro ⟨(by decide), hR, (show (I 3 2).toInt = 0 from by first | assumption | omega | rfl), (show 0 ≤ (I 3 4).toInt from by first | assumption | omega)⟩ ?_
        intro x14 I14 L14 hq14
        have hq14 : xR I14 ∧ f_fr [1, 3] I I14 ∧ f_fr [1] L L14 ∧ ((1 ≤ (I14 3 2).toInt ∨ ((I14 3 2).toInt = 0 ∧ (I14 3 4).toInt ≤ 4 ∧ wfK x14 (I 3 4).toInt (I14 3 4).toInt))) := hq14
        obtain ⟨c14_0, c14_1, c14_2, c14_3⟩ := hq14
        have hF14 := f_fr_tr hF0 c14_1 rfl
        have hG14 := f_fr_tr hG0 c14_2 rfl
        exact ⟨c14_0, hF14, hG14, c14_3⟩
    -- pat [.ref 3, .ref k, .int e]
def tX4_readTag : List (Instr × Nat) := [(.aload_n 0, 1), (.iload_n 2, 1), (.ifCond .ne 7, 3), (.iconst 0, 1), (.goto 7, 3), (.aload_n 0, 1), (.getfield 129, 3), (.putfield 129, 3), (.aload_n 0, 1), (.aload_n 1, 1), (.iload_n 2, 1), (.invokevirtual 132, 3), (.istore_n 3, 1), (.aload_n 0, 1), (.getfield 43, 3), (.ifCond .ne 27, 3), (.aload_n 0, 1), (.getfield 21, 3), (.getfield 71, 3), (.bipush 47, 2), (.if_icmp .eq 17, 3), (.aload_n 0, 1), (.getfield 21, 3), (.getfield 71, 3), (.bipush 92, 2), (.if_icmp .eq 5, 3), (.iload_n 3, 1), (.ireturn, 1), (.aload_n 0, 1), (.getfield 21, 3), (.getfield 71, 3), (.bipush 47, 2), (.if_icmp .ne 7, 3), (.iconst 5, 1), (.goto 5, 3), (.bipush 6, 2), (.istore 4, 2), (.aload_n 0, 1), (.getfield 21, 3), (.invokevirtual 61, 3), (.aload_n 0, 1), (.aload_n 1, 1), (.iload_n 2, 1), (.invokevirtual 132, 3), (.istore 5, 2), (.aload_n 0, 1), (.getfield 43, 3), (.ifCond .ne 14, 3), (.iload 4, 2), (.iload_n 3, 1), (.iload 5, 2), (.invokestatic 137, 3), (.goto 4, 3), (.iconst (-1), 1), (.ireturn, 1)]
theorem tX4_readTag_ok : f_chk cX4_readTag 0 tX4_readTag = true := by decide +kernel
set_option maxHeartbeats 4000000 in
set_option maxRecDepth 100000 in
theorem mX4_readTag {l : Launch} {a : Nat → Nat} {cy dC : Nat → ClassId} {dI : Nat → Nat → Nat} (hinj : ∀ i j, i < 80 → j < 80 → a i = a j → i = j) : ∀ d : Nat, f_Met (xE a) l xY 80 a cy dC dI yX4_readTag cX4_readTag 6 1 (2 * d + 14) (pX4_readTag d) qX4_readTag := by
  intro d
  induction d with
  | zero =>
    intro av I L hp
    exfalso
    unfold pX4_readTag at hp
    split at hp
    case h_2 => exact hp.elim
    case h_1 k e => exact hp.1.elim
  | succ d ih =>
  refine f_met_of (xE_c a) hinj xY_hi (by decide) (fun av I L h => by unfold pX4_readTag at h; split at h <;> first | exact Nat.le_of_ble_eq_true rfl | exact h.elim) ?_
  intro pP eP sP mP aP bP hP9 cP C av I L hp
  unfold pX4_readTag at hp
  split at hp
  case h_2 => exact hp.elim
  case h_1 k e =>
    obtain ⟨p0, p1, hR, p3, p4, p5, p6, p7⟩ := hp
    rcases p1 with rfl | rfl
    -- pat [.ref 3, .ref 5, .int e]
    · skip
      have p0 : dpos (d + 1) := p0
      have hR : xR I := hR
      have p3 : (I 3 2).toInt = 0 := p3
      have p4 : (e.toInt = 0 ∨ 0 ≤ (I 3 4).toInt) := p4
      have p5 : 0 ≤ e.toInt := p5
      have p6 : e.toInt ≤ 4 := p6
      have p7 : 5 - e.toInt ≤ (d + 1) := p7
      have hF0 : f_fr [1, 3] I I := f_fr_rf
      have hG0 : f_fr [1] L L := f_fr_rf
      refine f_wp_ok C f_cl flX4_ok fiX4_ok fjX4_ok (sn := none) (fun j h => by cases h) (cs := (f_cnl [(132, (3, 1, 4, (pX4_readUnit d), qX4_readUnit)), (61, (1, 0, 8, pX9_next, qX9_next))])) (cz := (f_cnl [(137, (3, 1, 0, pX8_join, qX8_join))])) (f_cnl_of (P := fun j S => f_cok pP l eP (f_rm (2 * (d + 1) + 14)) sP mP aP bP hP9 cP xY 80 a cy dC dI 6 _ _ (.invokevirtual j) true S) (List.forall_mem_cons.mpr ⟨f_cokV C (mX4_readUnit hinj d ih) (ci := 4) rfl (List.forall_mem_cons.mpr ⟨(mlX4_ok _ (List.mem_of_getElem? (i := 20) rfl)), kc_X4_readUnit⟩) (by decide +kernel) ⟨by simp only [f_rm]; omega, by simp only [f_rm]; omega⟩, List.forall_mem_cons.mpr ⟨f_cokV C (mX9_next hinj) (ci := 8) rfl (List.forall_mem_cons.mpr ⟨(mlX4_ok _ (List.mem_of_getElem? (i := 7) rfl)), kc_X9_next⟩) (by decide +kernel) ⟨by simp only [f_rm]; omega, by simp only [f_rm]; omega⟩, fun _ h => absurd h List.not_mem_nil⟩⟩)) (f_cnl_of (P := fun j S => f_cok pP l eP (f_rm (2 * (d + 1) + 14)) sP mP aP bP hP9 cP xY 80 a cy dC dI 6 _ _ (.invokestatic j) false S) (List.forall_mem_cons.mpr ⟨f_cokS C (mX8_join hinj) (List.forall_mem_cons.mpr ⟨(mlX4_ok _ (List.mem_of_getElem? (i := 21) rfl)), kc_X8_join⟩) (by decide +kernel) ⟨by simp only [f_rm]; omega, by simp only [f_rm]; omega⟩, fun _ h => absurd h List.not_mem_nil⟩)) tX4_readTag_ok (cut := (fun _ => none)) (fun t P h => by cases h) 51 0 tX4_readTag tX4_readTag_ok _ _ _ _ ?_
      apply And.intro
      · intro h2
        have h2 : ¬ e.toInt = 0 := h2
        have hR13 := xR_f (k := 3) (j := 4) (x := I 3 4) hR (by exact f_rng _)
        have hF13 := f_fr_up (k := 3) (r := va_up (I 3) 4 (I 3 4)) hF0 rfl
        refine And.intro ⟨(by decide), hR13, (show (I 3 2).toInt = 0 from by first | assumption | omega | rfl), (show 0 ≤ (I 3 4).toInt from by first | assumption | omega), (show 0 ≤ e.toInt from by first | assumption | omega), (show e.toInt ≤ 4 from by first | assumption | omega), (show 4 - e.toInt ≤ d from by first | assumption | omega)⟩ ?_
        intro x19 I19 L19 hq19
        have hq19 : xR I19 ∧ f_fr [1, 3] (va_up I 3 (va_up (I 3) 4 (I 3 4))) I19 ∧ f_fr [1] L L19 ∧ ((1 ≤ (I19 3 2).toInt ∨ ((I19 3 2).toInt = 0 ∧ (I19 3 4).toInt ≤ 4 ∧ wfK x19 (I 3 4).toInt (I19 3 4).toInt))) := hq19
        obtain ⟨c19_0, c19_1, c19_2, c19_3⟩ := hq19
        have hF19 := f_fr_tr hF13 c19_1 rfl
        have hG19 := f_fr_tr hG0 c19_2 rfl
        have f19 : 0 ≤ (I19 3 2).toInt := by rcases c19_3 with q | ⟨q, -⟩ <;> omega
        apply And.intro
        · intro h27
          have h27 : ¬ (I19 3 2).toInt = 0 := h27
          exact ⟨c19_0, hF19, hG19, (show (1 ≤ (I19 3 2).toInt ∨ ((I19 3 2).toInt = 0 ∧ (I19 3 4).toInt ≤ 4 ∧ (e.toInt = 0 → wfK x19 0 (I19 3 4).toInt) ∧ (¬ e.toInt = 0 → wfK x19 (I 3 4).toInt (I19 3 4).toInt))) from by
            rcases c19_3 with q | ⟨q1, q2, q3⟩
            · exact Or.inl q
            · exact Or.inr ⟨q1, q2, fun h => by first | exact q3 | (exfalso; omega), fun h => by first | exact q3 | (exfalso; omega)⟩)⟩
        · intro h27
          have h27 : (I19 3 2).toInt = 0 := h27
          obtain ⟨k19, w1⟩ := (c19_3.resolve_left (fun q => by omega)).2
          have lt1 := wfK_lt w1
          apply And.intro
          · intro h39
            have h39 : (I19 1 2).toInt = 47 := h39
            apply And.intro
            · intro h65
              have h65 : ¬ (I19 1 2).toInt = 47 := h65
              exfalso
              omega
            · intro h65
              have h65 : (I19 1 2).toInt = 47 := h65
              refine And.intro c19_0 ?_
              intro I80 L80 hq80
              have hq80 : xR I80 ∧ f_fr [1] I19 I80 ∧ f_fr [1] L19 L80 := hq80
              obtain ⟨c80_0, c80_1, c80_2⟩ := hq80
              have hF80 := f_fr_tr hF19 c80_1 rfl
              have hG80 := f_fr_tr hG19 c80_2 rfl
              have e80 : (I80 3 4).toInt = (I19 3 4).toInt := congrArg Int32.toInt (congrFun (c80_1 3 rfl) 4)
              have e86_5 : (I80 3 2).toInt = (I19 3 2).toInt := congrArg Int32.toInt (congrFun (c80_1 3 rfl) 2)
              have e86_7 : (I80 3 4).toInt = (I19 3 4).toInt := congrArg Int32.toInt (congrFun (c80_1 3 rfl) 4)
              refine And.intro ⟨(by decide), c80_0, (show (I80 3 2).toInt = 0 from by first | assumption | omega | rfl), (show 0 ≤ (I80 3 4).toInt from by first | assumption | omega), (show 0 ≤ e.toInt from by first | assumption | omega), (show e.toInt ≤ 4 from by first | assumption | omega), (show 4 - e.toInt ≤ d from by first | assumption | omega)⟩ ?_
              intro x86 I86 L86 hq86
              have hq86 : xR I86 ∧ f_fr [1, 3] I80 I86 ∧ f_fr [1] L80 L86 ∧ ((1 ≤ (I86 3 2).toInt ∨ ((I86 3 2).toInt = 0 ∧ (I86 3 4).toInt ≤ 4 ∧ wfK x86 (I80 3 4).toInt (I86 3 4).toInt))) := hq86
              obtain ⟨c86_0, c86_1, c86_2, c86_3⟩ := hq86
              have hF86 := f_fr_tr hF80 c86_1 rfl
              have hG86 := f_fr_tr hG80 c86_2 rfl
              have f86 : 0 ≤ (I86 3 2).toInt := by rcases c86_3 with q | ⟨q, -⟩ <;> omega
              apply And.intro
              · intro h95
                have h95 : ¬ (I86 3 2).toInt = 0 := h95
                exact ⟨c86_0, hF86, hG86, (show (1 ≤ (I86 3 2).toInt ∨ ((I86 3 2).toInt = 0 ∧ (I86 3 4).toInt ≤ 4 ∧ (e.toInt = 0 → wfK (Int32.ofInt (-1)) 0 (I86 3 4).toInt) ∧ (¬ e.toInt = 0 → wfK (Int32.ofInt (-1)) (I 3 4).toInt (I86 3 4).toInt))) from by
                  first
                  | exact Or.inl (by omega)
                  | exact Or.inr ⟨by omega, by omega, fun h => by first | exact wfK_join w1 w2 c103_2 | (exfalso; omega), fun h => by first | exact wfK_join w1 w2 c103_2 | (exfalso; omega)⟩)⟩
              · intro h95
                have h95 : (I86 3 2).toInt = 0 := h95
                obtain ⟨k86, w2⟩ := (c86_3.resolve_left (fun q => by omega)).2
                rw [e80] at w2
                refine And.intro ⟨(show ((5 : Int) = 5 ∨ (5 : Int) = 6) from by first | assumption | omega | rfl), (wfK_ex w1 w2 (by omega) (by omega))⟩ ?_
                intro x103 I103 L103 hq103
                have hq103 : I103 = I86 ∧ L103 = L86 ∧ (∀ na nb, wfT x19 na → wfT x86 nb → wfT x103 (1 + na + nb)) := hq103
                obtain ⟨eI103, eL103, c103_2⟩ := hq103
                replace eI103 := eI103.symm
                subst eI103
                replace eL103 := eL103.symm
                subst eL103
                exact ⟨c86_0, hF86, hG86, (show (1 ≤ (I86 3 2).toInt ∨ ((I86 3 2).toInt = 0 ∧ (I86 3 4).toInt ≤ 4 ∧ (e.toInt = 0 → wfK x103 0 (I86 3 4).toInt) ∧ (¬ e.toInt = 0 → wfK x103 (I 3 4).toInt (I86 3 4).toInt))) from by
                  first
                  | exact Or.inl (by omega)
                  | exact Or.inr ⟨by omega, by omega, fun h => by first | exact wfK_join w1 w2 c103_2 | (exfalso; omega), fun h => by first | exact wfK_join w1 w2 c103_2 | (exfalso; omega)⟩)⟩
          · intro h39
            have h39 : ¬ (I19 1 2).toInt = 47 := h39
            apply And.intro
            · intro h51
              have h51 : (I19 1 2).toInt = 92 := h51
              apply And.intro
              · intro h65
                have h65 : ¬ (I19 1 2).toInt = 47 := h65
                refine And.intro c19_0 ?_
                intro I80 L80 hq80
                have hq80 : xR I80 ∧ f_fr [1] I19 I80 ∧ f_fr [1] L19 L80 := hq80
                obtain ⟨c80_0, c80_1, c80_2⟩ := hq80
                have hF80 := f_fr_tr hF19 c80_1 rfl
                have hG80 := f_fr_tr hG19 c80_2 rfl
                have e80 : (I80 3 4).toInt = (I19 3 4).toInt := congrArg Int32.toInt (congrFun (c80_1 3 rfl) 4)
                have e86_5 : (I80 3 2).toInt = (I19 3 2).toInt := congrArg Int32.toInt (congrFun (c80_1 3 rfl) 2)
                have e86_7 : (I80 3 4).toInt = (I19 3 4).toInt := congrArg Int32.toInt (congrFun (c80_1 3 rfl) 4)
                refine And.intro ⟨(by decide), c80_0, (show (I80 3 2).toInt = 0 from by first | assumption | omega | rfl), (show 0 ≤ (I80 3 4).toInt from by first | assumption | omega), (show 0 ≤ e.toInt from by first | assumption | omega), (show e.toInt ≤ 4 from by first | assumption | omega), (show 4 - e.toInt ≤ d from by first | assumption | omega)⟩ ?_
                intro x86 I86 L86 hq86
                have hq86 : xR I86 ∧ f_fr [1, 3] I80 I86 ∧ f_fr [1] L80 L86 ∧ ((1 ≤ (I86 3 2).toInt ∨ ((I86 3 2).toInt = 0 ∧ (I86 3 4).toInt ≤ 4 ∧ wfK x86 (I80 3 4).toInt (I86 3 4).toInt))) := hq86
                obtain ⟨c86_0, c86_1, c86_2, c86_3⟩ := hq86
                have hF86 := f_fr_tr hF80 c86_1 rfl
                have hG86 := f_fr_tr hG80 c86_2 rfl
                have f86 : 0 ≤ (I86 3 2).toInt := by rcases c86_3 with q | ⟨q, -⟩ <;> omega
                apply And.intro
                · intro h95
                  have h95 : ¬ (I86 3 2).toInt = 0 := h95
                  exact ⟨c86_0, hF86, hG86, (show (1 ≤ (I86 3 2).toInt ∨ ((I86 3 2).toInt = 0 ∧ (I86 3 4).toInt ≤ 4 ∧ (e.toInt = 0 → wfK (Int32.ofInt (-1)) 0 (I86 3 4).toInt) ∧ (¬ e.toInt = 0 → wfK (Int32.ofInt (-1)) (I 3 4).toInt (I86 3 4).toInt))) from by
                    first
                    | exact Or.inl (by omega)
                    | exact Or.inr ⟨by omega, by omega, fun h => by first | exact wfK_join w1 w2 c103_2 | (exfalso; omega), fun h => by first | exact wfK_join w1 w2 c103_2 | (exfalso; omega)⟩)⟩
                · intro h95
                  have h95 : (I86 3 2).toInt = 0 := h95
                  obtain ⟨k86, w2⟩ := (c86_3.resolve_left (fun q => by omega)).2
                  rw [e80] at w2
                  refine And.intro ⟨(show ((6 : Int) = 5 ∨ (6 : Int) = 6) from by first | assumption | omega | rfl), (wfK_ex w1 w2 (by omega) (by omega))⟩ ?_
                  intro x103 I103 L103 hq103
                  have hq103 : I103 = I86 ∧ L103 = L86 ∧ (∀ na nb, wfT x19 na → wfT x86 nb → wfT x103 (1 + na + nb)) := hq103
                  obtain ⟨eI103, eL103, c103_2⟩ := hq103
                  replace eI103 := eI103.symm
                  subst eI103
                  replace eL103 := eL103.symm
                  subst eL103
                  exact ⟨c86_0, hF86, hG86, (show (1 ≤ (I86 3 2).toInt ∨ ((I86 3 2).toInt = 0 ∧ (I86 3 4).toInt ≤ 4 ∧ (e.toInt = 0 → wfK x103 0 (I86 3 4).toInt) ∧ (¬ e.toInt = 0 → wfK x103 (I 3 4).toInt (I86 3 4).toInt))) from by
                    first
                    | exact Or.inl (by omega)
                    | exact Or.inr ⟨by omega, by omega, fun h => by first | exact wfK_join w1 w2 c103_2 | (exfalso; omega), fun h => by first | exact wfK_join w1 w2 c103_2 | (exfalso; omega)⟩)⟩
              · intro h65
                have h65 : (I19 1 2).toInt = 47 := h65
                exfalso
                omega
            · intro h51
              have h51 : ¬ (I19 1 2).toInt = 92 := h51
              exact ⟨c19_0, hF19, hG19, (show (1 ≤ (I19 3 2).toInt ∨ ((I19 3 2).toInt = 0 ∧ (I19 3 4).toInt ≤ 4 ∧ (e.toInt = 0 → wfK x19 0 (I19 3 4).toInt) ∧ (¬ e.toInt = 0 → wfK x19 (I 3 4).toInt (I19 3 4).toInt))) from by
                rcases c19_3 with q | ⟨q1, q2, q3⟩
                · exact Or.inl q
                · exact Or.inr ⟨q1, q2, fun h => by first | exact q3 | (exfalso; omega), fun h => by first | exact q3 | (exfalso; omega)⟩)⟩
      · intro h2
        have h2 : e.toInt = 0 := h2
        have hR13 := xR_f (k := 3) (j := 4) (x := Int32.ofInt 0) hR (by exact f_rng _)
        have hF13 := f_fr_up (k := 3) (r := va_up (I 3) 4 (Int32.ofInt 0)) hF0 rfl
        refine And.intro ⟨(by decide), hR13, (show (I 3 2).toInt = 0 from by first | assumption | omega | rfl), (show 0 ≤ (0 : Int) from by first | assumption | omega), (show 0 ≤ e.toInt from by first | assumption | omega), (show e.toInt ≤ 4 from by first | assumption | omega), (show 4 - e.toInt ≤ d from by first | assumption | omega)⟩ ?_
        intro x19 I19 L19 hq19
        have hq19 : xR I19 ∧ f_fr [1, 3] (va_up I 3 (va_up (I 3) 4 (Int32.ofInt 0))) I19 ∧ f_fr [1] L L19 ∧ ((1 ≤ (I19 3 2).toInt ∨ ((I19 3 2).toInt = 0 ∧ (I19 3 4).toInt ≤ 4 ∧ wfK x19 (0 : Int) (I19 3 4).toInt))) := hq19
        obtain ⟨c19_0, c19_1, c19_2, c19_3⟩ := hq19
        have hF19 := f_fr_tr hF13 c19_1 rfl
        have hG19 := f_fr_tr hG0 c19_2 rfl
        have f19 : 0 ≤ (I19 3 2).toInt := by rcases c19_3 with q | ⟨q, -⟩ <;> omega
        apply And.intro
        · intro h27
          have h27 : ¬ (I19 3 2).toInt = 0 := h27
          exact ⟨c19_0, hF19, hG19, (show (1 ≤ (I19 3 2).toInt ∨ ((I19 3 2).toInt = 0 ∧ (I19 3 4).toInt ≤ 4 ∧ (e.toInt = 0 → wfK x19 0 (I19 3 4).toInt) ∧ (¬ e.toInt = 0 → wfK x19 (I 3 4).toInt (I19 3 4).toInt))) from by
            rcases c19_3 with q | ⟨q1, q2, q3⟩
            · exact Or.inl q
            · exact Or.inr ⟨q1, q2, fun h => by first | exact q3 | (exfalso; omega), fun h => by first | exact q3 | (exfalso; omega)⟩)⟩
        · intro h27
          have h27 : (I19 3 2).toInt = 0 := h27
          obtain ⟨k19, w1⟩ := (c19_3.resolve_left (fun q => by omega)).2
          have lt1 := wfK_lt w1
          apply And.intro
          · intro h39
            have h39 : (I19 1 2).toInt = 47 := h39
            apply And.intro
            · intro h65
              have h65 : ¬ (I19 1 2).toInt = 47 := h65
              exfalso
              omega
            · intro h65
              have h65 : (I19 1 2).toInt = 47 := h65
              refine And.intro c19_0 ?_
              intro I80 L80 hq80
              have hq80 : xR I80 ∧ f_fr [1] I19 I80 ∧ f_fr [1] L19 L80 := hq80
              obtain ⟨c80_0, c80_1, c80_2⟩ := hq80
              have hF80 := f_fr_tr hF19 c80_1 rfl
              have hG80 := f_fr_tr hG19 c80_2 rfl
              have e80 : (I80 3 4).toInt = (I19 3 4).toInt := congrArg Int32.toInt (congrFun (c80_1 3 rfl) 4)
              have e86_4 : (I80 3 2).toInt = (I19 3 2).toInt := congrArg Int32.toInt (congrFun (c80_1 3 rfl) 2)
              have e86_6 : (I80 3 4).toInt = (I19 3 4).toInt := congrArg Int32.toInt (congrFun (c80_1 3 rfl) 4)
              refine And.intro ⟨(by decide), c80_0, (show (I80 3 2).toInt = 0 from by first | assumption | omega | rfl), (show 0 ≤ (I80 3 4).toInt from by first | assumption | omega), (show 0 ≤ e.toInt from by first | assumption | omega), (show e.toInt ≤ 4 from by first | assumption | omega), (show 4 - e.toInt ≤ d from by first | assumption | omega)⟩ ?_
              intro x86 I86 L86 hq86
              have hq86 : xR I86 ∧ f_fr [1, 3] I80 I86 ∧ f_fr [1] L80 L86 ∧ ((1 ≤ (I86 3 2).toInt ∨ ((I86 3 2).toInt = 0 ∧ (I86 3 4).toInt ≤ 4 ∧ wfK x86 (I80 3 4).toInt (I86 3 4).toInt))) := hq86
              obtain ⟨c86_0, c86_1, c86_2, c86_3⟩ := hq86
              have hF86 := f_fr_tr hF80 c86_1 rfl
              have hG86 := f_fr_tr hG80 c86_2 rfl
              have f86 : 0 ≤ (I86 3 2).toInt := by rcases c86_3 with q | ⟨q, -⟩ <;> omega
              apply And.intro
              · intro h95
                have h95 : ¬ (I86 3 2).toInt = 0 := h95
                exact ⟨c86_0, hF86, hG86, (show (1 ≤ (I86 3 2).toInt ∨ ((I86 3 2).toInt = 0 ∧ (I86 3 4).toInt ≤ 4 ∧ (e.toInt = 0 → wfK (Int32.ofInt (-1)) 0 (I86 3 4).toInt) ∧ (¬ e.toInt = 0 → wfK (Int32.ofInt (-1)) (I 3 4).toInt (I86 3 4).toInt))) from by
                  first
                  | exact Or.inl (by omega)
                  | exact Or.inr ⟨by omega, by omega, fun h => by first | exact wfK_join w1 w2 c103_2 | (exfalso; omega), fun h => by first | exact wfK_join w1 w2 c103_2 | (exfalso; omega)⟩)⟩
              · intro h95
                have h95 : (I86 3 2).toInt = 0 := h95
                obtain ⟨k86, w2⟩ := (c86_3.resolve_left (fun q => by omega)).2
                rw [e80] at w2
                refine And.intro ⟨(show ((5 : Int) = 5 ∨ (5 : Int) = 6) from by first | assumption | omega | rfl), (wfK_ex w1 w2 (by omega) (by omega))⟩ ?_
                intro x103 I103 L103 hq103
                have hq103 : I103 = I86 ∧ L103 = L86 ∧ (∀ na nb, wfT x19 na → wfT x86 nb → wfT x103 (1 + na + nb)) := hq103
                obtain ⟨eI103, eL103, c103_2⟩ := hq103
                replace eI103 := eI103.symm
                subst eI103
                replace eL103 := eL103.symm
                subst eL103
                exact ⟨c86_0, hF86, hG86, (show (1 ≤ (I86 3 2).toInt ∨ ((I86 3 2).toInt = 0 ∧ (I86 3 4).toInt ≤ 4 ∧ (e.toInt = 0 → wfK x103 0 (I86 3 4).toInt) ∧ (¬ e.toInt = 0 → wfK x103 (I 3 4).toInt (I86 3 4).toInt))) from by
                  first
                  | exact Or.inl (by omega)
                  | exact Or.inr ⟨by omega, by omega, fun h => by first | exact wfK_join w1 w2 c103_2 | (exfalso; omega), fun h => by first | exact wfK_join w1 w2 c103_2 | (exfalso; omega)⟩)⟩
          · intro h39
            have h39 : ¬ (I19 1 2).toInt = 47 := h39
            apply And.intro
            · intro h51
              have h51 : (I19 1 2).toInt = 92 := h51
              apply And.intro
              · intro h65
                have h65 : ¬ (I19 1 2).toInt = 47 := h65
                refine And.intro c19_0 ?_
                intro I80 L80 hq80
                have hq80 : xR I80 ∧ f_fr [1] I19 I80 ∧ f_fr [1] L19 L80 := hq80
                obtain ⟨c80_0, c80_1, c80_2⟩ := hq80
                have hF80 := f_fr_tr hF19 c80_1 rfl
                have hG80 := f_fr_tr hG19 c80_2 rfl
                have e80 : (I80 3 4).toInt = (I19 3 4).toInt := congrArg Int32.toInt (congrFun (c80_1 3 rfl) 4)
                have e86_4 : (I80 3 2).toInt = (I19 3 2).toInt := congrArg Int32.toInt (congrFun (c80_1 3 rfl) 2)
                have e86_6 : (I80 3 4).toInt = (I19 3 4).toInt := congrArg Int32.toInt (congrFun (c80_1 3 rfl) 4)
                refine And.intro ⟨(by decide), c80_0, (show (I80 3 2).toInt = 0 from by first | assumption | omega | rfl), (show 0 ≤ (I80 3 4).toInt from by first | assumption | omega), (show 0 ≤ e.toInt from by first | assumption | omega), (show e.toInt ≤ 4 from by first | assumption | omega), (show 4 - e.toInt ≤ d from by first | assumption | omega)⟩ ?_
                intro x86 I86 L86 hq86
                have hq86 : xR I86 ∧ f_fr [1, 3] I80 I86 ∧ f_fr [1] L80 L86 ∧ ((1 ≤ (I86 3 2).toInt ∨ ((I86 3 2).toInt = 0 ∧ (I86 3 4).toInt ≤ 4 ∧ wfK x86 (I80 3 4).toInt (I86 3 4).toInt))) := hq86
                obtain ⟨c86_0, c86_1, c86_2, c86_3⟩ := hq86
                have hF86 := f_fr_tr hF80 c86_1 rfl
                have hG86 := f_fr_tr hG80 c86_2 rfl
                have f86 : 0 ≤ (I86 3 2).toInt := by rcases c86_3 with q | ⟨q, -⟩ <;> omega
                apply And.intro
                · intro h95
                  have h95 : ¬ (I86 3 2).toInt = 0 := h95
                  exact ⟨c86_0, hF86, hG86, (show (1 ≤ (I86 3 2).toInt ∨ ((I86 3 2).toInt = 0 ∧ (I86 3 4).toInt ≤ 4 ∧ (e.toInt = 0 → wfK (Int32.ofInt (-1)) 0 (I86 3 4).toInt) ∧ (¬ e.toInt = 0 → wfK (Int32.ofInt (-1)) (I 3 4).toInt (I86 3 4).toInt))) from by
                    first
                    | exact Or.inl (by omega)
                    | exact Or.inr ⟨by omega, by omega, fun h => by first | exact wfK_join w1 w2 c103_2 | (exfalso; omega), fun h => by first | exact wfK_join w1 w2 c103_2 | (exfalso; omega)⟩)⟩
                · intro h95
                  have h95 : (I86 3 2).toInt = 0 := h95
                  obtain ⟨k86, w2⟩ := (c86_3.resolve_left (fun q => by omega)).2
                  rw [e80] at w2
                  refine And.intro ⟨(show ((6 : Int) = 5 ∨ (6 : Int) = 6) from by first | assumption | omega | rfl), (wfK_ex w1 w2 (by omega) (by omega))⟩ ?_
                  intro x103 I103 L103 hq103
                  have hq103 : I103 = I86 ∧ L103 = L86 ∧ (∀ na nb, wfT x19 na → wfT x86 nb → wfT x103 (1 + na + nb)) := hq103
                  obtain ⟨eI103, eL103, c103_2⟩ := hq103
                  replace eI103 := eI103.symm
                  subst eI103
                  replace eL103 := eL103.symm
                  subst eL103
                  exact ⟨c86_0, hF86, hG86, (show (1 ≤ (I86 3 2).toInt ∨ ((I86 3 2).toInt = 0 ∧ (I86 3 4).toInt ≤ 4 ∧ (e.toInt = 0 → wfK x103 0 (I86 3 4).toInt) ∧ (¬ e.toInt = 0 → wfK x103 (I 3 4).toInt (I86 3 4).toInt))) from by
                    first
                    | exact Or.inl (by omega)
                    | exact Or.inr ⟨by omega, by omega, fun h => by first | exact wfK_join w1 w2 c103_2 | (exfalso; omega), fun h => by first | exact wfK_join w1 w2 c103_2 | (exfalso; omega)⟩)⟩
              · intro h65
                have h65 : (I19 1 2).toInt = 47 := h65
                exfalso
                omega
            · intro h51
              have h51 : ¬ (I19 1 2).toInt = 92 := h51
              exact ⟨c19_0, hF19, hG19, (show (1 ≤ (I19 3 2).toInt ∨ ((I19 3 2).toInt = 0 ∧ (I19 3 4).toInt ≤ 4 ∧ (e.toInt = 0 → wfK x19 0 (I19 3 4).toInt) ∧ (¬ e.toInt = 0 → wfK x19 (I 3 4).toInt (I19 3 4).toInt))) from by
                rcases c19_3 with q | ⟨q1, q2, q3⟩
                · exact Or.inl q
                · exact Or.inr ⟨q1, q2, fun h => by first | exact q3 | (exfalso; omega), fun h => by first | exact q3 | (exfalso; omega)⟩)⟩
    -- pat [.ref 3, .ref 10, .int e]
    · skip
      have p0 : dpos (d + 1) := p0
      have hR : xR I := hR
      have p3 : (I 3 2).toInt = 0 := p3
      have p4 : (e.toInt = 0 ∨ 0 ≤ (I 3 4).toInt) := p4
      have p5 : 0 ≤ e.toInt := p5
      have p6 : e.toInt ≤ 4 := p6
      have p7 : 5 - e.toInt ≤ (d + 1) := p7
      have hF0 : f_fr [1, 3] I I := f_fr_rf
      have hG0 : f_fr [1] L L := f_fr_rf
      refine f_wp_ok C f_cl flX4_ok fiX4_ok fjX4_ok (sn := none) (fun j h => by cases h) (cs := (f_cnl [(132, (3, 1, 4, (pX4_readUnit d), qX4_readUnit)), (61, (1, 0, 8, pX9_next, qX9_next))])) (cz := (f_cnl [(137, (3, 1, 0, pX8_join, qX8_join))])) (f_cnl_of (P := fun j S => f_cok pP l eP (f_rm (2 * (d + 1) + 14)) sP mP aP bP hP9 cP xY 80 a cy dC dI 6 _ _ (.invokevirtual j) true S) (List.forall_mem_cons.mpr ⟨f_cokV C (mX4_readUnit hinj d ih) (ci := 4) rfl (List.forall_mem_cons.mpr ⟨(mlX4_ok _ (List.mem_of_getElem? (i := 20) rfl)), kc_X4_readUnit⟩) (by decide +kernel) ⟨by simp only [f_rm]; omega, by simp only [f_rm]; omega⟩, List.forall_mem_cons.mpr ⟨f_cokV C (mX9_next hinj) (ci := 8) rfl (List.forall_mem_cons.mpr ⟨(mlX4_ok _ (List.mem_of_getElem? (i := 7) rfl)), kc_X9_next⟩) (by decide +kernel) ⟨by simp only [f_rm]; omega, by simp only [f_rm]; omega⟩, fun _ h => absurd h List.not_mem_nil⟩⟩)) (f_cnl_of (P := fun j S => f_cok pP l eP (f_rm (2 * (d + 1) + 14)) sP mP aP bP hP9 cP xY 80 a cy dC dI 6 _ _ (.invokestatic j) false S) (List.forall_mem_cons.mpr ⟨f_cokS C (mX8_join hinj) (List.forall_mem_cons.mpr ⟨(mlX4_ok _ (List.mem_of_getElem? (i := 21) rfl)), kc_X8_join⟩) (by decide +kernel) ⟨by simp only [f_rm]; omega, by simp only [f_rm]; omega⟩, fun _ h => absurd h List.not_mem_nil⟩)) tX4_readTag_ok (cut := (fun _ => none)) (fun t P h => by cases h) 51 0 tX4_readTag tX4_readTag_ok _ _ _ _ ?_
      apply And.intro
      · intro h2
        have h2 : ¬ e.toInt = 0 := h2
        have hR13 := xR_f (k := 3) (j := 4) (x := I 3 4) hR (by exact f_rng _)
        have hF13 := f_fr_up (k := 3) (r := va_up (I 3) 4 (I 3 4)) hF0 rfl
        refine And.intro ⟨(by decide), hR13, (show (I 3 2).toInt = 0 from by first | assumption | omega | rfl), (show 0 ≤ (I 3 4).toInt from by first | assumption | omega), (show 0 ≤ e.toInt from by first | assumption | omega), (show e.toInt ≤ 4 from by first | assumption | omega), (show 4 - e.toInt ≤ d from by first | assumption | omega)⟩ ?_
        intro x19 I19 L19 hq19
        have hq19 : xR I19 ∧ f_fr [1, 3] (va_up I 3 (va_up (I 3) 4 (I 3 4))) I19 ∧ f_fr [1] L L19 ∧ ((1 ≤ (I19 3 2).toInt ∨ ((I19 3 2).toInt = 0 ∧ (I19 3 4).toInt ≤ 4 ∧ wfK x19 (I 3 4).toInt (I19 3 4).toInt))) := hq19
        obtain ⟨c19_0, c19_1, c19_2, c19_3⟩ := hq19
        have hF19 := f_fr_tr hF13 c19_1 rfl
        have hG19 := f_fr_tr hG0 c19_2 rfl
        have f19 : 0 ≤ (I19 3 2).toInt := by rcases c19_3 with q | ⟨q, -⟩ <;> omega
        apply And.intro
        · intro h27
          have h27 : ¬ (I19 3 2).toInt = 0 := h27
          exact ⟨c19_0, hF19, hG19, (show (1 ≤ (I19 3 2).toInt ∨ ((I19 3 2).toInt = 0 ∧ (I19 3 4).toInt ≤ 4 ∧ (e.toInt = 0 → wfK x19 0 (I19 3 4).toInt) ∧ (¬ e.toInt = 0 → wfK x19 (I 3 4).toInt (I19 3 4).toInt))) from by
            rcases c19_3 with q | ⟨q1, q2, q3⟩
            · exact Or.inl q
            · exact Or.inr ⟨q1, q2, fun h => by first | exact q3 | (exfalso; omega), fun h => by first | exact q3 | (exfalso; omega)⟩)⟩
        · intro h27
          have h27 : (I19 3 2).toInt = 0 := h27
          obtain ⟨k19, w1⟩ := (c19_3.resolve_left (fun q => by omega)).2
          have lt1 := wfK_lt w1
          apply And.intro
          · intro h39
            have h39 : (I19 1 2).toInt = 47 := h39
            apply And.intro
            · intro h65
              have h65 : ¬ (I19 1 2).toInt = 47 := h65
              exfalso
              omega
            · intro h65
              have h65 : (I19 1 2).toInt = 47 := h65
              refine And.intro c19_0 ?_
              intro I80 L80 hq80
              have hq80 : xR I80 ∧ f_fr [1] I19 I80 ∧ f_fr [1] L19 L80 := hq80
              obtain ⟨c80_0, c80_1, c80_2⟩ := hq80
              have hF80 := f_fr_tr hF19 c80_1 rfl
              have hG80 := f_fr_tr hG19 c80_2 rfl
              have e80 : (I80 3 4).toInt = (I19 3 4).toInt := congrArg Int32.toInt (congrFun (c80_1 3 rfl) 4)
              have e86_5 : (I80 3 2).toInt = (I19 3 2).toInt := congrArg Int32.toInt (congrFun (c80_1 3 rfl) 2)
              have e86_7 : (I80 3 4).toInt = (I19 3 4).toInt := congrArg Int32.toInt (congrFun (c80_1 3 rfl) 4)
              refine And.intro ⟨(by decide), c80_0, (show (I80 3 2).toInt = 0 from by first | assumption | omega | rfl), (show 0 ≤ (I80 3 4).toInt from by first | assumption | omega), (show 0 ≤ e.toInt from by first | assumption | omega), (show e.toInt ≤ 4 from by first | assumption | omega), (show 4 - e.toInt ≤ d from by first | assumption | omega)⟩ ?_
              intro x86 I86 L86 hq86
              have hq86 : xR I86 ∧ f_fr [1, 3] I80 I86 ∧ f_fr [1] L80 L86 ∧ ((1 ≤ (I86 3 2).toInt ∨ ((I86 3 2).toInt = 0 ∧ (I86 3 4).toInt ≤ 4 ∧ wfK x86 (I80 3 4).toInt (I86 3 4).toInt))) := hq86
              obtain ⟨c86_0, c86_1, c86_2, c86_3⟩ := hq86
              have hF86 := f_fr_tr hF80 c86_1 rfl
              have hG86 := f_fr_tr hG80 c86_2 rfl
              have f86 : 0 ≤ (I86 3 2).toInt := by rcases c86_3 with q | ⟨q, -⟩ <;> omega
              apply And.intro
              · intro h95
                have h95 : ¬ (I86 3 2).toInt = 0 := h95
                exact ⟨c86_0, hF86, hG86, (show (1 ≤ (I86 3 2).toInt ∨ ((I86 3 2).toInt = 0 ∧ (I86 3 4).toInt ≤ 4 ∧ (e.toInt = 0 → wfK (Int32.ofInt (-1)) 0 (I86 3 4).toInt) ∧ (¬ e.toInt = 0 → wfK (Int32.ofInt (-1)) (I 3 4).toInt (I86 3 4).toInt))) from by
                  first
                  | exact Or.inl (by omega)
                  | exact Or.inr ⟨by omega, by omega, fun h => by first | exact wfK_join w1 w2 c103_2 | (exfalso; omega), fun h => by first | exact wfK_join w1 w2 c103_2 | (exfalso; omega)⟩)⟩
              · intro h95
                have h95 : (I86 3 2).toInt = 0 := h95
                obtain ⟨k86, w2⟩ := (c86_3.resolve_left (fun q => by omega)).2
                rw [e80] at w2
                refine And.intro ⟨(show ((5 : Int) = 5 ∨ (5 : Int) = 6) from by first | assumption | omega | rfl), (wfK_ex w1 w2 (by omega) (by omega))⟩ ?_
                intro x103 I103 L103 hq103
                have hq103 : I103 = I86 ∧ L103 = L86 ∧ (∀ na nb, wfT x19 na → wfT x86 nb → wfT x103 (1 + na + nb)) := hq103
                obtain ⟨eI103, eL103, c103_2⟩ := hq103
                replace eI103 := eI103.symm
                subst eI103
                replace eL103 := eL103.symm
                subst eL103
                exact ⟨c86_0, hF86, hG86, (show (1 ≤ (I86 3 2).toInt ∨ ((I86 3 2).toInt = 0 ∧ (I86 3 4).toInt ≤ 4 ∧ (e.toInt = 0 → wfK x103 0 (I86 3 4).toInt) ∧ (¬ e.toInt = 0 → wfK x103 (I 3 4).toInt (I86 3 4).toInt))) from by
                  first
                  | exact Or.inl (by omega)
                  | exact Or.inr ⟨by omega, by omega, fun h => by first | exact wfK_join w1 w2 c103_2 | (exfalso; omega), fun h => by first | exact wfK_join w1 w2 c103_2 | (exfalso; omega)⟩)⟩
          · intro h39
            have h39 : ¬ (I19 1 2).toInt = 47 := h39
            apply And.intro
            · intro h51
              have h51 : (I19 1 2).toInt = 92 := h51
              apply And.intro
              · intro h65
                have h65 : ¬ (I19 1 2).toInt = 47 := h65
                refine And.intro c19_0 ?_
                intro I80 L80 hq80
                have hq80 : xR I80 ∧ f_fr [1] I19 I80 ∧ f_fr [1] L19 L80 := hq80
                obtain ⟨c80_0, c80_1, c80_2⟩ := hq80
                have hF80 := f_fr_tr hF19 c80_1 rfl
                have hG80 := f_fr_tr hG19 c80_2 rfl
                have e80 : (I80 3 4).toInt = (I19 3 4).toInt := congrArg Int32.toInt (congrFun (c80_1 3 rfl) 4)
                have e86_5 : (I80 3 2).toInt = (I19 3 2).toInt := congrArg Int32.toInt (congrFun (c80_1 3 rfl) 2)
                have e86_7 : (I80 3 4).toInt = (I19 3 4).toInt := congrArg Int32.toInt (congrFun (c80_1 3 rfl) 4)
                refine And.intro ⟨(by decide), c80_0, (show (I80 3 2).toInt = 0 from by first | assumption | omega | rfl), (show 0 ≤ (I80 3 4).toInt from by first | assumption | omega), (show 0 ≤ e.toInt from by first | assumption | omega), (show e.toInt ≤ 4 from by first | assumption | omega), (show 4 - e.toInt ≤ d from by first | assumption | omega)⟩ ?_
                intro x86 I86 L86 hq86
                have hq86 : xR I86 ∧ f_fr [1, 3] I80 I86 ∧ f_fr [1] L80 L86 ∧ ((1 ≤ (I86 3 2).toInt ∨ ((I86 3 2).toInt = 0 ∧ (I86 3 4).toInt ≤ 4 ∧ wfK x86 (I80 3 4).toInt (I86 3 4).toInt))) := hq86
                obtain ⟨c86_0, c86_1, c86_2, c86_3⟩ := hq86
                have hF86 := f_fr_tr hF80 c86_1 rfl
                have hG86 := f_fr_tr hG80 c86_2 rfl
                have f86 : 0 ≤ (I86 3 2).toInt := by rcases c86_3 with q | ⟨q, -⟩ <;> omega
                apply And.intro
                · intro h95
                  have h95 : ¬ (I86 3 2).toInt = 0 := h95
                  exact ⟨c86_0, hF86, hG86, (show (1 ≤ (I86 3 2).toInt ∨ ((I86 3 2).toInt = 0 ∧ (I86 3 4).toInt ≤ 4 ∧ (e.toInt = 0 → wfK (Int32.ofInt (-1)) 0 (I86 3 4).toInt) ∧ (¬ e.toInt = 0 → wfK (Int32.ofInt (-1)) (I 3 4).toInt (I86 3 4).toInt))) from by
                    first
                    | exact Or.inl (by omega)
                    | exact Or.inr ⟨by omega, by omega, fun h => by first | exact wfK_join w1 w2 c103_2 | (exfalso; omega), fun h => by first | exact wfK_join w1 w2 c103_2 | (exfalso; omega)⟩)⟩
                · intro h95
                  have h95 : (I86 3 2).toInt = 0 := h95
                  obtain ⟨k86, w2⟩ := (c86_3.resolve_left (fun q => by omega)).2
                  rw [e80] at w2
                  refine And.intro ⟨(show ((6 : Int) = 5 ∨ (6 : Int) = 6) from by first | assumption | omega | rfl), (wfK_ex w1 w2 (by omega) (by omega))⟩ ?_
                  intro x103 I103 L103 hq103
                  have hq103 : I103 = I86 ∧ L103 = L86 ∧ (∀ na nb, wfT x19 na → wfT x86 nb → wfT x103 (1 + na + nb)) := hq103
                  obtain ⟨eI103, eL103, c103_2⟩ := hq103
                  replace eI103 := eI103.symm
                  subst eI103
                  replace eL103 := eL103.symm
                  subst eL103
                  exact ⟨c86_0, hF86, hG86, (show (1 ≤ (I86 3 2).toInt ∨ ((I86 3 2).toInt = 0 ∧ (I86 3 4).toInt ≤ 4 ∧ (e.toInt = 0 → wfK x103 0 (I86 3 4).toInt) ∧ (¬ e.toInt = 0 → wfK x103 (I 3 4).toInt (I86 3 4).toInt))) from by
                    first
                    | exact Or.inl (by omega)
                    | exact Or.inr ⟨by omega, by omega, fun h => by first | exact wfK_join w1 w2 c103_2 | (exfalso; omega), fun h => by first | exact wfK_join w1 w2 c103_2 | (exfalso; omega)⟩)⟩
              · intro h65
                have h65 : (I19 1 2).toInt = 47 := h65
                exfalso
                omega
            · intro h51
              have h51 : ¬ (I19 1 2).toInt = 92 := h51
              exact ⟨c19_0, hF19, hG19, (show (1 ≤ (I19 3 2).toInt ∨ ((I19 3 2).toInt = 0 ∧ (I19 3 4).toInt ≤ 4 ∧ (e.toInt = 0 → wfK x19 0 (I19 3 4).toInt) ∧ (¬ e.toInt = 0 → wfK x19 (I 3 4).toInt (I19 3 4).toInt))) from by
                rcases c19_3 with q | ⟨q1, q2, q3⟩
                · exact Or.inl q
                · exact Or.inr ⟨q1, q2, fun h => by first | exact q3 | (exfalso; omega), fun h => by first | exact q3 | (exfalso; omega)⟩)⟩
      · intro h2
        have h2 : e.toInt = 0 := h2
        have hR13 := xR_f (k := 3) (j := 4) (x := Int32.ofInt 0) hR (by exact f_rng _)
        have hF13 := f_fr_up (k := 3) (r := va_up (I 3) 4 (Int32.ofInt 0)) hF0 rfl
        refine And.intro ⟨(by decide), hR13, (show (I 3 2).toInt = 0 from by first | assumption | omega | rfl), (show 0 ≤ (0 : Int) from by first | assumption | omega), (show 0 ≤ e.toInt from by first | assumption | omega), (show e.toInt ≤ 4 from by first | assumption | omega), (show 4 - e.toInt ≤ d from by first | assumption | omega)⟩ ?_
        intro x19 I19 L19 hq19
        have hq19 : xR I19 ∧ f_fr [1, 3] (va_up I 3 (va_up (I 3) 4 (Int32.ofInt 0))) I19 ∧ f_fr [1] L L19 ∧ ((1 ≤ (I19 3 2).toInt ∨ ((I19 3 2).toInt = 0 ∧ (I19 3 4).toInt ≤ 4 ∧ wfK x19 (0 : Int) (I19 3 4).toInt))) := hq19
        obtain ⟨c19_0, c19_1, c19_2, c19_3⟩ := hq19
        have hF19 := f_fr_tr hF13 c19_1 rfl
        have hG19 := f_fr_tr hG0 c19_2 rfl
        have f19 : 0 ≤ (I19 3 2).toInt := by rcases c19_3 with q | ⟨q, -⟩ <;> omega
        apply And.intro
        · intro h27
          have h27 : ¬ (I19 3 2).toInt = 0 := h27
          exact ⟨c19_0, hF19, hG19, (show (1 ≤ (I19 3 2).toInt ∨ ((I19 3 2).toInt = 0 ∧ (I19 3 4).toInt ≤ 4 ∧ (e.toInt = 0 → wfK x19 0 (I19 3 4).toInt) ∧ (¬ e.toInt = 0 → wfK x19 (I 3 4).toInt (I19 3 4).toInt))) from by
            rcases c19_3 with q | ⟨q1, q2, q3⟩
            · exact Or.inl q
            · exact Or.inr ⟨q1, q2, fun h => by first | exact q3 | (exfalso; omega), fun h => by first | exact q3 | (exfalso; omega)⟩)⟩
        · intro h27
          have h27 : (I19 3 2).toInt = 0 := h27
          obtain ⟨k19, w1⟩ := (c19_3.resolve_left (fun q => by omega)).2
          have lt1 := wfK_lt w1
          apply And.intro
          · intro h39
            have h39 : (I19 1 2).toInt = 47 := h39
            apply And.intro
            · intro h65
              have h65 : ¬ (I19 1 2).toInt = 47 := h65
              exfalso
              omega
            · intro h65
              have h65 : (I19 1 2).toInt = 47 := h65
              refine And.intro c19_0 ?_
              intro I80 L80 hq80
              have hq80 : xR I80 ∧ f_fr [1] I19 I80 ∧ f_fr [1] L19 L80 := hq80
              obtain ⟨c80_0, c80_1, c80_2⟩ := hq80
              have hF80 := f_fr_tr hF19 c80_1 rfl
              have hG80 := f_fr_tr hG19 c80_2 rfl
              have e80 : (I80 3 4).toInt = (I19 3 4).toInt := congrArg Int32.toInt (congrFun (c80_1 3 rfl) 4)
              have e86_4 : (I80 3 2).toInt = (I19 3 2).toInt := congrArg Int32.toInt (congrFun (c80_1 3 rfl) 2)
              have e86_6 : (I80 3 4).toInt = (I19 3 4).toInt := congrArg Int32.toInt (congrFun (c80_1 3 rfl) 4)
              refine And.intro ⟨(by decide), c80_0, (show (I80 3 2).toInt = 0 from by first | assumption | omega | rfl), (show 0 ≤ (I80 3 4).toInt from by first | assumption | omega), (show 0 ≤ e.toInt from by first | assumption | omega), (show e.toInt ≤ 4 from by first | assumption | omega), (show 4 - e.toInt ≤ d from by first | assumption | omega)⟩ ?_
              intro x86 I86 L86 hq86
              have hq86 : xR I86 ∧ f_fr [1, 3] I80 I86 ∧ f_fr [1] L80 L86 ∧ ((1 ≤ (I86 3 2).toInt ∨ ((I86 3 2).toInt = 0 ∧ (I86 3 4).toInt ≤ 4 ∧ wfK x86 (I80 3 4).toInt (I86 3 4).toInt))) := hq86
              obtain ⟨c86_0, c86_1, c86_2, c86_3⟩ := hq86
              have hF86 := f_fr_tr hF80 c86_1 rfl
              have hG86 := f_fr_tr hG80 c86_2 rfl
              have f86 : 0 ≤ (I86 3 2).toInt := by rcases c86_3 with q | ⟨q, -⟩ <;> omega
              apply And.intro
              · intro h95
                have h95 : ¬ (I86 3 2).toInt = 0 := h95
                exact ⟨c86_0, hF86, hG86, (show (1 ≤ (I86 3 2).toInt ∨ ((I86 3 2).toInt = 0 ∧ (I86 3 4).toInt ≤ 4 ∧ (e.toInt = 0 → wfK (Int32.ofInt (-1)) 0 (I86 3 4).toInt) ∧ (¬ e.toInt = 0 → wfK (Int32.ofInt (-1)) (I 3 4).toInt (I86 3 4).toInt))) from by
                  first
                  | exact Or.inl (by omega)
                  | exact Or.inr ⟨by omega, by omega, fun h => by first | exact wfK_join w1 w2 c103_2 | (exfalso; omega), fun h => by first | exact wfK_join w1 w2 c103_2 | (exfalso; omega)⟩)⟩
              · intro h95
                have h95 : (I86 3 2).toInt = 0 := h95
                obtain ⟨k86, w2⟩ := (c86_3.resolve_left (fun q => by omega)).2
                rw [e80] at w2
                refine And.intro ⟨(show ((5 : Int) = 5 ∨ (5 : Int) = 6) from by first | assumption | omega | rfl), (wfK_ex w1 w2 (by omega) (by omega))⟩ ?_
                intro x103 I103 L103 hq103
                have hq103 : I103 = I86 ∧ L103 = L86 ∧ (∀ na nb, wfT x19 na → wfT x86 nb → wfT x103 (1 + na + nb)) := hq103
                obtain ⟨eI103, eL103, c103_2⟩ := hq103
                replace eI103 := eI103.symm
                subst eI103
                replace eL103 := eL103.symm
                subst eL103
                exact ⟨c86_0, hF86, hG86, (show (1 ≤ (I86 3 2).toInt ∨ ((I86 3 2).toInt = 0 ∧ (I86 3 4).toInt ≤ 4 ∧ (e.toInt = 0 → wfK x103 0 (I86 3 4).toInt) ∧ (¬ e.toInt = 0 → wfK x103 (I 3 4).toInt (I86 3 4).toInt))) from by
                  first
                  | exact Or.inl (by omega)
                  | exact Or.inr ⟨by omega, by omega, fun h => by first | exact wfK_join w1 w2 c103_2 | (exfalso; omega), fun h => by first | exact wfK_join w1 w2 c103_2 | (exfalso; omega)⟩)⟩
          · intro h39
            have h39 : ¬ (I19 1 2).toInt = 47 := h39
            apply And.intro
            · intro h51
              have h51 : (I19 1 2).toInt = 92 := h51
              apply And.intro
              · intro h65
                have h65 : ¬ (I19 1 2).toInt = 47 := h65
                refine And.intro c19_0 ?_
                intro I80 L80 hq80
                have hq80 : xR I80 ∧ f_fr [1] I19 I80 ∧ f_fr [1] L19 L80 := hq80
                obtain ⟨c80_0, c80_1, c80_2⟩ := hq80
                have hF80 := f_fr_tr hF19 c80_1 rfl
                have hG80 := f_fr_tr hG19 c80_2 rfl
                have e80 : (I80 3 4).toInt = (I19 3 4).toInt := congrArg Int32.toInt (congrFun (c80_1 3 rfl) 4)
                have e86_4 : (I80 3 2).toInt = (I19 3 2).toInt := congrArg Int32.toInt (congrFun (c80_1 3 rfl) 2)
                have e86_6 : (I80 3 4).toInt = (I19 3 4).toInt := congrArg Int32.toInt (congrFun (c80_1 3 rfl) 4)
                refine And.intro ⟨(by decide), c80_0, (show (I80 3 2).toInt = 0 from by first | assumption | omega | rfl), (show 0 ≤ (I80 3 4).toInt from by first | assumption | omega), (show 0 ≤ e.toInt from by first | assumption | omega), (show e.toInt ≤ 4 from by first | assumption | omega), (show 4 - e.toInt ≤ d from by first | assumption | omega)⟩ ?_
                intro x86 I86 L86 hq86
                have hq86 : xR I86 ∧ f_fr [1, 3] I80 I86 ∧ f_fr [1] L80 L86 ∧ ((1 ≤ (I86 3 2).toInt ∨ ((I86 3 2).toInt = 0 ∧ (I86 3 4).toInt ≤ 4 ∧ wfK x86 (I80 3 4).toInt (I86 3 4).toInt))) := hq86
                obtain ⟨c86_0, c86_1, c86_2, c86_3⟩ := hq86
                have hF86 := f_fr_tr hF80 c86_1 rfl
                have hG86 := f_fr_tr hG80 c86_2 rfl
                have f86 : 0 ≤ (I86 3 2).toInt := by rcases c86_3 with q | ⟨q, -⟩ <;> omega
                apply And.intro
                · intro h95
                  have h95 : ¬ (I86 3 2).toInt = 0 := h95
                  exact ⟨c86_0, hF86, hG86, (show (1 ≤ (I86 3 2).toInt ∨ ((I86 3 2).toInt = 0 ∧ (I86 3 4).toInt ≤ 4 ∧ (e.toInt = 0 → wfK (Int32.ofInt (-1)) 0 (I86 3 4).toInt) ∧ (¬ e.toInt = 0 → wfK (Int32.ofInt (-1)) (I 3 4).toInt (I86 3 4).toInt))) from by
                    first
                    | exact Or.inl (by omega)
                    | exact Or.inr ⟨by omega, by omega, fun h => by first | exact wfK_join w1 w2 c103_2 | (exfalso; omega), fun h => by first | exact wfK_join w1 w2 c103_2 | (exfalso; omega)⟩)⟩
                · intro h95
                  have h95 : (I86 3 2).toInt = 0 := h95
                  obtain ⟨k86, w2⟩ := (c86_3.resolve_left (fun q => by omega)).2
                  rw [e80] at w2
                  refine And.intro ⟨(show ((6 : Int) = 5 ∨ (6 : Int) = 6) from by first | assumption | omega | rfl), (wfK_ex w1 w2 (by omega) (by omega))⟩ ?_
                  intro x103 I103 L103 hq103
                  have hq103 : I103 = I86 ∧ L103 = L86 ∧ (∀ na nb, wfT x19 na → wfT x86 nb → wfT x103 (1 + na + nb)) := hq103
                  obtain ⟨eI103, eL103, c103_2⟩ := hq103
                  replace eI103 := eI103.symm
                  subst eI103
                  replace eL103 := eL103.symm
                  subst eL103
                  exact ⟨c86_0, hF86, hG86, (show (1 ≤ (I86 3 2).toInt ∨ ((I86 3 2).toInt = 0 ∧ (I86 3 4).toInt ≤ 4 ∧ (e.toInt = 0 → wfK x103 0 (I86 3 4).toInt) ∧ (¬ e.toInt = 0 → wfK x103 (I 3 4).toInt (I86 3 4).toInt))) from by
                    first
                    | exact Or.inl (by omega)
                    | exact Or.inr ⟨by omega, by omega, fun h => by first | exact wfK_join w1 w2 c103_2 | (exfalso; omega), fun h => by first | exact wfK_join w1 w2 c103_2 | (exfalso; omega)⟩)⟩
              · intro h65
                have h65 : (I19 1 2).toInt = 47 := h65
                exfalso
                omega
            · intro h51
              have h51 : ¬ (I19 1 2).toInt = 92 := h51
              exact ⟨c19_0, hF19, hG19, (show (1 ≤ (I19 3 2).toInt ∨ ((I19 3 2).toInt = 0 ∧ (I19 3 4).toInt ≤ 4 ∧ (e.toInt = 0 → wfK x19 0 (I19 3 4).toInt) ∧ (¬ e.toInt = 0 → wfK x19 (I 3 4).toInt (I19 3 4).toInt))) from by
                rcases c19_3 with q | ⟨q1, q2, q3⟩
                · exact Or.inl q
                · exact Or.inr ⟨q1, q2, fun h => by first | exact q3 | (exfalso; omega), fun h => by first | exact q3 | (exfalso; omega)⟩)⟩
    -- pat [.ref 3, .ref k, .int e]
-- callers take X4_readTag at depth 5
-- lev X4_readTag 24
