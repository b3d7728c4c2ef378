theorem t_div {x y : Int32} (hx : 0 ≤ x.toInt) (hy : 0 < y.toInt) : (x / y).toInt = x.toInt / y.toInt := by
  have h2 := (f_rng x).2
  have h3 := (f_rng y).2
  have ex := t_nI hx
  have ey := t_nI (x := y) (by omega)
  rw [ex, ey, pk_div (by omega) (by omega) (by omega), nI_toInt (by
    have : x.toInt.toNat / y.toInt.toNat ≤ x.toInt.toNat := Nat.div_le_self _ _
    omega), ← ex, ← ey]
  rw [Int.natCast_ediv]
  congr 1 <;> omega
theorem t_rem {x y : Int32} (hx : 0 ≤ x.toInt) (hy : 0 < y.toInt) : (x - x / y * y).toInt = x.toInt % y.toInt := by
  have h2 := (f_rng x).2
  have h3 := (f_rng y).2
  have ex := t_nI hx
  have ey := t_nI (x := y) (by omega)
  rw [ex, ey, pk_rem (by omega) (by omega) (by omega), nI_toInt (by
    have : x.toInt.toNat % y.toInt.toNat ≤ x.toInt.toNat := Nat.mod_le _ _
    omega), ← ex, ← ey]
  rw [Int.natCast_emod]
  congr 1 <;> omega
theorem t_ne0 {y : Int32} (h : 0 < y.toInt) : ¬ y = 0 := fun e => by
  rw [e] at h
  exact absurd h (by decide)
def tX8_howMany : List (Instr × Nat) := [(.iconst 2, 1), (.iload_n 1, 1), (.imul, 1), (.iload_n 1, 1), (.imul, 1), (.istore_n 2, 1), (.iload_n 0, 1), (.ifCond .ne 5, 3), (.iload_n 1, 1), (.ireturn, 1), (.iload_n 0, 1), (.iconst 1, 1), (.if_icmp .ne 9, 3), (.iload_n 1, 1), (.iload_n 2, 1), (.iadd, 1), (.goto 12, 3), (.iload_n 1, 1), (.iload_n 2, 1), (.iadd, 1), (.iconst 4, 1), (.iload_n 1, 1), (.imul, 1), (.iload_n 2, 1), (.imul, 1), (.iadd, 1), (.ireturn, 1)]
theorem tX8_howMany_ok : f_chk cX8_howMany 0 tX8_howMany = true := by decide +kernel
def pX8_howMany (av : List Value) (I : fM) (L : fN) : Prop := match av with
  | [.int s, .int k] => 0 ≤ k.toInt ∧ k.toInt ≤ 5
  | _ => False
def qX8_howMany (av : List Value) (I : fM) (L : fN) (r : Value) (I' : fM) (L' : fN) : Prop := match av, r with
  | [.int s, .int k], .int x => I' = I ∧ L' = L ∧ (s.toInt = 0 → x.toInt = k.toInt) ∧ (s.toInt = 1 → x.toInt = k.toInt + 2 * (k.toInt * k.toInt)) ∧ (¬ s.toInt = 0 → ¬ s.toInt = 1 → x.toInt = k.toInt + 2 * (k.toInt * k.toInt) + 8 * (k.toInt * k.toInt * k.toInt))
  | _, _ => False
set_option maxHeartbeats 4000000 in
set_option maxRecDepth 100000 in
theorem mX8_howMany {l : Launch} {a : Nat → Nat} {cy dC : Nat → ClassId} {dI : Nat → Nat → Nat} (hinj : ∀ i j, i < 80 → j < 80 → a i = a j → i = j) : f_Met (xE a) l xY 80 a cy dC dI yX8_howMany cX8_howMany 3 1 0 pX8_howMany qX8_howMany := by
  refine f_met_of (xE_c a) hinj xY_hi (by decide) (fun av I L h => by unfold pX8_howMany at h; split at h <;> first | exact Nat.le_of_ble_eq_true rfl | exact h.elim) ?_
  intro pP eP sP mP aP bP hP9 cP C av I L hp
  unfold pX8_howMany at hp
  split at hp
  case h_2 => exact hp.elim
  case h_1 s k =>
    have hk : k.toInt = 0 ∨ k.toInt = 1 ∨ k.toInt = 2 ∨ k.toInt = 3 ∨ k.toInt = 4 ∨ k.toInt = 5 := by omega
    refine f_wp_ok C f_cl flX8_ok fiX8_ok fjX8_ok (sn := none) (fun j h => by cases h) (cs := (fun _ => none)) (cz := (fun _ => none)) (fun j S h => by cases h) (fun j S h => by cases h) tX8_howMany_ok (cut := (fun _ => none)) (fun t P h => by cases h) 50 0 tX8_howMany tX8_howMany_ok _ _ _ _ ?_
    intro z q hz hq hl hu
    intro z2 q2 hz2 hq2 hl2 hu2
    rcases hk with hk | hk | hk | hk | hk | hk
    all_goals
      rw [f_ci (by omega) (by omega), hk] at hq
      have e1 := f_w0 hq hl hu (by omega) (by omega)
      rw [e1, hk] at hq2
      have e2 := f_w0 hq2 hl2 hu2 (by omega) (by omega)
      apply And.intro
      · intro h1
        apply And.intro
        · intro h2
          rw [f_ci (by omega) (by omega)] at h2
          intro z3 q3 hz3 hq3 hl3 hu3
          rw [e2, hk] at hq3
          have e3 := f_w0 hq3 hl3 hu3 (by omega) (by omega)
          intro z4 q4 hz4 hq4 hl4 hu4
          rw [f_ci (by omega) (by omega), hk] at hq4
          have e4 := f_w0 hq4 hl4 hu4 (by omega) (by omega)
          intro z5 q5 hz5 hq5 hl5 hu5
          rw [e4, e2] at hq5
          have e5 := f_w0 hq5 hl5 hu5 (by omega) (by omega)
          intro z6 q6 hz6 hq6 hl6 hu6
          rw [e3, e5] at hq6
          have e6 := f_w0 hq6 hl6 hu6 (by omega) (by omega)
          refine ⟨rfl, rfl, fun h => by omega, fun h => by omega, fun _ _ => ?_⟩
          rw [e6, hk]
          rfl
        · intro h2
          rw [f_ci (by omega) (by omega)] at h2
          intro z3 q3 hz3 hq3 hl3 hu3
          rw [e2, hk] at hq3
          have e3 := f_w0 hq3 hl3 hu3 (by omega) (by omega)
          refine ⟨rfl, rfl, fun h => by omega, fun h => ?_, fun _ h => absurd h2 h⟩
          rw [e3, hk]
          rfl
      · intro h1
        exact ⟨rfl, rfl, fun _ => rfl, fun h => by omega, fun h => absurd h1 h⟩
def tX8_ofSimple : List (Instr × Nat) := [(.iload_n 1, 1), (.iconst 1, 1), (.if_icmp .lt 8, 3), (.iload_n 0, 1), (.iload_n 1, 1), (.if_icmp .ge 8, 3), (.iload_n 0, 1), (.invokestatic 24, 3), (.ireturn, 1), (.iload_n 1, 1), (.iload_n 1, 1), (.imul, 1), (.istore_n 2, 1), (.iload_n 0, 1), (.iload_n 1, 1), (.isub, 1), (.iload_n 2, 1), (.if_icmp .ge 7, 3), (.iconst 5, 1), (.goto 5, 3), (.bipush 6, 2), (.istore_n 3, 1), (.iload_n 0, 1), (.iload_n 1, 1), (.isub, 1), (.iload_n 2, 1), (.irem, 1), (.istore 4, 2), (.iload_n 3, 1), (.iload 4, 2), (.iload_n 1, 1), (.idiv, 1), (.invokestatic 24, 3), (.iload 4, 2), (.iload_n 1, 1), (.irem, 1), (.invokestatic 24, 3), (.invokestatic 28, 3), (.ireturn, 1)]
theorem tX8_ofSimple_ok : f_chk cX8_ofSimple 0 tX8_ofSimple = true := by decide +kernel
def pX8_ofSimple (av : List Value) (I : fM) (L : fN) : Prop := match av with
  | [.int n, .int k] => 1 ≤ k.toInt ∧ k.toInt ≤ 5 ∧ 0 ≤ n.toInt ∧ n.toInt < k.toInt + 2 * (k.toInt * k.toInt)
  | _ => False
def qX8_ofSimple (av : List Value) (I : fM) (L : fN) (r : Value) (I' : fM) (L' : fN) : Prop := match av, r with
  | [.int n, .int k], .int x => I' = I ∧ L' = L ∧ ∃ m, m ≤ 3 ∧ wfT x m ∧ (n.toInt < k.toInt → m = 1)
  | _, _ => False
set_option maxHeartbeats 4000000 in
set_option maxRecDepth 100000 in
theorem mX8_ofSimple {l : Launch} {a : Nat → Nat} {cy dC : Nat → ClassId} {dI : Nat → Nat → Nat} (hinj : ∀ i j, i < 80 → j < 80 → a i = a j → i = j) : f_Met (xE a) l xY 80 a cy dC dI yX8_ofSimple cX8_ofSimple 5 1 1 pX8_ofSimple qX8_ofSimple := by
  refine f_met_of (xE_c a) hinj xY_hi (by decide) (fun av I L h => by unfold pX8_ofSimple at h; split at h <;> first | exact Nat.le_of_ble_eq_true rfl | exact h.elim) ?_
  intro pP eP sP mP aP bP hP9 cP C av I L hp
  unfold pX8_ofSimple at hp
  split at hp
  case h_2 => exact hp.elim
  case h_1 n k =>
    obtain ⟨k1, k5, n0, n1⟩ := hp
    have hk : k.toInt = 1 ∨ k.toInt = 2 ∨ k.toInt = 3 ∨ k.toInt = 4 ∨ k.toInt = 5 := by omega
    refine f_wp_ok C f_cl flX8_ok fiX8_ok fjX8_ok (sn := none) (fun j h => by cases h) (cs := (fun _ => none)) (cz := (f_cnl [(24, (1, 1, 0, pX8_ofKind, qX8_ofKind)), (28, (3, 1, 0, pX8_join, qX8_join))])) (fun j S h => by cases h) (f_cnl_of (P := fun j S => f_cok pP l eP (f_rm 1) sP mP aP bP hP9 cP xY 80 a cy dC dI 5 _ _ (.invokestatic j) false S) (List.forall_mem_cons.mpr ⟨f_cokS C (mX8_ofKind hinj) (List.forall_mem_cons.mpr ⟨(mlX8_ok _ (List.mem_of_getElem? (i := 3) rfl)), kc_X8_ofKind⟩) (by decide +kernel) ⟨Nat.le_of_ble_eq_true rfl, Nat.le_of_ble_eq_true rfl⟩, List.forall_mem_cons.mpr ⟨f_cokS C (mX8_join hinj) (List.forall_mem_cons.mpr ⟨(mlX8_ok _ (List.mem_of_getElem? (i := 4) rfl)), kc_X8_join⟩) (by decide +kernel) ⟨Nat.le_of_ble_eq_true rfl, Nat.le_of_ble_eq_true rfl⟩, fun _ h => absurd h List.not_mem_nil⟩⟩)) tX8_ofSimple_ok (cut := (fun _ => none)) (fun t P h => by cases h) 60 0 tX8_ofSimple tX8_ofSimple_ok _ _ _ _ ?_
    apply And.intro
    · intro h1
      exfalso
      rw [f_ci (by omega) (by omega)] at h1
      omega
    · intro h1
      apply And.intro
      · intro h2
        intro z q hz hq hl hu
        intro z2 q2 hz2 hq2 hl2 hu2
        have tail : ∀ (g : Int32), (g.toInt = 5 ∨ g.toInt = 6) → ∀ (z3 : Int32) (q3 : Int), z3.toInt = n.toInt - k.toInt + 4294967296 * q3 → -2147483648 ≤ z3.toInt → z3.toInt ≤ 2147483647 → (¬ z = 0) ∧ (¬ k = 0) ∧ (0 ≤ ((z3 - z3 / z * z) / k).toInt ∧ ((z3 - z3 / z * z) / k).toInt ≤ 4) ∧ (0 ≤ ((z3 - z3 / z * z) - (z3 - z3 / z * z) / k * k).toInt ∧ ((z3 - z3 / z * z) - (z3 - z3 / z * z) / k * k).toInt ≤ 4) := by
          intro g hg z3 q3 hq3 hl3 hu3
          have hn := (f_rng n).2
          have e3 := f_w0 hq3 hl3 hu3 (by omega) (by omega)
          rcases hk with hk | hk | hk | hk | hk
          all_goals
            rw [hk] at hq n1 e3
            have e1 := f_w0 hq hl hu (by omega) (by omega)
            have r1 := t_rem (x := z3) (y := z) (by omega) (by omega)
            rw [e1] at r1
            have d1 := t_div (x := z3 - z3 / z * z) (y := k) (by omega) (by omega)
            have r2 := t_rem (x := z3 - z3 / z * z) (y := k) (by omega) (by omega)
            rw [hk] at d1 r2
            refine ⟨t_ne0 (by omega), t_ne0 (by omega), ⟨by omega, by omega⟩, ⟨by omega, by omega⟩⟩
        apply And.intro
        all_goals
          intro h3
          intro z3 q3 hz3 hq3 hl3 hu3
          first
            | obtain ⟨t1, t2, t3, t4⟩ := tail (Int32.ofInt 5) (Or.inl (by decide)) z3 q3 hq3 hl3 hu3
          refine And.intro t1 ?_
          refine And.intro t2 ?_
          refine And.intro t3 ?_
          intro x1 I1 L1 hq1
          obtain ⟨rfl, rfl, w1⟩ := hq1
          refine And.intro t2 ?_
          refine And.intro t4 ?_
          intro x2 I2 L2 hq2
          obtain ⟨rfl, rfl, w2⟩ := hq2
          refine And.intro ⟨by first | exact Or.inl (by decide) | exact Or.inr (by decide), 1, 1, w1, w2, by decide⟩ ?_
          intro x3 I3 L3 hq3
          obtain ⟨rfl, rfl, w3⟩ := hq3
          exact ⟨rfl, rfl, 3, by decide, w3 1 1 w1 w2, fun h => by have h2 : k.toInt ≤ n.toInt := h2; omega⟩
      · intro h2
        refine And.intro ⟨n0, by have h2 : n.toInt < k.toInt := h2; omega⟩ ?_
        intro x1 I1 L1 hq1
        obtain ⟨rfl, rfl, w1⟩ := hq1
        exact ⟨rfl, rfl, 1, by decide, w1, fun _ => rfl⟩
def tX8_numberOf : List (Instr × Nat) := [(.iload_n 0, 1), (.bipush 24, 2), (.ishr, 1), (.iconst 2, 1), (.idiv, 1), (.istore_n 2, 1), (.iload_n 2, 1), (.iconst 2, 1), (.if_icmp .le 6, 3), (.bipush (-2), 2), (.ireturn, 1), (.iload_n 2, 1), (.iconst 2, 1), (.if_icmp .ge 10, 3), (.iload_n 0, 1), (.iconst 0, 1), (.iload_n 1, 1), (.invokestatic 17, 3), (.ireturn, 1), (.iconst 2, 1), (.iload_n 1, 1), (.imul, 1), (.iload_n 1, 1), (.imul, 1), (.istore_n 3, 1), (.iload_n 1, 1), (.iload_n 3, 1), (.iadd, 1), (.iload_n 0, 1), (.iconst 0, 1), (.invokestatic 13, 3), (.iconst 5, 1), (.if_icmp .ne 7, 3), (.iconst 0, 1), (.goto 8, 3), (.iconst 2, 1), (.iload_n 1, 1), (.imul, 1), (.iload_n 3, 1), (.imul, 1), (.iadd, 1), (.istore 4, 2), (.iload_n 0, 1), (.iconst 1, 1), (.invokestatic 13, 3), (.iconst 5, 1), (.if_icmp .ge 23, 3), (.iload 4, 2), (.iload_n 0, 1), (.iconst 1, 1), (.invokestatic 13, 3), (.iload_n 3, 1), (.imul, 1), (.iadd, 1), (.iload_n 0, 1), (.iconst 2, 1), (.iload_n 1, 1), (.invokestatic 17, 3), (.iadd, 1), (.iload_n 1, 1), (.isub, 1), (.ireturn, 1), (.iload 4, 2), (.iload_n 1, 1), (.iload_n 3, 1), (.imul, 1), (.iadd, 1), (.iload_n 0, 1), (.iconst 1, 1), (.iload_n 1, 1), (.invokestatic 17, 3), (.iload_n 1, 1), (.isub, 1), (.iload_n 1, 1), (.imul, 1), (.iadd, 1), (.iload_n 0, 1), (.iconst 4, 1), (.invokestatic 13, 3), (.iadd, 1), (.ireturn, 1)]
theorem tX8_numberOf_ok : f_chk cX8_numberOf 0 tX8_numberOf = true := by decide +kernel
def pX8_numberOf (av : List Value) (I : fM) (L : fN) : Prop := match av with
  | [.int t, .int k] => True
  | _ => False
def qX8_numberOf (av : List Value) (I : fM) (L : fN) (r : Value) (I' : fM) (L' : fN) : Prop := match av, r with
  | [.int t, .int k], .int x => I' = I ∧ L' = L
  | _, _ => False
set_option maxHeartbeats 4000000 in
set_option maxRecDepth 100000 in
theorem mX8_numberOf {l : Launch} {a : Nat → Nat} {cy dC : Nat → ClassId} {dI : Nat → Nat → Nat} (hinj : ∀ i j, i < 80 → j < 80 → a i = a j → i = j) : f_Met (xE a) l xY 80 a cy dC dI yX8_numberOf cX8_numberOf 5 1 2 pX8_numberOf qX8_numberOf := by
  refine f_met_of (xE_c a) hinj xY_hi (by decide) (fun av I L h => by unfold pX8_numberOf at h; split at h <;> first | exact Nat.le_of_ble_eq_true rfl | exact h.elim) ?_
  intro pP eP sP mP aP bP hP9 cP C av I L hp
  unfold pX8_numberOf at hp
  split at hp
  case h_2 => exact hp.elim
  case h_1 t k =>
    refine f_wp_ok C f_cl flX8_ok fiX8_ok fjX8_ok (sn := none) (fun j h => by cases h) (cs := (fun _ => none)) (cz := (f_cnl [(17, (3, 1, 0, pX8_simpleNumber, qX8_simpleNumber)), (13, (2, 1, 0, pX8_nodeAt, qX8_nodeAt))])) (fun j S h => by cases h) (f_cnl_of (P := fun j S => f_cok pP l eP (f_rm 2) sP mP aP bP hP9 cP xY 80 a cy dC dI 5 _ _ (.invokestatic j) false S) (List.forall_mem_cons.mpr ⟨f_cokS C (mX8_simpleNumber hinj) (List.forall_mem_cons.mpr ⟨(mlX8_ok _ (List.mem_of_getElem? (i := 1) rfl)), kc_X8_simpleNumber⟩) (by decide +kernel) ⟨Nat.le_of_ble_eq_true rfl, Nat.le_of_ble_eq_true rfl⟩, List.forall_mem_cons.mpr ⟨f_cokS C (mX8_nodeAt hinj) (List.forall_mem_cons.mpr ⟨(mlX8_ok _ (List.mem_of_getElem? (i := 0) rfl)), kc_X8_nodeAt⟩) (by decide +kernel) ⟨Nat.le_of_ble_eq_true rfl, Nat.le_of_ble_eq_true rfl⟩, fun _ h => absurd h List.not_mem_nil⟩⟩)) tX8_numberOf_ok (cut := (fun _ => none)) (fun t P h => by cases h) 120 0 tX8_numberOf tX8_numberOf_ok _ _ _ _ ?_
    refine And.intro (by decide) ?_
    apply And.intro
    · intro h1
      apply And.intro
      · intro h2
        intro _ _ _ _ _ _
        intro _ _ _ _ _ _
        intro _ _ _ _ _ _
        refine And.intro trivial ?_; intro x9 I9 L9 h9; obtain ⟨rfl, rfl, -⟩ := h9
        apply And.intro
        · intro h3
          intro _ _ _ _ _ _
          intro _ _ _ _ _ _
          intro _ _ _ _ _ _
          refine And.intro trivial ?_; intro x9 I9 L9 h9; obtain ⟨rfl, rfl, -⟩ := h9
          apply And.intro
          · intro h9
            intro _ _ _ _ _ _
            intro _ _ _ _ _ _
            refine And.intro trivial ?_; intro x9 I9 L9 h9; obtain ⟨rfl, rfl⟩ := h9
            intro _ _ _ _ _ _
            intro _ _ _ _ _ _
            intro _ _ _ _ _ _
            refine And.intro trivial ?_; intro x9 I9 L9 h9; obtain ⟨rfl, rfl, -⟩ := h9
            intro _ _ _ _ _ _
            exact ⟨rfl, rfl⟩
          · intro h9
            refine And.intro trivial ?_; intro x9 I9 L9 h9; obtain ⟨rfl, rfl, -⟩ := h9
            intro _ _ _ _ _ _
            intro _ _ _ _ _ _
            refine And.intro trivial ?_; intro x9 I9 L9 h9; obtain ⟨rfl, rfl⟩ := h9
            intro _ _ _ _ _ _
            intro _ _ _ _ _ _
            exact ⟨rfl, rfl⟩
        · intro h3
          intro _ _ _ _ _ _
          refine And.intro trivial ?_; intro x9 I9 L9 h9; obtain ⟨rfl, rfl, -⟩ := h9
          apply And.intro
          · intro h9
            intro _ _ _ _ _ _
            intro _ _ _ _ _ _
            refine And.intro trivial ?_; intro x9 I9 L9 h9; obtain ⟨rfl, rfl⟩ := h9
            intro _ _ _ _ _ _
            intro _ _ _ _ _ _
            intro _ _ _ _ _ _
            refine And.intro trivial ?_; intro x9 I9 L9 h9; obtain ⟨rfl, rfl, -⟩ := h9
            intro _ _ _ _ _ _
            exact ⟨rfl, rfl⟩
          · intro h9
            refine And.intro trivial ?_; intro x9 I9 L9 h9; obtain ⟨rfl, rfl, -⟩ := h9
            intro _ _ _ _ _ _
            intro _ _ _ _ _ _
            refine And.intro trivial ?_; intro x9 I9 L9 h9; obtain ⟨rfl, rfl⟩ := h9
            intro _ _ _ _ _ _
            intro _ _ _ _ _ _
            exact ⟨rfl, rfl⟩
      · intro h2
        refine And.intro trivial ?_; intro x9 I9 L9 h9; obtain ⟨rfl, rfl⟩ := h9
        exact ⟨rfl, rfl⟩
    · intro h1
      exact ⟨rfl, rfl⟩
