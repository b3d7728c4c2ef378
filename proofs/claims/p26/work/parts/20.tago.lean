def tX8_ofNumber : List (Instr × Nat) := [(.iconst 2, 1), (.iload_n 1, 1), (.imul, 1), (.iload_n 1, 1), (.imul, 1), (.istore_n 2, 1), (.iload_n 1, 1), (.iconst 1, 1), (.if_icmp .lt 10, 3), (.iload_n 0, 1), (.iload_n 1, 1), (.iload_n 2, 1), (.iadd, 1), (.if_icmp .ge 9, 3), (.iload_n 0, 1), (.iload_n 1, 1), (.invokestatic 21, 3), (.ireturn, 1), (.iload_n 1, 1), (.iload_n 2, 1), (.imul, 1), (.istore_n 3, 1), (.iload_n 0, 1), (.iload_n 1, 1), (.isub, 1), (.iload_n 2, 1), (.isub, 1), (.istore 4, 2), (.iload 4, 2), (.iconst 2, 1), (.iload_n 3, 1), (.imul, 1), (.if_icmp .ge 7, 3), (.iconst 5, 1), (.goto 5, 3), (.bipush 6, 2), (.istore 5, 2), (.iload 4, 2), (.iconst 2, 1), (.iload_n 3, 1), (.imul, 1), (.if_icmp .ge 8, 3), (.iload 4, 2), (.goto 9, 3), (.iload 4, 2), (.iconst 2, 1), (.iload_n 3, 1), (.imul, 1), (.isub, 1), (.istore 4, 2), (.iload 4, 2), (.iload_n 3, 1), (.if_icmp .ge 26, 3), (.iload 5, 2), (.iload 4, 2), (.iload_n 2, 1), (.idiv, 1), (.invokestatic 24, 3), (.iload_n 1, 1), (.iload 4, 2), (.iload_n 2, 1), (.irem, 1), (.iadd, 1), (.iload_n 1, 1), (.invokestatic 21, 3), (.invokestatic 28, 3), (.ireturn, 1), (.iload 4, 2), (.iload_n 3, 1), (.isub, 1), (.istore 4, 2), (.iload 5, 2), (.iload_n 1, 1), (.iload 4, 2), (.iload_n 1, 1), (.idiv, 1), (.iadd, 1), (.iload_n 1, 1), (.invokestatic 21, 3), (.iload 4, 2), (.iload_n 1, 1), (.irem, 1), (.invokestatic 24, 3), (.invokestatic 28, 3), (.ireturn, 1)]
theorem tX8_ofNumber_ok : f_chk cX8_ofNumber 0 tX8_ofNumber = true := by decide +kernel
def pX8_ofNumber (av : List Value) (I : fM) (L : fN) : Prop := match av with
  | [.int n, .int k] => 1 ≤ k.toInt ∧ k.toInt ≤ 5 ∧ 0 ≤ n.toInt ∧ n.toInt < k.toInt + 2 * (k.toInt * k.toInt) + 8 * (k.toInt * k.toInt * k.toInt)
  | _ => False
def qX8_ofNumber (av : List Value) (I : fM) (L : fN) (r : Value) (I' : fM) (L' : fN) : Prop := match av, r with
  | [.int n, .int k], .int x => I' = I ∧ L' = L ∧ ∃ m, m ≤ 5 ∧ wfT x m
  | _, _ => False
set_option maxHeartbeats 4000000 in
set_option maxRecDepth 100000 in
theorem mX8_ofNumber {l : Launch} {a : Nat → Nat} {cy dC : Nat → ClassId} {dI : Nat → Nat → Nat} (hinj : ∀ i j, i < 80 → j < 80 → a i = a j → i = j) : f_Met (xE a) l xY 80 a cy dC dI yX8_ofNumber cX8_ofNumber 6 1 2 pX8_ofNumber qX8_ofNumber := by
  refine f_met_of (xE_c a) hinj xY_hi (by decide) (fun av I L h => by unfold pX8_ofNumber at h; split at h <;> first | exact Nat.le_of_ble_eq_true rfl | exact h.elim) ?_
  intro pP eP sP mP aP bP hP9 cP C av I L hp
  unfold pX8_ofNumber at hp
  split at hp
  case h_2 => exact hp.elim
  case h_1 n k =>
    obtain ⟨k1, k5, n0, n1⟩ := hp
    have hk : k.toInt = 1 ∨ k.toInt = 2 ∨ k.toInt = 3 ∨ k.toInt = 4 ∨ k.toInt = 5 := by omega
    have hn := (f_rng n).2
    refine f_wp_ok C f_cl flX8_ok fiX8_ok fjX8_ok (sn := none) (fun j h => by cases h) (cs := (fun _ => none)) (cz := (f_cnl [(21, (2, 1, 0, pX8_ofSimple, qX8_ofSimple)), (24, (1, 1, 0, pX8_ofKind, qX8_ofKind)), (28, (3, 1, 0, pX8_join, qX8_join))])) (fun j S h => by cases h) (f_cnl_of (P := fun j S => f_cok pP l eP (f_rm 2) sP mP aP bP hP9 cP xY 80 a cy dC dI 6 _ _ (.invokestatic j) false S) (List.forall_mem_cons.mpr ⟨f_cokS C (mX8_ofSimple hinj) (List.forall_mem_cons.mpr ⟨(mlX8_ok _ (List.mem_of_getElem? (i := 2) rfl)), kc_X8_ofSimple⟩) (by decide +kernel) ⟨Nat.le_of_ble_eq_true rfl, Nat.le_of_ble_eq_true rfl⟩, List.forall_mem_cons.mpr ⟨f_cokS C (mX8_ofKind hinj) (List.forall_mem_cons.mpr ⟨(mlX8_ok _ (List.mem_of_getElem? (i := 3) rfl)), kc_X8_ofKind⟩) (by decide +kernel) ⟨Nat.le_of_ble_eq_true rfl, Nat.le_of_ble_eq_true rfl⟩, List.forall_mem_cons.mpr ⟨f_cokS C (mX8_join hinj) (List.forall_mem_cons.mpr ⟨(mlX8_ok _ (List.mem_of_getElem? (i := 4) rfl)), kc_X8_join⟩) (by decide +kernel) ⟨Nat.le_of_ble_eq_true rfl, Nat.le_of_ble_eq_true rfl⟩, fun _ h => absurd h List.not_mem_nil⟩⟩⟩)) tX8_ofNumber_ok (cut := (fun _ => none)) (fun t P h => by cases h) 120 0 tX8_ofNumber tX8_ofNumber_ok _ _ _ _ ?_
    intro z q hz hq hl hu
    intro z2 q2 hz2 hq2 hl2 hu2
    apply And.intro
    · intro h1
      exfalso
      rw [f_ci (by omega) (by omega)] at h1
      omega
    · intro h1
      clear h1
      intro z3 q3 hz3 hq3 hl3 hu3
      rcases hk with hk | hk | hk | hk | hk
      all_goals
        rw [f_ci (by omega) (by omega), hk] at hq
        have e1 := f_w0 hq hl hu (by omega) (by omega)
        rw [e1, hk] at hq2
        have e2 := f_w0 hq2 hl2 hu2 (by omega) (by omega)
        rw [e2, hk] at hq3
        have e3 := f_w0 hq3 hl3 hu3 (by omega) (by omega)
        clear hq hq2 hq3 hz hz2 hz3
        rw [hk] at n1
        apply And.intro
        · intro h2
          rw [e3] at h2
          intro z4 q4 hz4 hq4 hl4 hu4
          rw [hk, e2] at hq4
          have e4 := f_w0 hq4 hl4 hu4 (by omega) (by omega)
          intro z5 q5 hz5 hq5 hl5 hu5
          rw [hk] at hq5
          have e5 := f_w0 hq5 hl5 hu5 (by omega) (by omega)
          intro z6 q6 hz6 hq6 hl6 hu6
          rw [e5, e2] at hq6
          have e6 := f_w0 hq6 hl6 hu6 (by omega) (by omega)
          intro z7 q7 hz7 hq7 hl7 hu7
          rw [f_ci (by omega) (by omega), e4] at hq7
          have e7 := f_w0 hq7 hl7 hu7 (by omega) (by omega)
          clear hq4 hq5 hq6 hq7 hz4 hz5 hz6 hz7
          have nz2 : ¬ z2 = 0 := t_ne0 (by omega)
          have nk : ¬ k = 0 := t_ne0 (by omega)
          -- the two halves, behind the sign
          have half1 : ∀ r : Int32, 0 ≤ r.toInt → r.toInt < z4.toInt → 0 ≤ (r / z2).toInt ∧ (r / z2).toInt ≤ 4 ∧ 0 ≤ (r - r / z2 * z2).toInt ∧ (r - r / z2 * z2).toInt < 2 * (k.toInt * k.toInt) := by
            intro r r0 r1
            have d1 := t_div (x := r) (y := z2) r0 (by omega)
            have m1 := t_rem (x := r) (y := z2) r0 (by omega)
            rw [e2] at d1 m1
            rw [hk]
            refine ⟨by omega, by omega, by omega, by omega⟩
          have half2 : ∀ r : Int32, 0 ≤ r.toInt → r.toInt < z4.toInt → 0 ≤ (r / k).toInt ∧ (r / k).toInt < 2 * (k.toInt * k.toInt) ∧ 0 ≤ (r - r / k * k).toInt ∧ (r - r / k * k).toInt ≤ 4 := by
            intro r r0 r1
            have d1 := t_div (x := r) (y := k) r0 (by omega)
            have m1 := t_rem (x := r) (y := k) r0 (by omega)
            rw [hk] at d1 m1
            rw [hk]
            refine ⟨by omega, by omega, by omega, by omega⟩
          apply And.intro
          all_goals
            intro h3
            rw [e7, e6] at h3
            intro z8 q8 hz8 hq8 hl8 hu8
            rw [f_ci (by omega) (by omega), e4] at hq8
            have e8 := f_w0 hq8 hl8 hu8 (by omega) (by omega)
            apply And.intro
            · intro h4
              rw [e8, e6] at h4
              intro z9 q9 hz9 hq9 hl9 hu9
              rw [f_ci (by omega) (by omega), e4] at hq9
              have e9 := f_w0 hq9 hl9 hu9 (by omega) (by omega)
              intro z10 q10 hz10 hq10 hl10 hu10
              rw [e6, e9] at hq10
              have e10 := f_w0 hq10 hl10 hu10 (by omega) (by omega)
              apply And.intro
              · intro h5
                rw [e4, e10] at h5
                intro z11 q11 hz11 hq11 hl11 hu11
                rw [e10, e4] at hq11
                have e11 := f_w0 hq11 hl11 hu11 (by omega) (by omega)
                obtain ⟨p1, p2, p3, p4⟩ := half2 z11 (by omega) (by omega)
                refine And.intro nk ?_
                intro z12 q12 hz12 hq12 hl12 hu12
                rw [hk] at hq12 p2
                have e12 := f_w0 hq12 hl12 hu12 (by omega) (by omega)
                refine And.intro ⟨by omega, by omega, by omega, by rw [hk]; omega⟩ ?_
                intro x1 I1 L1 hq1
                obtain ⟨rfl, rfl, m, hm, w1, -⟩ := hq1
                refine And.intro nk ?_
                refine And.intro ⟨p3, p4⟩ ?_
                intro x2 I2 L2 hq2
                obtain ⟨rfl, rfl, w2⟩ := hq2
                refine And.intro ⟨by first | exact Or.inl (by decide) | exact Or.inr (by decide), m, 1, w1, w2, by omega⟩ ?_
                intro x3 I3 L3 hq3
                obtain ⟨rfl, rfl, w3⟩ := hq3
                exact ⟨rfl, rfl, 1 + m + 1, by omega, w3 m 1 w1 w2⟩
              · intro h5
                rw [e4, e10] at h5
                obtain ⟨p1, p2, p3, p4⟩ := half1 z10 (by omega) (by omega)
                refine And.intro nz2 ?_
                refine And.intro ⟨p1, p2⟩ ?_
                intro x1 I1 L1 hq1
                obtain ⟨rfl, rfl, w1⟩ := hq1
                refine And.intro nz2 ?_
                intro z12 q12 hz12 hq12 hl12 hu12
                rw [hk] at hq12 p4
                have e12 := f_w0 hq12 hl12 hu12 (by omega) (by omega)
                refine And.intro ⟨by omega, by omega, by omega, by rw [hk]; omega⟩ ?_
                intro x2 I2 L2 hq2
                obtain ⟨rfl, rfl, m, hm, w2, -⟩ := hq2
                refine And.intro ⟨by first | exact Or.inl (by decide) | exact Or.inr (by decide), 1, m, w1, w2, by omega⟩ ?_
                intro x3 I3 L3 hq3
                obtain ⟨rfl, rfl, w3⟩ := hq3
                exact ⟨rfl, rfl, 1 + 1 + m, by omega, w3 1 m w1 w2⟩
            · intro h4
              rw [e8, e6] at h4
              apply And.intro
              · intro h5
                rw [e4, e6] at h5
                intro z11 q11 hz11 hq11 hl11 hu11
                rw [e6, e4] at hq11
                have e11 := f_w0 hq11 hl11 hu11 (by omega) (by omega)
                obtain ⟨p1, p2, p3, p4⟩ := half2 z11 (by omega) (by omega)
                refine And.intro nk ?_
                intro z12 q12 hz12 hq12 hl12 hu12
                rw [hk] at hq12 p2
                have e12 := f_w0 hq12 hl12 hu12 (by omega) (by omega)
                refine And.intro ⟨by omega, by omega, by omega, by rw [hk]; omega⟩ ?_
                intro x1 I1 L1 hq1
                obtain ⟨rfl, rfl, m, hm, w1, -⟩ := hq1
                refine And.intro nk ?_
                refine And.intro ⟨p3, p4⟩ ?_
                intro x2 I2 L2 hq2
                obtain ⟨rfl, rfl, w2⟩ := hq2
                refine And.intro ⟨by first | exact Or.inl (by decide) | exact Or.inr (by decide), m, 1, w1, w2, by omega⟩ ?_
                intro x3 I3 L3 hq3
                obtain ⟨rfl, rfl, w3⟩ := hq3
                exact ⟨rfl, rfl, 1 + m + 1, by omega, w3 m 1 w1 w2⟩
              · intro h5
                rw [e4, e6] at h5
                obtain ⟨p1, p2, p3, p4⟩ := half1 z6 (by omega) (by omega)
                refine And.intro nz2 ?_
                refine And.intro ⟨p1, p2⟩ ?_
                intro x1 I1 L1 hq1
                obtain ⟨rfl, rfl, w1⟩ := hq1
                refine And.intro nz2 ?_
                intro z12 q12 hz12 hq12 hl12 hu12
                rw [hk] at hq12 p4
                have e12 := f_w0 hq12 hl12 hu12 (by omega) (by omega)
                refine And.intro ⟨by omega, by omega, by omega, by rw [hk]; omega⟩ ?_
                intro x2 I2 L2 hq2
                obtain ⟨rfl, rfl, m, hm, w2, -⟩ := hq2
                refine And.intro ⟨by first | exact Or.inl (by decide) | exact Or.inr (by decide), 1, m, w1, w2, by omega⟩ ?_
                intro x3 I3 L3 hq3
                obtain ⟨rfl, rfl, w3⟩ := hq3
                exact ⟨rfl, rfl, 1 + 1 + m, by omega, w3 1 m w1 w2⟩
        · intro h2
          rw [e3] at h2
          refine And.intro ⟨by omega, by omega, n0, by rw [hk]; omega⟩ ?_
          intro x1 I1 L1 hq1
          obtain ⟨rfl, rfl, m, hm, w1, -⟩ := hq1
          exact ⟨rfl, rfl, m, by omega, w1⟩
