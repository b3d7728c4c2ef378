def tX9_hasRoomForFive : List (Instr × Nat) := [(.aload_n 0, 1), (.getfield 13, 3), (.bipush 20, 2), (.iadd, 1), (.sipush 1600, 3), (.if_icmp .gt 7, 3), (.iconst 1, 1), (.goto 4, 3), (.iconst 0, 1), (.ireturn, 1)]
theorem tX9_hasRoomForFive_ok : f_chk cX9_hasRoomForFive 0 tX9_hasRoomForFive = true := by decide +kernel
def pX9_hasRoomForFive (av : List Value) (I : fM) (L : fN) : Prop := match av with
  | [.ref 1] => xR I
  | _ => False
def qX9_hasRoomForFive (av : List Value) (I : fM) (L : fN) (r : Value) (I' : fM) (L' : fN) : Prop := match av, r with
  | [.ref 1], .int x => I' = I ∧ L' = L ∧ (x.toInt = 1 ∧ (I 1 1).toInt ≤ 1580 ∨ x.toInt = 0 ∧ 1580 < (I 1 1).toInt)
  | _, _ => False
set_option maxHeartbeats 4000000 in
set_option maxRecDepth 100000 in
theorem mX9_hasRoomForFive {l : Launch} {a : Nat → Nat} {cy dC : Nat → ClassId} {dI : Nat → Nat → Nat} (hinj : ∀ i j, i < 80 → j < 80 → a i = a j → i = j) : f_Met (xE a) l xY 80 a cy dC dI yX9_hasRoomForFive cX9_hasRoomForFive 1 3 0 pX9_hasRoomForFive qX9_hasRoomForFive := by
  refine f_met_of (xE_c a) hinj xY_hi (by decide) (fun av I L h => by unfold pX9_hasRoomForFive at h; split at h <;> first | exact Nat.le_of_ble_eq_true rfl | exact h.elim) ?_
  intro p e s m args below meth c C av I L hp
  unfold pX9_hasRoomForFive at hp
  split at hp
  case h_2 => exact hp.elim
  case h_1 =>
    have h1 := hp 1 1
    refine f_wp_ok C f_cl flX9_ok fiX9_ok fjX9_ok (sn := none) (fun j h => by cases h) (cs := (fun _ => none)) (cz := (fun _ => none)) (fun j S h => by cases h) (fun j S h => by cases h) tX9_hasRoomForFive_ok (cut := (fun _ => none)) (fun t P h => by cases h) 20 0 tX9_hasRoomForFive tX9_hasRoomForFive_ok _ _ _ _ ?_
    intro z q hz hq hl hu
    apply And.intro
    · intro hc
      refine ⟨Or.inl rfl, rfl, rfl, Or.inr ⟨rfl, ?_⟩⟩
      simp (disch := omega) only [f_ci, va_up, upd, reduceIte, Nat.reduceEqDiff, xB] at *
      omega
    · intro hc
      refine ⟨Or.inr rfl, rfl, rfl, Or.inl ⟨rfl, ?_⟩⟩
      simp (disch := omega) only [f_ci, va_up, upd, reduceIte, Nat.reduceEqDiff, xB] at *
      omega
def tX9_cut : List (Instr × Nat) := [(.iload_n 1, 1), (.ifCond .lt 11, 3), (.iload_n 1, 1), (.aload_n 0, 1), (.getfield 13, 3), (.if_icmp .le 5, 3), (.iconst 0, 1), (.ireturn, 1), (.aload_n 0, 1), (.iload_n 1, 1), (.putfield 13, 3), (.iconst 1, 1), (.ireturn, 1)]
theorem tX9_cut_ok : f_chk cX9_cut 0 tX9_cut = true := by decide +kernel
def pX9_cut (av : List Value) (I : fM) (L : fN) : Prop := match av with
  | [.ref 1, .int n] => xR I
  | _ => False
def qX9_cut (av : List Value) (I : fM) (L : fN) (r : Value) (I' : fM) (L' : fN) : Prop := match av, r with
  | [.ref 1, .int n], .int x => xR I' ∧ L' = L ∧ (x.toInt = 1 ∧ 0 ≤ n.toInt ∧ n.toInt ≤ (I 1 1).toInt ∧ I' = va_up I 1 (va_up (I 1) 1 n) ∨ x.toInt = 0 ∧ (n.toInt < 0 ∨ (I 1 1).toInt < n.toInt) ∧ I' = I)
  | _, _ => False
set_option maxHeartbeats 4000000 in
set_option maxRecDepth 100000 in
theorem mX9_cut {l : Launch} {a : Nat → Nat} {cy dC : Nat → ClassId} {dI : Nat → Nat → Nat} (hinj : ∀ i j, i < 80 → j < 80 → a i = a j → i = j) : f_Met (xE a) l xY 80 a cy dC dI yX9_cut cX9_cut 2 3 0 pX9_cut qX9_cut := by
  refine f_met_of (xE_c a) hinj xY_hi (by decide) (fun av I L h => by unfold pX9_cut at h; split at h <;> first | exact Nat.le_of_ble_eq_true rfl | exact h.elim) ?_
  intro p e s m args below meth c C av I L hp
  unfold pX9_cut at hp
  split at hp
  case h_2 => exact hp.elim
  case h_1 n =>
    have h1 := hp 1 1
    refine f_wp_ok C f_cl flX9_ok fiX9_ok fjX9_ok (sn := none) (fun j h => by cases h) (cs := (fun _ => none)) (cz := (fun _ => none)) (fun j S h => by cases h) (fun j S h => by cases h) tX9_cut_ok (cut := (fun _ => none)) (fun t P h => by cases h) 20 0 tX9_cut tX9_cut_ok _ _ _ _ ?_
    apply And.intro
    · intro hc
      exact ⟨Or.inl rfl, hp, rfl, Or.inr ⟨rfl, Or.inl hc, rfl⟩⟩
    · intro hc
      apply And.intro
      · intro h2
        refine ⟨Or.inr rfl, xR_f hp ?_, rfl, Or.inl ⟨rfl, hc, h2, rfl⟩⟩
        have h2 : n.toInt ≤ (I 1 1).toInt := h2
        simp (disch := omega) only [f_ci, va_up, upd, reduceIte, Nat.reduceEqDiff, xB] at *
        omega
      · intro h2
        exact ⟨Or.inl rfl, hp, rfl, Or.inr ⟨rfl, Or.inr h2, rfl⟩⟩
