def tX9_hasRoomForFive : List (Instr × Nat) := [(.aload_n 0, 1), (.getfield 13, 3), (.bipush 20, 2), (.iadd, 1), (.sipush 1600, 3), (.if_icmp .gt 7, 3), (.iconst 1, 1), (.goto 4, 3), (.iconst 0, 1), (.ireturn, 1)]
theorem tX9_hasRoomForFive_ok : f_chk cX9_hasRoomForFive 0 tX9_hasRoomForFive = true := by decide +kernel
def pX9_hasRoomForFive (av : List Value) (I : fM) (L : fN) : Prop := match av with
  | [.ref 1] => xR I
  | _ => False
def qX9_hasRoomForFive (av : List Value) (I : fM) (L : fN) (r : Value) (I' : fM) (L' : fN) : Prop := match av, r with
  | [.ref 1], .int x => I' = I ∧ L' = L ∧ (x.toInt = 1 ∧ (I 1 1).toInt ≤ 1580 ∨ x.toInt = 0 ∧ 1580 < (I 1 1).toInt)
  | _, _ => False
set_option maxHeartbeats 4000000 in
set_option maxRecDepth 100000 in
theorem mX9_hasRoomForFive {l : Launch} {a : Nat → Nat} {cy dC : Nat → ClassId} {dI : Nat → Nat → Nat} (hinj : ∀ i j, i < 80 → j < 80 → a i = a j → i = j) : f_Met (xE a) l xY 80 a cy dC dI yX9_hasRoomForFive cX9_hasRoomForFive 1 3 0 pX9_hasRoomForFive qX9_hasRoomForFive := by
  refine f_met_of (xE_c a) hinj xY_hi (by decide) (fun av I L h => by unfold pX9_hasRoomForFive at h; split at h <;> first | exact Nat.le_of_ble_eq_true rfl | exact h.elim) ?_
  intro pP eP sP mP aP bP hP9 cP C av I L hp
  unfold pX9_hasRoomForFive at hp
  split at hp
  case h_2 => exact hp.elim
  case h_1 =>
    have h1 := hp 1 1
    refine f_wp_ok C f_cl flX9_ok fiX9_ok fjX9_ok (sn := none) (fun j h => by cases h) (cs := (fun _ => none)) (cz := (fun _ => none)) (fun j S h => by cases h) (fun j S h => by cases h) tX9_hasRoomForFive_ok (cut := (fun _ => none)) (fun t P h => by cases h) 20 0 tX9_hasRoomForFive tX9_hasRoomForFive_ok _ _ _ _ ?_
    intro z q hz hq hl hu
    apply And.intro
    · intro hc
      refine ⟨Or.inl rfl, rfl, rfl, Or.inr ⟨rfl, ?_⟩⟩
      simp (disch := omega) only [f_ci, va_up, upd, reduceIte, Nat.reduceEqDiff, xB] at *
      omega
    · intro hc
      refine ⟨Or.inr rfl, rfl, rfl, Or.inl ⟨rfl, ?_⟩⟩
      simp (disch := omega) only [f_ci, va_up, upd, reduceIte, Nat.reduceEqDiff, xB] at *
      omega
def tX9_cut : List (Instr × Nat) := [(.iload_n 1, 1), (.ifCond .lt 11, 3), (.iload_n 1, 1), (.aload_n 0, 1), (.getfield 13, 3), (.if_icmp .le 5, 3), (.iconst 0, 1), (.ireturn, 1), (.aload_n 0, 1), (.iload_n 1, 1), (.putfield 13, 3), (.iconst 1, 1), (.ireturn, 1)]
theorem tX9_cut_ok : f_chk cX9_cut 0 tX9_cut = true := by decide +kernel
def pX9_cut (av : List Value) (I : fM) (L : fN) : Prop := match av with
  | [.ref 1, .int n] => xR I
  | _ => False
def qX9_cut (av : List Value) (I : fM) (L : fN) (r : Value) (I' : fM) (L' : fN) : Prop := match av, r with
  | [.ref 1, .int n], .int x => xR I' ∧ L' = L ∧ (x.toInt = 1 ∧ 0 ≤ n.toInt ∧ n.toInt ≤ (I 1 1).toInt ∧ I' = va_up I 1 (va_up (I 1) 1 n) ∨ x.toInt = 0 ∧ (n.toInt < 0 ∨ (I 1 1).toInt < n.toInt) ∧ I' = I)
  | _, _ => False
set_option maxHeartbeats 4000000 in
set_option maxRecDepth 100000 in
theorem mX9_cut {l : Launch} {a : Nat → Nat} {cy dC : Nat → ClassId} {dI : Nat → Nat → Nat} (hinj : ∀ i j, i < 80 → j < 80 → a i = a j → i = j) : f_Met (xE a) l xY 80 a cy dC dI yX9_cut cX9_cut 2 3 0 pX9_cut qX9_cut := by
  refine f_met_of (xE_c a) hinj xY_hi (by decide) (fun av I L h => by unfold pX9_cut at h; split at h <;> first | exact Nat.le_of_ble_eq_true rfl | exact h.elim) ?_
  intro pP eP sP mP aP bP hP9 cP C av I L hp
  unfold pX9_cut at hp
  split at hp
  case h_2 => exact hp.elim
  case h_1 n =>
    have h1 := hp 1 1
    refine f_wp_ok C f_cl flX9_ok fiX9_ok fjX9_ok (sn := none) (fun j h => by cases h) (cs := (fun _ => none)) (cz := (fun _ => none)) (fun j S h => by cases h) (fun j S h => by cases h) tX9_cut_ok (cut := (fun _ => none)) (fun t P h => by cases h) 20 0 tX9_cut tX9_cut_ok _ _ _ _ ?_
    apply And.intro
    · intro hc
      exact ⟨Or.inl rfl, hp, rfl, Or.inr ⟨rfl, Or.inl hc, rfl⟩⟩
    · intro hc
      apply And.intro
      · intro h2
        refine ⟨Or.inr rfl, xR_f hp ?_, rfl, Or.inl ⟨rfl, hc, h2, rfl⟩⟩
        have h2 : n.toInt ≤ (I 1 1).toInt := h2
        simp (disch := omega) only [f_ci, va_up, upd, reduceIte, Nat.reduceEqDiff, xB] at *
        omega
      · intro h2
        exact ⟨Or.inl rfl, hp, rfl, Or.inr ⟨rfl, Or.inr h2, rfl⟩⟩
def tX9_addNumber : List (Instr × Nat) := [(.bipush 24, 2), (.istore_n 2, 1), (.iload_n 2, 1), (.ifCond .lt 42, 3), (.aload_n 0, 1), (.getfield 13, 3), (.sipush 1600, 3), (.if_icmp .ge 32, 3), (.aload_n 0, 1), (.getfield 9, 3), (.aload_n 0, 1), (.getfield 13, 3), (.iload_n 1, 1), (.iload_n 2, 1), (.ishr, 1), (.i2b, 1), (.bastore, 1), (.aload_n 0, 1), (.dup, 1), (.getfield 13, 3), (.iconst 1, 1), (.iadd, 1), (.putfield 13, 3), (.iinc 2 (-8), 3), (.goto (-40), 3), (.return_, 1)]
theorem tX9_addNumber_ok : f_chk cX9_addNumber 0 tX9_addNumber = true := by decide +kernel
def jX9_addNumber (n0 : Int32) (I0 : fM) (L0 : fN) (n : Nat) (ls : fLs) (st : List Value) (I : fM) (L : fN) : Prop := ∃ (s : Int32) (i : Nat), ls = [(2, .int s), (0, .ref 1), (1, .int n0)] ∧ st = [] ∧ i ≤ 4 ∧ s.toInt = 24 - 8 * i ∧ (I 1 1).toInt = (I0 1 1).toInt + i ∧ 4 - i < n ∧ xR I ∧ f_fr [1, 2] I0 I ∧ L = L0
def pX9_addNumber (av : List Value) (I : fM) (L : fN) : Prop := match av with
  | [.ref 1, .int n] => xR I ∧ (I 1 1).toInt ≤ 1596
  | _ => False
def qX9_addNumber (av : List Value) (I : fM) (L : fN) (r : Value) (I' : fM) (L' : fN) : Prop := match av, r with
  | [.ref 1, .int n], .null => xR I' ∧ f_fr [1, 2] I I' ∧ L' = L ∧ (I' 1 1).toInt = (I 1 1).toInt + 4
  | _, _ => False
set_option maxHeartbeats 4000000 in
set_option maxRecDepth 100000 in
theorem mX9_addNumber {l : Launch} {a : Nat → Nat} {cy dC : Nat → ClassId} {dI : Nat → Nat → Nat} (hinj : ∀ i j, i < 80 → j < 80 → a i = a j → i = j) : f_Met (xE a) l xY 80 a cy dC dI yX9_addNumber cX9_addNumber 3 0 0 pX9_addNumber qX9_addNumber := by
  refine f_met_of (xE_c a) hinj xY_hi (by decide) (fun av I L h => by unfold pX9_addNumber at h; split at h <;> first | exact Nat.le_of_ble_eq_true rfl | exact h.elim) ?_
  intro pP eP sP mP aP bP hP9 cP C av I L hp
  unfold pX9_addNumber at hp
  split at hp
  case h_2 => exact hp.elim
  case h_1 n =>
    obtain ⟨hR, hc⟩ := hp
    have lp : ∀ (nn : Nat) (ls' : fLs) (st' : List Value) (I' : fM) (L' : fN), jX9_addNumber n I L nn ls' st' I' L' → f_W pP l eP (f_rm 0) sP mP aP bP hP9 cP xY 80 a cy dC dI 3 (f_K 0 (qX9_addNumber [.ref 1, .int n] I L)) 3 ls' st' I' L' := by
      intro k
      induction k with
      | zero =>
        intro ls' st' I' L' h
        obtain ⟨s, i, -, -, -, -, -, hm, -⟩ := h
        omega
      | succ k ih =>
        intro ls' st' I' L' h
        obtain ⟨s, i, rfl, rfl, hi, hs, hc', hm, hR', hF, hL⟩ := h
        refine f_wp_ok C f_cl flX9_ok fiX9_ok fjX9_ok (sn := none) (fun j h => by cases h) (cs := (fun _ => none)) (cz := (fun _ => none)) (fun j S h => by cases h) (fun j S h => by cases h) tX9_addNumber_ok (cut := (f_cnl [(3, jX9_addNumber n I L k)])) (f_cnl_of (P := fun (tQ : Nat) (P : fLs → List Value → fM → fN → Prop) => ∀ ls' st' I' L', P ls' st' I' L' → f_W pP l eP (f_rm 0) sP mP aP bP hP9 cP xY 80 a cy dC dI 3 (f_K 0 (qX9_addNumber [.ref 1, .int n] I L)) tQ ls' st' I' L') (List.forall_mem_cons.mpr ⟨ih, fun _ h => absurd h List.not_mem_nil⟩)) 40 3 (f_seek 3 0 tX9_addNumber) (f_seek_ok 3 0 tX9_addNumber tX9_addNumber_ok) _ _ _ _ ?_
        apply And.intro
        · intro h1
          exact ⟨hR', hF, hL, by omega⟩
        · intro h1
          apply And.intro
          · intro h2
            exfalso
            have h2 : (Int32.ofInt 1600).toInt ≤ (I' 1 1).toInt := h2
            simp (disch := omega) only [f_ci, va_up, upd, reduceIte, Nat.reduceEqDiff, xB] at *
            omega
          · intro h2
            have h2 : (I' 1 1).toInt < (Int32.ofInt 1600).toInt := h2
            have hB := hR' 1 1
            apply And.intro
            · refine ⟨hB.1, ?_⟩
              show (I' 1 1).toInt < 1600
              simp (disch := omega) only [f_ci, va_up, upd, reduceIte, Nat.reduceEqDiff, xB] at *
              omega
            · intro z q hz hq hl hu
              intro z2 q2 hz2 hq2 hl2 hu2
              have hq : z.toInt = (I' 1 1).toInt + (Int32.ofInt 1).toInt + 4294967296 * q := hq
              simp (disch := omega) only [f_ci, va_up, upd, reduceIte, Nat.reduceEqDiff, xB] at *
              refine ⟨z2, i + 1, rfl, rfl, by omega, by omega, ?_, by omega, ?_, ?_, hL⟩
              · show z.toInt = _
                omega
              · refine xR_f (xR_a hR' ?_) ?_
                · have hb := f_rng (vp_nar .byte ((n >>> (s &&& 31)).toInt8.toInt32))
                  exact hb
                · exact ⟨by show 0 ≤ z.toInt; omega, by show z.toInt ≤ 1600; omega⟩
              · exact f_fr_up (f_fr_up hF rfl) rfl
    refine f_wp_ok C f_cl flX9_ok fiX9_ok fjX9_ok (sn := none) (fun j h => by cases h) (cs := (fun _ => none)) (cz := (fun _ => none)) (fun j S h => by cases h) (fun j S h => by cases h) tX9_addNumber_ok (cut := (f_cnl [(3, jX9_addNumber n I L 5)])) (f_cnl_of (P := fun (tQ : Nat) (P : fLs → List Value → fM → fN → Prop) => ∀ ls' st' I' L', P ls' st' I' L' → f_W pP l eP (f_rm 0) sP mP aP bP hP9 cP xY 80 a cy dC dI 3 (f_K 0 (qX9_addNumber [.ref 1, .int n] I L)) tQ ls' st' I' L') (List.forall_mem_cons.mpr ⟨lp 5, fun _ h => absurd h List.not_mem_nil⟩)) 40 0 tX9_addNumber tX9_addNumber_ok _ _ _ _ ?_
    exact ⟨Int32.ofInt 24, 0, rfl, rfl, by omega, by rw [f_ci (by omega) (by omega)]; omega, by omega, by omega, hR, f_fr_rf, rfl⟩
