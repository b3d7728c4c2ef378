/-! the reference: what its cells hold at all times -/
def mB (k j : Nat) : Int × Int := match k with
  | 0 => (match j with | 2 => (0, 1600) | 3 => (0, 1600) | 6 => (0, 1601) | 7 => (0, 1601) | 24 => (0, 1) | 25 => (0, 1) | 30 => (0, 8) | 45 => (0, 20) | 46 => (0, 40) | 47 => (0, 40) | 48 => (0, 60) | 53 => (0, 10) | 54 => (-1, 1599) | 55 => (0, 39) | 59 => (-1, 10) | 69 => (0, 300) | 83 => (0, 12) | 84 => (0, 100000) | _ => (-2147483648, 2147483647))
  | 3 => (0, 2)
  | 4 => (0, 1599)
  | 5 => (-1, 1599)
  | 8 => (0, 5)
  | 9 => (0, 12)
  | 10 => (-1, 1599)
  | 11 => (0, 260)
  | 12 => (0, 3)
  | 13 => (-1, 1599)
  | 17 => (-1, 1599)
  | 18 => (0, 2)
  | 19 => (0, 11)
  | 20 => (0, 11)
  | 22 => (0, 39)
  | 23 => (-1, 19)
  | 24 => (0, 19)
  | 25 => (0, 19)
  | 26 => (-1, 39)
  | 27 => (0, 4)
  | 28 => (0, 39)
  | 29 => (0, 4)
  | 30 => (0, 39)
  | 31 => (0, 1599)
  | 32 => (0, 39)
  | 35 => (0, 3)
  | 36 => (-1, 1599)
  | 37 => (0, 2)
  | 39 => (0, 9)
  | 40 => (0, 19)
  | 41 => (0, 19)
  | 42 => (0, 39)
  | 43 => (-1, 39)
  | 47 => (0, 20)
  | 48 => (0, 30)
  | 52 => (0, 39)
  | 53 => (0, 7)
  | 54 => (0, 11)
  | 56 => (0, 6)
  | 57 => (0, 11)
  | 61 => (0, 9)
  | 63 => (-1, 12)
  | 64 => (0, 8)
  | 65 => (0, 11)
  | 66 => (0, 6)
  | 67 => (0, 11)
  | _ => (-2147483648, 2147483647)
def mR (I : fM) : Prop := ∀ k j, (mB k j).1 ≤ (I k j).toInt ∧ (I k j).toInt ≤ (mB k j).2
theorem mR_f {I : fM} (h : mR I) {k j : Nat} {x : Int32} (h1 : (mB k j).1 ≤ x.toInt ∧ x.toInt ≤ (mB k j).2) : mR (va_up I k (va_up (I k) j x)) := by
  intro k' j'
  by_cases e : k' = k
  · subst e
    rw [va_up_self]
    by_cases e2 : j' = j
    · subst e2; rw [va_up_self]; exact h1
    · rw [va_up_ne _ _ e2]; exact h k' j'
  · rw [va_up_ne _ _ e]; exact h k' j'
theorem mR_a {I : fM} (h : mR I) {k j : Nat} {x : Int32} (h1 : (mB k j).1 ≤ x.toInt ∧ x.toInt ≤ (mB k j).2) : mR (va_up I k (upd (I k) j x)) := by
  intro k' j'
  by_cases e : k' = k
  · subst e
    rw [va_up_self]
    by_cases e2 : j' = j
    · subst e2; rw [pk_us]; exact h1
    · rw [pk_un e2]; exact h k' j'
  · rw [va_up_ne _ _ e]; exact h k' j'
/-- fields of the object that stay -/
def f_fo (js : List Nat) (I I' : fM) : Prop := ∀ j, js.contains j = false → I' 0 j = I 0 j
theorem f_fo_rf {js : List Nat} {I : fM} : f_fo js I I := fun _ _ => rfl
theorem f_fo_up {js : List Nat} {I J : fM} {j : Nat} {x : Int32} (h : f_fo js I J) (hj : js.contains j = true) : f_fo js I (va_up J 0 (va_up (J 0) j x)) := by
  intro i hi
  rw [va_up_self, va_up_ne _ _ (fun e => by rw [e, hj] at hi; cases hi)]
  exact h i hi
theorem f_fo_ne {js : List Nat} {I J : fM} {k : Nat} {r : Nat → Int32} (h : f_fo js I J) (hk : k ≠ 0) : f_fo js I (va_up J k r) := by
  intro i hi
  rw [va_up_ne _ _ hk.symm]
  exact h i hi
theorem f_fo_fr {js ms : List Nat} {I J K : fM} (h : f_fo js I J) (h' : f_fr ms J K) (h0 : ms.contains 0 = false) : f_fo js I K := by
  intro i hi
  rw [h' 0 h0]
  exact h i hi
theorem f_fo_tr {js ks : List Nat} {I J K : fM} (h : f_fo js I J) (h' : f_fo ks J K) (hs : ks.all (fun k => js.contains k) = true) : f_fo js I K := by
  intro i hi
  have hi' : ks.contains i = false := by
    cases hc : ks.contains i with
    | false => rfl
    | true =>
      have h1 := List.all_eq_true.mp hs i (List.contains_iff_mem.mp hc)
      rw [h1] at hi
      cases hi
  rw [h' i hi', h i hi]
def tX12_sign : List (Instr × Nat) := [(.iload_n 1, 1), (.aload_n 0, 1), (.getfield 233, 3), (.if_icmp .ge 16, 3), (.aload_n 0, 1), (.getfield 13, 3), (.iload_n 1, 1), (.baload, 1), (.sipush 255, 3), (.iand, 1), (.goto 4, 3), (.iconst 0, 1), (.ireturn, 1)]
theorem tX12_sign_ok : f_chk cX12_sign 0 tX12_sign = true := by decide +kernel
def pX12_sign (av : List Value) (I : fM) (L : fN) : Prop := match av with
  | [.ref 0, .int k] => mR I ∧ 0 ≤ k.toInt
  | _ => False
def qX12_sign (av : List Value) (I : fM) (L : fN) (r : Value) (I' : fM) (L' : fN) : Prop := match av, r with
  | [.ref 0, .int k], .int x => I' = I ∧ L' = L ∧ ((I 0 3).toInt ≤ k.toInt → x.toInt = 0)
  | _, _ => False
set_option maxHeartbeats 4000000 in
set_option maxRecDepth 100000 in
theorem mX12_sign {l : Launch} {a : Nat → Nat} {cy dC : Nat → ClassId} {dI : Nat → Nat → Nat} (hinj : ∀ i j, i < 71 → j < 71 → a i = a j → i = j) : f_Met (fun _ => True) l mY 71 a cy dC dI yX12_sign cX12_sign 2 1 0 pX12_sign qX12_sign := by
  refine f_met_of (f_Ec_T 71 a) hinj mY_hi (by decide) (fun av I L h => by unfold pX12_sign at h; split at h <;> first | exact Nat.le_of_ble_eq_true rfl | exact h.elim) ?_
  intro pP eP sP mP aP bP hP9 cP C av I L hp
  unfold pX12_sign at hp
  split at hp
  case h_2 => exact hp.elim
  case h_1 k =>
    obtain ⟨hR, p1⟩ := hp
    refine f_wp_ok C f_cl flX12_ok fiX12_ok fjX12_ok (sn := none) (fun j h => by cases h) (cs := (fun _ => none)) (cz := (fun _ => none)) (fun j S h => by cases h) (fun j S h => by cases h) tX12_sign_ok (cut := (fun _ => none)) (fun t P h => by cases h) 15 0 tX12_sign tX12_sign_ok _ _ _ _ ?_
    have r2_1 : 0 ≤ (I 0 3).toInt ∧ (I 0 3).toInt ≤ 1600 := hR 0 3
    apply And.intro
    · intro h5
      have h5 : (I 0 3).toInt ≤ k.toInt := h5
      exact ⟨rfl, rfl, (show ((I 0 3).toInt ≤ k.toInt → (0 : Int) = 0) from fun h => by omega)⟩
    · intro h5
      have h5 : k.toInt < (I 0 3).toInt := h5
      refine And.intro (show f_in k 1600 from ⟨show 0 ≤ k.toInt from by omega, show k.toInt < 1600 from by omega⟩) ?_
      have b17 : 0 ≤ ((I 2 (k.toInt.toNat)) &&& (Int32.ofInt 255)).toInt ∧ ((I 2 (k.toInt.toNat)) &&& (Int32.ofInt 255)).toInt ≤ 255 := f_andc (I 2 (k.toInt.toNat)) 8 (by decide) (by decide)
      exact ⟨rfl, rfl, (show ((I 0 3).toInt ≤ k.toInt → ((I 2 (k.toInt.toNat)) &&& (Int32.ofInt 255)).toInt = 0) from fun h => by omega)⟩
def tX12_isLetter : List (Instr × Nat) := [(.iload_n 0, 1), (.bipush 97, 2), (.if_icmp .lt 13, 3), (.iload_n 0, 1), (.bipush 122, 2), (.if_icmp .gt 7, 3), (.iconst 1, 1), (.goto 4, 3), (.iconst 0, 1), (.ireturn, 1)]
theorem tX12_isLetter_ok : f_chk cX12_isLetter 0 tX12_isLetter = true := by decide +kernel
def pX12_isLetter (av : List Value) (I : fM) (L : fN) : Prop := match av with
  | [.int c] => True
  | _ => False
def qX12_isLetter (av : List Value) (I : fM) (L : fN) (r : Value) (I' : fM) (L' : fN) : Prop := match av, r with
  | [.int c], .int x => I' = I ∧ L' = L ∧ (x.toInt = 0 ∨ x.toInt = 1) ∧ (x.toInt = 1 → 97 ≤ c.toInt)
  | _, _ => False
set_option maxHeartbeats 4000000 in
set_option maxRecDepth 100000 in
theorem mX12_isLetter {l : Launch} {a : Nat → Nat} {cy dC : Nat → ClassId} {dI : Nat → Nat → Nat} (hinj : ∀ i j, i < 71 → j < 71 → a i = a j → i = j) : f_Met (fun _ => True) l mY 71 a cy dC dI yX12_isLetter cX12_isLetter 1 3 0 pX12_isLetter qX12_isLetter := by
  refine f_met_of (f_Ec_T 71 a) hinj mY_hi (by decide) (fun av I L h => by unfold pX12_isLetter at h; split at h <;> first | exact Nat.le_of_ble_eq_true rfl | exact h.elim) ?_
  intro pP eP sP mP aP bP hP9 cP C av I L hp
  unfold pX12_isLetter at hp
  split at hp
  case h_2 => exact hp.elim
  case h_1 c =>
    have p0 := hp
    refine f_wp_ok C f_cl flX12_ok fiX12_ok fjX12_ok (sn := none) (fun j h => by cases h) (cs := (fun _ => none)) (cz := (fun _ => none)) (fun j S h => by cases h) (fun j S h => by cases h) tX12_isLetter_ok (cut := (fun _ => none)) (fun t P h => by cases h) 12 0 tX12_isLetter tX12_isLetter_ok _ _ _ _ ?_
    apply And.intro
    · intro h3
      have h3 : c.toInt < 97 := h3
      exact ⟨Or.inl rfl, rfl, rfl, (show ((0 : Int) = 0 ∨ (0 : Int) = 1) from by first | assumption | omega | rfl), (show ((0 : Int) = 1 → 97 ≤ c.toInt) from fun h => by omega)⟩
    · intro h3
      have h3 : 97 ≤ c.toInt := h3
      apply And.intro
      · intro h9
        have h9 : 122 < c.toInt := h9
        exact ⟨Or.inl rfl, rfl, rfl, (show ((0 : Int) = 0 ∨ (0 : Int) = 1) from by first | assumption | omega | rfl), (show ((0 : Int) = 1 → 97 ≤ c.toInt) from fun h => by omega)⟩
      · intro h9
        have h9 : c.toInt ≤ 122 := h9
        exact ⟨Or.inr rfl, rfl, rfl, (show ((1 : Int) = 0 ∨ (1 : Int) = 1) from by first | assumption | omega | rfl), (show ((1 : Int) = 1 → 97 ≤ c.toInt) from fun h => by omega)⟩
def tX12_fails : List (Instr × Nat) := [(.aload_n 0, 1), (.getfield 236, 3), (.ifCond .le 4, 3), (.return_, 1), (.aload_n 0, 1), (.iload_n 1, 1), (.putfield 236, 3), (.aload_n 0, 1), (.iload_n 2, 1), (.putfield 16, 3), (.return_, 1)]
theorem tX12_fails_ok : f_chk cX12_fails 0 tX12_fails = true := by decide +kernel
def pX12_fails (av : List Value) (I : fM) (L : fN) : Prop := match av with
  | [.ref 0, .int k, .int p] => mR I ∧ 1 ≤ k.toInt
  | _ => False
def qX12_fails (av : List Value) (I : fM) (L : fN) (r : Value) (I' : fM) (L' : fN) : Prop := match av, r with
  | [.ref 0, .int k, .int p], .null => mR I' ∧ f_fo [4, 5] I I' ∧ f_fr [0] I I' ∧ L' = L ∧ 1 ≤ (I' 0 4).toInt
  | _, _ => False
set_option maxHeartbeats 4000000 in
set_option maxRecDepth 100000 in
theorem mX12_fails {l : Launch} {a : Nat → Nat} {cy dC : Nat → ClassId} {dI : Nat → Nat → Nat} (hinj : ∀ i j, i < 71 → j < 71 → a i = a j → i = j) : f_Met (fun _ => True) l mY 71 a cy dC dI yX12_fails cX12_fails 3 0 0 pX12_fails qX12_fails := by
  refine f_met_of (f_Ec_T 71 a) hinj mY_hi (by decide) (fun av I L h => by unfold pX12_fails at h; split at h <;> first | exact Nat.le_of_ble_eq_true rfl | exact h.elim) ?_
  intro pP eP sP mP aP bP hP9 cP C av I L hp
  unfold pX12_fails at hp
  split at hp
  case h_2 => exact hp.elim
  case h_1 k p =>
    obtain ⟨hR, p1⟩ := hp
    have hF0 : f_fr [0] I I := f_fr_rf
    have hO0 : f_fo [4, 5] I I := f_fo_rf
    refine f_wp_ok C f_cl flX12_ok fiX12_ok fjX12_ok (sn := none) (fun j h => by cases h) (cs := (fun _ => none)) (cz := (fun _ => none)) (fun j S h => by cases h) (fun j S h => by cases h) tX12_fails_ok (cut := (fun _ => none)) (fun t P h => by cases h) 13 0 tX12_fails tX12_fails_ok _ _ _ _ ?_
    apply And.intro
    · intro h4
      have h4 : (I 0 4).toInt ≤ 0 := h4
      have hR10 := mR_f (k := 0) (j := 4) (x := k) hR (by exact f_rng _)
      have hF10 := f_fr_up (k := 0) (r := va_up (I 0) 4 k) hF0 rfl
      have hO10 := f_fo_up (j := 4) (x := k) hO0 rfl
      have hR15 := mR_f (k := 0) (j := 5) (x := p) hR10 (by exact f_rng _)
      have hF15 := f_fr_up (k := 0) (r := va_up (va_up (I 0) 4 k) 5 p) hF10 rfl
      have hO15 := f_fo_up (j := 5) (x := p) hO10 rfl
      exact ⟨hR15, hO15, hF15, rfl, (show 1 ≤ k.toInt from by first | assumption | omega | rfl)⟩
    · intro h4
      have h4 : 0 < (I 0 4).toInt := h4
      exact ⟨hR, hO0, hF0, rfl, (show 1 ≤ (I 0 4).toInt from by first | assumption | omega | rfl)⟩
def tX12_isGood : List (Instr × Nat) := [(.aload_n 0, 1), (.getfield 236, 3), (.ifCond .ne 7, 3), (.iconst 1, 1), (.goto 4, 3), (.iconst 0, 1), (.ireturn, 1)]
theorem tX12_isGood_ok : f_chk cX12_isGood 0 tX12_isGood = true := by decide +kernel
def pX12_isGood (av : List Value) (I : fM) (L : fN) : Prop := match av with
  | [.ref 0] => True
  | _ => False
def qX12_isGood (av : List Value) (I : fM) (L : fN) (r : Value) (I' : fM) (L' : fN) : Prop := match av, r with
  | [.ref 0], .int x => I' = I ∧ L' = L ∧ (x.toInt = 1 ∧ (I 0 4).toInt = 0 ∨ x.toInt = 0 ∧ ¬ (I 0 4).toInt = 0)
  | _, _ => False
set_option maxHeartbeats 4000000 in
set_option maxRecDepth 100000 in
theorem mX12_isGood {l : Launch} {a : Nat → Nat} {cy dC : Nat → ClassId} {dI : Nat → Nat → Nat} (hinj : ∀ i j, i < 71 → j < 71 → a i = a j → i = j) : f_Met (fun _ => True) l mY 71 a cy dC dI yX12_isGood cX12_isGood 1 3 0 pX12_isGood qX12_isGood := by
  refine f_met_of (f_Ec_T 71 a) hinj mY_hi (by decide) (fun av I L h => by unfold pX12_isGood at h; split at h <;> first | exact Nat.le_of_ble_eq_true rfl | exact h.elim) ?_
  intro pP eP sP mP aP bP hP9 cP C av I L hp
  unfold pX12_isGood at hp
  split at hp
  case h_2 => exact hp.elim
  case h_1 =>
    have p0 := hp
    refine f_wp_ok C f_cl flX12_ok fiX12_ok fjX12_ok (sn := none) (fun j h => by cases h) (cs := (fun _ => none)) (cz := (fun _ => none)) (fun j S h => by cases h) (fun j S h => by cases h) tX12_isGood_ok (cut := (fun _ => none)) (fun t P h => by cases h) 9 0 tX12_isGood tX12_isGood_ok _ _ _ _ ?_
    apply And.intro
    · intro h4
      have h4 : ¬ (I 0 4).toInt = 0 := h4
      exact ⟨Or.inl rfl, rfl, rfl, (show ((0 : Int) = 1 ∧ (I 0 4).toInt = 0 ∨ (0 : Int) = 0 ∧ ¬ (I 0 4).toInt = 0) from by first | assumption | omega | rfl)⟩
    · intro h4
      have h4 : (I 0 4).toInt = 0 := h4
      exact ⟨Or.inr rfl, rfl, rfl, (show ((1 : Int) = 1 ∧ (I 0 4).toInt = 0 ∨ (1 : Int) = 0 ∧ ¬ (I 0 4).toInt = 0) from by first | assumption | omega | rfl)⟩
def tX12_isKept : List (Instr × Nat) := [(.lload_n 0, 1), (.ldc2_w 239, 3), (.lcmp, 1), (.ifCond .eq 35, 3), (.lload_n 0, 1), (.ldc2_w 241, 3), (.lcmp, 1), (.ifCond .eq 27, 3), (.lload_n 0, 1), (.ldc2_w 243, 3), (.lcmp, 1), (.ifCond .eq 19, 3), (.lload_n 0, 1), (.ldc2_w 245, 3), (.lcmp, 1), (.ifCond .eq 11, 3), (.lload_n 0, 1), (.ldc2_w 247, 3), (.lcmp, 1), (.ifCond .ne 7, 3), (.iconst 1, 1), (.goto 4, 3), (.iconst 0, 1), (.ireturn, 1)]
theorem tX12_isKept_ok : f_chk cX12_isKept 0 tX12_isKept = true := by decide +kernel
def pX12_isKept (av : List Value) (I : fM) (L : fN) : Prop := match av with
  | [.long v] => True
  | _ => False
def qX12_isKept (av : List Value) (I : fM) (L : fN) (r : Value) (I' : fM) (L' : fN) : Prop := match av, r with
  | [.long v], .int x => I' = I ∧ L' = L ∧ (x.toInt = 0 ∨ x.toInt = 1)
  | _, _ => False
set_option maxHeartbeats 4000000 in
set_option maxRecDepth 100000 in
theorem mX12_isKept {l : Launch} {a : Nat → Nat} {cy dC : Nat → ClassId} {dI : Nat → Nat → Nat} (hinj : ∀ i j, i < 71 → j < 71 → a i = a j → i = j) : f_Met (fun _ => True) l mY 71 a cy dC dI yX12_isKept cX12_isKept 2 3 0 pX12_isKept qX12_isKept := by
  refine f_met_of (f_Ec_T 71 a) hinj mY_hi (by decide) (fun av I L h => by unfold pX12_isKept at h; split at h <;> first | exact Nat.le_of_ble_eq_true rfl | exact h.elim) ?_
  intro pP eP sP mP aP bP hP9 cP C av I L hp
  unfold pX12_isKept at hp
  split at hp
  case h_2 => exact hp.elim
  case h_1 v =>
    have p0 := hp
    refine f_wp_ok C f_cl flX12_ok fiX12_ok fjX12_ok (sn := none) (fun j h => by cases h) (cs := (fun _ => none)) (cz := (fun _ => none)) (fun j S h => by cases h) (fun j S h => by cases h) tX12_isKept_ok (cut := (fun _ => none)) (fun t P h => by cases h) 26 0 tX12_isKept tX12_isKept_ok _ _ _ _ ?_
    apply And.intro
    · intro h5
      have h5 : (lg_cmp v (1802071652 : Int64)).toInt = 0 := h5
      exact ⟨Or.inr rfl, rfl, rfl, (show ((1 : Int) = 0 ∨ (1 : Int) = 1) from by first | assumption | omega | rfl)⟩
    · intro h5
      have h5 : ¬ (lg_cmp v (1802071652 : Int64)).toInt = 0 := h5
      apply And.intro
      · intro h13
        have h13 : (lg_cmp v (1735352684 : Int64)).toInt = 0 := h13
        exact ⟨Or.inr rfl, rfl, rfl, (show ((1 : Int) = 0 ∨ (1 : Int) = 1) from by first | assumption | omega | rfl)⟩
      · intro h13
        have h13 : ¬ (lg_cmp v (1735352684 : Int64)).toInt = 0 := h13
        apply And.intro
        · intro h21
          have h21 : (lg_cmp v (2003792484 : Int64)).toInt = 0 := h21
          exact ⟨Or.inr rfl, rfl, rfl, (show ((1 : Int) = 0 ∨ (1 : Int) = 1) from by first | assumption | omega | rfl)⟩
        · intro h21
          have h21 : ¬ (lg_cmp v (2003792484 : Int64)).toInt = 0 := h21
          apply And.intro
          · intro h29
            have h29 : (lg_cmp v (26995 : Int64)).toInt = 0 := h29
            exact ⟨Or.inr rfl, rfl, rfl, (show ((1 : Int) = 0 ∨ (1 : Int) = 1) from by first | assumption | omega | rfl)⟩
          · intro h29
            have h29 : ¬ (lg_cmp v (26995 : Int64)).toInt = 0 := h29
            apply And.intro
            · intro h37
              have h37 : ¬ (lg_cmp v (28530 : Int64)).toInt = 0 := h37
              exact ⟨Or.inl rfl, rfl, rfl, (show ((0 : Int) = 0 ∨ (0 : Int) = 1) from by first | assumption | omega | rfl)⟩
            · intro h37
              have h37 : (lg_cmp v (28530 : Int64)).toInt = 0 := h37
              exact ⟨Or.inr rfl, rfl, rfl, (show ((1 : Int) = 0 ∨ (1 : Int) = 1) from by first | assumption | omega | rfl)⟩
def tX12_isSign : List (Instr × Nat) := [(.iload_n 0, 1), (.bipush 59, 2), (.if_icmp .eq 27, 3), (.iload_n 0, 1), (.bipush 40, 2), (.if_icmp .eq 21, 3), (.iload_n 0, 1), (.bipush 41, 2), (.if_icmp .eq 15, 3), (.iload_n 0, 1), (.bipush 47, 2), (.if_icmp .eq 9, 3), (.iload_n 0, 1), (.bipush 92, 2), (.if_icmp .ne 7, 3), (.iconst 1, 1), (.goto 4, 3), (.iconst 0, 1), (.ireturn, 1)]
theorem tX12_isSign_ok : f_chk cX12_isSign 0 tX12_isSign = true := by decide +kernel
def pX12_isSign (av : List Value) (I : fM) (L : fN) : Prop := match av with
  | [.int c] => True
  | _ => False
def qX12_isSign (av : List Value) (I : fM) (L : fN) (r : Value) (I' : fM) (L' : fN) : Prop := match av, r with
  | [.int c], .int x => I' = I ∧ L' = L ∧ (x.toInt = 0 ∨ x.toInt = 1)
  | _, _ => False
set_option maxHeartbeats 4000000 in
set_option maxRecDepth 100000 in
theorem mX12_isSign {l : Launch} {a : Nat → Nat} {cy dC : Nat → ClassId} {dI : Nat → Nat → Nat} (hinj : ∀ i j, i < 71 → j < 71 → a i = a j → i = j) : f_Met (fun _ => True) l mY 71 a cy dC dI yX12_isSign cX12_isSign 1 3 0 pX12_isSign qX12_isSign := by
  refine f_met_of (f_Ec_T 71 a) hinj mY_hi (by decide) (fun av I L h => by unfold pX12_isSign at h; split at h <;> first | exact Nat.le_of_ble_eq_true rfl | exact h.elim) ?_
  intro pP eP sP mP aP bP hP9 cP C av I L hp
  unfold pX12_isSign at hp
  split at hp
  case h_2 => exact hp.elim
  case h_1 c =>
    have p0 := hp
    refine f_wp_ok C f_cl flX12_ok fiX12_ok fjX12_ok (sn := none) (fun j h => by cases h) (cs := (fun _ => none)) (cz := (fun _ => none)) (fun j S h => by cases h) (fun j S h => by cases h) tX12_isSign_ok (cut := (fun _ => none)) (fun t P h => by cases h) 21 0 tX12_isSign tX12_isSign_ok _ _ _ _ ?_
    apply And.intro
    · intro h3
      have h3 : c.toInt = 59 := h3
      exact ⟨Or.inr rfl, rfl, rfl, (show ((1 : Int) = 0 ∨ (1 : Int) = 1) from by first | assumption | omega | rfl)⟩
    · intro h3
      have h3 : ¬ c.toInt = 59 := h3
      apply And.intro
      · intro h9
        have h9 : c.toInt = 40 := h9
        exact ⟨Or.inr rfl, rfl, rfl, (show ((1 : Int) = 0 ∨ (1 : Int) = 1) from by first | assumption | omega | rfl)⟩
      · intro h9
        have h9 : ¬ c.toInt = 40 := h9
        apply And.intro
        · intro h15
          have h15 : c.toInt = 41 := h15
          exact ⟨Or.inr rfl, rfl, rfl, (show ((1 : Int) = 0 ∨ (1 : Int) = 1) from by first | assumption | omega | rfl)⟩
        · intro h15
          have h15 : ¬ c.toInt = 41 := h15
          apply And.intro
          · intro h21
            have h21 : c.toInt = 47 := h21
            exact ⟨Or.inr rfl, rfl, rfl, (show ((1 : Int) = 0 ∨ (1 : Int) = 1) from by first | assumption | omega | rfl)⟩
          · intro h21
            have h21 : ¬ c.toInt = 47 := h21
            apply And.intro
            · intro h27
              have h27 : ¬ c.toInt = 92 := h27
              exact ⟨Or.inl rfl, rfl, rfl, (show ((0 : Int) = 0 ∨ (0 : Int) = 1) from by first | assumption | omega | rfl)⟩
            · intro h27
              have h27 : c.toInt = 92 := h27
              exact ⟨Or.inr rfl, rfl, rfl, (show ((1 : Int) = 0 ∨ (1 : Int) = 1) from by first | assumption | omega | rfl)⟩
def tX12_goOn : List (Instr × Nat) := [(.aload_n 0, 1), (.aload_n 0, 1), (.getfield 249, 3), (.putfield 252, 3), (.aload_n 0, 1), (.getfield 252, 3), (.aload_n 0, 1), (.getfield 233, 3), (.if_icmp .ge 42, 3), (.aload_n 0, 1), (.aload_n 0, 1), (.getfield 252, 3), (.invokevirtual 255, 3), (.bipush 32, 2), (.if_icmp .eq 16, 3), (.aload_n 0, 1), (.aload_n 0, 1), (.getfield 252, 3), (.invokevirtual 255, 3), (.bipush 10, 2), (.if_icmp .ne 16, 3), (.aload_n 0, 1), (.dup, 1), (.getfield 252, 3), (.iconst 1, 1), (.iadd, 1), (.putfield 252, 3), (.goto (-47), 3), (.aload_n 0, 1), (.aload_n 0, 1), (.getfield 252, 3), (.invokevirtual 255, 3), (.istore_n 1, 1), (.aload_n 0, 1), (.aload_n 0, 1), (.getfield 252, 3), (.iconst 1, 1), (.iadd, 1), (.putfield 249, 3), (.aload_n 0, 1), (.getfield 252, 3), (.aload_n 0, 1), (.getfield 233, 3), (.if_icmp .lt 27, 3), (.aload_n 0, 1), (.iconst 0, 1), (.putfield 259, 3), (.aload_n 0, 1), (.aload_n 0, 1), (.getfield 233, 3), (.putfield 252, 3), (.aload_n 0, 1), (.aload_n 0, 1), (.getfield 233, 3), (.putfield 249, 3), (.goto 146, 3), (.iload_n 1, 1), (.invokestatic 262, 3), (.ifCond .eq 123, 3), (.aload_n 0, 1), (.aload_n 0, 1), (.getfield 249, 3), (.invokevirtual 255, 3), (.invokestatic 262, 3), (.ifCond .eq 16, 3), (.aload_n 0, 1), (.dup, 1), (.getfield 249, 3), (.iconst 1, 1), (.iadd, 1), (.putfield 249, 3), (.goto (-24), 3), (.aload_n 0, 1), (.lconst 0, 1), (.putfield 266, 3), (.aload_n 0, 1), (.getfield 252, 3), (.istore_n 2, 1), (.iload_n 2, 1), (.aload_n 0, 1), (.getfield 249, 3), (.if_icmp .ge 38, 3), (.iload_n 2, 1), (.aload_n 0, 1), (.getfield 252, 3), (.bipush 8, 2), (.iadd, 1), (.if_icmp .ge 27, 3), (.aload_n 0, 1), (.aload_n 0, 1), (.getfield 266, 3), (.bipush 8, 2), (.lshl, 1), (.aload_n 0, 1), (.iload_n 2, 1), (.invokevirtual 255, 3), (.i2l, 1), (.lor, 1), (.putfield 266, 3), (.iinc 2 1, 3), (.goto (-40), 3), (.aload_n 0, 1), (.aload_n 0, 1), (.getfield 249, 3), (.aload_n 0, 1), (.getfield 252, 3), (.isub, 1), (.bipush 8, 2), (.if_icmp .le 7, 3), (.iconst 1, 1), (.goto 18, 3), (.aload_n 0, 1), (.getfield 266, 3), (.invokestatic 270, 3), (.ifCond .eq 7, 3), (.iconst 3, 1), (.goto 4, 3), (.iconst 2, 1), (.putfield 259, 3), (.goto 19, 3), (.aload_n 0, 1), (.iload_n 1, 1), (.invokestatic 274, 3), (.ifCond .eq 7, 3), (.iconst 4, 1), (.goto 4, 3), (.iconst 1, 1), (.putfield 259, 3), (.return_, 1)]
theorem tX12_goOn_ok : f_chk cX12_goOn 0 tX12_goOn = true := by decide +kernel
def pX12_goOn (av : List Value) (I : fM) (L : fN) : Prop := match av with
  | [.ref 0] => mR I ∧ (I 0 7).toInt ≤ 1600
  | _ => False
def qX12_goOn (av : List Value) (I : fM) (L : fN) (r : Value) (I' : fM) (L' : fN) : Prop := match av, r with
  | [.ref 0], .null => mR I' ∧ f_fo [6, 7, 8] I I' ∧ f_fr [0] I I' ∧ f_fr [0] L L' ∧ (I' 0 7).toInt ≤ 1600
  | _, _ => False
set_option maxHeartbeats 4000000 in
set_option maxRecDepth 100000 in
theorem mX12_goOn {l : Launch} {a : Nat → Nat} {cy dC : Nat → ClassId} {dI : Nat → Nat → Nat} (hinj : ∀ i j, i < 71 → j < 71 → a i = a j → i = j) : f_Met (fun _ => True) l mY 71 a cy dC dI yX12_goOn cX12_goOn 3 0 1 pX12_goOn qX12_goOn := by
  refine f_met_of (f_Ec_T 71 a) hinj mY_hi (by decide) (fun av I L h => by unfold pX12_goOn at h; split at h <;> first | exact Nat.le_of_ble_eq_true rfl | exact h.elim) ?_
  intro pP eP sP mP aP bP hP9 cP C av I L hp
  unfold pX12_goOn at hp
  split at hp
  case h_2 => exact hp.elim
  case h_1 =>
    obtain ⟨hR, p1⟩ := hp
    have hz : 0 ≤ (I 0 3).toInt ∧ (I 0 3).toInt ≤ 1600 := hR 0 3
    have hF0 : f_fr [0] I I := f_fr_rf
    have hG0 : f_fr [0] L L := f_fr_rf
    have hO0 : f_fo [6, 7, 8] I I := f_fo_rf
    have lp156 : ∀ (n156 : Nat), ∀ (c : Int32) (k : Int32) (J156 : fM) (M156 : fN), mR J156 ∧ f_fr [0] I J156 ∧ f_fr [0] L M156 ∧ f_fo [6, 7, 8] I J156 ∧ ((J156 0 6).toInt < (I 0 3).toInt) ∧ ((J156 0 7).toInt ≤ (I 0 3).toInt) ∧ ((J156 0 6).toInt ≤ k.toInt) ∧ (k.toInt ≤ (J156 0 7).toInt ∨ k.toInt = (J156 0 6).toInt) ∧ (1601 - k.toInt) < n156 → f_W pP l eP (f_rm 1) sP mP aP bP hP9 cP mY 71 a cy dC dI 3 (f_K 0 (qX12_goOn [.ref 0] I L)) 156 [(2, .int k), (1, .int c), (0, .ref 0)] [] J156 M156 := by
      intro n156
      induction n156 with
      | zero =>
        intro c k J156 M156 h9
        obtain ⟨hR156c, hF156c, hG156c, hO156c, u156_1, u156_2, u156_3, u156_4, hm156⟩ := h9
        omega
      | succ n156 ih156 =>
        intro c k J156 M156 h9
        obtain ⟨hR156c, hF156c, hG156c, hO156c, u156_1, u156_2, u156_3, u156_4, hm156⟩ := h9
        refine f_wp_ok C f_cl flX12_ok fiX12_ok fjX12_ok (sn := none) (fun j h => by cases h) (cs := (f_cnl [(255, (2, 1, 11, pX12_sign, qX12_sign))])) (cz := (f_cnl [(262, (1, 3, 11, pX12_isLetter, qX12_isLetter)), (270, (1, 3, 11, pX12_isKept, qX12_isKept)), (274, (1, 3, 11, pX12_isSign, qX12_isSign))])) (f_cnl_of (P := fun j S => f_cok pP l eP (f_rm 1) sP mP aP bP hP9 cP mY 71 a cy dC dI 3 _ _ (.invokevirtual j) true S) (List.forall_mem_cons.mpr ⟨f_cokV C (mX12_sign hinj) (ci := 11) rfl (List.forall_mem_cons.mpr ⟨(mlX12_ok _ (List.mem_of_getElem? (i := 2) rfl)), kc_X12_sign⟩) (by decide +kernel) ⟨Nat.le_of_ble_eq_true rfl, Nat.le_of_ble_eq_true rfl⟩, fun _ h => absurd h List.not_mem_nil⟩)) (f_cnl_of (P := fun j S => f_cok pP l eP (f_rm 1) sP mP aP bP hP9 cP mY 71 a cy dC dI 3 _ _ (.invokestatic j) false S) (List.forall_mem_cons.mpr ⟨f_cokS C (mX12_isLetter hinj) (List.forall_mem_cons.mpr ⟨(mlX12_ok _ (List.mem_of_getElem? (i := 3) rfl)), kc_X12_isLetter⟩) (by decide +kernel) ⟨Nat.le_of_ble_eq_true rfl, Nat.le_of_ble_eq_true rfl⟩, List.forall_mem_cons.mpr ⟨f_cokS C (mX12_isKept hinj) (List.forall_mem_cons.mpr ⟨(mlX12_ok _ (List.mem_of_getElem? (i := 4) rfl)), kc_X12_isKept⟩) (by decide +kernel) ⟨Nat.le_of_ble_eq_true rfl, Nat.le_of_ble_eq_true rfl⟩, List.forall_mem_cons.mpr ⟨f_cokS C (mX12_isSign hinj) (List.forall_mem_cons.mpr ⟨(mlX12_ok _ (List.mem_of_getElem? (i := 5) rfl)), kc_X12_isSign⟩) (by decide +kernel) ⟨Nat.le_of_ble_eq_true rfl, Nat.le_of_ble_eq_true rfl⟩, fun _ h => absurd h List.not_mem_nil⟩⟩⟩)) tX12_goOn_ok (cut := (f_cnl [(156, (fun (ls' : fLs) (st' : List Value) (I' : fM) (L' : fN) => ∃ c : Int32, ∃ k : Int32, (∀ q ∈ ([(2, .int k), (1, .int c), (0, .ref 0)] : fLs), q ∈ ls') ∧ st' = [] ∧ (mR I' ∧ f_fr [0] I I' ∧ f_fr [0] L L' ∧ f_fo [6, 7, 8] I I' ∧ ((I' 0 6).toInt < (I 0 3).toInt) ∧ ((I' 0 7).toInt ≤ (I 0 3).toInt) ∧ ((I' 0 6).toInt ≤ k.toInt) ∧ (k.toInt ≤ (I' 0 7).toInt ∨ k.toInt = (I' 0 6).toInt) ∧ (1601 - k.toInt) < n156)))])) (f_cnl_of (P := fun (tQ : Nat) (P : fLs → List Value → fM → fN → Prop) => ∀ ls' st' I' L', P ls' st' I' L' → f_W pP l eP (f_rm 1) sP mP aP bP hP9 cP mY 71 a cy dC dI 3 (f_K 0 (qX12_goOn [.ref 0] I L)) tQ ls' st' I' L') (List.forall_mem_cons.mpr ⟨(fun ls' st' I' L' h => by obtain ⟨c, k, hs, e1, h9⟩ := h; rw [e1]; exact f_W_sub hs (ih156 c k I' L' h9)), fun _ h => absurd h List.not_mem_nil⟩)) 30 156 (f_seek 156 0 tX12_goOn) (f_seek_ok 156 0 tX12_goOn tX12_goOn_ok) _ _ _ _ ?_
        have r158_1 : 0 ≤ (J156 0 7).toInt ∧ (J156 0 7).toInt ≤ 1601 := hR156c 0 7
        apply And.intro
        · intro h161
          have h161 : (J156 0 7).toInt ≤ k.toInt := h161
          have r205_2 : 0 ≤ (J156 0 6).toInt ∧ (J156 0 6).toInt ≤ 1601 := hR156c 0 6
          intro z208 q208 _ hq208 hl208 hu208
          have hq208 : z208.toInt = (J156 0 7).toInt - (J156 0 6).toInt + 4294967296 * q208 := hq208
          try have hz208 : z208.toInt = (J156 0 7).toInt - (J156 0 6).toInt := by omega
          apply And.intro
          · intro h211
            have h211 : z208.toInt ≤ 8 := h211
            refine And.intro trivial ?_
            intro x222 I222 L222 hq222
            have hq222 : I222 = J156 ∧ L222 = M156 ∧ ((x222.toInt = 0 ∨ x222.toInt = 1)) := hq222
            obtain ⟨eI222, eL222, c222_2⟩ := hq222
            replace eI222 := eI222.symm
            subst eI222
            replace eL222 := eL222.symm
            subst eL222
            apply And.intro
            · intro h225
              have h225 : x222.toInt = 0 := h225
              have hR233 := mR_f (k := 0) (j := 8) (x := Int32.ofInt 2) hR156c (by exact f_rng _)
              have hF233 := f_fr_up (k := 0) (r := va_up (J156 0) 8 (Int32.ofInt 2)) hF156c rfl
              have hO233 := f_fo_up (j := 8) (x := Int32.ofInt 2) hO156c rfl
              exact ⟨hR233, hO233, hF233, hG156c, (show (J156 0 7).toInt ≤ 1600 from by first | assumption | omega | rfl)⟩
            · intro h225
              have h225 : ¬ x222.toInt = 0 := h225
              have hR233 := mR_f (k := 0) (j := 8) (x := Int32.ofInt 3) hR156c (by exact f_rng _)
              have hF233 := f_fr_up (k := 0) (r := va_up (J156 0) 8 (Int32.ofInt 3)) hF156c rfl
              have hO233 := f_fo_up (j := 8) (x := Int32.ofInt 3) hO156c rfl
              exact ⟨hR233, hO233, hF233, hG156c, (show (J156 0 7).toInt ≤ 1600 from by first | assumption | omega | rfl)⟩
          · intro h211
            have h211 : 8 < z208.toInt := h211
            have hR233 := mR_f (k := 0) (j := 8) (x := Int32.ofInt 1) hR156c (by exact f_rng _)
            have hF233 := f_fr_up (k := 0) (r := va_up (J156 0) 8 (Int32.ofInt 1)) hF156c rfl
            have hO233 := f_fo_up (j := 8) (x := Int32.ofInt 1) hO156c rfl
            exact ⟨hR233, hO233, hF233, hG156c, (show (J156 0 7).toInt ≤ 1600 from by first | assumption | omega | rfl)⟩
        · intro h161
          have h161 : k.toInt < (J156 0 7).toInt := h161
          have r166_2 : 0 ≤ (J156 0 6).toInt ∧ (J156 0 6).toInt ≤ 1601 := hR156c 0 6
          intro z171 q171 _ hq171 hl171 hu171
          have hq171 : z171.toInt = (J156 0 6).toInt + 8 + 4294967296 * q171 := hq171
          try have hz171 : z171.toInt = (J156 0 6).toInt + 8 := by omega
          apply And.intro
          · intro h172
            have h172 : z171.toInt ≤ k.toInt := h172
            intro z208 q208 _ hq208 hl208 hu208
            have hq208 : z208.toInt = (J156 0 7).toInt - (J156 0 6).toInt + 4294967296 * q208 := hq208
            try have hz208 : z208.toInt = (J156 0 7).toInt - (J156 0 6).toInt := by omega
            apply And.intro
            · intro h211
              have h211 : z208.toInt ≤ 8 := h211
              refine And.intro trivial ?_
              intro x222 I222 L222 hq222
              have hq222 : I222 = J156 ∧ L222 = M156 ∧ ((x222.toInt = 0 ∨ x222.toInt = 1)) := hq222
              obtain ⟨eI222, eL222, c222_2⟩ := hq222
              replace eI222 := eI222.symm
              subst eI222
              replace eL222 := eL222.symm
              subst eL222
              apply And.intro
              · intro h225
                have h225 : x222.toInt = 0 := h225
                have hR233 := mR_f (k := 0) (j := 8) (x := Int32.ofInt 2) hR156c (by exact f_rng _)
                have hF233 := f_fr_up (k := 0) (r := va_up (J156 0) 8 (Int32.ofInt 2)) hF156c rfl
                have hO233 := f_fo_up (j := 8) (x := Int32.ofInt 2) hO156c rfl
                exact ⟨hR233, hO233, hF233, hG156c, (show (J156 0 7).toInt ≤ 1600 from by first | assumption | omega | rfl)⟩
              · intro h225
                have h225 : ¬ x222.toInt = 0 := h225
                have hR233 := mR_f (k := 0) (j := 8) (x := Int32.ofInt 3) hR156c (by exact f_rng _)
                have hF233 := f_fr_up (k := 0) (r := va_up (J156 0) 8 (Int32.ofInt 3)) hF156c rfl
                have hO233 := f_fo_up (j := 8) (x := Int32.ofInt 3) hO156c rfl
                exact ⟨hR233, hO233, hF233, hG156c, (show (J156 0 7).toInt ≤ 1600 from by first | assumption | omega | rfl)⟩
            · intro h211
              have h211 : 8 < z208.toInt := h211
              have hR233 := mR_f (k := 0) (j := 8) (x := Int32.ofInt 1) hR156c (by exact f_rng _)
              have hF233 := f_fr_up (k := 0) (r := va_up (J156 0) 8 (Int32.ofInt 1)) hF156c rfl
              have hO233 := f_fo_up (j := 8) (x := Int32.ofInt 1) hO156c rfl
              exact ⟨hR233, hO233, hF233, hG156c, (show (J156 0 7).toInt ≤ 1600 from by first | assumption | omega | rfl)⟩
          · intro h172
            have h172 : k.toInt < z171.toInt := h172
            refine And.intro ⟨hR156c, (show 0 ≤ k.toInt from by first | assumption | omega)⟩ ?_
            intro x185 I185 L185 hq185
            have hq185 : I185 = J156 ∧ L185 = M156 ∧ (((J156 0 3).toInt ≤ k.toInt → x185.toInt = 0)) := hq185
            obtain ⟨eI185, eL185, c185_2⟩ := hq185
            replace eI185 := eI185.symm
            subst eI185
            replace eL185 := eL185.symm
            subst eL185
            have hG190 := f_fr_up (k := 0) (r := va_up (M156 0) 9 (((M156 0 9) <<< ((Int32.ofInt 8).toInt64 &&& 63)) ||| (x185.toInt64))) hG156c rfl
            intro z193 q193 _ hq193 hl193 hu193
            have hq193 : z193.toInt = k.toInt + 1 + 4294967296 * q193 := hq193
            try have hz193 : z193.toInt = k.toInt + 1 := by omega
            exact ⟨c, z193, (by intro q9 h9; simp only [List.mem_cons, List.not_mem_nil, or_false] at h9; rcases h9 with h9 | h9 | h9 <;> subst h9 <;> repeat (first | exact List.mem_cons_self | apply List.mem_cons_of_mem)), rfl, hR156c, hF156c, hG190, hO156c, (show (J156 0 6).toInt < (I 0 3).toInt from by first | assumption | omega), (show (J156 0 7).toInt ≤ (I 0 3).toInt from by first | assumption | omega), (show (J156 0 6).toInt ≤ z193.toInt from by first | assumption | omega), (show z193.toInt ≤ (J156 0 7).toInt ∨ z193.toInt = (J156 0 6).toInt from by first | assumption | omega | rfl), (show (1601 - z193.toInt) < n156 from by omega)⟩
    have lp119 : ∀ (n119 : Nat), ∀ (c : Int32) (J119 : fM) (M119 : fN), mR J119 ∧ f_fr [0] I J119 ∧ f_fr [0] L M119 ∧ f_fo [6, 7, 8] I J119 ∧ ((J119 0 6).toInt < (I 0 3).toInt) ∧ ((J119 0 6).toInt + 1 ≤ (J119 0 7).toInt) ∧ ((J119 0 7).toInt ≤ (I 0 3).toInt) ∧ (1600 - (J119 0 7).toInt) < n119 → f_W pP l eP (f_rm 1) sP mP aP bP hP9 cP mY 71 a cy dC dI 3 (f_K 0 (qX12_goOn [.ref 0] I L)) 119 [(1, .int c), (0, .ref 0)] [] J119 M119 := by
      intro n119
      induction n119 with
      | zero =>
        intro c J119 M119 h9
        obtain ⟨hR119c, hF119c, hG119c, hO119c, u119_1, u119_2, u119_3, hm119⟩ := h9
        omega
      | succ n119 ih119 =>
        intro c J119 M119 h9
        obtain ⟨hR119c, hF119c, hG119c, hO119c, u119_1, u119_2, u119_3, hm119⟩ := h9
        refine f_wp_ok C f_cl flX12_ok fiX12_ok fjX12_ok (sn := none) (fun j h => by cases h) (cs := (f_cnl [(255, (2, 1, 11, pX12_sign, qX12_sign))])) (cz := (f_cnl [(262, (1, 3, 11, pX12_isLetter, qX12_isLetter)), (270, (1, 3, 11, pX12_isKept, qX12_isKept)), (274, (1, 3, 11, pX12_isSign, qX12_isSign))])) (f_cnl_of (P := fun j S => f_cok pP l eP (f_rm 1) sP mP aP bP hP9 cP mY 71 a cy dC dI 3 _ _ (.invokevirtual j) true S) (List.forall_mem_cons.mpr ⟨f_cokV C (mX12_sign hinj) (ci := 11) rfl (List.forall_mem_cons.mpr ⟨(mlX12_ok _ (List.mem_of_getElem? (i := 2) rfl)), kc_X12_sign⟩) (by decide +kernel) ⟨Nat.le_of_ble_eq_true rfl, Nat.le_of_ble_eq_true rfl⟩, fun _ h => absurd h List.not_mem_nil⟩)) (f_cnl_of (P := fun j S => f_cok pP l eP (f_rm 1) sP mP aP bP hP9 cP mY 71 a cy dC dI 3 _ _ (.invokestatic j) false S) (List.forall_mem_cons.mpr ⟨f_cokS C (mX12_isLetter hinj) (List.forall_mem_cons.mpr ⟨(mlX12_ok _ (List.mem_of_getElem? (i := 3) rfl)), kc_X12_isLetter⟩) (by decide +kernel) ⟨Nat.le_of_ble_eq_true rfl, Nat.le_of_ble_eq_true rfl⟩, List.forall_mem_cons.mpr ⟨f_cokS C (mX12_isKept hinj) (List.forall_mem_cons.mpr ⟨(mlX12_ok _ (List.mem_of_getElem? (i := 4) rfl)), kc_X12_isKept⟩) (by decide +kernel) ⟨Nat.le_of_ble_eq_true rfl, Nat.le_of_ble_eq_true rfl⟩, List.forall_mem_cons.mpr ⟨f_cokS C (mX12_isSign hinj) (List.forall_mem_cons.mpr ⟨(mlX12_ok _ (List.mem_of_getElem? (i := 5) rfl)), kc_X12_isSign⟩) (by decide +kernel) ⟨Nat.le_of_ble_eq_true rfl, Nat.le_of_ble_eq_true rfl⟩, fun _ h => absurd h List.not_mem_nil⟩⟩⟩)) tX12_goOn_ok (cut := (f_cnl [(119, (fun (ls' : fLs) (st' : List Value) (I' : fM) (L' : fN) => ∃ c : Int32, (∀ q ∈ ([(1, .int c), (0, .ref 0)] : fLs), q ∈ ls') ∧ st' = [] ∧ (mR I' ∧ f_fr [0] I I' ∧ f_fr [0] L L' ∧ f_fo [6, 7, 8] I I' ∧ ((I' 0 6).toInt < (I 0 3).toInt) ∧ ((I' 0 6).toInt + 1 ≤ (I' 0 7).toInt) ∧ ((I' 0 7).toInt ≤ (I 0 3).toInt) ∧ (1600 - (I' 0 7).toInt) < n119))), (156, (fun (ls' : fLs) (st' : List Value) (I' : fM) (L' : fN) => ∃ c : Int32, ∃ k : Int32, (∀ q ∈ ([(2, .int k), (1, .int c), (0, .ref 0)] : fLs), q ∈ ls') ∧ st' = [] ∧ (mR I' ∧ f_fr [0] I I' ∧ f_fr [0] L L' ∧ f_fo [6, 7, 8] I I' ∧ ((I' 0 6).toInt < (I 0 3).toInt) ∧ ((I' 0 7).toInt ≤ (I 0 3).toInt) ∧ ((I' 0 6).toInt ≤ k.toInt) ∧ (k.toInt ≤ (I' 0 7).toInt ∨ k.toInt = (I' 0 6).toInt) ∧ (1601 - k.toInt) < 1602)))])) (f_cnl_of (P := fun (tQ : Nat) (P : fLs → List Value → fM → fN → Prop) => ∀ ls' st' I' L', P ls' st' I' L' → f_W pP l eP (f_rm 1) sP mP aP bP hP9 cP mY 71 a cy dC dI 3 (f_K 0 (qX12_goOn [.ref 0] I L)) tQ ls' st' I' L') (List.forall_mem_cons.mpr ⟨(fun ls' st' I' L' h => by obtain ⟨c, hs, e1, h9⟩ := h; rw [e1]; exact f_W_sub hs (ih119 c I' L' h9)), List.forall_mem_cons.mpr ⟨(fun ls' st' I' L' h => by obtain ⟨c, k, hs, e1, h9⟩ := h; rw [e1]; exact f_W_sub hs (lp156 1602 c k I' L' h9)), fun _ h => absurd h List.not_mem_nil⟩⟩)) 16 119 (f_seek 119 0 tX12_goOn) (f_seek_ok 119 0 tX12_goOn tX12_goOn_ok) _ _ _ _ ?_
        have e119 : (J119 0 3).toInt = (I 0 3).toInt := congrArg Int32.toInt (hO119c 3 rfl)
        have r121_1 : 0 ≤ (J119 0 7).toInt ∧ (J119 0 7).toInt ≤ 1601 := hR119c 0 7
        refine And.intro ⟨hR119c, (show 0 ≤ (J119 0 7).toInt from by first | assumption | omega)⟩ ?_
        intro x124 I124 L124 hq124
        have hq124 : I124 = J119 ∧ L124 = M119 ∧ (((J119 0 3).toInt ≤ (J119 0 7).toInt → x124.toInt = 0)) := hq124
        obtain ⟨eI124, eL124, c124_2⟩ := hq124
        replace eI124 := eI124.symm
        subst eI124
        replace eL124 := eL124.symm
        subst eL124
        refine And.intro trivial ?_
        intro x127 I127 L127 hq127
        have hq127 : I127 = J119 ∧ L127 = M119 ∧ ((x127.toInt = 0 ∨ x127.toInt = 1)) ∧ ((x127.toInt = 1 → 97 ≤ x124.toInt)) := hq127
        obtain ⟨eI127, eL127, c127_2, c127_3⟩ := hq127
        replace eI127 := eI127.symm
        subst eI127
        replace eL127 := eL127.symm
        subst eL127
        apply And.intro
        · intro h130
          have h130 : x127.toInt = 0 := h130
          have hG148 := f_fr_up (k := 0) (r := va_up (M119 0) 9 (Int64.ofNat 0)) hG119c rfl
          have r152_2 : 0 ≤ (J119 0 6).toInt ∧ (J119 0 6).toInt ≤ 1601 := hR119c 0 6
          exact ⟨c, J119 0 6, (by intro q9 h9; simp only [List.mem_cons, List.not_mem_nil, or_false] at h9; rcases h9 with h9 | h9 | h9 <;> subst h9 <;> repeat (first | exact List.mem_cons_self | apply List.mem_cons_of_mem)), rfl, hR119c, hF119c, hG148, hO119c, (show (J119 0 6).toInt < (I 0 3).toInt from by first | assumption | omega), (show (J119 0 7).toInt ≤ (I 0 3).toInt from by first | assumption | omega), (show (J119 0 6).toInt ≤ (J119 0 6).toInt from by first | assumption | omega), (show (J119 0 6).toInt ≤ (J119 0 7).toInt ∨ (J119 0 6).toInt = (J119 0 6).toInt from by first | assumption | omega | rfl), (show (1601 - (J119 0 6).toInt) < 1602 from by omega)⟩
        · intro h130
          have h130 : ¬ x127.toInt = 0 := h130
          intro z139 q139 _ hq139 hl139 hu139
          have hq139 : z139.toInt = (J119 0 7).toInt + 1 + 4294967296 * q139 := hq139
          try have hz139 : z139.toInt = (J119 0 7).toInt + 1 := by omega
          have hR140 := mR_f (k := 0) (j := 7) (x := z139) hR119c (show 0 ≤ z139.toInt ∧ z139.toInt ≤ 1601 from ⟨by omega, by omega⟩)
          have hF140 := f_fr_up (k := 0) (r := va_up (J119 0) 7 z139) hF119c rfl
          have hO140 := f_fo_up (j := 7) (x := z139) hO119c rfl
          exact ⟨c, (by intro q9 h9; simp only [List.mem_cons, List.not_mem_nil, or_false] at h9; rcases h9 with h9 | h9 <;> subst h9 <;> repeat (first | exact List.mem_cons_self | apply List.mem_cons_of_mem)), rfl, hR140, hF140, hG119c, hO140, (show (J119 0 6).toInt < (I 0 3).toInt from by first | assumption | omega), (show (J119 0 6).toInt + 1 ≤ z139.toInt from by first | assumption | omega), (show z139.toInt ≤ (I 0 3).toInt from by first | assumption | omega), (show (1600 - z139.toInt) < n119 from by omega)⟩
    have lp58 : ∀ (J58 : fM) (M58 : fN), mR J58 ∧ f_fr [0] I J58 ∧ f_fr [0] L M58 ∧ f_fo [6, 7, 8] I J58 ∧ ((J58 0 6).toInt ≤ 1600) → f_W pP l eP (f_rm 1) sP mP aP bP hP9 cP mY 71 a cy dC dI 3 (f_K 0 (qX12_goOn [.ref 0] I L)) 58 [(0, .ref 0)] [] J58 M58 := by
      intro J58 M58 h9
      obtain ⟨hR58c, hF58c, hG58c, hO58c, u58_1⟩ := h9
      refine f_wp_ok C f_cl flX12_ok fiX12_ok fjX12_ok (sn := none) (fun j h => by cases h) (cs := (f_cnl [(255, (2, 1, 11, pX12_sign, qX12_sign))])) (cz := (f_cnl [(262, (1, 3, 11, pX12_isLetter, qX12_isLetter)), (270, (1, 3, 11, pX12_isKept, qX12_isKept)), (274, (1, 3, 11, pX12_isSign, qX12_isSign))])) (f_cnl_of (P := fun j S => f_cok pP l eP (f_rm 1) sP mP aP bP hP9 cP mY 71 a cy dC dI 3 _ _ (.invokevirtual j) true S) (List.forall_mem_cons.mpr ⟨f_cokV C (mX12_sign hinj) (ci := 11) rfl (List.forall_mem_cons.mpr ⟨(mlX12_ok _ (List.mem_of_getElem? (i := 2) rfl)), kc_X12_sign⟩) (by decide +kernel) ⟨Nat.le_of_ble_eq_true rfl, Nat.le_of_ble_eq_true rfl⟩, fun _ h => absurd h List.not_mem_nil⟩)) (f_cnl_of (P := fun j S => f_cok pP l eP (f_rm 1) sP mP aP bP hP9 cP mY 71 a cy dC dI 3 _ _ (.invokestatic j) false S) (List.forall_mem_cons.mpr ⟨f_cokS C (mX12_isLetter hinj) (List.forall_mem_cons.mpr ⟨(mlX12_ok _ (List.mem_of_getElem? (i := 3) rfl)), kc_X12_isLetter⟩) (by decide +kernel) ⟨Nat.le_of_ble_eq_true rfl, Nat.le_of_ble_eq_true rfl⟩, List.forall_mem_cons.mpr ⟨f_cokS C (mX12_isKept hinj) (List.forall_mem_cons.mpr ⟨(mlX12_ok _ (List.mem_of_getElem? (i := 4) rfl)), kc_X12_isKept⟩) (by decide +kernel) ⟨Nat.le_of_ble_eq_true rfl, Nat.le_of_ble_eq_true rfl⟩, List.forall_mem_cons.mpr ⟨f_cokS C (mX12_isSign hinj) (List.forall_mem_cons.mpr ⟨(mlX12_ok _ (List.mem_of_getElem? (i := 5) rfl)), kc_X12_isSign⟩) (by decide +kernel) ⟨Nat.le_of_ble_eq_true rfl, Nat.le_of_ble_eq_true rfl⟩, fun _ h => absurd h List.not_mem_nil⟩⟩⟩)) tX12_goOn_ok (cut := (f_cnl [(119, (fun (ls' : fLs) (st' : List Value) (I' : fM) (L' : fN) => ∃ c : Int32, (∀ q ∈ ([(1, .int c), (0, .ref 0)] : fLs), q ∈ ls') ∧ st' = [] ∧ (mR I' ∧ f_fr [0] I I' ∧ f_fr [0] L L' ∧ f_fo [6, 7, 8] I I' ∧ ((I' 0 6).toInt < (I 0 3).toInt) ∧ ((I' 0 6).toInt + 1 ≤ (I' 0 7).toInt) ∧ ((I' 0 7).toInt ≤ (I 0 3).toInt) ∧ (1600 - (I' 0 7).toInt) < 1601)))])) (f_cnl_of (P := fun (tQ : Nat) (P : fLs → List Value → fM → fN → Prop) => ∀ ls' st' I' L', P ls' st' I' L' → f_W pP l eP (f_rm 1) sP mP aP bP hP9 cP mY 71 a cy dC dI 3 (f_K 0 (qX12_goOn [.ref 0] I L)) tQ ls' st' I' L') (List.forall_mem_cons.mpr ⟨(fun ls' st' I' L' h => by obtain ⟨c, hs, e1, h9⟩ := h; rw [e1]; exact f_W_sub hs (lp119 1601 c I' L' h9)), fun _ h => absurd h List.not_mem_nil⟩)) 32 58 (f_seek 58 0 tX12_goOn) (f_seek_ok 58 0 tX12_goOn tX12_goOn_ok) _ _ _ _ ?_
      have r60_1 : 0 ≤ (J58 0 6).toInt ∧ (J58 0 6).toInt ≤ 1601 := hR58c 0 6
      refine And.intro ⟨hR58c, (show 0 ≤ (J58 0 6).toInt from by first | assumption | omega)⟩ ?_
      intro x63 I63 L63 hq63
      have hq63 : I63 = J58 ∧ L63 = M58 ∧ (((J58 0 3).toInt ≤ (J58 0 6).toInt → x63.toInt = 0)) := hq63
      obtain ⟨eI63, eL63, c63_2⟩ := hq63
      replace eI63 := eI63.symm
      subst eI63
      replace eL63 := eL63.symm
      subst eL63
      intro z73 q73 _ hq73 hl73 hu73
      have hq73 : z73.toInt = (J58 0 6).toInt + 1 + 4294967296 * q73 := hq73
      try have hz73 : z73.toInt = (J58 0 6).toInt + 1 := by omega
      have hR74 := mR_f (k := 0) (j := 7) (x := z73) hR58c (show 0 ≤ z73.toInt ∧ z73.toInt ≤ 1601 from ⟨by omega, by omega⟩)
      have hF74 := f_fr_up (k := 0) (r := va_up (J58 0) 7 z73) hF58c rfl
      have hO74 := f_fo_up (j := 7) (x := z73) hO58c rfl
      have r82_2 : 0 ≤ (J58 0 3).toInt ∧ (J58 0 3).toInt ≤ 1600 := hR74 0 3
      have e82_3 : (J58 0 3).toInt = (I 0 3).toInt := congrArg Int32.toInt (hO58c 3 rfl)
      apply And.intro
      · intro h85
        have h85 : (J58 0 6).toInt < (J58 0 3).toInt := h85
        refine And.intro trivial ?_
        intro x113 I113 L113 hq113
        have hq113 : I113 = (va_up J58 0 (va_up (J58 0) 7 z73)) ∧ L113 = M58 ∧ ((x113.toInt = 0 ∨ x113.toInt = 1)) ∧ ((x113.toInt = 1 → 97 ≤ x63.toInt)) := hq113
        obtain ⟨eI113, eL113, c113_2, c113_3⟩ := hq113
        replace eI113 := eI113.symm
        subst eI113
        replace eL113 := eL113.symm
        subst eL113
        apply And.intro
        · intro h116
          have h116 : x113.toInt = 0 := h116
          refine And.intro trivial ?_
          intro x241 I241 L241 hq241
          have hq241 : I241 = (va_up J58 0 (va_up (J58 0) 7 z73)) ∧ L241 = M58 ∧ ((x241.toInt = 0 ∨ x241.toInt = 1)) := hq241
          obtain ⟨eI241, eL241, c241_2⟩ := hq241
          replace eI241 := eI241.symm
          subst eI241
          replace eL241 := eL241.symm
          subst eL241
          apply And.intro
          · intro h244
            have h244 : x241.toInt = 0 := h244
            have hR252 := mR_f (k := 0) (j := 8) (x := Int32.ofInt 1) hR74 (by exact f_rng _)
            have hF252 := f_fr_up (k := 0) (r := va_up (va_up (J58 0) 7 z73) 8 (Int32.ofInt 1)) hF74 rfl
            have hO252 := f_fo_up (j := 8) (x := Int32.ofInt 1) hO74 rfl
            exact ⟨hR252, hO252, hF252, hG58c, (show z73.toInt ≤ 1600 from by first | assumption | omega | rfl)⟩
          · intro h244
            have h244 : ¬ x241.toInt = 0 := h244
            have hR252 := mR_f (k := 0) (j := 8) (x := Int32.ofInt 4) hR74 (by exact f_rng _)
            have hF252 := f_fr_up (k := 0) (r := va_up (va_up (J58 0) 7 z73) 8 (Int32.ofInt 4)) hF74 rfl
            have hO252 := f_fo_up (j := 8) (x := Int32.ofInt 4) hO74 rfl
            exact ⟨hR252, hO252, hF252, hG58c, (show z73.toInt ≤ 1600 from by first | assumption | omega | rfl)⟩
        · intro h116
          have h116 : ¬ x113.toInt = 0 := h116
          exact ⟨x63, (by intro q9 h9; simp only [List.mem_cons, List.not_mem_nil, or_false] at h9; rcases h9 with h9 | h9 <;> subst h9 <;> repeat (first | exact List.mem_cons_self | apply List.mem_cons_of_mem)), rfl, hR74, hF74, hG58c, hO74, (show (J58 0 6).toInt < (I 0 3).toInt from by first | assumption | omega), (show (J58 0 6).toInt + 1 ≤ z73.toInt from by first | assumption | omega), (show z73.toInt ≤ (I 0 3).toInt from by first | assumption | omega), (show (1600 - z73.toInt) < 1601 from by omega)⟩
      · intro h85
        have h85 : (J58 0 3).toInt ≤ (J58 0 6).toInt := h85
        have hR90 := mR_f (k := 0) (j := 8) (x := Int32.ofInt 0) hR74 (by exact f_rng _)
        have hF90 := f_fr_up (k := 0) (r := va_up (va_up (J58 0) 7 z73) 8 (Int32.ofInt 0)) hF74 rfl
        have hO90 := f_fo_up (j := 8) (x := Int32.ofInt 0) hO74 rfl
        have hR98 := mR_f (k := 0) (j := 6) (x := J58 0 3) hR90 (show 0 ≤ (J58 0 3).toInt ∧ (J58 0 3).toInt ≤ 1601 from ⟨by omega, by omega⟩)
        have hF98 := f_fr_up (k := 0) (r := va_up (va_up (va_up (J58 0) 7 z73) 8 (Int32.ofInt 0)) 6 (J58 0 3)) hF90 rfl
        have hO98 := f_fo_up (j := 6) (x := J58 0 3) hO90 rfl
        have hR106 := mR_f (k := 0) (j := 7) (x := J58 0 3) hR98 (show 0 ≤ (J58 0 3).toInt ∧ (J58 0 3).toInt ≤ 1601 from ⟨by omega, by omega⟩)
        have hF106 := f_fr_up (k := 0) (r := va_up (va_up (va_up (va_up (J58 0) 7 z73) 8 (Int32.ofInt 0)) 6 (J58 0 3)) 7 (J58 0 3)) hF98 rfl
        have hO106 := f_fo_up (j := 7) (x := J58 0 3) hO98 rfl
        exact ⟨hR106, hO106, hF106, hG58c, (show (J58 0 3).toInt ≤ 1600 from by first | assumption | omega | rfl)⟩
    have lp8 : ∀ (n8 : Nat), ∀ (J8 : fM) (M8 : fN), mR J8 ∧ f_fr [0] I J8 ∧ f_fr [0] L M8 ∧ f_fo [6, 7, 8] I J8 ∧ ((J8 0 6).toInt ≤ 1600) ∧ (1600 - (J8 0 6).toInt) < n8 → f_W pP l eP (f_rm 1) sP mP aP bP hP9 cP mY 71 a cy dC dI 3 (f_K 0 (qX12_goOn [.ref 0] I L)) 8 [(0, .ref 0)] [] J8 M8 := by
      intro n8
      induction n8 with
      | zero =>
        intro J8 M8 h9
        obtain ⟨hR8c, hF8c, hG8c, hO8c, u8_1, hm8⟩ := h9
        omega
      | succ n8 ih8 =>
        intro J8 M8 h9
        obtain ⟨hR8c, hF8c, hG8c, hO8c, u8_1, hm8⟩ := h9
        refine f_wp_ok C f_cl flX12_ok fiX12_ok fjX12_ok (sn := none) (fun j h => by cases h) (cs := (f_cnl [(255, (2, 1, 11, pX12_sign, qX12_sign))])) (cz := (f_cnl [(262, (1, 3, 11, pX12_isLetter, qX12_isLetter)), (270, (1, 3, 11, pX12_isKept, qX12_isKept)), (274, (1, 3, 11, pX12_isSign, qX12_isSign))])) (f_cnl_of (P := fun j S => f_cok pP l eP (f_rm 1) sP mP aP bP hP9 cP mY 71 a cy dC dI 3 _ _ (.invokevirtual j) true S) (List.forall_mem_cons.mpr ⟨f_cokV C (mX12_sign hinj) (ci := 11) rfl (List.forall_mem_cons.mpr ⟨(mlX12_ok _ (List.mem_of_getElem? (i := 2) rfl)), kc_X12_sign⟩) (by decide +kernel) ⟨Nat.le_of_ble_eq_true rfl, Nat.le_of_ble_eq_true rfl⟩, fun _ h => absurd h List.not_mem_nil⟩)) (f_cnl_of (P := fun j S => f_cok pP l eP (f_rm 1) sP mP aP bP hP9 cP mY 71 a cy dC dI 3 _ _ (.invokestatic j) false S) (List.forall_mem_cons.mpr ⟨f_cokS C (mX12_isLetter hinj) (List.forall_mem_cons.mpr ⟨(mlX12_ok _ (List.mem_of_getElem? (i := 3) rfl)), kc_X12_isLetter⟩) (by decide +kernel) ⟨Nat.le_of_ble_eq_true rfl, Nat.le_of_ble_eq_true rfl⟩, List.forall_mem_cons.mpr ⟨f_cokS C (mX12_isKept hinj) (List.forall_mem_cons.mpr ⟨(mlX12_ok _ (List.mem_of_getElem? (i := 4) rfl)), kc_X12_isKept⟩) (by decide +kernel) ⟨Nat.le_of_ble_eq_true rfl, Nat.le_of_ble_eq_true rfl⟩, List.forall_mem_cons.mpr ⟨f_cokS C (mX12_isSign hinj) (List.forall_mem_cons.mpr ⟨(mlX12_ok _ (List.mem_of_getElem? (i := 5) rfl)), kc_X12_isSign⟩) (by decide +kernel) ⟨Nat.le_of_ble_eq_true rfl, Nat.le_of_ble_eq_true rfl⟩, fun _ h => absurd h List.not_mem_nil⟩⟩⟩)) tX12_goOn_ok (cut := (f_cnl [(8, (fun (ls' : fLs) (st' : List Value) (I' : fM) (L' : fN) => (∀ q ∈ ([(0, .ref 0)] : fLs), q ∈ ls') ∧ st' = [] ∧ (mR I' ∧ f_fr [0] I I' ∧ f_fr [0] L L' ∧ f_fo [6, 7, 8] I I' ∧ ((I' 0 6).toInt ≤ 1600) ∧ (1600 - (I' 0 6).toInt) < n8))), (58, (fun (ls' : fLs) (st' : List Value) (I' : fM) (L' : fN) => (∀ q ∈ ([(0, .ref 0)] : fLs), q ∈ ls') ∧ st' = [] ∧ (mR I' ∧ f_fr [0] I I' ∧ f_fr [0] L L' ∧ f_fo [6, 7, 8] I I' ∧ ((I' 0 6).toInt ≤ 1600))))])) (f_cnl_of (P := fun (tQ : Nat) (P : fLs → List Value → fM → fN → Prop) => ∀ ls' st' I' L', P ls' st' I' L' → f_W pP l eP (f_rm 1) sP mP aP bP hP9 cP mY 71 a cy dC dI 3 (f_K 0 (qX12_goOn [.ref 0] I L)) tQ ls' st' I' L') (List.forall_mem_cons.mpr ⟨(fun ls' st' I' L' h => by obtain ⟨hs, e1, h9⟩ := h; rw [e1]; exact f_W_sub hs (ih8  I' L' h9)), List.forall_mem_cons.mpr ⟨(fun ls' st' I' L' h => by obtain ⟨hs, e1, h9⟩ := h; rw [e1]; exact f_W_sub hs (lp58  I' L' h9)), fun _ h => absurd h List.not_mem_nil⟩⟩)) 27 8 (f_seek 8 0 tX12_goOn) (f_seek_ok 8 0 tX12_goOn tX12_goOn_ok) _ _ _ _ ?_
        have r9_1 : 0 ≤ (J8 0 6).toInt ∧ (J8 0 6).toInt ≤ 1601 := hR8c 0 6
        have r13_2 : 0 ≤ (J8 0 3).toInt ∧ (J8 0 3).toInt ≤ 1600 := hR8c 0 3
        have e13_3 : (J8 0 3).toInt = (I 0 3).toInt := congrArg Int32.toInt (hO8c 3 rfl)
        apply And.intro
        · intro h16
          have h16 : (J8 0 3).toInt ≤ (J8 0 6).toInt := h16
          exact ⟨(by intro q9 h9; simp only [List.mem_cons, List.not_mem_nil, or_false] at h9; subst h9 <;> repeat (first | exact List.mem_cons_self | apply List.mem_cons_of_mem)), rfl, hR8c, hF8c, hG8c, hO8c, (show (J8 0 6).toInt ≤ 1600 from by first | assumption | omega)⟩
        · intro h16
          have h16 : (J8 0 6).toInt < (J8 0 3).toInt := h16
          refine And.intro ⟨hR8c, (show 0 ≤ (J8 0 6).toInt from by first | assumption | omega)⟩ ?_
          intro x24 I24 L24 hq24
          have hq24 : I24 = J8 ∧ L24 = M8 ∧ (((J8 0 3).toInt ≤ (J8 0 6).toInt → x24.toInt = 0)) := hq24
          obtain ⟨eI24, eL24, c24_2⟩ := hq24
          replace eI24 := eI24.symm
          subst eI24
          replace eL24 := eL24.symm
          subst eL24
          apply And.intro
          · intro h29
            have h29 : x24.toInt = 32 := h29
            intro z51 q51 _ hq51 hl51 hu51
            have hq51 : z51.toInt = (J8 0 6).toInt + 1 + 4294967296 * q51 := hq51
            try have hz51 : z51.toInt = (J8 0 6).toInt + 1 := by omega
            have hR52 := mR_f (k := 0) (j := 6) (x := z51) hR8c (show 0 ≤ z51.toInt ∧ z51.toInt ≤ 1601 from ⟨by omega, by omega⟩)
            have hF52 := f_fr_up (k := 0) (r := va_up (J8 0) 6 z51) hF8c rfl
            have hO52 := f_fo_up (j := 6) (x := z51) hO8c rfl
            exact ⟨(by intro q9 h9; simp only [List.mem_cons, List.not_mem_nil, or_false] at h9; subst h9 <;> repeat (first | exact List.mem_cons_self | apply List.mem_cons_of_mem)), rfl, hR52, hF52, hG8c, hO52, (show z51.toInt ≤ 1600 from by first | assumption | omega), (show (1600 - z51.toInt) < n8 from by omega)⟩
          · intro h29
            have h29 : ¬ x24.toInt = 32 := h29
            refine And.intro ⟨hR8c, (show 0 ≤ (J8 0 6).toInt from by first | assumption | omega)⟩ ?_
            intro x37 I37 L37 hq37
            have hq37 : I37 = J8 ∧ L37 = M8 ∧ (((J8 0 3).toInt ≤ (J8 0 6).toInt → x37.toInt = 0)) := hq37
            obtain ⟨eI37, eL37, c37_2⟩ := hq37
            replace eI37 := eI37.symm
            subst eI37
            replace eL37 := eL37.symm
            subst eL37
            apply And.intro
            · intro h42
              have h42 : ¬ x37.toInt = 10 := h42
              exact ⟨(by intro q9 h9; simp only [List.mem_cons, List.not_mem_nil, or_false] at h9; subst h9 <;> repeat (first | exact List.mem_cons_self | apply List.mem_cons_of_mem)), rfl, hR8c, hF8c, hG8c, hO8c, (show (J8 0 6).toInt ≤ 1600 from by first | assumption | omega)⟩
            · intro h42
              have h42 : x37.toInt = 10 := h42
              intro z51 q51 _ hq51 hl51 hu51
              have hq51 : z51.toInt = (J8 0 6).toInt + 1 + 4294967296 * q51 := hq51
              try have hz51 : z51.toInt = (J8 0 6).toInt + 1 := by omega
              have hR52 := mR_f (k := 0) (j := 6) (x := z51) hR8c (show 0 ≤ z51.toInt ∧ z51.toInt ≤ 1601 from ⟨by omega, by omega⟩)
              have hF52 := f_fr_up (k := 0) (r := va_up (J8 0) 6 z51) hF8c rfl
              have hO52 := f_fo_up (j := 6) (x := z51) hO8c rfl
              exact ⟨(by intro q9 h9; simp only [List.mem_cons, List.not_mem_nil, or_false] at h9; subst h9 <;> repeat (first | exact List.mem_cons_self | apply List.mem_cons_of_mem)), rfl, hR52, hF52, hG8c, hO52, (show z51.toInt ≤ 1600 from by first | assumption | omega), (show (1600 - z51.toInt) < n8 from by omega)⟩
    refine f_wp_ok C f_cl flX12_ok fiX12_ok fjX12_ok (sn := none) (fun j h => by cases h) (cs := (f_cnl [(255, (2, 1, 11, pX12_sign, qX12_sign))])) (cz := (f_cnl [(262, (1, 3, 11, pX12_isLetter, qX12_isLetter)), (270, (1, 3, 11, pX12_isKept, qX12_isKept)), (274, (1, 3, 11, pX12_isSign, qX12_isSign))])) (f_cnl_of (P := fun j S => f_cok pP l eP (f_rm 1) sP mP aP bP hP9 cP mY 71 a cy dC dI 3 _ _ (.invokevirtual j) true S) (List.forall_mem_cons.mpr ⟨f_cokV C (mX12_sign hinj) (ci := 11) rfl (List.forall_mem_cons.mpr ⟨(mlX12_ok _ (List.mem_of_getElem? (i := 2) rfl)), kc_X12_sign⟩) (by decide +kernel) ⟨Nat.le_of_ble_eq_true rfl, Nat.le_of_ble_eq_true rfl⟩, fun _ h => absurd h List.not_mem_nil⟩)) (f_cnl_of (P := fun j S => f_cok pP l eP (f_rm 1) sP mP aP bP hP9 cP mY 71 a cy dC dI 3 _ _ (.invokestatic j) false S) (List.forall_mem_cons.mpr ⟨f_cokS C (mX12_isLetter hinj) (List.forall_mem_cons.mpr ⟨(mlX12_ok _ (List.mem_of_getElem? (i := 3) rfl)), kc_X12_isLetter⟩) (by decide +kernel) ⟨Nat.le_of_ble_eq_true rfl, Nat.le_of_ble_eq_true rfl⟩, List.forall_mem_cons.mpr ⟨f_cokS C (mX12_isKept hinj) (List.forall_mem_cons.mpr ⟨(mlX12_ok _ (List.mem_of_getElem? (i := 4) rfl)), kc_X12_isKept⟩) (by decide +kernel) ⟨Nat.le_of_ble_eq_true rfl, Nat.le_of_ble_eq_true rfl⟩, List.forall_mem_cons.mpr ⟨f_cokS C (mX12_isSign hinj) (List.forall_mem_cons.mpr ⟨(mlX12_ok _ (List.mem_of_getElem? (i := 5) rfl)), kc_X12_isSign⟩) (by decide +kernel) ⟨Nat.le_of_ble_eq_true rfl, Nat.le_of_ble_eq_true rfl⟩, fun _ h => absurd h List.not_mem_nil⟩⟩⟩)) tX12_goOn_ok (cut := (f_cnl [(8, (fun (ls' : fLs) (st' : List Value) (I' : fM) (L' : fN) => (∀ q ∈ ([(0, .ref 0)] : fLs), q ∈ ls') ∧ st' = [] ∧ (mR I' ∧ f_fr [0] I I' ∧ f_fr [0] L L' ∧ f_fo [6, 7, 8] I I' ∧ ((I' 0 6).toInt ≤ 1600) ∧ (1600 - (I' 0 6).toInt) < 1601)))])) (f_cnl_of (P := fun (tQ : Nat) (P : fLs → List Value → fM → fN → Prop) => ∀ ls' st' I' L', P ls' st' I' L' → f_W pP l eP (f_rm 1) sP mP aP bP hP9 cP mY 71 a cy dC dI 3 (f_K 0 (qX12_goOn [.ref 0] I L)) tQ ls' st' I' L') (List.forall_mem_cons.mpr ⟨(fun ls' st' I' L' h => by obtain ⟨hs, e1, h9⟩ := h; rw [e1]; exact f_W_sub hs (lp8 1601  I' L' h9)), fun _ h => absurd h List.not_mem_nil⟩)) 7 0 tX12_goOn tX12_goOn_ok _ _ _ _ ?_
    have r2_1 : 0 ≤ (I 0 7).toInt ∧ (I 0 7).toInt ≤ 1601 := hR 0 7
    have hR5 := mR_f (k := 0) (j := 6) (x := I 0 7) hR (show 0 ≤ (I 0 7).toInt ∧ (I 0 7).toInt ≤ 1601 from ⟨by omega, by omega⟩)
    have hF5 := f_fr_up (k := 0) (r := va_up (I 0) 6 (I 0 7)) hF0 rfl
    have hO5 := f_fo_up (j := 6) (x := I 0 7) hO0 rfl
    exact ⟨(by intro q9 h9; simp only [List.mem_cons, List.not_mem_nil, or_false] at h9; subst h9 <;> repeat (first | exact List.mem_cons_self | apply List.mem_cons_of_mem)), rfl, hR5, hF5, hG0, hO5, (show (I 0 7).toInt ≤ 1600 from by first | assumption | omega), (show (1600 - (I 0 7).toInt) < 1601 from by omega)⟩
def tX12_stands : List (Instr × Nat) := [(.aload_n 0, 1), (.getfield 259, 3), (.iconst 4, 1), (.if_icmp .ne 19, 3), (.aload_n 0, 1), (.aload_n 0, 1), (.getfield 252, 3), (.invokevirtual 255, 3), (.iload_n 1, 1), (.if_icmp .ne 7, 3), (.iconst 1, 1), (.goto 4, 3), (.iconst 0, 1), (.ireturn, 1)]
theorem tX12_stands_ok : f_chk cX12_stands 0 tX12_stands = true := by decide +kernel
def pX12_stands (av : List Value) (I : fM) (L : fN) : Prop := match av with
  | [.ref 0, .int c] => mR I
  | _ => False
def qX12_stands (av : List Value) (I : fM) (L : fN) (r : Value) (I' : fM) (L' : fN) : Prop := match av, r with
  | [.ref 0, .int c], .int x => I' = I ∧ L' = L ∧ (x.toInt = 0 ∨ x.toInt = 1)
  | _, _ => False
set_option maxHeartbeats 4000000 in
set_option maxRecDepth 100000 in
theorem mX12_stands {l : Launch} {a : Nat → Nat} {cy dC : Nat → ClassId} {dI : Nat → Nat → Nat} (hinj : ∀ i j, i < 71 → j < 71 → a i = a j → i = j) : f_Met (fun _ => True) l mY 71 a cy dC dI yX12_stands cX12_stands 2 3 1 pX12_stands qX12_stands := by
  refine f_met_of (f_Ec_T 71 a) hinj mY_hi (by decide) (fun av I L h => by unfold pX12_stands at h; split at h <;> first | exact Nat.le_of_ble_eq_true rfl | exact h.elim) ?_
  intro pP eP sP mP aP bP hP9 cP C av I L hp
  unfold pX12_stands at hp
  split at hp
  case h_2 => exact hp.elim
  case h_1 c =>
    have hR := hp
    have ha : 0 ≤ (I 0 6).toInt := (hR 0 6).1
    refine f_wp_ok C f_cl flX12_ok fiX12_ok fjX12_ok (sn := none) (fun j h => by cases h) (cs := (f_cnl [(255, (2, 1, 11, pX12_sign, qX12_sign))])) (cz := (fun _ => none)) (f_cnl_of (P := fun j S => f_cok pP l eP (f_rm 1) sP mP aP bP hP9 cP mY 71 a cy dC dI 2 _ _ (.invokevirtual j) true S) (List.forall_mem_cons.mpr ⟨f_cokV C (mX12_sign hinj) (ci := 11) rfl (List.forall_mem_cons.mpr ⟨(mlX12_ok _ (List.mem_of_getElem? (i := 2) rfl)), kc_X12_sign⟩) (by decide +kernel) ⟨Nat.le_of_ble_eq_true rfl, Nat.le_of_ble_eq_true rfl⟩, fun _ h => absurd h List.not_mem_nil⟩)) (fun j S h => by cases h) tX12_stands_ok (cut := (fun _ => none)) (fun t P h => by cases h) 16 0 tX12_stands tX12_stands_ok _ _ _ _ ?_
    apply And.intro
    · intro h5
      have h5 : ¬ (I 0 8).toInt = 4 := h5
      exact ⟨Or.inl rfl, rfl, rfl, (show ((0 : Int) = 0 ∨ (0 : Int) = 1) from by first | assumption | omega | rfl)⟩
    · intro h5
      have h5 : (I 0 8).toInt = 4 := h5
      have r10_2 : 0 ≤ (I 0 6).toInt ∧ (I 0 6).toInt ≤ 1601 := hR 0 6
      refine And.intro ⟨hR, (show 0 ≤ (I 0 6).toInt from by first | assumption | omega)⟩ ?_
      intro x13 I13 L13 hq13
      have hq13 : I13 = I ∧ L13 = L ∧ (((I 0 3).toInt ≤ (I 0 6).toInt → x13.toInt = 0)) := hq13
      obtain ⟨eI13, eL13, c13_2⟩ := hq13
      replace eI13 := eI13.symm
      subst eI13
      replace eL13 := eL13.symm
      subst eL13
      apply And.intro
      · intro h17
        have h17 : ¬ x13.toInt = c.toInt := h17
        exact ⟨Or.inl rfl, rfl, rfl, (show ((0 : Int) = 0 ∨ (0 : Int) = 1) from by first | assumption | omega | rfl)⟩
      · intro h17
        have h17 : x13.toInt = c.toInt := h17
        exact ⟨Or.inr rfl, rfl, rfl, (show ((1 : Int) = 0 ∨ (1 : Int) = 1) from by first | assumption | omega | rfl)⟩
def tX12_isWord : List (Instr × Nat) := [(.aload_n 0, 1), (.getfield 259, 3), (.iconst 3, 1), (.if_icmp .ne 16, 3), (.aload_n 0, 1), (.getfield 266, 3), (.lload_n 1, 1), (.lcmp, 1), (.ifCond .ne 7, 3), (.iconst 1, 1), (.goto 4, 3), (.iconst 0, 1), (.ireturn, 1)]
theorem tX12_isWord_ok : f_chk cX12_isWord 0 tX12_isWord = true := by decide +kernel
def pX12_isWord (av : List Value) (I : fM) (L : fN) : Prop := match av with
  | [.ref 0, .long w] => True
  | _ => False
def qX12_isWord (av : List Value) (I : fM) (L : fN) (r : Value) (I' : fM) (L' : fN) : Prop := match av, r with
  | [.ref 0, .long w], .int x => I' = I ∧ L' = L ∧ (x.toInt = 0 ∨ x.toInt = 1)
  | _, _ => False
set_option maxHeartbeats 4000000 in
set_option maxRecDepth 100000 in
theorem mX12_isWord {l : Launch} {a : Nat → Nat} {cy dC : Nat → ClassId} {dI : Nat → Nat → Nat} (hinj : ∀ i j, i < 71 → j < 71 → a i = a j → i = j) : f_Met (fun _ => True) l mY 71 a cy dC dI yX12_isWord cX12_isWord 3 3 0 pX12_isWord qX12_isWord := by
  refine f_met_of (f_Ec_T 71 a) hinj mY_hi (by decide) (fun av I L h => by unfold pX12_isWord at h; split at h <;> first | exact Nat.le_of_ble_eq_true rfl | exact h.elim) ?_
  intro pP eP sP mP aP bP hP9 cP C av I L hp
  unfold pX12_isWord at hp
  split at hp
  case h_2 => exact hp.elim
  case h_1 w =>
    have p0 := hp
    refine f_wp_ok C f_cl flX12_ok fiX12_ok fjX12_ok (sn := none) (fun j h => by cases h) (cs := (fun _ => none)) (cz := (fun _ => none)) (fun j S h => by cases h) (fun j S h => by cases h) tX12_isWord_ok (cut := (fun _ => none)) (fun t P h => by cases h) 15 0 tX12_isWord tX12_isWord_ok _ _ _ _ ?_
    apply And.intro
    · intro h5
      have h5 : ¬ (I 0 8).toInt = 3 := h5
      exact ⟨Or.inl rfl, rfl, rfl, (show ((0 : Int) = 0 ∨ (0 : Int) = 1) from by first | assumption | omega | rfl)⟩
    · intro h5
      have h5 : (I 0 8).toInt = 3 := h5
      apply And.intro
      · intro h14
        have h14 : ¬ (lg_cmp (L 0 9) w).toInt = 0 := h14
        exact ⟨Or.inl rfl, rfl, rfl, (show ((0 : Int) = 0 ∨ (0 : Int) = 1) from by first | assumption | omega | rfl)⟩
      · intro h14
        have h14 : (lg_cmp (L 0 9) w).toInt = 0 := h14
        exact ⟨Or.inr rfl, rfl, rfl, (show ((1 : Int) = 0 ∨ (1 : Int) = 1) from by first | assumption | omega | rfl)⟩
def tX12_misplaced : List (Instr × Nat) := [(.aload_n 0, 1), (.aload_n 0, 1), (.getfield 259, 3), (.iconst 1, 1), (.if_icmp .ne 7, 3), (.iconst 1, 1), (.goto 4, 3), (.iconst 2, 1), (.aload_n 0, 1), (.getfield 252, 3), (.invokevirtual 277, 3), (.return_, 1)]
theorem tX12_misplaced_ok : f_chk cX12_misplaced 0 tX12_misplaced = true := by decide +kernel
def pX12_misplaced (av : List Value) (I : fM) (L : fN) : Prop := match av with
  | [.ref 0] => mR I
  | _ => False
def qX12_misplaced (av : List Value) (I : fM) (L : fN) (r : Value) (I' : fM) (L' : fN) : Prop := match av, r with
  | [.ref 0], .null => mR I' ∧ f_fo [4, 5] I I' ∧ f_fr [0] I I' ∧ L' = L ∧ 1 ≤ (I' 0 4).toInt
  | _, _ => False
set_option maxHeartbeats 4000000 in
set_option maxRecDepth 100000 in
theorem mX12_misplaced {l : Launch} {a : Nat → Nat} {cy dC : Nat → ClassId} {dI : Nat → Nat → Nat} (hinj : ∀ i j, i < 71 → j < 71 → a i = a j → i = j) : f_Met (fun _ => True) l mY 71 a cy dC dI yX12_misplaced cX12_misplaced 1 0 1 pX12_misplaced qX12_misplaced := by
  refine f_met_of (f_Ec_T 71 a) hinj mY_hi (by decide) (fun av I L h => by unfold pX12_misplaced at h; split at h <;> first | exact Nat.le_of_ble_eq_true rfl | exact h.elim) ?_
  intro pP eP sP mP aP bP hP9 cP C av I L hp
  unfold pX12_misplaced at hp
  split at hp
  case h_2 => exact hp.elim
  case h_1 =>
    have hR := hp
    have hF0 : f_fr [0] I I := f_fr_rf
    have hO0 : f_fo [4, 5] I I := f_fo_rf
    refine f_wp_ok C f_cl flX12_ok fiX12_ok fjX12_ok (sn := none) (fun j h => by cases h) (cs := (f_cnl [(277, (3, 0, 11, pX12_fails, qX12_fails))])) (cz := (fun _ => none)) (f_cnl_of (P := fun j S => f_cok pP l eP (f_rm 1) sP mP aP bP hP9 cP mY 71 a cy dC dI 1 _ _ (.invokevirtual j) true S) (List.forall_mem_cons.mpr ⟨f_cokV C (mX12_fails hinj) (ci := 11) rfl (List.forall_mem_cons.mpr ⟨(mlX12_ok _ (List.mem_of_getElem? (i := 6) rfl)), kc_X12_fails⟩) (by decide +kernel) ⟨Nat.le_of_ble_eq_true rfl, Nat.le_of_ble_eq_true rfl⟩, fun _ h => absurd h List.not_mem_nil⟩)) (fun j S h => by cases h) tX12_misplaced_ok (cut := (fun _ => none)) (fun t P h => by cases h) 14 0 tX12_misplaced tX12_misplaced_ok _ _ _ _ ?_
    apply And.intro
    · intro h6
      have h6 : ¬ (I 0 8).toInt = 1 := h6
      have r15_2 : 0 ≤ (I 0 6).toInt ∧ (I 0 6).toInt ≤ 1601 := hR 0 6
      refine And.intro ⟨hR, (show 1 ≤ (2 : Int) from by first | assumption | omega)⟩ ?_
      intro I18 L18 hq18
      have hq18 : mR I18 ∧ f_fo [4, 5] I I18 ∧ f_fr [0] I I18 ∧ L18 = L ∧ 1 ≤ (I18 0 4).toInt := hq18
      obtain ⟨c18_0, c18_1, c18_2, eL18, c18_4⟩ := hq18
      replace eL18 := eL18.symm
      subst eL18
      have hO18 := f_fo_tr hO0 c18_1 rfl
      have hF18 := f_fr_tr hF0 c18_2 rfl
      exact ⟨c18_0, hO18, hF18, rfl, (show 1 ≤ (I18 0 4).toInt from by first | assumption | omega | rfl)⟩
    · intro h6
      have h6 : (I 0 8).toInt = 1 := h6
      have r15_2 : 0 ≤ (I 0 6).toInt ∧ (I 0 6).toInt ≤ 1601 := hR 0 6
      refine And.intro ⟨hR, (show 1 ≤ (1 : Int) from by first | assumption | omega)⟩ ?_
      intro I18 L18 hq18
      have hq18 : mR I18 ∧ f_fo [4, 5] I I18 ∧ f_fr [0] I I18 ∧ L18 = L ∧ 1 ≤ (I18 0 4).toInt := hq18
      obtain ⟨c18_0, c18_1, c18_2, eL18, c18_4⟩ := hq18
      replace eL18 := eL18.symm
      subst eL18
      have hO18 := f_fo_tr hO0 c18_1 rfl
      have hF18 := f_fr_tr hF0 c18_2 rfl
      exact ⟨c18_0, hO18, hF18, rfl, (show 1 ≤ (I18 0 4).toInt from by first | assumption | omega | rfl)⟩
def tX12_must : List (Instr × Nat) := [(.aload_n 0, 1), (.invokevirtual 281, 3), (.ifCond .ne 4, 3), (.return_, 1), (.iload_n 1, 1), (.ifCond .eq 10, 3), (.aload_n 0, 1), (.invokevirtual 285, 3), (.goto 7, 3), (.aload_n 0, 1), (.invokevirtual 288, 3), (.return_, 1)]
theorem tX12_must_ok : f_chk cX12_must 0 tX12_must = true := by decide +kernel
def pX12_must (av : List Value) (I : fM) (L : fN) : Prop := match av with
  | [.ref 0, .int c] => mR I ∧ (I 0 7).toInt ≤ 1600
  | _ => False
def qX12_must (av : List Value) (I : fM) (L : fN) (r : Value) (I' : fM) (L' : fN) : Prop := match av, r with
  | [.ref 0, .int c], .null => mR I' ∧ f_fo [4, 5, 6, 7, 8] I I' ∧ f_fr [0] I I' ∧ f_fr [0] L L' ∧ (I' 0 7).toInt ≤ 1600
  | _, _ => False
set_option maxHeartbeats 4000000 in
set_option maxRecDepth 100000 in
theorem mX12_must {l : Launch} {a : Nat → Nat} {cy dC : Nat → ClassId} {dI : Nat → Nat → Nat} (hinj : ∀ i j, i < 71 → j < 71 → a i = a j → i = j) : f_Met (fun _ => True) l mY 71 a cy dC dI yX12_must cX12_must 2 0 2 pX12_must qX12_must := by
  refine f_met_of (f_Ec_T 71 a) hinj mY_hi (by decide) (fun av I L h => by unfold pX12_must at h; split at h <;> first | exact Nat.le_of_ble_eq_true rfl | exact h.elim) ?_
  intro pP eP sP mP aP bP hP9 cP C av I L hp
  unfold pX12_must at hp
  split at hp
  case h_2 => exact hp.elim
  case h_1 c =>
    obtain ⟨hR, p1⟩ := hp
    have hF0 : f_fr [0] I I := f_fr_rf
    have hG0 : f_fr [0] L L := f_fr_rf
    have hO0 : f_fo [4, 5, 6, 7, 8] I I := f_fo_rf
    refine f_wp_ok C f_cl flX12_ok fiX12_ok fjX12_ok (sn := none) (fun j h => by cases h) (cs := (f_cnl [(281, (1, 3, 11, pX12_isGood, qX12_isGood)), (285, (1, 0, 11, pX12_goOn, qX12_goOn)), (288, (1, 0, 11, pX12_misplaced, qX12_misplaced))])) (cz := (fun _ => none)) (f_cnl_of (P := fun j S => f_cok pP l eP (f_rm 2) sP mP aP bP hP9 cP mY 71 a cy dC dI 2 _ _ (.invokevirtual j) true S) (List.forall_mem_cons.mpr ⟨f_cokV C (mX12_isGood hinj) (ci := 11) rfl (List.forall_mem_cons.mpr ⟨(mlX12_ok _ (List.mem_of_getElem? (i := 7) rfl)), kc_X12_isGood⟩) (by decide +kernel) ⟨Nat.le_of_ble_eq_true rfl, Nat.le_of_ble_eq_true rfl⟩, List.forall_mem_cons.mpr ⟨f_cokV C (mX12_goOn hinj) (ci := 11) rfl (List.forall_mem_cons.mpr ⟨(mlX12_ok _ (List.mem_of_getElem? (i := 8) rfl)), kc_X12_goOn⟩) (by decide +kernel) ⟨Nat.le_of_ble_eq_true rfl, Nat.le_of_ble_eq_true rfl⟩, List.forall_mem_cons.mpr ⟨f_cokV C (mX12_misplaced hinj) (ci := 11) rfl (List.forall_mem_cons.mpr ⟨(mlX12_ok _ (List.mem_of_getElem? (i := 9) rfl)), kc_X12_misplaced⟩) (by decide +kernel) ⟨Nat.le_of_ble_eq_true rfl, Nat.le_of_ble_eq_true rfl⟩, fun _ h => absurd h List.not_mem_nil⟩⟩⟩)) (fun j S h => by cases h) tX12_must_ok (cut := (fun _ => none)) (fun t P h => by cases h) 12 0 tX12_must tX12_must_ok _ _ _ _ ?_
    refine And.intro trivial ?_
    intro x1 I1 L1 hq1
    have hq1 : I1 = I ∧ L1 = L ∧ ((x1.toInt = 1 ∧ (I 0 4).toInt = 0 ∨ x1.toInt = 0 ∧ ¬ (I 0 4).toInt = 0)) := hq1
    obtain ⟨eI1, eL1, c1_2⟩ := hq1
    replace eI1 := eI1.symm
    subst eI1
    replace eL1 := eL1.symm
    subst eL1
    apply And.intro
    · intro h4
      have h4 : ¬ x1.toInt = 0 := h4
      apply And.intro
      · intro h9
        have h9 : c.toInt = 0 := h9
        refine And.intro hR ?_
        intro I20 L20 hq20
        have hq20 : mR I20 ∧ f_fo [4, 5] I I20 ∧ f_fr [0] I I20 ∧ L20 = L ∧ 1 ≤ (I20 0 4).toInt := hq20
        obtain ⟨c20_0, c20_1, c20_2, eL20, c20_4⟩ := hq20
        replace eL20 := eL20.symm
        subst eL20
        have hO20 := f_fo_tr hO0 c20_1 rfl
        have hF20 := f_fr_tr hF0 c20_2 rfl
        have r23_1 : 0 ≤ (I20 0 7).toInt ∧ (I20 0 7).toInt ≤ 1601 := c20_0 0 7
        have e23_2 : (I20 0 7).toInt = (I 0 7).toInt := congrArg Int32.toInt (c20_1 7 rfl)
        exact ⟨c20_0, hO20, hF20, hG0, (show (I20 0 7).toInt ≤ 1600 from by first | assumption | omega | rfl)⟩
      · intro h9
        have h9 : ¬ c.toInt = 0 := h9
        have r13_1 : 0 ≤ (I 0 7).toInt ∧ (I 0 7).toInt ≤ 1601 := hR 0 7
        refine And.intro ⟨hR, (show (I 0 7).toInt ≤ 1600 from by first | assumption | omega)⟩ ?_
        intro I13 L13 hq13
        have hq13 : mR I13 ∧ f_fo [6, 7, 8] I I13 ∧ f_fr [0] I I13 ∧ f_fr [0] L L13 ∧ (I13 0 7).toInt ≤ 1600 := hq13
        obtain ⟨c13_0, c13_1, c13_2, c13_3, c13_4⟩ := hq13
        have hO13 := f_fo_tr hO0 c13_1 rfl
        have hF13 := f_fr_tr hF0 c13_2 rfl
        have hG13 := f_fr_tr hG0 c13_3 rfl
        have r23_2 : 0 ≤ (I13 0 7).toInt ∧ (I13 0 7).toInt ≤ 1601 := c13_0 0 7
        exact ⟨c13_0, hO13, hF13, hG13, (show (I13 0 7).toInt ≤ 1600 from by first | assumption | omega | rfl)⟩
    · intro h4
      have h4 : x1.toInt = 0 := h4
      have r7_1 : 0 ≤ (I 0 7).toInt ∧ (I 0 7).toInt ≤ 1601 := hR 0 7
      exact ⟨hR, hO0, hF0, hG0, (show (I 0 7).toInt ≤ 1600 from by first | assumption | omega | rfl)⟩
def tX12_takeTape : List (Instr × Nat) := [(.aload_n 0, 1), (.iconst 0, 1), (.putfield 236, 3), (.aload_n 0, 1), (.iconst (-1), 1), (.putfield 16, 3), (.aload_n 0, 1), (.aload_n 0, 1), (.getfield 291, 3), (.putfield 233, 3), (.iconst 0, 1), (.istore_n 1, 1), (.iload_n 1, 1), (.aload_n 0, 1), (.getfield 233, 3), (.if_icmp .ge 21, 3), (.aload_n 0, 1), (.getfield 13, 3), (.iload_n 1, 1), (.aload_n 0, 1), (.getfield 7, 3), (.iload_n 1, 1), (.baload, 1), (.bastore, 1), (.iinc 1 1, 3), (.goto (-23), 3), (.aload_n 0, 1), (.iconst 0, 1), (.putfield 291, 3), (.aload_n 0, 1), (.iconst 0, 1), (.putfield 249, 3), (.aload_n 0, 1), (.invokevirtual 285, 3), (.return_, 1)]
theorem tX12_takeTape_ok : f_chk cX12_takeTape 0 tX12_takeTape = true := by decide +kernel
def pX12_takeTape (av : List Value) (I : fM) (L : fN) : Prop := match av with
  | [.ref 0] => mR I
  | _ => False
def qX12_takeTape (av : List Value) (I : fM) (L : fN) (r : Value) (I' : fM) (L' : fN) : Prop := match av, r with
  | [.ref 0], .null => mR I' ∧ f_fo [2, 3, 4, 5, 6, 7, 8] I I' ∧ f_fr [0, 2] I I' ∧ f_fr [0] L L' ∧ (I' 0 7).toInt ≤ 1600 ∧ (I' 0 2).toInt = 0 ∧ (I' 0 4).toInt = 0
  | _, _ => False
set_option maxHeartbeats 4000000 in
set_option maxRecDepth 100000 in
theorem mX12_takeTape {l : Launch} {a : Nat → Nat} {cy dC : Nat → ClassId} {dI : Nat → Nat → Nat} (hinj : ∀ i j, i < 71 → j < 71 → a i = a j → i = j) : f_Met (fun _ => True) l mY 71 a cy dC dI yX12_takeTape cX12_takeTape 2 0 2 pX12_takeTape qX12_takeTape := by
  refine f_met_of (f_Ec_T 71 a) hinj mY_hi (by decide) (fun av I L h => by unfold pX12_takeTape at h; split at h <;> first | exact Nat.le_of_ble_eq_true rfl | exact h.elim) ?_
  intro pP eP sP mP aP bP hP9 cP C av I L hp
  unfold pX12_takeTape at hp
  split at hp
  case h_2 => exact hp.elim
  case h_1 =>
    have hR := hp
    have hF0 : f_fr [0, 2] I I := f_fr_rf
    have hG0 : f_fr [0] L L := f_fr_rf
    have hO0 : f_fo [2, 3, 4, 5, 6, 7, 8] I I := f_fo_rf
    have lp20 : ∀ (n20 : Nat), ∀ (k : Int32) (J20 : fM) (M20 : fN), mR J20 ∧ f_fr [0, 2] I J20 ∧ f_fr [0] L M20 ∧ f_fo [2, 3, 4, 5, 6, 7, 8] I J20 ∧ (0 ≤ k.toInt) ∧ (k.toInt ≤ 1600) ∧ (k.toInt ≤ (J20 0 3).toInt) ∧ ((J20 0 4).toInt = 0) ∧ (1600 - k.toInt) < n20 → f_W pP l eP (f_rm 2) sP mP aP bP hP9 cP mY 71 a cy dC dI 2 (f_K 0 (qX12_takeTape [.ref 0] I L)) 20 [(1, .int k), (0, .ref 0)] [] J20 M20 := by
      intro n20
      induction n20 with
      | zero =>
        intro k J20 M20 h9
        obtain ⟨hR20c, hF20c, hG20c, hO20c, u20_1, u20_2, u20_3, u20_4, hm20⟩ := h9
        omega
      | succ n20 ih20 =>
        intro k J20 M20 h9
        obtain ⟨hR20c, hF20c, hG20c, hO20c, u20_1, u20_2, u20_3, u20_4, hm20⟩ := h9
        refine f_wp_ok C f_cl flX12_ok fiX12_ok fjX12_ok (sn := none) (fun j h => by cases h) (cs := (f_cnl [(285, (1, 0, 11, pX12_goOn, qX12_goOn))])) (cz := (fun _ => none)) (f_cnl_of (P := fun j S => f_cok pP l eP (f_rm 2) sP mP aP bP hP9 cP mY 71 a cy dC dI 2 _ _ (.invokevirtual j) true S) (List.forall_mem_cons.mpr ⟨f_cokV C (mX12_goOn hinj) (ci := 11) rfl (List.forall_mem_cons.mpr ⟨(mlX12_ok _ (List.mem_of_getElem? (i := 8) rfl)), kc_X12_goOn⟩) (by decide +kernel) ⟨Nat.le_of_ble_eq_true rfl, Nat.le_of_ble_eq_true rfl⟩, fun _ h => absurd h List.not_mem_nil⟩)) (fun j S h => by cases h) tX12_takeTape_ok (cut := (f_cnl [(20, (fun (ls' : fLs) (st' : List Value) (I' : fM) (L' : fN) => ∃ k : Int32, (∀ q ∈ ([(1, .int k), (0, .ref 0)] : fLs), q ∈ ls') ∧ st' = [] ∧ (mR I' ∧ f_fr [0, 2] I I' ∧ f_fr [0] L L' ∧ f_fo [2, 3, 4, 5, 6, 7, 8] I I' ∧ (0 ≤ k.toInt) ∧ (k.toInt ≤ 1600) ∧ (k.toInt ≤ (I' 0 3).toInt) ∧ ((I' 0 4).toInt = 0) ∧ (1600 - k.toInt) < n20)))])) (f_cnl_of (P := fun (tQ : Nat) (P : fLs → List Value → fM → fN → Prop) => ∀ ls' st' I' L', P ls' st' I' L' → f_W pP l eP (f_rm 2) sP mP aP bP hP9 cP mY 71 a cy dC dI 2 (f_K 0 (qX12_takeTape [.ref 0] I L)) tQ ls' st' I' L') (List.forall_mem_cons.mpr ⟨(fun ls' st' I' L' h => by obtain ⟨k, hs, e1, h9⟩ := h; rw [e1]; exact f_W_sub hs (ih20 k I' L' h9)), fun _ h => absurd h List.not_mem_nil⟩)) 17 20 (f_seek 20 0 tX12_takeTape) (f_seek_ok 20 0 tX12_takeTape tX12_takeTape_ok) _ _ _ _ ?_
        have r22_1 : 0 ≤ (J20 0 3).toInt ∧ (J20 0 3).toInt ≤ 1600 := hR20c 0 3
        apply And.intro
        · intro h25
          have h25 : (J20 0 3).toInt ≤ k.toInt := h25
          have hR48 := mR_f (k := 0) (j := 2) (x := Int32.ofInt 0) hR20c (show 0 ≤ 0 ∧ 0 ≤ 1600 from ⟨by omega, by omega⟩)
          have hF48 := f_fr_up (k := 0) (r := va_up (J20 0) 2 (Int32.ofInt 0)) hF20c rfl
          have hO48 := f_fo_up (j := 2) (x := Int32.ofInt 0) hO20c rfl
          have hR53 := mR_f (k := 0) (j := 7) (x := Int32.ofInt 0) hR48 (show 0 ≤ 0 ∧ 0 ≤ 1601 from ⟨by omega, by omega⟩)
          have hF53 := f_fr_up (k := 0) (r := va_up (va_up (J20 0) 2 (Int32.ofInt 0)) 7 (Int32.ofInt 0)) hF48 rfl
          have hO53 := f_fo_up (j := 7) (x := Int32.ofInt 0) hO48 rfl
          refine And.intro ⟨hR53, (show (0 : Int) ≤ 1600 from by first | assumption | omega)⟩ ?_
          intro I57 L57 hq57
          have hq57 : mR I57 ∧ f_fo [6, 7, 8] (va_up (va_up J20 0 (va_up (J20 0) 2 (Int32.ofInt 0))) 0 (va_up (va_up (J20 0) 2 (Int32.ofInt 0)) 7 (Int32.ofInt 0))) I57 ∧ f_fr [0] (va_up (va_up J20 0 (va_up (J20 0) 2 (Int32.ofInt 0))) 0 (va_up (va_up (J20 0) 2 (Int32.ofInt 0)) 7 (Int32.ofInt 0))) I57 ∧ f_fr [0] M20 L57 ∧ (I57 0 7).toInt ≤ 1600 := hq57
          obtain ⟨c57_0, c57_1, c57_2, c57_3, c57_4⟩ := hq57
          have hO57 := f_fo_tr hO53 c57_1 rfl
          have hF57 := f_fr_tr hF53 c57_2 rfl
          have hG57 := f_fr_tr hG20c c57_3 rfl
          have r60_2 : 0 ≤ (I57 0 7).toInt ∧ (I57 0 7).toInt ≤ 1601 := c57_0 0 7
          have r60_3 : 0 ≤ (I57 0 2).toInt ∧ (I57 0 2).toInt ≤ 1600 := c57_0 0 2
          have e60_4 : (I57 0 2).toInt = 0 := congrArg Int32.toInt (c57_1 2 rfl)
          have e60_6 : (I57 0 4).toInt = (J20 0 4).toInt := congrArg Int32.toInt (c57_1 4 rfl)
          exact ⟨c57_0, hO57, hF57, hG57, (show (I57 0 7).toInt ≤ 1600 from by first | assumption | omega | rfl), (show (I57 0 2).toInt = 0 from by first | assumption | omega | rfl), (show (I57 0 4).toInt = 0 from by first | assumption | omega | rfl)⟩
        · intro h25
          have h25 : k.toInt < (J20 0 3).toInt := h25
          refine And.intro (show f_in k 1620 from ⟨show 0 ≤ k.toInt from by omega, show k.toInt < 1620 from by omega⟩) ?_
          have e38_3 : (J20 1 (k.toInt.toNat)).toInt = (I 1 (k.toInt.toNat)).toInt := congrArg Int32.toInt (congrFun (hF20c 1 rfl) (k.toInt.toNat))
          refine And.intro (show f_in k 1600 from ⟨show 0 ≤ k.toInt from by omega, show k.toInt < 1600 from by omega⟩) ?_
          have hR39 := mR_a (k := 2) (j := k.toInt.toNat) (x := vp_nar .byte (J20 1 (k.toInt.toNat))) hR20c (by exact f_rng _)
          have hF39 := f_fr_up (k := 2) (r := upd (J20 2) (k.toInt.toNat) (vp_nar .byte (J20 1 (k.toInt.toNat)))) hF20c rfl
          have hO39 := f_fo_ne (k := 2) (r := upd (J20 2) (k.toInt.toNat) (vp_nar .byte (J20 1 (k.toInt.toNat)))) hO20c (by decide)
          intro z40 q40 _ hq40 hl40 hu40
          have hq40 : z40.toInt = k.toInt + 1 + 4294967296 * q40 := hq40
          try have hz40 : z40.toInt = k.toInt + 1 := by omega
          exact ⟨z40, (by intro q9 h9; simp only [List.mem_cons, List.not_mem_nil, or_false] at h9; rcases h9 with h9 | h9 <;> subst h9 <;> repeat (first | exact List.mem_cons_self | apply List.mem_cons_of_mem)), rfl, hR39, hF39, hG20c, hO39, (show 0 ≤ z40.toInt from by first | assumption | omega), (show z40.toInt ≤ 1600 from by first | assumption | omega), (show z40.toInt ≤ (J20 0 3).toInt from by first | assumption | omega), (show (J20 0 4).toInt = 0 from by first | assumption | omega | rfl), (show (1600 - z40.toInt) < n20 from by omega)⟩
    refine f_wp_ok C f_cl flX12_ok fiX12_ok fjX12_ok (sn := none) (fun j h => by cases h) (cs := (f_cnl [(285, (1, 0, 11, pX12_goOn, qX12_goOn))])) (cz := (fun _ => none)) (f_cnl_of (P := fun j S => f_cok pP l eP (f_rm 2) sP mP aP bP hP9 cP mY 71 a cy dC dI 2 _ _ (.invokevirtual j) true S) (List.forall_mem_cons.mpr ⟨f_cokV C (mX12_goOn hinj) (ci := 11) rfl (List.forall_mem_cons.mpr ⟨(mlX12_ok _ (List.mem_of_getElem? (i := 8) rfl)), kc_X12_goOn⟩) (by decide +kernel) ⟨Nat.le_of_ble_eq_true rfl, Nat.le_of_ble_eq_true rfl⟩, fun _ h => absurd h List.not_mem_nil⟩)) (fun j S h => by cases h) tX12_takeTape_ok (cut := (f_cnl [(20, (fun (ls' : fLs) (st' : List Value) (I' : fM) (L' : fN) => ∃ k : Int32, (∀ q ∈ ([(1, .int k), (0, .ref 0)] : fLs), q ∈ ls') ∧ st' = [] ∧ (mR I' ∧ f_fr [0, 2] I I' ∧ f_fr [0] L L' ∧ f_fo [2, 3, 4, 5, 6, 7, 8] I I' ∧ (0 ≤ k.toInt) ∧ (k.toInt ≤ 1600) ∧ (k.toInt ≤ (I' 0 3).toInt) ∧ ((I' 0 4).toInt = 0) ∧ (1600 - k.toInt) < 1601)))])) (f_cnl_of (P := fun (tQ : Nat) (P : fLs → List Value → fM → fN → Prop) => ∀ ls' st' I' L', P ls' st' I' L' → f_W pP l eP (f_rm 2) sP mP aP bP hP9 cP mY 71 a cy dC dI 2 (f_K 0 (qX12_takeTape [.ref 0] I L)) tQ ls' st' I' L') (List.forall_mem_cons.mpr ⟨(fun ls' st' I' L' h => by obtain ⟨k, hs, e1, h9⟩ := h; rw [e1]; exact f_W_sub hs (lp20 1601 k I' L' h9)), fun _ h => absurd h List.not_mem_nil⟩)) 15 0 tX12_takeTape tX12_takeTape_ok _ _ _ _ ?_
    have hR2 := mR_f (k := 0) (j := 4) (x := Int32.ofInt 0) hR (by exact f_rng _)
    have hF2 := f_fr_up (k := 0) (r := va_up (I 0) 4 (Int32.ofInt 0)) hF0 rfl
    have hO2 := f_fo_up (j := 4) (x := Int32.ofInt 0) hO0 rfl
    have hR7 := mR_f (k := 0) (j := 5) (x := Int32.ofInt (-1)) hR2 (by exact f_rng _)
    have hF7 := f_fr_up (k := 0) (r := va_up (va_up (I 0) 4 (Int32.ofInt 0)) 5 (Int32.ofInt (-1))) hF2 rfl
    have hO7 := f_fo_up (j := 5) (x := Int32.ofInt (-1)) hO2 rfl
    have r12_1 : 0 ≤ (I 0 2).toInt ∧ (I 0 2).toInt ≤ 1600 := hR7 0 2
    have hR15 := mR_f (k := 0) (j := 3) (x := I 0 2) hR7 (show 0 ≤ (I 0 2).toInt ∧ (I 0 2).toInt ≤ 1600 from ⟨by omega, by omega⟩)
    have hF15 := f_fr_up (k := 0) (r := va_up (va_up (va_up (I 0) 4 (Int32.ofInt 0)) 5 (Int32.ofInt (-1))) 3 (I 0 2)) hF7 rfl
    have hO15 := f_fo_up (j := 3) (x := I 0 2) hO7 rfl
    exact ⟨Int32.ofInt 0, (by intro q9 h9; simp only [List.mem_cons, List.not_mem_nil, or_false] at h9; rcases h9 with h9 | h9 <;> subst h9 <;> repeat (first | exact List.mem_cons_self | apply List.mem_cons_of_mem)), rfl, hR15, hF15, hG0, hO15, (show 0 ≤ (0 : Int) from by first | assumption | omega), (show (0 : Int) ≤ 1600 from by first | assumption | omega), (show (0 : Int) ≤ (I 0 2).toInt from by first | assumption | omega), (show (0 : Int) = 0 from by first | assumption | omega | rfl), (show (1600 - (0 : Int)) < 1601 from by omega)⟩
def tX12_isIn : List (Instr × Nat) := [(.iload_n 0, 1), (.iload_n 1, 1), (.if_icmp .lt 12, 3), (.iload_n 0, 1), (.iload_n 2, 1), (.if_icmp .gt 7, 3), (.iconst 1, 1), (.goto 4, 3), (.iconst 0, 1), (.ireturn, 1)]
theorem tX12_isIn_ok : f_chk cX12_isIn 0 tX12_isIn = true := by decide +kernel
def pX12_isIn (av : List Value) (I : fM) (L : fN) : Prop := match av with
  | [.int v, .int f, .int t] => True
  | _ => False
def qX12_isIn (av : List Value) (I : fM) (L : fN) (r : Value) (I' : fM) (L' : fN) : Prop := match av, r with
  | [.int v, .int f, .int t], .int x => I' = I ∧ L' = L ∧ (x.toInt = 1 ∧ f.toInt ≤ v.toInt ∧ v.toInt ≤ t.toInt ∨ x.toInt = 0 ∧ (v.toInt < f.toInt ∨ t.toInt < v.toInt))
  | _, _ => False
set_option maxHeartbeats 4000000 in
set_option maxRecDepth 100000 in
theorem mX12_isIn {l : Launch} {a : Nat → Nat} {cy dC : Nat → ClassId} {dI : Nat → Nat → Nat} (hinj : ∀ i j, i < 71 → j < 71 → a i = a j → i = j) : f_Met (fun _ => True) l mY 71 a cy dC dI yX12_isIn cX12_isIn 3 3 0 pX12_isIn qX12_isIn := by
  refine f_met_of (f_Ec_T 71 a) hinj mY_hi (by decide) (fun av I L h => by unfold pX12_isIn at h; split at h <;> first | exact Nat.le_of_ble_eq_true rfl | exact h.elim) ?_
  intro pP eP sP mP aP bP hP9 cP C av I L hp
  unfold pX12_isIn at hp
  split at hp
  case h_2 => exact hp.elim
  case h_1 v f t =>
    have p0 := hp
    refine f_wp_ok C f_cl flX12_ok fiX12_ok fjX12_ok (sn := none) (fun j h => by cases h) (cs := (fun _ => none)) (cz := (fun _ => none)) (fun j S h => by cases h) (fun j S h => by cases h) tX12_isIn_ok (cut := (fun _ => none)) (fun t P h => by cases h) 12 0 tX12_isIn tX12_isIn_ok _ _ _ _ ?_
    apply And.intro
    · intro h2
      have h2 : v.toInt < f.toInt := h2
      exact ⟨Or.inl rfl, rfl, rfl, (show ((0 : Int) = 1 ∧ f.toInt ≤ v.toInt ∧ v.toInt ≤ t.toInt ∨ (0 : Int) = 0 ∧ (v.toInt < f.toInt ∨ t.toInt < v.toInt)) from by first | assumption | omega | rfl)⟩
    · intro h2
      have h2 : f.toInt ≤ v.toInt := h2
      apply And.intro
      · intro h7
        have h7 : t.toInt < v.toInt := h7
        exact ⟨Or.inl rfl, rfl, rfl, (show ((0 : Int) = 1 ∧ f.toInt ≤ v.toInt ∧ v.toInt ≤ t.toInt ∨ (0 : Int) = 0 ∧ (v.toInt < f.toInt ∨ t.toInt < v.toInt)) from by first | assumption | omega | rfl)⟩
      · intro h7
        have h7 : v.toInt ≤ t.toInt := h7
        exact ⟨Or.inr rfl, rfl, rfl, (show ((1 : Int) = 1 ∧ f.toInt ≤ v.toInt ∧ v.toInt ≤ t.toInt ∨ (1 : Int) = 0 ∧ (v.toInt < f.toInt ∨ t.toInt < v.toInt)) from by first | assumption | omega | rfl)⟩
def tX12_fault : List (Instr × Nat) := [(.iload_n 1, 1), (.ifCond .ne 10, 3), (.aload_n 0, 1), (.getfield 236, 3), (.goto 16, 3), (.iload_n 1, 1), (.iconst 1, 1), (.if_icmp .ne 10, 3), (.aload_n 0, 1), (.getfield 16, 3), (.goto 4, 3), (.iconst (-1), 1), (.ireturn, 1)]
theorem tX12_fault_ok : f_chk cX12_fault 0 tX12_fault = true := by decide +kernel
def pX12_fault (av : List Value) (I : fM) (L : fN) : Prop := match av with
  | [.ref 0, .int w] => True
  | _ => False
def qX12_fault (av : List Value) (I : fM) (L : fN) (r : Value) (I' : fM) (L' : fN) : Prop := match av, r with
  | [.ref 0, .int w], .int x => I' = I ∧ L' = L
  | _, _ => False
set_option maxHeartbeats 4000000 in
set_option maxRecDepth 100000 in
theorem mX12_fault {l : Launch} {a : Nat → Nat} {cy dC : Nat → ClassId} {dI : Nat → Nat → Nat} (hinj : ∀ i j, i < 71 → j < 71 → a i = a j → i = j) : f_Met (fun _ => True) l mY 71 a cy dC dI yX12_fault cX12_fault 2 1 0 pX12_fault qX12_fault := by
  refine f_met_of (f_Ec_T 71 a) hinj mY_hi (by decide) (fun av I L h => by unfold pX12_fault at h; split at h <;> first | exact Nat.le_of_ble_eq_true rfl | exact h.elim) ?_
  intro pP eP sP mP aP bP hP9 cP C av I L hp
  unfold pX12_fault at hp
  split at hp
  case h_2 => exact hp.elim
  case h_1 w =>
    have p0 := hp
    refine f_wp_ok C f_cl flX12_ok fiX12_ok fjX12_ok (sn := none) (fun j h => by cases h) (cs := (fun _ => none)) (cz := (fun _ => none)) (fun j S h => by cases h) (fun j S h => by cases h) tX12_fault_ok (cut := (fun _ => none)) (fun t P h => by cases h) 12 0 tX12_fault tX12_fault_ok _ _ _ _ ?_
    apply And.intro
    · intro h1
      have h1 : ¬ w.toInt = 0 := h1
      apply And.intro
      · intro h13
        have h13 : ¬ w.toInt = 1 := h13
        exact ⟨rfl, rfl⟩
      · intro h13
        have h13 : w.toInt = 1 := h13
        exact ⟨rfl, rfl⟩
    · intro h1
      have h1 : w.toInt = 0 := h1
      exact ⟨rfl, rfl⟩
def tX12_end : List (Instr × Nat) := [(.iload_n 1, 1), (.ifCond .lt 11, 3), (.iload_n 1, 1), (.aload_n 0, 1), (.getfield 291, 3), (.if_icmp .le 5, 3), (.iconst (-1), 1), (.ireturn, 1), (.aload_n 0, 1), (.iload_n 1, 1), (.putfield 291, 3), (.iload_n 1, 1), (.ireturn, 1)]
theorem tX12_end_ok : f_chk cX12_end 0 tX12_end = true := by decide +kernel
def pX12_end (av : List Value) (I : fM) (L : fN) : Prop := match av with
  | [.ref 0, .int n] => mR I
  | _ => False
def qX12_end (av : List Value) (I : fM) (L : fN) (r : Value) (I' : fM) (L' : fN) : Prop := match av, r with
  | [.ref 0, .int n], .int x => mR I' ∧ f_fo [2] I I' ∧ f_fr [0] I I' ∧ L' = L ∧ ((n.toInt < 0 ∨ (I 0 2).toInt < n.toInt) ∧ x.toInt = -1 ∧ (I' 0 2).toInt = (I 0 2).toInt ∨ 0 ≤ n.toInt ∧ n.toInt ≤ (I 0 2).toInt ∧ x.toInt = n.toInt ∧ (I' 0 2).toInt = n.toInt)
  | _, _ => False
set_option maxHeartbeats 4000000 in
set_option maxRecDepth 100000 in
theorem mX12_end {l : Launch} {a : Nat → Nat} {cy dC : Nat → ClassId} {dI : Nat → Nat → Nat} (hinj : ∀ i j, i < 71 → j < 71 → a i = a j → i = j) : f_Met (fun _ => True) l mY 71 a cy dC dI yX12_end cX12_end 2 1 0 pX12_end qX12_end := by
  refine f_met_of (f_Ec_T 71 a) hinj mY_hi (by decide) (fun av I L h => by unfold pX12_end at h; split at h <;> first | exact Nat.le_of_ble_eq_true rfl | exact h.elim) ?_
  intro pP eP sP mP aP bP hP9 cP C av I L hp
  unfold pX12_end at hp
  split at hp
  case h_2 => exact hp.elim
  case h_1 n =>
    have hR := hp
    have hF0 : f_fr [0] I I := f_fr_rf
    have hO0 : f_fo [2] I I := f_fo_rf
    refine f_wp_ok C f_cl flX12_ok fiX12_ok fjX12_ok (sn := none) (fun j h => by cases h) (cs := (fun _ => none)) (cz := (fun _ => none)) (fun j S h => by cases h) (fun j S h => by cases h) tX12_end_ok (cut := (fun _ => none)) (fun t P h => by cases h) 14 0 tX12_end tX12_end_ok _ _ _ _ ?_
    apply And.intro
    · intro h1
      have h1 : n.toInt < 0 := h1
      have r13_1 : 0 ≤ (I 0 2).toInt ∧ (I 0 2).toInt ≤ 1600 := hR 0 2
      exact ⟨hR, hO0, hF0, rfl, (show ((n.toInt < 0 ∨ (I 0 2).toInt < n.toInt) ∧ (-1 : Int) = -1 ∧ (I 0 2).toInt = (I 0 2).toInt ∨ 0 ≤ n.toInt ∧ n.toInt ≤ (I 0 2).toInt ∧ (-1 : Int) = n.toInt ∧ (I 0 2).toInt = n.toInt) from by first | assumption | omega | rfl)⟩
    · intro h1
      have h1 : 0 ≤ n.toInt := h1
      have r6_1 : 0 ≤ (I 0 2).toInt ∧ (I 0 2).toInt ≤ 1600 := hR 0 2
      apply And.intro
      · intro h9
        have h9 : n.toInt ≤ (I 0 2).toInt := h9
        have hR16 := mR_f (k := 0) (j := 2) (x := n) hR (show 0 ≤ n.toInt ∧ n.toInt ≤ 1600 from ⟨by omega, by omega⟩)
        have hF16 := f_fr_up (k := 0) (r := va_up (I 0) 2 n) hF0 rfl
        have hO16 := f_fo_up (j := 2) (x := n) hO0 rfl
        exact ⟨hR16, hO16, hF16, rfl, (show ((n.toInt < 0 ∨ (I 0 2).toInt < n.toInt) ∧ n.toInt = -1 ∧ n.toInt = (I 0 2).toInt ∨ 0 ≤ n.toInt ∧ n.toInt ≤ (I 0 2).toInt ∧ n.toInt = n.toInt ∧ n.toInt = n.toInt) from by first | assumption | omega | rfl)⟩
      · intro h9
        have h9 : (I 0 2).toInt < n.toInt := h9
        exact ⟨hR, hO0, hF0, rfl, (show ((n.toInt < 0 ∨ (I 0 2).toInt < n.toInt) ∧ (-1 : Int) = -1 ∧ (I 0 2).toInt = (I 0 2).toInt ∨ 0 ≤ n.toInt ∧ n.toInt ≤ (I 0 2).toInt ∧ (-1 : Int) = n.toInt ∧ (I 0 2).toInt = n.toInt) from by first | assumption | omega | rfl)⟩
def tX12_later : List (Instr × Nat) := [(.iload_n 1, 1), (.iconst 0, 1), (.sipush 1000, 3), (.invokestatic 366, 3), (.ifCond .eq 15, 3), (.aload_n 0, 1), (.getfield 522, 3), (.iload_n 1, 1), (.iadd, 1), (.ldc_w 525, 3), (.if_icmp .le 5, 3), (.iconst (-1), 1), (.ireturn, 1), (.aload_n 0, 1), (.dup, 1), (.getfield 522, 3), (.iload_n 1, 1), (.iadd, 1), (.putfield 522, 3), (.aload_n 0, 1), (.getfield 522, 3), (.ireturn, 1)]
theorem tX12_later_ok : f_chk cX12_later 0 tX12_later = true := by decide +kernel
def pX12_later (av : List Value) (I : fM) (L : fN) : Prop := match av with
  | [.ref 0, .int b] => mR I
  | _ => False
def qX12_later (av : List Value) (I : fM) (L : fN) (r : Value) (I' : fM) (L' : fN) : Prop := match av, r with
  | [.ref 0, .int b], .int x => mR I' ∧ f_fo [84] I I' ∧ f_fr [0] I I' ∧ L' = L ∧ ((b.toInt < 0 ∨ 1000 < b.toInt ∨ 100000 < (I 0 84).toInt + b.toInt) ∧ x.toInt = -1 ∧ (I' 0 84).toInt = (I 0 84).toInt ∨ 0 ≤ b.toInt ∧ b.toInt ≤ 1000 ∧ (I 0 84).toInt + b.toInt ≤ 100000 ∧ x.toInt = (I 0 84).toInt + b.toInt ∧ (I' 0 84).toInt = (I 0 84).toInt + b.toInt)
  | _, _ => False
set_option maxHeartbeats 4000000 in
set_option maxRecDepth 100000 in
theorem mX12_later {l : Launch} {a : Nat → Nat} {cy dC : Nat → ClassId} {dI : Nat → Nat → Nat} (hinj : ∀ i j, i < 71 → j < 71 → a i = a j → i = j) : f_Met (fun _ => True) l mY 71 a cy dC dI yX12_later cX12_later 2 1 1 pX12_later qX12_later := by
  refine f_met_of (f_Ec_T 71 a) hinj mY_hi (by decide) (fun av I L h => by unfold pX12_later at h; split at h <;> first | exact Nat.le_of_ble_eq_true rfl | exact h.elim) ?_
  intro pP eP sP mP aP bP hP9 cP C av I L hp
  unfold pX12_later at hp
  split at hp
  case h_2 => exact hp.elim
  case h_1 b =>
    have hR := hp
    have hF0 : f_fr [0] I I := f_fr_rf
    have hO0 : f_fo [84] I I := f_fo_rf
    refine f_wp_ok C f_cl flX12_ok fiX12_ok fjX12_ok (sn := none) (fun j h => by cases h) (cs := (fun _ => none)) (cz := (f_cnl [(366, (3, 3, 11, pX12_isIn, qX12_isIn))])) (fun j S h => by cases h) (f_cnl_of (P := fun j S => f_cok pP l eP (f_rm 1) sP mP aP bP hP9 cP mY 71 a cy dC dI 2 _ _ (.invokestatic j) false S) (List.forall_mem_cons.mpr ⟨f_cokS C (mX12_isIn hinj) (List.forall_mem_cons.mpr ⟨(mlX12_ok _ (List.mem_of_getElem? (i := 27) rfl)), kc_X12_isIn⟩) (by decide +kernel) ⟨Nat.le_of_ble_eq_true rfl, Nat.le_of_ble_eq_true rfl⟩, fun _ h => absurd h List.not_mem_nil⟩)) tX12_later_ok (cut := (fun _ => none)) (fun t P h => by cases h) 23 0 tX12_later tX12_later_ok _ _ _ _ ?_
    refine And.intro trivial ?_
    intro x5 I5 L5 hq5
    have hq5 : I5 = I ∧ L5 = L ∧ ((x5.toInt = 1 ∧ (0 : Int) ≤ b.toInt ∧ b.toInt ≤ (1000 : Int) ∨ x5.toInt = 0 ∧ (b.toInt < (0 : Int) ∨ (1000 : Int) < b.toInt))) := hq5
    obtain ⟨eI5, eL5, c5_2⟩ := hq5
    replace eI5 := eI5.symm
    subst eI5
    replace eL5 := eL5.symm
    subst eL5
    apply And.intro
    · intro h8
      have h8 : x5.toInt = 0 := h8
      have r24_1 : 0 ≤ (I 0 84).toInt ∧ (I 0 84).toInt ≤ 100000 := hR 0 84
      exact ⟨hR, hO0, hF0, rfl, (show ((b.toInt < 0 ∨ 1000 < b.toInt ∨ 100000 < (I 0 84).toInt + b.toInt) ∧ (-1 : Int) = -1 ∧ (I 0 84).toInt = (I 0 84).toInt ∨ 0 ≤ b.toInt ∧ b.toInt ≤ 1000 ∧ (I 0 84).toInt + b.toInt ≤ 100000 ∧ (-1 : Int) = (I 0 84).toInt + b.toInt ∧ (I 0 84).toInt = (I 0 84).toInt + b.toInt) from by first | assumption | omega | rfl)⟩
    · intro h8
      have h8 : ¬ x5.toInt = 0 := h8
      have r12_1 : 0 ≤ (I 0 84).toInt ∧ (I 0 84).toInt ≤ 100000 := hR 0 84
      intro z16 q16 _ hq16 hl16 hu16
      have hq16 : z16.toInt = (I 0 84).toInt + b.toInt + 4294967296 * q16 := hq16
      try have hz16 : z16.toInt = (I 0 84).toInt + b.toInt := by omega
      apply And.intro
      · intro h20
        have h20 : z16.toInt ≤ 100000 := h20
        intro z31 q31 _ hq31 hl31 hu31
        have hq31 : z31.toInt = (I 0 84).toInt + b.toInt + 4294967296 * q31 := hq31
        try have hz31 : z31.toInt = (I 0 84).toInt + b.toInt := by omega
        have hR32 := mR_f (k := 0) (j := 84) (x := z31) hR (show 0 ≤ z31.toInt ∧ z31.toInt ≤ 100000 from ⟨by omega, by omega⟩)
        have hF32 := f_fr_up (k := 0) (r := va_up (I 0) 84 z31) hF0 rfl
        have hO32 := f_fo_up (j := 84) (x := z31) hO0 rfl
        exact ⟨hR32, hO32, hF32, rfl, (show ((b.toInt < 0 ∨ 1000 < b.toInt ∨ 100000 < (I 0 84).toInt + b.toInt) ∧ z31.toInt = -1 ∧ z31.toInt = (I 0 84).toInt ∨ 0 ≤ b.toInt ∧ b.toInt ≤ 1000 ∧ (I 0 84).toInt + b.toInt ≤ 100000 ∧ z31.toInt = (I 0 84).toInt + b.toInt ∧ z31.toInt = (I 0 84).toInt + b.toInt) from by first | assumption | omega | rfl)⟩
      · intro h20
        have h20 : 100000 < z16.toInt := h20
        exact ⟨hR, hO0, hF0, rfl, (show ((b.toInt < 0 ∨ 1000 < b.toInt ∨ 100000 < (I 0 84).toInt + b.toInt) ∧ (-1 : Int) = -1 ∧ (I 0 84).toInt = (I 0 84).toInt ∨ 0 ≤ b.toInt ∧ b.toInt ≤ 1000 ∧ (I 0 84).toInt + b.toInt ≤ 100000 ∧ (-1 : Int) = (I 0 84).toInt + b.toInt ∧ (I 0 84).toInt = (I 0 84).toInt + b.toInt) from by first | assumption | omega | rfl)⟩
def tX12_feed : List (Instr × Nat) := [(.aload_n 0, 1), (.getfield 291, 3), (.bipush 20, 2), (.iadd, 1), (.sipush 1600, 3), (.if_icmp .le 5, 3), (.iconst (-1), 1), (.ireturn, 1), (.iconst 0, 1), (.istore 6, 2), (.iload 6, 2), (.bipush 20, 2), (.if_icmp .ge 83, 3), (.iload 6, 2), (.iconst 4, 1), (.if_icmp .ge 7, 3), (.iload_n 1, 1), (.goto 39, 3), (.iload 6, 2), (.bipush 8, 2), (.if_icmp .ge 7, 3), (.iload_n 2, 1), (.goto 28, 3), (.iload 6, 2), (.bipush 12, 2), (.if_icmp .ge 7, 3), (.iload_n 3, 1), (.goto 17, 3), (.iload 6, 2), (.bipush 16, 2), (.if_icmp .ge 8, 3), (.iload 4, 2), (.goto 5, 3), (.iload 5, 2), (.istore 7, 2), (.aload_n 0, 1), (.getfield 7, 3), (.aload_n 0, 1), (.getfield 291, 3), (.iload 6, 2), (.iadd, 1), (.iload 7, 2), (.bipush 24, 2), (.bipush 8, 2), (.iload 6, 2), (.iconst 3, 1), (.iand, 1), (.imul, 1), (.isub, 1), (.ishr, 1), (.i2b, 1), (.bastore, 1), (.iinc 6 1, 3), (.goto (-84), 3), (.aload_n 0, 1), (.dup, 1), (.getfield 291, 3), (.bipush 20, 2), (.iadd, 1), (.putfield 291, 3), (.aload_n 0, 1), (.getfield 291, 3), (.ireturn, 1)]
theorem tX12_feed_ok : f_chk cX12_feed 0 tX12_feed = true := by decide +kernel
def pX12_feed (av : List Value) (I : fM) (L : fN) : Prop := match av with
  | [.ref 0, .int n1, .int n2, .int n3, .int n4, .int n5] => mR I
  | _ => False
def qX12_feed (av : List Value) (I : fM) (L : fN) (r : Value) (I' : fM) (L' : fN) : Prop := match av, r with
  | [.ref 0, .int n1, .int n2, .int n3, .int n4, .int n5], .int x => mR I' ∧ f_fo [2] I I' ∧ f_fr [0, 1] I I' ∧ L' = L ∧ (1580 < (I 0 2).toInt ∧ x.toInt = -1 ∧ (I' 0 2).toInt = (I 0 2).toInt ∨ (I 0 2).toInt ≤ 1580 ∧ x.toInt = (I 0 2).toInt + 20 ∧ (I' 0 2).toInt = (I 0 2).toInt + 20)
  | _, _ => False
set_option maxHeartbeats 4000000 in
set_option maxRecDepth 100000 in
theorem mX12_feed {l : Launch} {a : Nat → Nat} {cy dC : Nat → ClassId} {dI : Nat → Nat → Nat} (hinj : ∀ i j, i < 71 → j < 71 → a i = a j → i = j) : f_Met (fun _ => True) l mY 71 a cy dC dI yX12_feed cX12_feed 8 1 0 pX12_feed qX12_feed := by
  refine f_met_of (f_Ec_T 71 a) hinj mY_hi (by decide) (fun av I L h => by unfold pX12_feed at h; split at h <;> first | exact Nat.le_of_ble_eq_true rfl | exact h.elim) ?_
  intro pP eP sP mP aP bP hP9 cP C av I L hp
  unfold pX12_feed at hp
  split at hp
  case h_2 => exact hp.elim
  case h_1 n1 n2 n3 n4 n5 =>
    have hR := hp
    have ht : 0 ≤ (I 0 2).toInt := (hR 0 2).1
    have hF0 : f_fr [0, 1] I I := f_fr_rf
    have hO0 : f_fo [2] I I := f_fo_rf
    have lp18 : ∀ (n18 : Nat), ∀ (k : Int32) (J18 : fM), mR J18 ∧ f_fr [0, 1] I J18 ∧ f_fo [2] I J18 ∧ ((I 0 2).toInt ≤ 1580) ∧ (0 ≤ k.toInt) ∧ (k.toInt ≤ 20) ∧ ((J18 0 2).toInt = (I 0 2).toInt) ∧ (20 - k.toInt) < n18 → f_W pP l eP (f_rm 0) sP mP aP bP hP9 cP mY 71 a cy dC dI 8 (f_K 1 (qX12_feed [.ref 0, .int n1, .int n2, .int n3, .int n4, .int n5] I L)) 18 [(6, .int k), (5, .int n5), (4, .int n4), (3, .int n3), (2, .int n2), (1, .int n1), (0, .ref 0)] [] J18 L := by
      intro n18
      induction n18 with
      | zero =>
        intro k J18 h9
        obtain ⟨hR18c, hF18c, hO18c, u18_1, u18_2, u18_3, u18_4, hm18⟩ := h9
        omega
      | succ n18 ih18 =>
        intro k J18 h9
        obtain ⟨hR18c, hF18c, hO18c, u18_1, u18_2, u18_3, u18_4, hm18⟩ := h9
        refine f_wp_ok C f_cl flX12_ok fiX12_ok fjX12_ok (sn := none) (fun j h => by cases h) (cs := (fun _ => none)) (cz := (fun _ => none)) (fun j S h => by cases h) (fun j S h => by cases h) tX12_feed_ok (cut := (f_cnl [(18, (fun (ls' : fLs) (st' : List Value) (I' : fM) (L' : fN) => ∃ k : Int32, (∀ q ∈ ([(6, .int k), (5, .int n5), (4, .int n4), (3, .int n3), (2, .int n2), (1, .int n1), (0, .ref 0)] : fLs), q ∈ ls') ∧ st' = [] ∧ L' = L ∧ (mR I' ∧ f_fr [0, 1] I I' ∧ f_fo [2] I I' ∧ ((I 0 2).toInt ≤ 1580) ∧ (0 ≤ k.toInt) ∧ (k.toInt ≤ 20) ∧ ((I' 0 2).toInt = (I 0 2).toInt) ∧ (20 - k.toInt) < n18)))])) (f_cnl_of (P := fun (tQ : Nat) (P : fLs → List Value → fM → fN → Prop) => ∀ ls' st' I' L', P ls' st' I' L' → f_W pP l eP (f_rm 0) sP mP aP bP hP9 cP mY 71 a cy dC dI 8 (f_K 1 (qX12_feed [.ref 0, .int n1, .int n2, .int n3, .int n4, .int n5] I L)) tQ ls' st' I' L') (List.forall_mem_cons.mpr ⟨(fun ls' st' I' L' h => by obtain ⟨k, hs, e1, e3, h9⟩ := h; rw [e1, e3]; exact f_W_sub hs (ih18 k I' h9)), fun _ h => absurd h List.not_mem_nil⟩)) 40 18 (f_seek 18 0 tX12_feed) (f_seek_ok 18 0 tX12_feed tX12_feed_ok) _ _ _ _ ?_
        apply And.intro
        · intro h22
          have h22 : 20 ≤ k.toInt := h22
          have r107_1 : 0 ≤ (J18 0 2).toInt ∧ (J18 0 2).toInt ≤ 1600 := hR18c 0 2
          intro z112 q112 _ hq112 hl112 hu112
          have hq112 : z112.toInt = (J18 0 2).toInt + 20 + 4294967296 * q112 := hq112
          try have hz112 : z112.toInt = (J18 0 2).toInt + 20 := by omega
          have hR113 := mR_f (k := 0) (j := 2) (x := z112) hR18c (show 0 ≤ z112.toInt ∧ z112.toInt ≤ 1600 from ⟨by omega, by omega⟩)
          have hF113 := f_fr_up (k := 0) (r := va_up (J18 0) 2 z112) hF18c rfl
          have hO113 := f_fo_up (j := 2) (x := z112) hO18c rfl
          exact ⟨hR113, hO113, hF113, rfl, (show (1580 < (I 0 2).toInt ∧ z112.toInt = -1 ∧ z112.toInt = (I 0 2).toInt ∨ (I 0 2).toInt ≤ 1580 ∧ z112.toInt = (I 0 2).toInt + 20 ∧ z112.toInt = (I 0 2).toInt + 20) from by first | assumption | omega | rfl)⟩
        · intro h22
          have h22 : k.toInt < 20 := h22
          apply And.intro
          · intro h28
            have h28 : 4 ≤ k.toInt := h28
            apply And.intro
            · intro h39
              have h39 : 8 ≤ k.toInt := h39
              apply And.intro
              · intro h50
                have h50 : 12 ≤ k.toInt := h50
                apply And.intro
                · intro h61
                  have h61 : 16 ≤ k.toInt := h61
                  have r78_1 : 0 ≤ (J18 0 2).toInt ∧ (J18 0 2).toInt ≤ 1600 := hR18c 0 2
                  intro z83 q83 _ hq83 hl83 hu83
                  have hq83 : z83.toInt = (J18 0 2).toInt + k.toInt + 4294967296 * q83 := hq83
                  try have hz83 : z83.toInt = (J18 0 2).toInt + k.toInt := by omega
                  have b93 : 0 ≤ (k &&& (Int32.ofInt 3)).toInt ∧ (k &&& (Int32.ofInt 3)).toInt ≤ 3 := f_andc k 2 (by decide) (by decide)
                  intro z94 q94 _ hq94 hl94 hu94
                  have hq94 : z94.toInt = 8 * (k &&& (Int32.ofInt 3)).toInt + 4294967296 * q94 := hq94
                  try have hz94 : z94.toInt = 8 * (k &&& (Int32.ofInt 3)).toInt := by omega
                  intro z95 q95 _ hq95 hl95 hu95
                  have hq95 : z95.toInt = 24 - z94.toInt + 4294967296 * q95 := hq95
                  try have hz95 : z95.toInt = 24 - z94.toInt := by omega
                  refine And.intro (show f_in z83 1620 from ⟨show 0 ≤ z83.toInt from by omega, show z83.toInt < 1620 from by omega⟩) ?_
                  have hR98 := mR_a (k := 1) (j := z83.toInt.toNat) (x := vp_nar .byte ((n5 >>> (z95 &&& 31)).toInt8.toInt32)) hR18c (by exact f_rng _)
                  have hF98 := f_fr_up (k := 1) (r := upd (J18 1) (z83.toInt.toNat) (vp_nar .byte ((n5 >>> (z95 &&& 31)).toInt8.toInt32))) hF18c rfl
                  have hO98 := f_fo_ne (k := 1) (r := upd (J18 1) (z83.toInt.toNat) (vp_nar .byte ((n5 >>> (z95 &&& 31)).toInt8.toInt32))) hO18c (by decide)
                  intro z99 q99 _ hq99 hl99 hu99
                  have hq99 : z99.toInt = k.toInt + 1 + 4294967296 * q99 := hq99
                  try have hz99 : z99.toInt = k.toInt + 1 := by omega
                  exact ⟨z99, (by intro q9 h9; simp only [List.mem_cons, List.not_mem_nil, or_false] at h9; rcases h9 with h9 | h9 | h9 | h9 | h9 | h9 | h9 <;> subst h9 <;> repeat (first | exact List.mem_cons_self | apply List.mem_cons_of_mem)), rfl, rfl, hR98, hF98, hO98, (show (I 0 2).toInt ≤ 1580 from by first | assumption | omega), (show 0 ≤ z99.toInt from by first | assumption | omega), (show z99.toInt ≤ 20 from by first | assumption | omega), (show (J18 0 2).toInt = (I 0 2).toInt from by first | assumption | omega | rfl), (show (20 - z99.toInt) < n18 from by omega)⟩
                · intro h61
                  have h61 : k.toInt < 16 := h61
                  have r78_1 : 0 ≤ (J18 0 2).toInt ∧ (J18 0 2).toInt ≤ 1600 := hR18c 0 2
                  intro z83 q83 _ hq83 hl83 hu83
                  have hq83 : z83.toInt = (J18 0 2).toInt + k.toInt + 4294967296 * q83 := hq83
                  try have hz83 : z83.toInt = (J18 0 2).toInt + k.toInt := by omega
                  have b93 : 0 ≤ (k &&& (Int32.ofInt 3)).toInt ∧ (k &&& (Int32.ofInt 3)).toInt ≤ 3 := f_andc k 2 (by decide) (by decide)
                  intro z94 q94 _ hq94 hl94 hu94
                  have hq94 : z94.toInt = 8 * (k &&& (Int32.ofInt 3)).toInt + 4294967296 * q94 := hq94
                  try have hz94 : z94.toInt = 8 * (k &&& (Int32.ofInt 3)).toInt := by omega
                  intro z95 q95 _ hq95 hl95 hu95
                  have hq95 : z95.toInt = 24 - z94.toInt + 4294967296 * q95 := hq95
                  try have hz95 : z95.toInt = 24 - z94.toInt := by omega
                  refine And.intro (show f_in z83 1620 from ⟨show 0 ≤ z83.toInt from by omega, show z83.toInt < 1620 from by omega⟩) ?_
                  have hR98 := mR_a (k := 1) (j := z83.toInt.toNat) (x := vp_nar .byte ((n4 >>> (z95 &&& 31)).toInt8.toInt32)) hR18c (by exact f_rng _)
                  have hF98 := f_fr_up (k := 1) (r := upd (J18 1) (z83.toInt.toNat) (vp_nar .byte ((n4 >>> (z95 &&& 31)).toInt8.toInt32))) hF18c rfl
                  have hO98 := f_fo_ne (k := 1) (r := upd (J18 1) (z83.toInt.toNat) (vp_nar .byte ((n4 >>> (z95 &&& 31)).toInt8.toInt32))) hO18c (by decide)
                  intro z99 q99 _ hq99 hl99 hu99
                  have hq99 : z99.toInt = k.toInt + 1 + 4294967296 * q99 := hq99
                  try have hz99 : z99.toInt = k.toInt + 1 := by omega
                  exact ⟨z99, (by intro q9 h9; simp only [List.mem_cons, List.not_mem_nil, or_false] at h9; rcases h9 with h9 | h9 | h9 | h9 | h9 | h9 | h9 <;> subst h9 <;> repeat (first | exact List.mem_cons_self | apply List.mem_cons_of_mem)), rfl, rfl, hR98, hF98, hO98, (show (I 0 2).toInt ≤ 1580 from by first | assumption | omega), (show 0 ≤ z99.toInt from by first | assumption | omega), (show z99.toInt ≤ 20 from by first | assumption | omega), (show (J18 0 2).toInt = (I 0 2).toInt from by first | assumption | omega | rfl), (show (20 - z99.toInt) < n18 from by omega)⟩
              · intro h50
                have h50 : k.toInt < 12 := h50
                have r78_1 : 0 ≤ (J18 0 2).toInt ∧ (J18 0 2).toInt ≤ 1600 := hR18c 0 2
                intro z83 q83 _ hq83 hl83 hu83
                have hq83 : z83.toInt = (J18 0 2).toInt + k.toInt + 4294967296 * q83 := hq83
                try have hz83 : z83.toInt = (J18 0 2).toInt + k.toInt := by omega
                have b93 : 0 ≤ (k &&& (Int32.ofInt 3)).toInt ∧ (k &&& (Int32.ofInt 3)).toInt ≤ 3 := f_andc k 2 (by decide) (by decide)
                intro z94 q94 _ hq94 hl94 hu94
                have hq94 : z94.toInt = 8 * (k &&& (Int32.ofInt 3)).toInt + 4294967296 * q94 := hq94
                try have hz94 : z94.toInt = 8 * (k &&& (Int32.ofInt 3)).toInt := by omega
                intro z95 q95 _ hq95 hl95 hu95
                have hq95 : z95.toInt = 24 - z94.toInt + 4294967296 * q95 := hq95
                try have hz95 : z95.toInt = 24 - z94.toInt := by omega
                refine And.intro (show f_in z83 1620 from ⟨show 0 ≤ z83.toInt from by omega, show z83.toInt < 1620 from by omega⟩) ?_
                have hR98 := mR_a (k := 1) (j := z83.toInt.toNat) (x := vp_nar .byte ((n3 >>> (z95 &&& 31)).toInt8.toInt32)) hR18c (by exact f_rng _)
                have hF98 := f_fr_up (k := 1) (r := upd (J18 1) (z83.toInt.toNat) (vp_nar .byte ((n3 >>> (z95 &&& 31)).toInt8.toInt32))) hF18c rfl
                have hO98 := f_fo_ne (k := 1) (r := upd (J18 1) (z83.toInt.toNat) (vp_nar .byte ((n3 >>> (z95 &&& 31)).toInt8.toInt32))) hO18c (by decide)
                intro z99 q99 _ hq99 hl99 hu99
                have hq99 : z99.toInt = k.toInt + 1 + 4294967296 * q99 := hq99
                try have hz99 : z99.toInt = k.toInt + 1 := by omega
                exact ⟨z99, (by intro q9 h9; simp only [List.mem_cons, List.not_mem_nil, or_false] at h9; rcases h9 with h9 | h9 | h9 | h9 | h9 | h9 | h9 <;> subst h9 <;> repeat (first | exact List.mem_cons_self | apply List.mem_cons_of_mem)), rfl, rfl, hR98, hF98, hO98, (show (I 0 2).toInt ≤ 1580 from by first | assumption | omega), (show 0 ≤ z99.toInt from by first | assumption | omega), (show z99.toInt ≤ 20 from by first | assumption | omega), (show (J18 0 2).toInt = (I 0 2).toInt from by first | assumption | omega | rfl), (show (20 - z99.toInt) < n18 from by omega)⟩
            · intro h39
              have h39 : k.toInt < 8 := h39
              have r78_1 : 0 ≤ (J18 0 2).toInt ∧ (J18 0 2).toInt ≤ 1600 := hR18c 0 2
              intro z83 q83 _ hq83 hl83 hu83
              have hq83 : z83.toInt = (J18 0 2).toInt + k.toInt + 4294967296 * q83 := hq83
              try have hz83 : z83.toInt = (J18 0 2).toInt + k.toInt := by omega
              have b93 : 0 ≤ (k &&& (Int32.ofInt 3)).toInt ∧ (k &&& (Int32.ofInt 3)).toInt ≤ 3 := f_andc k 2 (by decide) (by decide)
              intro z94 q94 _ hq94 hl94 hu94
              have hq94 : z94.toInt = 8 * (k &&& (Int32.ofInt 3)).toInt + 4294967296 * q94 := hq94
              try have hz94 : z94.toInt = 8 * (k &&& (Int32.ofInt 3)).toInt := by omega
              intro z95 q95 _ hq95 hl95 hu95
              have hq95 : z95.toInt = 24 - z94.toInt + 4294967296 * q95 := hq95
              try have hz95 : z95.toInt = 24 - z94.toInt := by omega
              refine And.intro (show f_in z83 1620 from ⟨show 0 ≤ z83.toInt from by omega, show z83.toInt < 1620 from by omega⟩) ?_
              have hR98 := mR_a (k := 1) (j := z83.toInt.toNat) (x := vp_nar .byte ((n2 >>> (z95 &&& 31)).toInt8.toInt32)) hR18c (by exact f_rng _)
              have hF98 := f_fr_up (k := 1) (r := upd (J18 1) (z83.toInt.toNat) (vp_nar .byte ((n2 >>> (z95 &&& 31)).toInt8.toInt32))) hF18c rfl
              have hO98 := f_fo_ne (k := 1) (r := upd (J18 1) (z83.toInt.toNat) (vp_nar .byte ((n2 >>> (z95 &&& 31)).toInt8.toInt32))) hO18c (by decide)
              intro z99 q99 _ hq99 hl99 hu99
              have hq99 : z99.toInt = k.toInt + 1 + 4294967296 * q99 := hq99
              try have hz99 : z99.toInt = k.toInt + 1 := by omega
              exact ⟨z99, (by intro q9 h9; simp only [List.mem_cons, List.not_mem_nil, or_false] at h9; rcases h9 with h9 | h9 | h9 | h9 | h9 | h9 | h9 <;> subst h9 <;> repeat (first | exact List.mem_cons_self | apply List.mem_cons_of_mem)), rfl, rfl, hR98, hF98, hO98, (show (I 0 2).toInt ≤ 1580 from by first | assumption | omega), (show 0 ≤ z99.toInt from by first | assumption | omega), (show z99.toInt ≤ 20 from by first | assumption | omega), (show (J18 0 2).toInt = (I 0 2).toInt from by first | assumption | omega | rfl), (show (20 - z99.toInt) < n18 from by omega)⟩
          · intro h28
            have h28 : k.toInt < 4 := h28
            have r78_1 : 0 ≤ (J18 0 2).toInt ∧ (J18 0 2).toInt ≤ 1600 := hR18c 0 2
            intro z83 q83 _ hq83 hl83 hu83
            have hq83 : z83.toInt = (J18 0 2).toInt + k.toInt + 4294967296 * q83 := hq83
            try have hz83 : z83.toInt = (J18 0 2).toInt + k.toInt := by omega
            have b93 : 0 ≤ (k &&& (Int32.ofInt 3)).toInt ∧ (k &&& (Int32.ofInt 3)).toInt ≤ 3 := f_andc k 2 (by decide) (by decide)
            intro z94 q94 _ hq94 hl94 hu94
            have hq94 : z94.toInt = 8 * (k &&& (Int32.ofInt 3)).toInt + 4294967296 * q94 := hq94
            try have hz94 : z94.toInt = 8 * (k &&& (Int32.ofInt 3)).toInt := by omega
            intro z95 q95 _ hq95 hl95 hu95
            have hq95 : z95.toInt = 24 - z94.toInt + 4294967296 * q95 := hq95
            try have hz95 : z95.toInt = 24 - z94.toInt := by omega
            refine And.intro (show f_in z83 1620 from ⟨show 0 ≤ z83.toInt from by omega, show z83.toInt < 1620 from by omega⟩) ?_
            have hR98 := mR_a (k := 1) (j := z83.toInt.toNat) (x := vp_nar .byte ((n1 >>> (z95 &&& 31)).toInt8.toInt32)) hR18c (by exact f_rng _)
            have hF98 := f_fr_up (k := 1) (r := upd (J18 1) (z83.toInt.toNat) (vp_nar .byte ((n1 >>> (z95 &&& 31)).toInt8.toInt32))) hF18c rfl
            have hO98 := f_fo_ne (k := 1) (r := upd (J18 1) (z83.toInt.toNat) (vp_nar .byte ((n1 >>> (z95 &&& 31)).toInt8.toInt32))) hO18c (by decide)
            intro z99 q99 _ hq99 hl99 hu99
            have hq99 : z99.toInt = k.toInt + 1 + 4294967296 * q99 := hq99
            try have hz99 : z99.toInt = k.toInt + 1 := by omega
            exact ⟨z99, (by intro q9 h9; simp only [List.mem_cons, List.not_mem_nil, or_false] at h9; rcases h9 with h9 | h9 | h9 | h9 | h9 | h9 | h9 <;> subst h9 <;> repeat (first | exact List.mem_cons_self | apply List.mem_cons_of_mem)), rfl, rfl, hR98, hF98, hO98, (show (I 0 2).toInt ≤ 1580 from by first | assumption | omega), (show 0 ≤ z99.toInt from by first | assumption | omega), (show z99.toInt ≤ 20 from by first | assumption | omega), (show (J18 0 2).toInt = (I 0 2).toInt from by first | assumption | omega | rfl), (show (20 - z99.toInt) < n18 from by omega)⟩
    refine f_wp_ok C f_cl flX12_ok fiX12_ok fjX12_ok (sn := none) (fun j h => by cases h) (cs := (fun _ => none)) (cz := (fun _ => none)) (fun j S h => by cases h) (fun j S h => by cases h) tX12_feed_ok (cut := (f_cnl [(18, (fun (ls' : fLs) (st' : List Value) (I' : fM) (L' : fN) => ∃ k : Int32, (∀ q ∈ ([(6, .int k), (5, .int n5), (4, .int n4), (3, .int n3), (2, .int n2), (1, .int n1), (0, .ref 0)] : fLs), q ∈ ls') ∧ st' = [] ∧ L' = L ∧ (mR I' ∧ f_fr [0, 1] I I' ∧ f_fo [2] I I' ∧ ((I 0 2).toInt ≤ 1580) ∧ (0 ≤ k.toInt) ∧ (k.toInt ≤ 20) ∧ ((I' 0 2).toInt = (I 0 2).toInt) ∧ (20 - k.toInt) < 21)))])) (f_cnl_of (P := fun (tQ : Nat) (P : fLs → List Value → fM → fN → Prop) => ∀ ls' st' I' L', P ls' st' I' L' → f_W pP l eP (f_rm 0) sP mP aP bP hP9 cP mY 71 a cy dC dI 8 (f_K 1 (qX12_feed [.ref 0, .int n1, .int n2, .int n3, .int n4, .int n5] I L)) tQ ls' st' I' L') (List.forall_mem_cons.mpr ⟨(fun ls' st' I' L' h => by obtain ⟨k, hs, e1, e3, h9⟩ := h; rw [e1, e3]; exact f_W_sub hs (lp18 21 k I' h9)), fun _ h => absurd h List.not_mem_nil⟩)) 11 0 tX12_feed tX12_feed_ok _ _ _ _ ?_
    have r1_1 : 0 ≤ (I 0 2).toInt ∧ (I 0 2).toInt ≤ 1600 := hR 0 2
    intro z6 q6 _ hq6 hl6 hu6
    have hq6 : z6.toInt = (I 0 2).toInt + 20 + 4294967296 * q6 := hq6
    try have hz6 : z6.toInt = (I 0 2).toInt + 20 := by omega
    apply And.intro
    · intro h10
      have h10 : z6.toInt ≤ 1600 := h10
      exact ⟨Int32.ofInt 0, (by intro q9 h9; simp only [List.mem_cons, List.not_mem_nil, or_false] at h9; rcases h9 with h9 | h9 | h9 | h9 | h9 | h9 | h9 <;> subst h9 <;> repeat (first | exact List.mem_cons_self | apply List.mem_cons_of_mem)), rfl, rfl, hR, hF0, hO0, (show (I 0 2).toInt ≤ 1580 from by first | assumption | omega), (show 0 ≤ (0 : Int) from by first | assumption | omega), (show (0 : Int) ≤ 20 from by first | assumption | omega), (show (I 0 2).toInt = (I 0 2).toInt from by first | assumption | omega | rfl), (show (20 - (0 : Int)) < 21 from by omega)⟩
    · intro h10
      have h10 : 1600 < z6.toInt := h10
      exact ⟨hR, hO0, hF0, rfl, (show (1580 < (I 0 2).toInt ∧ (-1 : Int) = -1 ∧ (I 0 2).toInt = (I 0 2).toInt ∨ (I 0 2).toInt ≤ 1580 ∧ (-1 : Int) = (I 0 2).toInt + 20 ∧ (I 0 2).toInt = (I 0 2).toInt + 20) from by first | assumption | omega | rfl)⟩
