def tX6_putFirst : List (Instr × Nat) := [(.aload_n 0, 1), (.getfield 15, 3), (.iconst 1, 1), (.iload_n 1, 1), (.iastore, 1), (.aload_n 0, 1), (.getfield 15, 3), (.iconst 3, 1), (.iload_n 2, 1), (.iastore, 1), (.iload_n 1, 1), (.ifCond .eq 18, 3), (.aload_n 0, 1), (.getfield 39, 3), (.getfield 84, 3), (.iload_n 1, 1), (.iconst 1, 1), (.isub, 1), (.iaload, 1), (.iload_n 2, 1), (.if_icmp .eq 7, 3), (.iconst 1, 1), (.goto 4, 3), (.iconst 0, 1), (.ireturn, 1)]
theorem tX6_putFirst_ok : f_chk cX6_putFirst 0 tX6_putFirst = true := by decide +kernel
def pX6_putFirst (av : List Value) (I : fM) (L : fN) : Prop := match av with
  | [.ref 72, .int p, .int w] => xR I ∧ 0 ≤ p.toInt ∧ p.toInt ≤ 8
  | _ => False
def qX6_putFirst (av : List Value) (I : fM) (L : fN) (r : Value) (I' : fM) (L' : fN) : Prop := match av, r with
  | [.ref 72, .int p, .int w], .int x => xR I' ∧ f_fr [74] I I' ∧ L' = L ∧ (I' 74 1).toInt = p.toInt ∧ (I' 74 3).toInt = w.toInt ∧ (x.toInt = 0 ∨ x.toInt = 1)
  | _, _ => False
set_option maxHeartbeats 4000000 in
set_option maxRecDepth 100000 in
theorem mX6_putFirst {l : Launch} {a : Nat → Nat} {cy dC : Nat → ClassId} {dI : Nat → Nat → Nat} (hinj : ∀ i j, i < 80 → j < 80 → a i = a j → i = j) : f_Met (xE a) l xY 80 a cy dC dI yX6_putFirst cX6_putFirst 3 3 0 pX6_putFirst qX6_putFirst := by
  refine f_met_of (xE_c a) hinj xY_hi (by decide) (fun av I L h => by unfold pX6_putFirst at h; split at h <;> first | exact Nat.le_of_ble_eq_true rfl | exact h.elim) ?_
  intro pP eP sP mP aP bP hP9 cP C av I L hp
  unfold pX6_putFirst at hp
  split at hp
  case h_2 => exact hp.elim
  case h_1 p w =>
    obtain ⟨hR, p1, p2⟩ := hp
    have hF0 : f_fr [74] I I := f_fr_rf
    refine f_wp_ok C f_cl flX6_ok fiX6_ok fjX6_ok (sn := none) (fun j h => by cases h) (cs := (fun _ => none)) (cz := (fun _ => none)) (fun j S h => by cases h) (fun j S h => by cases h) tX6_putFirst_ok (cut := (fun _ => none)) (fun t P h => by cases h) 27 0 tX6_putFirst tX6_putFirst_ok _ _ _ _ ?_
    refine And.intro (show f_in (Int32.ofInt 1) 5 from ⟨show 0 ≤ 1 from by omega, show 1 < 5 from by omega⟩) ?_
    have hR6 := xR_a (k := 74) (j := 1) (x := p) hR (by exact f_rng _)
    have hF6 := f_fr_up (k := 74) (r := upd (I 74) 1 p) hF0 rfl
    refine And.intro (show f_in (Int32.ofInt 3) 5 from ⟨show 0 ≤ 3 from by omega, show 3 < 5 from by omega⟩) ?_
    have hR13 := xR_a (k := 74) (j := 3) (x := w) hR6 (by exact f_rng _)
    have hF13 := f_fr_up (k := 74) (r := upd (upd (I 74) 1 p) 3 w) hF6 rfl
    apply And.intro
    · intro h15
      have h15 : p.toInt = 0 := h15
      exact ⟨Or.inr rfl, hR13, hF13, rfl, (show p.toInt = p.toInt from by first | assumption | omega | rfl), (show w.toInt = w.toInt from by first | assumption | omega | rfl), (show ((1 : Int) = 0 ∨ (1 : Int) = 1) from by first | assumption | omega | rfl)⟩
    · intro h15
      have h15 : ¬ p.toInt = 0 := h15
      intro z27 q27 _ hq27 hl27 hu27
      have hq27 : z27.toInt = p.toInt - 1 + 4294967296 * q27 := hq27
      try have hz27 : z27.toInt = p.toInt - 1 := by omega
      refine And.intro (show f_in z27 8 from ⟨show 0 ≤ z27.toInt from by omega, show z27.toInt < 8 from by omega⟩) ?_
      have r28_1 : 0 ≤ (I 41 (z27.toInt.toNat)).toInt ∧ (I 41 (z27.toInt.toNat)).toInt ≤ 11 := hR13 41 (z27.toInt.toNat)
      apply And.intro
      · intro h30
        have h30 : (I 41 (z27.toInt.toNat)).toInt = w.toInt := h30
        exact ⟨Or.inl rfl, hR13, hF13, rfl, (show p.toInt = p.toInt from by first | assumption | omega | rfl), (show w.toInt = w.toInt from by first | assumption | omega | rfl), (show ((0 : Int) = 0 ∨ (0 : Int) = 1) from by first | assumption | omega | rfl)⟩
      · intro h30
        have h30 : ¬ (I 41 (z27.toInt.toNat)).toInt = w.toInt := h30
        exact ⟨Or.inr rfl, hR13, hF13, rfl, (show p.toInt = p.toInt from by first | assumption | omega | rfl), (show w.toInt = w.toInt from by first | assumption | omega | rfl), (show ((1 : Int) = 0 ∨ (1 : Int) = 1) from by first | assumption | omega | rfl)⟩
def tX6_putSecond : List (Instr × Nat) := [(.aload_n 0, 1), (.getfield 15, 3), (.iconst 2, 1), (.iload_n 1, 1), (.iastore, 1), (.aload_n 0, 1), (.getfield 15, 3), (.iconst 4, 1), (.iload_n 2, 1), (.iastore, 1), (.iload_n 1, 1), (.aload_n 0, 1), (.getfield 15, 3), (.iconst 1, 1), (.iaload, 1), (.isub, 1), (.istore_n 3, 1), (.iload_n 3, 1), (.iconst 1, 1), (.if_icmp .gt 31, 3), (.iload_n 3, 1), (.iconst 1, 1), (.if_icmp .ne 16, 3), (.iload_n 2, 1), (.aload_n 0, 1), (.getfield 15, 3), (.iconst 3, 1), (.iaload, 1), (.if_icmp .le 20, 3), (.goto 13, 3), (.iload_n 2, 1), (.aload_n 0, 1), (.getfield 15, 3), (.iconst 3, 1), (.iaload, 1), (.if_icmp .lt 7, 3), (.iconst 1, 1), (.goto 4, 3), (.iconst 0, 1), (.ireturn, 1)]
theorem tX6_putSecond_ok : f_chk cX6_putSecond 0 tX6_putSecond = true := by decide +kernel
def pX6_putSecond (av : List Value) (I : fM) (L : fN) : Prop := match av with
  | [.ref 72, .int p, .int w] => xR I
  | _ => False
def qX6_putSecond (av : List Value) (I : fM) (L : fN) (r : Value) (I' : fM) (L' : fN) : Prop := match av, r with
  | [.ref 72, .int p, .int w], .int x => xR I' ∧ f_fr [74] I I' ∧ L' = L ∧ (I' 74 2).toInt = p.toInt ∧ (I' 74 4).toInt = w.toInt ∧ (I' 74 1).toInt = (I 74 1).toInt ∧ (I' 74 3).toInt = (I 74 3).toInt ∧ (x.toInt = 0 ∨ x.toInt = 1)
  | _, _ => False
set_option maxHeartbeats 4000000 in
set_option maxRecDepth 100000 in
theorem mX6_putSecond {l : Launch} {a : Nat → Nat} {cy dC : Nat → ClassId} {dI : Nat → Nat → Nat} (hinj : ∀ i j, i < 80 → j < 80 → a i = a j → i = j) : f_Met (xE a) l xY 80 a cy dC dI yX6_putSecond cX6_putSecond 4 3 0 pX6_putSecond qX6_putSecond := by
  refine f_met_of (xE_c a) hinj xY_hi (by decide) (fun av I L h => by unfold pX6_putSecond at h; split at h <;> first | exact Nat.le_of_ble_eq_true rfl | exact h.elim) ?_
  intro pP eP sP mP aP bP hP9 cP C av I L hp
  unfold pX6_putSecond at hp
  split at hp
  case h_2 => exact hp.elim
  case h_1 p w =>
    have hR := hp
    have hF0 : f_fr [74] I I := f_fr_rf
    refine f_wp_ok C f_cl flX6_ok fiX6_ok fjX6_ok (sn := none) (fun j h => by cases h) (cs := (fun _ => none)) (cz := (fun _ => none)) (fun j S h => by cases h) (fun j S h => by cases h) tX6_putSecond_ok (cut := (fun _ => none)) (fun t P h => by cases h) 36 0 tX6_putSecond tX6_putSecond_ok _ _ _ _ ?_
    refine And.intro (show f_in (Int32.ofInt 2) 5 from ⟨show 0 ≤ 2 from by omega, show 2 < 5 from by omega⟩) ?_
    have hR6 := xR_a (k := 74) (j := 2) (x := p) hR (by exact f_rng _)
    have hF6 := f_fr_up (k := 74) (r := upd (I 74) 2 p) hF0 rfl
    refine And.intro (show f_in (Int32.ofInt 4) 5 from ⟨show 0 ≤ 4 from by omega, show 4 < 5 from by omega⟩) ?_
    have hR13 := xR_a (k := 74) (j := 4) (x := w) hR6 (by exact f_rng _)
    have hF13 := f_fr_up (k := 74) (r := upd (upd (I 74) 2 p) 4 w) hF6 rfl
    refine And.intro (show f_in (Int32.ofInt 1) 5 from ⟨show 0 ≤ 1 from by omega, show 1 < 5 from by omega⟩) ?_
    intro z21 q21 _ hq21 hl21 hu21
    have hq21 : z21.toInt = p.toInt - (I 74 1).toInt + 4294967296 * q21 := hq21
    try have hz21 : z21.toInt = p.toInt - (I 74 1).toInt := by omega
    apply And.intro
    · intro h25
      have h25 : 1 < z21.toInt := h25
      exact ⟨Or.inr rfl, hR13, hF13, rfl, (show p.toInt = p.toInt from by first | assumption | omega | rfl), (show w.toInt = w.toInt from by first | assumption | omega | rfl), (show (I 74 1).toInt = (I 74 1).toInt from by first | assumption | omega | rfl), (show (I 74 3).toInt = (I 74 3).toInt from by first | assumption | omega | rfl), (show ((1 : Int) = 0 ∨ (1 : Int) = 1) from by first | assumption | omega | rfl)⟩
    · intro h25
      have h25 : z21.toInt ≤ 1 := h25
      apply And.intro
      · intro h30
        have h30 : ¬ z21.toInt = 1 := h30
        refine And.intro (show f_in (Int32.ofInt 3) 5 from ⟨show 0 ≤ 3 from by omega, show 3 < 5 from by omega⟩) ?_
        apply And.intro
        · intro h53
          have h53 : w.toInt < (I 74 3).toInt := h53
          exact ⟨Or.inl rfl, hR13, hF13, rfl, (show p.toInt = p.toInt from by first | assumption | omega | rfl), (show w.toInt = w.toInt from by first | assumption | omega | rfl), (show (I 74 1).toInt = (I 74 1).toInt from by first | assumption | omega | rfl), (show (I 74 3).toInt = (I 74 3).toInt from by first | assumption | omega | rfl), (show ((0 : Int) = 0 ∨ (0 : Int) = 1) from by first | assumption | omega | rfl)⟩
        · intro h53
          have h53 : (I 74 3).toInt ≤ w.toInt := h53
          exact ⟨Or.inr rfl, hR13, hF13, rfl, (show p.toInt = p.toInt from by first | assumption | omega | rfl), (show w.toInt = w.toInt from by first | assumption | omega | rfl), (show (I 74 1).toInt = (I 74 1).toInt from by first | assumption | omega | rfl), (show (I 74 3).toInt = (I 74 3).toInt from by first | assumption | omega | rfl), (show ((1 : Int) = 0 ∨ (1 : Int) = 1) from by first | assumption | omega | rfl)⟩
      · intro h30
        have h30 : z21.toInt = 1 := h30
        refine And.intro (show f_in (Int32.ofInt 3) 5 from ⟨show 0 ≤ 3 from by omega, show 3 < 5 from by omega⟩) ?_
        apply And.intro
        · intro h40
          have h40 : w.toInt ≤ (I 74 3).toInt := h40
          exact ⟨Or.inl rfl, hR13, hF13, rfl, (show p.toInt = p.toInt from by first | assumption | omega | rfl), (show w.toInt = w.toInt from by first | assumption | omega | rfl), (show (I 74 1).toInt = (I 74 1).toInt from by first | assumption | omega | rfl), (show (I 74 3).toInt = (I 74 3).toInt from by first | assumption | omega | rfl), (show ((0 : Int) = 0 ∨ (0 : Int) = 1) from by first | assumption | omega | rfl)⟩
        · intro h40
          have h40 : (I 74 3).toInt < w.toInt := h40
          exact ⟨Or.inr rfl, hR13, hF13, rfl, (show p.toInt = p.toInt from by first | assumption | omega | rfl), (show w.toInt = w.toInt from by first | assumption | omega | rfl), (show (I 74 1).toInt = (I 74 1).toInt from by first | assumption | omega | rfl), (show (I 74 3).toInt = (I 74 3).toInt from by first | assumption | omega | rfl), (show ((1 : Int) = 0 ∨ (1 : Int) = 1) from by first | assumption | omega | rfl)⟩
def tX6_wordWith : List (Instr × Nat) := [(.iload_n 2, 1), (.istore_n 3, 1), (.iload_n 1, 1), (.iconst 1, 1), (.if_icmp .le 38, 3), (.iload_n 3, 1), (.aload_n 0, 1), (.getfield 15, 3), (.iconst 2, 1), (.iaload, 1), (.if_icmp .ne 10, 3), (.aload_n 0, 1), (.getfield 15, 3), (.iconst 4, 1), (.iaload, 1), (.ireturn, 1), (.iload_n 3, 1), (.iload_n 3, 1), (.aload_n 0, 1), (.getfield 15, 3), (.iconst 2, 1), (.iaload, 1), (.if_icmp .le 7, 3), (.iconst 1, 1), (.goto 4, 3), (.iconst 0, 1), (.isub, 1), (.istore_n 3, 1), (.iload_n 1, 1), (.ifCond .le 38, 3), (.iload_n 3, 1), (.aload_n 0, 1), (.getfield 15, 3), (.iconst 1, 1), (.iaload, 1), (.if_icmp .ne 10, 3), (.aload_n 0, 1), (.getfield 15, 3), (.iconst 3, 1), (.iaload, 1), (.ireturn, 1), (.iload_n 3, 1), (.iload_n 3, 1), (.aload_n 0, 1), (.getfield 15, 3), (.iconst 1, 1), (.iaload, 1), (.if_icmp .le 7, 3), (.iconst 1, 1), (.goto 4, 3), (.iconst 0, 1), (.isub, 1), (.istore_n 3, 1), (.aload_n 0, 1), (.getfield 39, 3), (.getfield 84, 3), (.iload_n 3, 1), (.iaload, 1), (.ireturn, 1)]
theorem tX6_wordWith_ok : f_chk cX6_wordWith 0 tX6_wordWith = true := by decide +kernel
def pX6_wordWith (av : List Value) (I : fM) (L : fN) : Prop := match av with
  | [.ref 72, .int m, .int i] => xR I ∧ 0 ≤ i.toInt ∧ i.toInt ≤ 7 ∧ (0 < m.toInt → 0 ≤ (I 74 1).toInt ∧ 0 ≤ (I 74 3).toInt ∧ (I 74 3).toInt ≤ 11) ∧ (1 < m.toInt → 0 ≤ (I 74 2).toInt ∧ 0 ≤ (I 74 4).toInt ∧ (I 74 4).toInt ≤ 11)
  | _ => False
def qX6_wordWith (av : List Value) (I : fM) (L : fN) (r : Value) (I' : fM) (L' : fN) : Prop := match av, r with
  | [.ref 72, .int m, .int i], .int x => I' = I ∧ L' = L ∧ 0 ≤ x.toInt ∧ x.toInt ≤ 11
  | _, _ => False
set_option maxHeartbeats 4000000 in
set_option maxRecDepth 100000 in
theorem mX6_wordWith {l : Launch} {a : Nat → Nat} {cy dC : Nat → ClassId} {dI : Nat → Nat → Nat} (hinj : ∀ i j, i < 80 → j < 80 → a i = a j → i = j) : f_Met (xE a) l xY 80 a cy dC dI yX6_wordWith cX6_wordWith 4 1 0 pX6_wordWith qX6_wordWith := by
  refine f_met_of (xE_c a) hinj xY_hi (by decide) (fun av I L h => by unfold pX6_wordWith at h; split at h <;> first | exact Nat.le_of_ble_eq_true rfl | exact h.elim) ?_
  intro pP eP sP mP aP bP hP9 cP C av I L hp
  unfold pX6_wordWith at hp
  split at hp
  case h_2 => exact hp.elim
  case h_1 m i =>
    obtain ⟨hR, p1, p2, p3, p4⟩ := hp
    have lp42 : ∀ (p : Int32), (0 ≤ p.toInt) ∧ (p.toInt ≤ 7) → f_W pP l eP (f_rm 0) sP mP aP bP hP9 cP xY 80 a cy dC dI 4 (f_K 1 (qX6_wordWith [.ref 72, .int m, .int i] I L)) 42 [(3, .int p), (2, .int i), (1, .int m), (0, .ref 72)] [] I L := by
      intro p h9
      obtain ⟨u42_1, u42_2⟩ := h9
      refine f_wp_ok C f_cl flX6_ok fiX6_ok fjX6_ok (sn := none) (fun j h => by cases h) (cs := (fun _ => none)) (cz := (fun _ => none)) (fun j S h => by cases h) (fun j S h => by cases h) tX6_wordWith_ok (cut := (fun _ => none)) (fun t P h => by cases h) 28 42 (f_seek 42 0 tX6_wordWith) (f_seek_ok 42 0 tX6_wordWith tX6_wordWith_ok) _ _ _ _ ?_
      apply And.intro
      · intro h43
        have h43 : m.toInt ≤ 0 := h43
        refine And.intro (show f_in p 8 from ⟨show 0 ≤ p.toInt from by omega, show p.toInt < 8 from by omega⟩) ?_
        have r89_1 : 0 ≤ (I 41 (p.toInt.toNat)).toInt ∧ (I 41 (p.toInt.toNat)).toInt ≤ 11 := hR 41 (p.toInt.toNat)
        exact ⟨rfl, rfl, (show 0 ≤ (I 41 (p.toInt.toNat)).toInt from by first | assumption | omega | rfl), (show (I 41 (p.toInt.toNat)).toInt ≤ 11 from by first | assumption | omega | rfl)⟩
      · intro h43
        have h43 : 0 < m.toInt := h43
        refine And.intro (show f_in (Int32.ofInt 1) 5 from ⟨show 0 ≤ 1 from by omega, show 1 < 5 from by omega⟩) ?_
        apply And.intro
        · intro h53
          have h53 : ¬ p.toInt = (I 74 1).toInt := h53
          refine And.intro (show f_in (Int32.ofInt 1) 5 from ⟨show 0 ≤ 1 from by omega, show 1 < 5 from by omega⟩) ?_
          apply And.intro
          · intro h71
            have h71 : p.toInt ≤ (I 74 1).toInt := h71
            intro z79 q79 _ hq79 hl79 hu79
            have hq79 : z79.toInt = p.toInt - 0 + 4294967296 * q79 := hq79
            try have hz79 : z79.toInt = p.toInt - 0 := by omega
            refine And.intro (show f_in z79 8 from ⟨show 0 ≤ z79.toInt from by omega, show z79.toInt < 8 from by omega⟩) ?_
            have r89_2 : 0 ≤ (I 41 (z79.toInt.toNat)).toInt ∧ (I 41 (z79.toInt.toNat)).toInt ≤ 11 := hR 41 (z79.toInt.toNat)
            exact ⟨rfl, rfl, (show 0 ≤ (I 41 (z79.toInt.toNat)).toInt from by first | assumption | omega | rfl), (show (I 41 (z79.toInt.toNat)).toInt ≤ 11 from by first | assumption | omega | rfl)⟩
          · intro h71
            have h71 : (I 74 1).toInt < p.toInt := h71
            intro z79 q79 _ hq79 hl79 hu79
            have hq79 : z79.toInt = p.toInt - 1 + 4294967296 * q79 := hq79
            try have hz79 : z79.toInt = p.toInt - 1 := by omega
            refine And.intro (show f_in z79 8 from ⟨show 0 ≤ z79.toInt from by omega, show z79.toInt < 8 from by omega⟩) ?_
            have r89_2 : 0 ≤ (I 41 (z79.toInt.toNat)).toInt ∧ (I 41 (z79.toInt.toNat)).toInt ≤ 11 := hR 41 (z79.toInt.toNat)
            exact ⟨rfl, rfl, (show 0 ≤ (I 41 (z79.toInt.toNat)).toInt from by first | assumption | omega | rfl), (show (I 41 (z79.toInt.toNat)).toInt ≤ 11 from by first | assumption | omega | rfl)⟩
        · intro h53
          have h53 : p.toInt = (I 74 1).toInt := h53
          refine And.intro (show f_in (Int32.ofInt 3) 5 from ⟨show 0 ≤ 3 from by omega, show 3 < 5 from by omega⟩) ?_
          exact ⟨rfl, rfl, (show 0 ≤ (I 74 3).toInt from by first | assumption | omega | rfl), (show (I 74 3).toInt ≤ 11 from by first | assumption | omega | rfl)⟩
    refine f_wp_ok C f_cl flX6_ok fiX6_ok fjX6_ok (sn := none) (fun j h => by cases h) (cs := (fun _ => none)) (cz := (fun _ => none)) (fun j S h => by cases h) (fun j S h => by cases h) tX6_wordWith_ok (cut := (f_cnl [(42, (fun (ls' : fLs) (st' : List Value) (I' : fM) (L' : fN) => ∃ p : Int32, (∀ q ∈ ([(3, .int p), (2, .int i), (1, .int m), (0, .ref 72)] : fLs), q ∈ ls') ∧ st' = [] ∧ I' = I ∧ L' = L ∧ ((0 ≤ p.toInt) ∧ (p.toInt ≤ 7))))])) (f_cnl_of (P := fun (tQ : Nat) (P : fLs → List Value → fM → fN → Prop) => ∀ ls' st' I' L', P ls' st' I' L' → f_W pP l eP (f_rm 0) sP mP aP bP hP9 cP xY 80 a cy dC dI 4 (f_K 1 (qX6_wordWith [.ref 72, .int m, .int i] I L)) tQ ls' st' I' L') (List.forall_mem_cons.mpr ⟨(fun ls' st' I' L' h => by obtain ⟨p, hs, e1, e2, e3, h9⟩ := h; rw [e1, e2, e3]; exact f_W_sub hs (lp42 p h9)), fun _ h => absurd h List.not_mem_nil⟩)) 25 0 tX6_wordWith tX6_wordWith_ok _ _ _ _ ?_
    apply And.intro
    · intro h4
      have h4 : m.toInt ≤ 1 := h4
      exact ⟨i, (by intro q9 h9; simp only [List.mem_cons, List.not_mem_nil, or_false] at h9; rcases h9 with h9 | h9 | h9 | h9 <;> subst h9 <;> repeat (first | exact List.mem_cons_self | apply List.mem_cons_of_mem)), rfl, rfl, rfl, (show 0 ≤ i.toInt from by first | assumption | omega), (show i.toInt ≤ 7 from by first | assumption | omega)⟩
    · intro h4
      have h4 : 1 < m.toInt := h4
      refine And.intro (show f_in (Int32.ofInt 2) 5 from ⟨show 0 ≤ 2 from by omega, show 2 < 5 from by omega⟩) ?_
      apply And.intro
      · intro h14
        have h14 : ¬ i.toInt = (I 74 2).toInt := h14
        refine And.intro (show f_in (Int32.ofInt 2) 5 from ⟨show 0 ≤ 2 from by omega, show 2 < 5 from by omega⟩) ?_
        apply And.intro
        · intro h32
          have h32 : i.toInt ≤ (I 74 2).toInt := h32
          intro z40 q40 _ hq40 hl40 hu40
          have hq40 : z40.toInt = i.toInt - 0 + 4294967296 * q40 := hq40
          try have hz40 : z40.toInt = i.toInt - 0 := by omega
          exact ⟨z40, (by intro q9 h9; simp only [List.mem_cons, List.not_mem_nil, or_false] at h9; rcases h9 with h9 | h9 | h9 | h9 <;> subst h9 <;> repeat (first | exact List.mem_cons_self | apply List.mem_cons_of_mem)), rfl, rfl, rfl, (show 0 ≤ z40.toInt from by first | assumption | omega), (show z40.toInt ≤ 7 from by first | assumption | omega)⟩
        · intro h32
          have h32 : (I 74 2).toInt < i.toInt := h32
          intro z40 q40 _ hq40 hl40 hu40
          have hq40 : z40.toInt = i.toInt - 1 + 4294967296 * q40 := hq40
          try have hz40 : z40.toInt = i.toInt - 1 := by omega
          exact ⟨z40, (by intro q9 h9; simp only [List.mem_cons, List.not_mem_nil, or_false] at h9; rcases h9 with h9 | h9 | h9 | h9 <;> subst h9 <;> repeat (first | exact List.mem_cons_self | apply List.mem_cons_of_mem)), rfl, rfl, rfl, (show 0 ≤ z40.toInt from by first | assumption | omega), (show z40.toInt ≤ 7 from by first | assumption | omega)⟩
      · intro h14
        have h14 : i.toInt = (I 74 2).toInt := h14
        refine And.intro (show f_in (Int32.ofInt 4) 5 from ⟨show 0 ≤ 4 from by omega, show 4 < 5 from by omega⟩) ?_
        exact ⟨rfl, rfl, (show 0 ≤ (I 74 4).toInt from by first | assumption | omega | rfl), (show (I 74 4).toInt ≤ 11 from by first | assumption | omega | rfl)⟩
def tX6_isSentenceWith : List (Instr × Nat) := [(.aload_n 0, 1), (.getfield 35, 3), (.bipush 36, 2), (.invokevirtual 78, 3), (.iconst 0, 1), (.istore_n 2, 1), (.iload_n 2, 1), (.aload_n 0, 1), (.getfield 39, 3), (.getfield 63, 3), (.iload_n 1, 1), (.iadd, 1), (.if_icmp .ge 22, 3), (.aload_n 0, 1), (.getfield 35, 3), (.aload_n 0, 1), (.iload_n 1, 1), (.iload_n 2, 1), (.invokevirtual 146, 3), (.invokevirtual 87, 3), (.iinc 2 1, 3), (.goto (-29), 3), (.aload_n 0, 1), (.getfield 35, 3), (.aconst_null, 1), (.invokevirtual 90, 3), (.ireturn, 1)]
theorem tX6_isSentenceWith_ok : f_chk cX6_isSentenceWith 0 tX6_isSentenceWith = true := by decide +kernel
def pX6_isSentenceWith (av : List Value) (I : fM) (L : fN) : Prop := match av with
  | [.ref 72, .int m] => xR I ∧ xO I ∧ xT I ∧ xS I ∧ 0 ≤ m.toInt ∧ (I 40 6).toInt + m.toInt ≤ 8 ∧ (0 < m.toInt → 0 ≤ (I 74 1).toInt ∧ 0 ≤ (I 74 3).toInt ∧ (I 74 3).toInt ≤ 11) ∧ (1 < m.toInt → 0 ≤ (I 74 2).toInt ∧ 0 ≤ (I 74 4).toInt ∧ (I 74 4).toInt ≤ 11)
  | _ => False
def qX6_isSentenceWith (av : List Value) (I : fM) (L : fN) (r : Value) (I' : fM) (L' : fN) : Prop := match av, r with
  | [.ref 72, .int m], .int x => xR I' ∧ xO I' ∧ xT I' ∧ xS I' ∧ f_fr [25, 26, 27, 28, 31, 32, 33, 34, 35, 36, 37, 38, 39, 69] I I' ∧ f_fr [29, 30, 70] L L' ∧ (x.toInt = 0 ∨ x.toInt = 1)
  | _, _ => False
set_option maxHeartbeats 4000000 in
set_option maxRecDepth 100000 in
theorem mX6_isSentenceWith {l : Launch} {a : Nat → Nat} {cy dC : Nat → ClassId} {dI : Nat → Nat → Nat} (hinj : ∀ i j, i < 80 → j < 80 → a i = a j → i = j) : f_Met (xE a) l xY 80 a cy dC dI yX6_isSentenceWith cX6_isSentenceWith 3 3 36 pX6_isSentenceWith qX6_isSentenceWith := by
  refine f_met_of (xE_c a) hinj xY_hi (by decide) (fun av I L h => by unfold pX6_isSentenceWith at h; split at h <;> first | exact Nat.le_of_ble_eq_true rfl | exact h.elim) ?_
  intro pP eP sP mP aP bP hP9 cP C av I L hp
  unfold pX6_isSentenceWith at hp
  split at hp
  case h_2 => exact hp.elim
  case h_1 m =>
    obtain ⟨hR, hxO, hxT, hxS, p4, p5, p6, p7⟩ := hp
    have hn : 0 ≤ (I 40 6).toInt ∧ (I 40 6).toInt ≤ 8 := hR 40 6
    have hF0 : f_fr [25, 26, 27, 28, 31, 32, 33, 34, 35, 36, 37, 38, 39, 69] I I := f_fr_rf
    have hG0 : f_fr [29, 30, 70] L L := f_fr_rf
    have lp11 : ∀ (n11 : Nat), ∀ (i : Int32) (J11 : fM) (M11 : fN), xR J11 ∧ f_fr [25, 26, 27, 28, 31, 32, 33, 34, 35, 36, 37, 38, 39, 69] I J11 ∧ f_fr [29, 30, 70] L M11 ∧ xO J11 ∧ xT J11 ∧ xS J11 ∧ (0 ≤ i.toInt) ∧ (i.toInt ≤ (I 40 6).toInt + m.toInt) ∧ ((I 40 6).toInt + m.toInt - i.toInt) < n11 → f_W pP l eP (f_rm 36) sP mP aP bP hP9 cP xY 80 a cy dC dI 3 (f_K 3 (qX6_isSentenceWith [.ref 72, .int m] I L)) 11 [(2, .int i), (1, .int m), (0, .ref 72)] [] J11 M11 := by
      intro n11
      induction n11 with
      | zero =>
        intro i J11 M11 h9
        obtain ⟨hR11c, hF11c, hG11c, hxO11c, hxT11c, hxS11c, u11_1, u11_2, hm11⟩ := h9
        omega
      | succ n11 ih11 =>
        intro i J11 M11 h9
        obtain ⟨hR11c, hF11c, hG11c, hxO11c, hxT11c, hxS11c, u11_1, u11_2, hm11⟩ := h9
        refine f_wp_ok C f_cl flX6_ok fiX6_ok fjX6_ok (sn := none) (fun j h => by cases h) (cs := (f_cnl [(78, (2, 0, 9, pX10_begin, qX10_begin)), (146, (3, 1, 6, pX6_wordWith, qX6_wordWith)), (87, (2, 0, 9, pX10_addWord, qX10_addWord)), (90, (2, 3, 9, pX10_search, qX10_search))])) (cz := (fun _ => none)) (f_cnl_of (P := fun j S => f_cok pP l eP (f_rm 36) sP mP aP bP hP9 cP xY 80 a cy dC dI 3 _ _ (.invokevirtual j) true S) (List.forall_mem_cons.mpr ⟨f_cokV C (mX10_begin hinj) (ci := 9) rfl (List.forall_mem_cons.mpr ⟨(mlX6_ok _ (List.mem_of_getElem? (i := 5) rfl)), kc_X10_begin⟩) (by decide +kernel) ⟨Nat.le_of_ble_eq_true rfl, Nat.le_of_ble_eq_true rfl⟩, List.forall_mem_cons.mpr ⟨f_cokV C (mX6_wordWith hinj) (ci := 6) rfl (List.forall_mem_cons.mpr ⟨(mlX6_ok _ (List.mem_of_getElem? (i := 21) rfl)), kc_X6_wordWith⟩) (by decide +kernel) ⟨Nat.le_of_ble_eq_true rfl, Nat.le_of_ble_eq_true rfl⟩, List.forall_mem_cons.mpr ⟨f_cokV C (mX10_addWord hinj) (ci := 9) rfl (List.forall_mem_cons.mpr ⟨(mlX6_ok _ (List.mem_of_getElem? (i := 6) rfl)), kc_X10_addWord⟩) (by decide +kernel) ⟨Nat.le_of_ble_eq_true rfl, Nat.le_of_ble_eq_true rfl⟩, List.forall_mem_cons.mpr ⟨f_cokV C (mX10_search hinj) (ci := 9) rfl (List.forall_mem_cons.mpr ⟨(mlX6_ok _ (List.mem_of_getElem? (i := 7) rfl)), kc_X10_search⟩) (by decide +kernel) ⟨Nat.le_of_ble_eq_true rfl, Nat.le_of_ble_eq_true rfl⟩, fun _ h => absurd h List.not_mem_nil⟩⟩⟩⟩)) (fun j S h => by cases h) tX6_isSentenceWith_ok (cut := (f_cnl [(11, (fun (ls' : fLs) (st' : List Value) (I' : fM) (L' : fN) => ∃ i : Int32, (∀ q ∈ ([(2, .int i), (1, .int m), (0, .ref 72)] : fLs), q ∈ ls') ∧ st' = [] ∧ (xR I' ∧ f_fr [25, 26, 27, 28, 31, 32, 33, 34, 35, 36, 37, 38, 39, 69] I I' ∧ f_fr [29, 30, 70] L L' ∧ xO I' ∧ xT I' ∧ xS I' ∧ (0 ≤ i.toInt) ∧ (i.toInt ≤ (I 40 6).toInt + m.toInt) ∧ ((I 40 6).toInt + m.toInt - i.toInt) < n11)))])) (f_cnl_of (P := fun (tQ : Nat) (P : fLs → List Value → fM → fN → Prop) => ∀ ls' st' I' L', P ls' st' I' L' → f_W pP l eP (f_rm 36) sP mP aP bP hP9 cP xY 80 a cy dC dI 3 (f_K 3 (qX6_isSentenceWith [.ref 72, .int m] I L)) tQ ls' st' I' L') (List.forall_mem_cons.mpr ⟨(fun ls' st' I' L' h => by obtain ⟨i, hs, e1, h9⟩ := h; rw [e1]; exact f_W_sub hs (ih11 i I' L' h9)), fun _ h => absurd h List.not_mem_nil⟩)) 19 11 (f_seek 11 0 tX6_isSentenceWith) (f_seek_ok 11 0 tX6_isSentenceWith tX6_isSentenceWith_ok) _ _ _ _ ?_
        have r16_1 : 0 ≤ (J11 40 6).toInt ∧ (J11 40 6).toInt ≤ 8 := hR11c 40 6
        have e16_2 : (J11 40 6).toInt = (I 40 6).toInt := congrArg Int32.toInt (congrFun (hF11c 40 rfl) 6)
        intro z20 q20 _ hq20 hl20 hu20
        have hq20 : z20.toInt = (J11 40 6).toInt + m.toInt + 4294967296 * q20 := hq20
        try have hz20 : z20.toInt = (J11 40 6).toInt + m.toInt := by omega
        apply And.intro
        · intro h21
          have h21 : z20.toInt ≤ i.toInt := h21
          refine And.intro ⟨hR11c, hxO11c, hxT11c, hxS11c, (by first | assumption | exact Or.inl rfl | exact Or.inr rfl | (intro h; cases h)), (by first | assumption | exact Or.inl rfl | exact Or.inr rfl | (intro h; cases h))⟩ ?_
          intro x48 I48 L48 hq48
          have hq48 : xR I48 ∧ xO I48 ∧ xT I48 ∧ xS I48 ∧ f_fr [28, 31, 32, 33, 34, 35, 36, 37, 38, 39, 69] J11 I48 ∧ f_fr [29, 30, 70] M11 L48 ∧ (((Value.null) = Value.ref 69 → xK I48 L48)) ∧ ((I48 69 = J11 69 ∨ 0 < (J11 16 (J11 25 8).toInt.toNat).toInt)) ∧ ((x48.toInt = 0 ∨ x48.toInt = 1)) := hq48
          obtain ⟨c48_0, c48_1, c48_2, c48_3, c48_4, c48_5, c48_6, c48_7, c48_8⟩ := hq48
          have hF48 := f_fr_tr hF11c c48_4 rfl
          have hG48 := f_fr_tr hG11c c48_5 rfl
          exact ⟨(f_b01 (show x48.toInt = 0 ∨ x48.toInt = 1 from by omega)), c48_0, c48_1, c48_2, c48_3, hF48, hG48, (show (x48.toInt = 0 ∨ x48.toInt = 1) from by first | assumption | omega | rfl)⟩
        · intro h21
          have h21 : i.toInt < z20.toInt := h21
          have e31_4 : (J11 74 1).toInt = (I 74 1).toInt := congrArg Int32.toInt (congrFun (hF11c 74 rfl) 1)
          have e31_6 : (J11 74 3).toInt = (I 74 3).toInt := congrArg Int32.toInt (congrFun (hF11c 74 rfl) 3)
          have e31_8 : (J11 74 2).toInt = (I 74 2).toInt := congrArg Int32.toInt (congrFun (hF11c 74 rfl) 2)
          have e31_10 : (J11 74 4).toInt = (I 74 4).toInt := congrArg Int32.toInt (congrFun (hF11c 74 rfl) 4)
          refine And.intro ⟨hR11c, (show 0 ≤ i.toInt from by first | assumption | omega), (show i.toInt ≤ 7 from by first | assumption | omega), (show (0 < m.toInt → 0 ≤ (J11 74 1).toInt ∧ 0 ≤ (J11 74 3).toInt ∧ (J11 74 3).toInt ≤ 11) from by first | assumption | omega), (show (1 < m.toInt → 0 ≤ (J11 74 2).toInt ∧ 0 ≤ (J11 74 4).toInt ∧ (J11 74 4).toInt ≤ 11) from by first | assumption | omega)⟩ ?_
          intro x31 I31 L31 hq31
          have hq31 : I31 = J11 ∧ L31 = M11 ∧ 0 ≤ x31.toInt ∧ x31.toInt ≤ 11 := hq31
          obtain ⟨eI31, eL31, c31_2, c31_3⟩ := hq31
          replace eI31 := eI31.symm
          subst eI31
          replace eL31 := eL31.symm
          subst eL31
          refine And.intro ⟨hR11c, hxT11c, (show 0 ≤ x31.toInt from by first | assumption | omega), (show x31.toInt ≤ 11 from by first | assumption | omega)⟩ ?_
          intro I34 L34 hq34
          have hq34 : xR I34 ∧ xT I34 ∧ f_fr [25, 26, 27] J11 I34 ∧ L34 = M11 ∧ I34 25 8 = J11 25 8 := hq34
          obtain ⟨c34_0, c34_1, c34_2, eL34, c34_4⟩ := hq34
          replace eL34 := eL34.symm
          subst eL34
          have hxO34 := f_dep_fr xO_dep hxO11c c34_2 rfl
          have hxS34 := f_dep_fr xS_dep hxS11c c34_2 rfl
          have hF34 := f_fr_tr hF11c c34_2 rfl
          intro z37 q37 _ hq37 hl37 hu37
          have hq37 : z37.toInt = i.toInt + 1 + 4294967296 * q37 := hq37
          try have hz37 : z37.toInt = i.toInt + 1 := by omega
          exact ⟨z37, (by intro q9 h9; simp only [List.mem_cons, List.not_mem_nil, or_false] at h9; rcases h9 with h9 | h9 | h9 <;> subst h9 <;> repeat (first | exact List.mem_cons_self | apply List.mem_cons_of_mem)), rfl, c34_0, hF34, hG11c, hxO34, c34_1, hxS34, (show 0 ≤ z37.toInt from by first | assumption | omega), (show z37.toInt ≤ (I 40 6).toInt + m.toInt from by first | assumption | omega), (show ((I 40 6).toInt + m.toInt - z37.toInt) < n11 from by omega)⟩
    refine f_wp_ok C f_cl flX6_ok fiX6_ok fjX6_ok (sn := none) (fun j h => by cases h) (cs := (f_cnl [(78, (2, 0, 9, pX10_begin, qX10_begin)), (146, (3, 1, 6, pX6_wordWith, qX6_wordWith)), (87, (2, 0, 9, pX10_addWord, qX10_addWord)), (90, (2, 3, 9, pX10_search, qX10_search))])) (cz := (fun _ => none)) (f_cnl_of (P := fun j S => f_cok pP l eP (f_rm 36) sP mP aP bP hP9 cP xY 80 a cy dC dI 3 _ _ (.invokevirtual j) true S) (List.forall_mem_cons.mpr ⟨f_cokV C (mX10_begin hinj) (ci := 9) rfl (List.forall_mem_cons.mpr ⟨(mlX6_ok _ (List.mem_of_getElem? (i := 5) rfl)), kc_X10_begin⟩) (by decide +kernel) ⟨Nat.le_of_ble_eq_true rfl, Nat.le_of_ble_eq_true rfl⟩, List.forall_mem_cons.mpr ⟨f_cokV C (mX6_wordWith hinj) (ci := 6) rfl (List.forall_mem_cons.mpr ⟨(mlX6_ok _ (List.mem_of_getElem? (i := 21) rfl)), kc_X6_wordWith⟩) (by decide +kernel) ⟨Nat.le_of_ble_eq_true rfl, Nat.le_of_ble_eq_true rfl⟩, List.forall_mem_cons.mpr ⟨f_cokV C (mX10_addWord hinj) (ci := 9) rfl (List.forall_mem_cons.mpr ⟨(mlX6_ok _ (List.mem_of_getElem? (i := 6) rfl)), kc_X10_addWord⟩) (by decide +kernel) ⟨Nat.le_of_ble_eq_true rfl, Nat.le_of_ble_eq_true rfl⟩, List.forall_mem_cons.mpr ⟨f_cokV C (mX10_search hinj) (ci := 9) rfl (List.forall_mem_cons.mpr ⟨(mlX6_ok _ (List.mem_of_getElem? (i := 7) rfl)), kc_X10_search⟩) (by decide +kernel) ⟨Nat.le_of_ble_eq_true rfl, Nat.le_of_ble_eq_true rfl⟩, fun _ h => absurd h List.not_mem_nil⟩⟩⟩⟩)) (fun j S h => by cases h) tX6_isSentenceWith_ok (cut := (f_cnl [(11, (fun (ls' : fLs) (st' : List Value) (I' : fM) (L' : fN) => ∃ i : Int32, (∀ q ∈ ([(2, .int i), (1, .int m), (0, .ref 72)] : fLs), q ∈ ls') ∧ st' = [] ∧ (xR I' ∧ f_fr [25, 26, 27, 28, 31, 32, 33, 34, 35, 36, 37, 38, 39, 69] I I' ∧ f_fr [29, 30, 70] L L' ∧ xO I' ∧ xT I' ∧ xS I' ∧ (0 ≤ i.toInt) ∧ (i.toInt ≤ (I 40 6).toInt + m.toInt) ∧ ((I 40 6).toInt + m.toInt - i.toInt) < 9)))])) (f_cnl_of (P := fun (tQ : Nat) (P : fLs → List Value → fM → fN → Prop) => ∀ ls' st' I' L', P ls' st' I' L' → f_W pP l eP (f_rm 36) sP mP aP bP hP9 cP xY 80 a cy dC dI 3 (f_K 3 (qX6_isSentenceWith [.ref 72, .int m] I L)) tQ ls' st' I' L') (List.forall_mem_cons.mpr ⟨(fun ls' st' I' L' h => by obtain ⟨i, hs, e1, h9⟩ := h; rw [e1]; exact f_W_sub hs (lp11 9 i I' L' h9)), fun _ h => absurd h List.not_mem_nil⟩)) 9 0 tX6_isSentenceWith tX6_isSentenceWith_ok _ _ _ _ ?_
    refine And.intro ⟨hR, (show 0 ≤ (36 : Int) from by first | assumption | omega), (show (36 : Int) ≤ 52 from by first | assumption | omega)⟩ ?_
    intro I6 L6 hq6
    have hq6 : xR I6 ∧ f_fr [25] I I6 ∧ L6 = L ∧ (I6 25 7).toInt = 0 ∧ I6 25 8 = (Int32.ofInt 36) := hq6
    obtain ⟨c6_0, c6_1, eL6, c6_3, c6_4⟩ := hq6
    replace eL6 := eL6.symm
    subst eL6
    have hxO6 := f_dep_fr xO_dep hxO c6_1 rfl
    have hxT6 := f_dep_fr xT_dep hxT c6_1 rfl
    have hxS6 := f_dep_fr xS_dep hxS c6_1 rfl
    have hF6 := f_fr_tr hF0 c6_1 rfl
    exact ⟨Int32.ofInt 0, (by intro q9 h9; simp only [List.mem_cons, List.not_mem_nil, or_false] at h9; rcases h9 with h9 | h9 | h9 <;> subst h9 <;> repeat (first | exact List.mem_cons_self | apply List.mem_cons_of_mem)), rfl, c6_0, hF6, hG0, hxO6, hxT6, hxS6, (show 0 ≤ (0 : Int) from by first | assumption | omega), (show (0 : Int) ≤ (I 40 6).toInt + m.toInt from by first | assumption | omega), (show ((I 40 6).toInt + m.toInt - (0 : Int)) < 9 from by omega)⟩
def tX6_putOne : List (Instr × Nat) := [(.iconst 0, 1), (.istore_n 1, 1), (.iload_n 1, 1), (.aload_n 0, 1), (.getfield 39, 3), (.getfield 63, 3), (.if_icmp .gt 47, 3), (.iconst 0, 1), (.istore_n 2, 1), (.iload_n 2, 1), (.aload_n 0, 1), (.getfield 31, 3), (.getfield 125, 3), (.if_icmp .ge 28, 3), (.aload_n 0, 1), (.iload_n 1, 1), (.iload_n 2, 1), (.invokevirtual 128, 3), (.ifCond .eq 13, 3), (.aload_n 0, 1), (.iconst 1, 1), (.invokevirtual 116, 3), (.ifCond .eq 5, 3), (.iconst 1, 1), (.ireturn, 1), (.iinc 2 1, 3), (.goto (-33), 3), (.iinc 1 1, 3), (.goto (-52), 3), (.iconst 0, 1), (.ireturn, 1)]
theorem tX6_putOne_ok : f_chk cX6_putOne 0 tX6_putOne = true := by decide +kernel
def pX6_putOne (av : List Value) (I : fM) (L : fN) : Prop := match av with
  | [.ref 72] => xR I ∧ xO I ∧ xT I ∧ xS I ∧ (I 40 6).toInt ≤ 7
  | _ => False
def qX6_putOne (av : List Value) (I : fM) (L : fN) (r : Value) (I' : fM) (L' : fN) : Prop := match av, r with
  | [.ref 72], .int x => xR I' ∧ xO I' ∧ xT I' ∧ xS I' ∧ f_fr [25, 26, 27, 28, 31, 32, 33, 34, 35, 36, 37, 38, 39, 69, 74] I I' ∧ f_fr [29, 30, 70] L L' ∧ (x.toInt = 0 ∨ x.toInt = 1)
  | _, _ => False
set_option maxHeartbeats 4000000 in
set_option maxRecDepth 100000 in
theorem mX6_putOne {l : Launch} {a : Nat → Nat} {cy dC : Nat → ClassId} {dI : Nat → Nat → Nat} (hinj : ∀ i j, i < 80 → j < 80 → a i = a j → i = j) : f_Met (xE a) l xY 80 a cy dC dI yX6_putOne cX6_putOne 3 3 37 pX6_putOne qX6_putOne := by
  refine f_met_of (xE_c a) hinj xY_hi (by decide) (fun av I L h => by unfold pX6_putOne at h; split at h <;> first | exact Nat.le_of_ble_eq_true rfl | exact h.elim) ?_
  intro pP eP sP mP aP bP hP9 cP C av I L hp
  unfold pX6_putOne at hp
  split at hp
  case h_2 => exact hp.elim
  case h_1 =>
    obtain ⟨hR, hxO, hxT, hxS, p4⟩ := hp
    have hn : 0 ≤ (I 40 6).toInt ∧ (I 40 6).toInt ≤ 8 := hR 40 6
    have hw : 0 ≤ (I 15 10).toInt ∧ (I 15 10).toInt ≤ 12 := hR 15 10
    have hF0 : f_fr [25, 26, 27, 28, 31, 32, 33, 34, 35, 36, 37, 38, 39, 69, 74] I I := f_fr_rf
    have hG0 : f_fr [29, 30, 70] L L := f_fr_rf
    have lp2 : ∀ (n2 : Nat), ∀ (p : Int32) (J2 : fM) (M2 : fN), xR J2 ∧ f_fr [25, 26, 27, 28, 31, 32, 33, 34, 35, 36, 37, 38, 39, 69, 74] I J2 ∧ f_fr [29, 30, 70] L M2 ∧ xO J2 ∧ xT J2 ∧ xS J2 ∧ (0 ≤ p.toInt) ∧ (p.toInt ≤ (I 40 6).toInt + 1) ∧ ((I 40 6).toInt + 1 - p.toInt) < n2 → f_W pP l eP (f_rm 37) sP mP aP bP hP9 cP xY 80 a cy dC dI 3 (f_K 3 (qX6_putOne [.ref 72] I L)) 2 [(1, .int p), (0, .ref 72)] [] J2 M2 := by
      intro n2
      induction n2 with
      | zero =>
        intro p J2 M2 h9
        obtain ⟨hR2c, hF2c, hG2c, hxO2c, hxT2c, hxS2c, u2_1, u2_2, hm2⟩ := h9
        omega
      | succ n2 ih2 =>
        intro p J2 M2 h9
        obtain ⟨hR2c, hF2c, hG2c, hxO2c, hxT2c, hxS2c, u2_1, u2_2, hm2⟩ := h9
        have lp15 : ∀ (n15 : Nat), ∀ (w : Int32) (J15 : fM) (M15 : fN), xR J15 ∧ f_fr [25, 26, 27, 28, 31, 32, 33, 34, 35, 36, 37, 38, 39, 69, 74] I J15 ∧ f_fr [29, 30, 70] L M15 ∧ xO J15 ∧ xT J15 ∧ xS J15 ∧ (p.toInt ≤ (I 40 6).toInt) ∧ (0 ≤ w.toInt) ∧ (w.toInt ≤ (I 15 10).toInt) ∧ ((I 15 10).toInt - w.toInt) < n15 → f_W pP l eP (f_rm 37) sP mP aP bP hP9 cP xY 80 a cy dC dI 3 (f_K 3 (qX6_putOne [.ref 72] I L)) 15 [(2, .int w), (1, .int p), (0, .ref 72)] [] J15 M15 := by
          intro n15
          induction n15 with
          | zero =>
            intro w J15 M15 h9
            obtain ⟨hR15c, hF15c, hG15c, hxO15c, hxT15c, hxS15c, u15_1, u15_2, u15_3, hm15⟩ := h9
            omega
          | succ n15 ih15 =>
            intro w J15 M15 h9
            obtain ⟨hR15c, hF15c, hG15c, hxO15c, hxT15c, hxS15c, u15_1, u15_2, u15_3, hm15⟩ := h9
            refine f_wp_ok C f_cl flX6_ok fiX6_ok fjX6_ok (sn := none) (fun j h => by cases h) (cs := (f_cnl [(128, (3, 3, 6, pX6_putFirst, qX6_putFirst)), (116, (2, 3, 6, pX6_isSentenceWith, qX6_isSentenceWith))])) (cz := (fun _ => none)) (f_cnl_of (P := fun j S => f_cok pP l eP (f_rm 37) sP mP aP bP hP9 cP xY 80 a cy dC dI 3 _ _ (.invokevirtual j) true S) (List.forall_mem_cons.mpr ⟨f_cokV C (mX6_putFirst hinj) (ci := 6) rfl (List.forall_mem_cons.mpr ⟨(mlX6_ok _ (List.mem_of_getElem? (i := 16) rfl)), kc_X6_putFirst⟩) (by decide +kernel) ⟨Nat.le_of_ble_eq_true rfl, Nat.le_of_ble_eq_true rfl⟩, List.forall_mem_cons.mpr ⟨f_cokV C (mX6_isSentenceWith hinj) (ci := 6) rfl (List.forall_mem_cons.mpr ⟨(mlX6_ok _ (List.mem_of_getElem? (i := 13) rfl)), kc_X6_isSentenceWith⟩) (by decide +kernel) ⟨Nat.le_of_ble_eq_true rfl, Nat.le_of_ble_eq_true rfl⟩, fun _ h => absurd h List.not_mem_nil⟩⟩)) (fun j S h => by cases h) tX6_putOne_ok (cut := (f_cnl [(2, (fun (ls' : fLs) (st' : List Value) (I' : fM) (L' : fN) => ∃ p : Int32, (∀ q ∈ ([(1, .int p), (0, .ref 72)] : fLs), q ∈ ls') ∧ st' = [] ∧ (xR I' ∧ f_fr [25, 26, 27, 28, 31, 32, 33, 34, 35, 36, 37, 38, 39, 69, 74] I I' ∧ f_fr [29, 30, 70] L L' ∧ xO I' ∧ xT I' ∧ xS I' ∧ (0 ≤ p.toInt) ∧ (p.toInt ≤ (I 40 6).toInt + 1) ∧ ((I 40 6).toInt + 1 - p.toInt) < n2))), (15, (fun (ls' : fLs) (st' : List Value) (I' : fM) (L' : fN) => ∃ w : Int32, (∀ q ∈ ([(2, .int w), (1, .int p), (0, .ref 72)] : fLs), q ∈ ls') ∧ st' = [] ∧ (xR I' ∧ f_fr [25, 26, 27, 28, 31, 32, 33, 34, 35, 36, 37, 38, 39, 69, 74] I I' ∧ f_fr [29, 30, 70] L L' ∧ xO I' ∧ xT I' ∧ xS I' ∧ (p.toInt ≤ (I 40 6).toInt) ∧ (0 ≤ w.toInt) ∧ (w.toInt ≤ (I 15 10).toInt) ∧ ((I 15 10).toInt - w.toInt) < n15)))])) (f_cnl_of (P := fun (tQ : Nat) (P : fLs → List Value → fM → fN → Prop) => ∀ ls' st' I' L', P ls' st' I' L' → f_W pP l eP (f_rm 37) sP mP aP bP hP9 cP xY 80 a cy dC dI 3 (f_K 3 (qX6_putOne [.ref 72] I L)) tQ ls' st' I' L') (List.forall_mem_cons.mpr ⟨(fun ls' st' I' L' h => by obtain ⟨p, hs, e1, h9⟩ := h; rw [e1]; exact f_W_sub hs (ih2 p I' L' h9)), List.forall_mem_cons.mpr ⟨(fun ls' st' I' L' h => by obtain ⟨w, hs, e1, h9⟩ := h; rw [e1]; exact f_W_sub hs (ih15 w I' L' h9)), fun _ h => absurd h List.not_mem_nil⟩⟩)) 19 15 (f_seek 15 0 tX6_putOne) (f_seek_ok 15 0 tX6_putOne tX6_putOne_ok) _ _ _ _ ?_
            have r20_1 : 0 ≤ (J15 15 10).toInt ∧ (J15 15 10).toInt ≤ 12 := hR15c 15 10
            have e20_2 : (J15 15 10).toInt = (I 15 10).toInt := congrArg Int32.toInt (congrFun (hF15c 15 rfl) 10)
            apply And.intro
            · intro h23
              have h23 : (J15 15 10).toInt ≤ w.toInt := h23
              intro z51 q51 _ hq51 hl51 hu51
              have hq51 : z51.toInt = p.toInt + 1 + 4294967296 * q51 := hq51
              try have hz51 : z51.toInt = p.toInt + 1 := by omega
              exact ⟨z51, (by intro q9 h9; simp only [List.mem_cons, List.not_mem_nil, or_false] at h9; rcases h9 with h9 | h9 <;> subst h9 <;> repeat (first | exact List.mem_cons_self | apply List.mem_cons_of_mem)), rfl, hR15c, hF15c, hG15c, hxO15c, hxT15c, hxS15c, (show 0 ≤ z51.toInt from by first | assumption | omega), (show z51.toInt ≤ (I 40 6).toInt + 1 from by first | assumption | omega), (show ((I 40 6).toInt + 1 - z51.toInt) < n2 from by omega)⟩
            · intro h23
              have h23 : w.toInt < (J15 15 10).toInt := h23
              refine And.intro ⟨hR15c, (show 0 ≤ p.toInt from by first | assumption | omega), (show p.toInt ≤ 8 from by first | assumption | omega)⟩ ?_
              intro x29 I29 L29 hq29
              have hq29 : xR I29 ∧ f_fr [74] J15 I29 ∧ L29 = M15 ∧ (I29 74 1).toInt = p.toInt ∧ (I29 74 3).toInt = w.toInt ∧ ((x29.toInt = 0 ∨ x29.toInt = 1)) := hq29
              obtain ⟨c29_0, c29_1, eL29, c29_3, c29_4, c29_5⟩ := hq29
              replace eL29 := eL29.symm
              subst eL29
              have hxO29 := f_dep_fr xO_dep hxO15c c29_1 rfl
              have hxT29 := f_dep_fr xT_dep hxT15c c29_1 rfl
              have hxS29 := f_dep_fr xS_dep hxS15c c29_1 rfl
              have hF29 := f_fr_tr hF15c c29_1 rfl
              apply And.intro
              · intro h32
                have h32 : x29.toInt = 0 := h32
                intro z45 q45 _ hq45 hl45 hu45
                have hq45 : z45.toInt = w.toInt + 1 + 4294967296 * q45 := hq45
                try have hz45 : z45.toInt = w.toInt + 1 := by omega
                exact ⟨z45, (by intro q9 h9; simp only [List.mem_cons, List.not_mem_nil, or_false] at h9; rcases h9 with h9 | h9 | h9 <;> subst h9 <;> repeat (first | exact List.mem_cons_self | apply List.mem_cons_of_mem)), rfl, c29_0, hF29, hG15c, hxO29, hxT29, hxS29, (show p.toInt ≤ (I 40 6).toInt from by first | assumption | omega), (show 0 ≤ z45.toInt from by first | assumption | omega), (show z45.toInt ≤ (I 15 10).toInt from by first | assumption | omega), (show ((I 15 10).toInt - z45.toInt) < n15 from by omega)⟩
              · intro h32
                have h32 : ¬ x29.toInt = 0 := h32
                have r37_3 : 0 ≤ (I29 40 6).toInt ∧ (I29 40 6).toInt ≤ 8 := c29_0 40 6
                have e37_4 : (I29 40 6).toInt = (J15 40 6).toInt := congrArg Int32.toInt (congrFun (c29_1 40 rfl) 6)
                have e37_5 : (J15 40 6).toInt = (I 40 6).toInt := congrArg Int32.toInt (congrFun (hF15c 40 rfl) 6)
                refine And.intro ⟨c29_0, hxO29, hxT29, hxS29, (show 0 ≤ (1 : Int) from by first | assumption | omega), (show (I29 40 6).toInt + (1 : Int) ≤ 8 from by first | assumption | omega), (show (0 < (1 : Int) → 0 ≤ (I29 74 1).toInt ∧ 0 ≤ (I29 74 3).toInt ∧ (I29 74 3).toInt ≤ 11) from by first | assumption | omega), (show (1 < (1 : Int) → 0 ≤ (I29 74 2).toInt ∧ 0 ≤ (I29 74 4).toInt ∧ (I29 74 4).toInt ≤ 11) from by first | assumption | omega)⟩ ?_
                intro x37 I37 L37 hq37
                have hq37 : xR I37 ∧ xO I37 ∧ xT I37 ∧ xS I37 ∧ f_fr [25, 26, 27, 28, 31, 32, 33, 34, 35, 36, 37, 38, 39, 69] I29 I37 ∧ f_fr [29, 30, 70] M15 L37 ∧ ((x37.toInt = 0 ∨ x37.toInt = 1)) := hq37
                obtain ⟨c37_0, c37_1, c37_2, c37_3, c37_4, c37_5, c37_6⟩ := hq37
                have hF37 := f_fr_tr hF29 c37_4 rfl
                have hG37 := f_fr_tr hG15c c37_5 rfl
                apply And.intro
                · intro h40
                  have h40 : x37.toInt = 0 := h40
                  intro z45 q45 _ hq45 hl45 hu45
                  have hq45 : z45.toInt = w.toInt + 1 + 4294967296 * q45 := hq45
                  try have hz45 : z45.toInt = w.toInt + 1 := by omega
                  exact ⟨z45, (by intro q9 h9; simp only [List.mem_cons, List.not_mem_nil, or_false] at h9; rcases h9 with h9 | h9 | h9 <;> subst h9 <;> repeat (first | exact List.mem_cons_self | apply List.mem_cons_of_mem)), rfl, c37_0, hF37, hG37, c37_1, c37_2, c37_3, (show p.toInt ≤ (I 40 6).toInt from by first | assumption | omega), (show 0 ≤ z45.toInt from by first | assumption | omega), (show z45.toInt ≤ (I 15 10).toInt from by first | assumption | omega), (show ((I 15 10).toInt - z45.toInt) < n15 from by omega)⟩
                · intro h40
                  have h40 : ¬ x37.toInt = 0 := h40
                  exact ⟨Or.inr rfl, c37_0, c37_1, c37_2, c37_3, hF37, hG37, (show ((1 : Int) = 0 ∨ (1 : Int) = 1) from by first | assumption | omega | rfl)⟩
        refine f_wp_ok C f_cl flX6_ok fiX6_ok fjX6_ok (sn := none) (fun j h => by cases h) (cs := (f_cnl [(128, (3, 3, 6, pX6_putFirst, qX6_putFirst)), (116, (2, 3, 6, pX6_isSentenceWith, qX6_isSentenceWith))])) (cz := (fun _ => none)) (f_cnl_of (P := fun j S => f_cok pP l eP (f_rm 37) sP mP aP bP hP9 cP xY 80 a cy dC dI 3 _ _ (.invokevirtual j) true S) (List.forall_mem_cons.mpr ⟨f_cokV C (mX6_putFirst hinj) (ci := 6) rfl (List.forall_mem_cons.mpr ⟨(mlX6_ok _ (List.mem_of_getElem? (i := 16) rfl)), kc_X6_putFirst⟩) (by decide +kernel) ⟨Nat.le_of_ble_eq_true rfl, Nat.le_of_ble_eq_true rfl⟩, List.forall_mem_cons.mpr ⟨f_cokV C (mX6_isSentenceWith hinj) (ci := 6) rfl (List.forall_mem_cons.mpr ⟨(mlX6_ok _ (List.mem_of_getElem? (i := 13) rfl)), kc_X6_isSentenceWith⟩) (by decide +kernel) ⟨Nat.le_of_ble_eq_true rfl, Nat.le_of_ble_eq_true rfl⟩, fun _ h => absurd h List.not_mem_nil⟩⟩)) (fun j S h => by cases h) tX6_putOne_ok (cut := (f_cnl [(15, (fun (ls' : fLs) (st' : List Value) (I' : fM) (L' : fN) => ∃ w : Int32, (∀ q ∈ ([(2, .int w), (1, .int p), (0, .ref 72)] : fLs), q ∈ ls') ∧ st' = [] ∧ (xR I' ∧ f_fr [25, 26, 27, 28, 31, 32, 33, 34, 35, 36, 37, 38, 39, 69, 74] I I' ∧ f_fr [29, 30, 70] L L' ∧ xO I' ∧ xT I' ∧ xS I' ∧ (p.toInt ≤ (I 40 6).toInt) ∧ (0 ≤ w.toInt) ∧ (w.toInt ≤ (I 15 10).toInt) ∧ ((I 15 10).toInt - w.toInt) < 13)))])) (f_cnl_of (P := fun (tQ : Nat) (P : fLs → List Value → fM → fN → Prop) => ∀ ls' st' I' L', P ls' st' I' L' → f_W pP l eP (f_rm 37) sP mP aP bP hP9 cP xY 80 a cy dC dI 3 (f_K 3 (qX6_putOne [.ref 72] I L)) tQ ls' st' I' L') (List.forall_mem_cons.mpr ⟨(fun ls' st' I' L' h => by obtain ⟨w, hs, e1, h9⟩ := h; rw [e1]; exact f_W_sub hs (lp15 13 w I' L' h9)), fun _ h => absurd h List.not_mem_nil⟩)) 10 2 (f_seek 2 0 tX6_putOne) (f_seek_ok 2 0 tX6_putOne tX6_putOne_ok) _ _ _ _ ?_
        have r7_1 : 0 ≤ (J2 40 6).toInt ∧ (J2 40 6).toInt ≤ 8 := hR2c 40 6
        have e7_2 : (J2 40 6).toInt = (I 40 6).toInt := congrArg Int32.toInt (congrFun (hF2c 40 rfl) 6)
        apply And.intro
        · intro h10
          have h10 : (J2 40 6).toInt < p.toInt := h10
          exact ⟨Or.inl rfl, hR2c, hxO2c, hxT2c, hxS2c, hF2c, hG2c, (show ((0 : Int) = 0 ∨ (0 : Int) = 1) from by first | assumption | omega | rfl)⟩
        · intro h10
          have h10 : p.toInt ≤ (J2 40 6).toInt := h10
          exact ⟨Int32.ofInt 0, (by intro q9 h9; simp only [List.mem_cons, List.not_mem_nil, or_false] at h9; rcases h9 with h9 | h9 | h9 <;> subst h9 <;> repeat (first | exact List.mem_cons_self | apply List.mem_cons_of_mem)), rfl, hR2c, hF2c, hG2c, hxO2c, hxT2c, hxS2c, (show p.toInt ≤ (I 40 6).toInt from by first | assumption | omega), (show 0 ≤ (0 : Int) from by first | assumption | omega), (show (0 : Int) ≤ (I 15 10).toInt from by first | assumption | omega), (show ((I 15 10).toInt - (0 : Int)) < 13 from by omega)⟩
    refine f_wp_ok C f_cl flX6_ok fiX6_ok fjX6_ok (sn := none) (fun j h => by cases h) (cs := (f_cnl [(128, (3, 3, 6, pX6_putFirst, qX6_putFirst)), (116, (2, 3, 6, pX6_isSentenceWith, qX6_isSentenceWith))])) (cz := (fun _ => none)) (f_cnl_of (P := fun j S => f_cok pP l eP (f_rm 37) sP mP aP bP hP9 cP xY 80 a cy dC dI 3 _ _ (.invokevirtual j) true S) (List.forall_mem_cons.mpr ⟨f_cokV C (mX6_putFirst hinj) (ci := 6) rfl (List.forall_mem_cons.mpr ⟨(mlX6_ok _ (List.mem_of_getElem? (i := 16) rfl)), kc_X6_putFirst⟩) (by decide +kernel) ⟨Nat.le_of_ble_eq_true rfl, Nat.le_of_ble_eq_true rfl⟩, List.forall_mem_cons.mpr ⟨f_cokV C (mX6_isSentenceWith hinj) (ci := 6) rfl (List.forall_mem_cons.mpr ⟨(mlX6_ok _ (List.mem_of_getElem? (i := 13) rfl)), kc_X6_isSentenceWith⟩) (by decide +kernel) ⟨Nat.le_of_ble_eq_true rfl, Nat.le_of_ble_eq_true rfl⟩, fun _ h => absurd h List.not_mem_nil⟩⟩)) (fun j S h => by cases h) tX6_putOne_ok (cut := (f_cnl [(2, (fun (ls' : fLs) (st' : List Value) (I' : fM) (L' : fN) => ∃ p : Int32, (∀ q ∈ ([(1, .int p), (0, .ref 72)] : fLs), q ∈ ls') ∧ st' = [] ∧ (xR I' ∧ f_fr [25, 26, 27, 28, 31, 32, 33, 34, 35, 36, 37, 38, 39, 69, 74] I I' ∧ f_fr [29, 30, 70] L L' ∧ xO I' ∧ xT I' ∧ xS I' ∧ (0 ≤ p.toInt) ∧ (p.toInt ≤ (I 40 6).toInt + 1) ∧ ((I 40 6).toInt + 1 - p.toInt) < 10)))])) (f_cnl_of (P := fun (tQ : Nat) (P : fLs → List Value → fM → fN → Prop) => ∀ ls' st' I' L', P ls' st' I' L' → f_W pP l eP (f_rm 37) sP mP aP bP hP9 cP xY 80 a cy dC dI 3 (f_K 3 (qX6_putOne [.ref 72] I L)) tQ ls' st' I' L') (List.forall_mem_cons.mpr ⟨(fun ls' st' I' L' h => by obtain ⟨p, hs, e1, h9⟩ := h; rw [e1]; exact f_W_sub hs (lp2 10 p I' L' h9)), fun _ h => absurd h List.not_mem_nil⟩)) 5 0 tX6_putOne tX6_putOne_ok _ _ _ _ ?_
    have r2_1 : 0 ≤ (I 40 6).toInt ∧ (I 40 6).toInt ≤ 8 := hR 40 6
    exact ⟨Int32.ofInt 0, (by intro q9 h9; simp only [List.mem_cons, List.not_mem_nil, or_false] at h9; rcases h9 with h9 | h9 <;> subst h9 <;> repeat (first | exact List.mem_cons_self | apply List.mem_cons_of_mem)), rfl, hR, hF0, hG0, hxO, hxT, hxS, (show 0 ≤ (0 : Int) from by first | assumption | omega), (show (0 : Int) ≤ (I 40 6).toInt + 1 from by first | assumption | omega), (show ((I 40 6).toInt + 1 - (0 : Int)) < 10 from by omega)⟩
def tX6_canPairComeOutEven : List (Instr × Nat) := [(.aload_n 0, 1), (.getfield 15, 3), (.iconst 3, 1), (.iaload, 1), (.istore_n 1, 1), (.aload_n 0, 1), (.getfield 15, 3), (.iconst 4, 1), (.iaload, 1), (.istore_n 2, 1), (.iload_n 1, 1), (.iload_n 2, 1), (.invokestatic 137, 3), (.bipush 12, 2), (.imul, 1), (.iload_n 1, 1), (.iload_n 2, 1), (.invokestatic 143, 3), (.iadd, 1), (.istore_n 3, 1), (.aload_n 0, 1), (.getfield 20, 3), (.iload_n 3, 1), (.iaload, 1), (.ifCond .ne 52, 3), (.aload_n 0, 1), (.getfield 35, 3), (.aload_n 0, 1), (.getfield 39, 3), (.invokevirtual 97, 3), (.aload_n 0, 1), (.getfield 35, 3), (.iload_n 1, 1), (.invokevirtual 87, 3), (.aload_n 0, 1), (.getfield 35, 3), (.iload_n 2, 1), (.invokevirtual 87, 3), (.aload_n 0, 1), (.getfield 20, 3), (.iload_n 3, 1), (.aload_n 0, 1), (.getfield 35, 3), (.iconst 1, 1), (.invokevirtual 101, 3), (.ifCond .le 7, 3), (.iconst 1, 1), (.goto 4, 3), (.iconst 2, 1), (.iastore, 1), (.aload_n 0, 1), (.getfield 20, 3), (.iload_n 3, 1), (.iaload, 1), (.iconst 1, 1), (.if_icmp .ne 7, 3), (.iconst 1, 1), (.goto 4, 3), (.iconst 0, 1), (.ireturn, 1)]
theorem tX6_canPairComeOutEven_ok : f_chk cX6_canPairComeOutEven 0 tX6_canPairComeOutEven = true := by decide +kernel
def pX6_canPairComeOutEven (av : List Value) (I : fM) (L : fN) : Prop := match av with
  | [.ref 72] => xR I ∧ xO I ∧ xT I ∧ xS I ∧ 0 ≤ (I 74 3).toInt ∧ (I 74 3).toInt ≤ 11 ∧ 0 ≤ (I 74 4).toInt ∧ (I 74 4).toInt ≤ 11
  | _ => False
def qX6_canPairComeOutEven (av : List Value) (I : fM) (L : fN) (r : Value) (I' : fM) (L' : fN) : Prop := match av, r with
  | [.ref 72], .int x => xR I' ∧ xO I' ∧ xT I' ∧ xS I' ∧ f_fr [25, 26, 27, 28, 31, 32, 33, 34, 35, 36, 37, 38, 39, 69, 75] I I' ∧ f_fr [29, 30, 70] L L' ∧ (x.toInt = 0 ∨ x.toInt = 1)
  | _, _ => False
set_option maxHeartbeats 4000000 in
set_option maxRecDepth 100000 in
theorem mX6_canPairComeOutEven {l : Launch} {a : Nat → Nat} {cy dC : Nat → ClassId} {dI : Nat → Nat → Nat} (hinj : ∀ i j, i < 80 → j < 80 → a i = a j → i = j) : f_Met (xE a) l xY 80 a cy dC dI yX6_canPairComeOutEven cX6_canPairComeOutEven 4 3 12 pX6_canPairComeOutEven qX6_canPairComeOutEven := by
  refine f_met_of (xE_c a) hinj xY_hi (by decide) (fun av I L h => by unfold pX6_canPairComeOutEven at h; split at h <;> first | exact Nat.le_of_ble_eq_true rfl | exact h.elim) ?_
  intro pP eP sP mP aP bP hP9 cP C av I L hp
  unfold pX6_canPairComeOutEven at hp
  split at hp
  case h_2 => exact hp.elim
  case h_1 =>
    obtain ⟨hR, hxO, hxT, hxS, p4, p5, p6, p7⟩ := hp
    have hF0 : f_fr [25, 26, 27, 28, 31, 32, 33, 34, 35, 36, 37, 38, 39, 69, 75] I I := f_fr_rf
    have hG0 : f_fr [29, 30, 70] L L := f_fr_rf
    refine f_wp_ok C f_cl flX6_ok fiX6_ok fjX6_ok (sn := none) (fun j h => by cases h) (cs := (f_cnl [(97, (2, 0, 9, pX10_beginWithRow, qX10_beginWithRow)), (87, (2, 0, 9, pX10_addWord, qX10_addWord)), (101, (2, 1, 9, pX10_countEven, qX10_countEven))])) (cz := (f_cnl [(137, (2, 1, 0, pJ9_min_7cf53, qJ9_min_7cf53)), (143, (2, 1, 0, pJ9_max_7cf53, qJ9_max_7cf53))])) (f_cnl_of (P := fun j S => f_cok pP l eP (f_rm 12) sP mP aP bP hP9 cP xY 80 a cy dC dI 4 _ _ (.invokevirtual j) true S) (List.forall_mem_cons.mpr ⟨f_cokV C (mX10_beginWithRow hinj) (ci := 9) rfl (List.forall_mem_cons.mpr ⟨(mlX6_ok _ (List.mem_of_getElem? (i := 8) rfl)), kc_X10_beginWithRow⟩) (by decide +kernel) ⟨Nat.le_of_ble_eq_true rfl, Nat.le_of_ble_eq_true rfl⟩, List.forall_mem_cons.mpr ⟨f_cokV C (mX10_addWord hinj) (ci := 9) rfl (List.forall_mem_cons.mpr ⟨(mlX6_ok _ (List.mem_of_getElem? (i := 6) rfl)), kc_X10_addWord⟩) (by decide +kernel) ⟨Nat.le_of_ble_eq_true rfl, Nat.le_of_ble_eq_true rfl⟩, List.forall_mem_cons.mpr ⟨f_cokV C (mX10_countEven hinj) (ci := 9) rfl (List.forall_mem_cons.mpr ⟨(mlX6_ok _ (List.mem_of_getElem? (i := 9) rfl)), kc_X10_countEven⟩) (by decide +kernel) ⟨Nat.le_of_ble_eq_true rfl, Nat.le_of_ble_eq_true rfl⟩, fun _ h => absurd h List.not_mem_nil⟩⟩⟩)) (f_cnl_of (P := fun j S => f_cok pP l eP (f_rm 12) sP mP aP bP hP9 cP xY 80 a cy dC dI 4 _ _ (.invokestatic j) false S) (List.forall_mem_cons.mpr ⟨f_cokMin C (mlX6_ok _ (List.mem_of_getElem? (i := 19) rfl)) ⟨Nat.le_of_ble_eq_true rfl, Nat.le_of_ble_eq_true rfl⟩, List.forall_mem_cons.mpr ⟨f_cokMax C (mlX6_ok _ (List.mem_of_getElem? (i := 20) rfl)) ⟨Nat.le_of_ble_eq_true rfl, Nat.le_of_ble_eq_true rfl⟩, fun _ h => absurd h List.not_mem_nil⟩⟩)) tX6_canPairComeOutEven_ok (cut := (fun _ => none)) (fun t P h => by cases h) 61 0 tX6_canPairComeOutEven tX6_canPairComeOutEven_ok _ _ _ _ ?_
    refine And.intro (show f_in (Int32.ofInt 3) 5 from ⟨show 0 ≤ 3 from by omega, show 3 < 5 from by omega⟩) ?_
    refine And.intro (show f_in (Int32.ofInt 4) 5 from ⟨show 0 ≤ 4 from by omega, show 4 < 5 from by omega⟩) ?_
    refine And.intro trivial ?_
    intro x16 I16 L16 hq16
    have hq16 : I16 = I ∧ L16 = L ∧ ((x16 = (I 74 3) ∨ x16 = (I 74 4))) ∧ x16.toInt ≤ (I 74 3).toInt ∧ x16.toInt ≤ (I 74 4).toInt := hq16
    obtain ⟨eI16, eL16, c16_2, c16_3, c16_4⟩ := hq16
    replace eI16 := eI16.symm
    subst eI16
    replace eL16 := eL16.symm
    subst eL16
    have v16 : 0 ≤ x16.toInt ∧ x16.toInt ≤ 11 := by rcases c16_2 with q | q <;> rw [q] <;> omega
    intro z21 q21 _ hq21 hl21 hu21
    have hq21 : z21.toInt = x16.toInt * 12 + 4294967296 * q21 := hq21
    try have hz21 : z21.toInt = x16.toInt * 12 := by omega
    refine And.intro trivial ?_
    intro x24 I24 L24 hq24
    have hq24 : I24 = I ∧ L24 = L ∧ ((x24 = (I 74 3) ∨ x24 = (I 74 4))) ∧ (I 74 3).toInt ≤ x24.toInt ∧ (I 74 4).toInt ≤ x24.toInt := hq24
    obtain ⟨eI24, eL24, c24_2, c24_3, c24_4⟩ := hq24
    replace eI24 := eI24.symm
    subst eI24
    replace eL24 := eL24.symm
    subst eL24
    have v24 : 0 ≤ x24.toInt ∧ x24.toInt ≤ 11 := by rcases c24_2 with q | q <;> rw [q] <;> omega
    intro z27 q27 _ hq27 hl27 hu27
    have hq27 : z27.toInt = z21.toInt + x24.toInt + 4294967296 * q27 := hq27
    try have hz27 : z27.toInt = z21.toInt + x24.toInt := by omega
    refine And.intro (show f_in z27 144 from ⟨show 0 ≤ z27.toInt from by omega, show z27.toInt < 144 from by omega⟩) ?_
    apply And.intro
    · intro h35
      have h35 : ¬ (I 75 (z27.toInt.toNat)).toInt = 0 := h35
      refine And.intro (show f_in z27 144 from ⟨show 0 ≤ z27.toInt from by omega, show z27.toInt < 144 from by omega⟩) ?_
      apply And.intro
      · intro h94
        have h94 : ¬ (I 75 (z27.toInt.toNat)).toInt = 1 := h94
        exact ⟨Or.inl rfl, hR, hxO, hxT, hxS, hF0, hG0, (show ((0 : Int) = 0 ∨ (0 : Int) = 1) from by first | assumption | omega | rfl)⟩
      · intro h94
        have h94 : (I 75 (z27.toInt.toNat)).toInt = 1 := h94
        exact ⟨Or.inr rfl, hR, hxO, hxT, hxS, hF0, hG0, (show ((1 : Int) = 0 ∨ (1 : Int) = 1) from by first | assumption | omega | rfl)⟩
    · intro h35
      have h35 : (I 75 (z27.toInt.toNat)).toInt = 0 := h35
      refine And.intro ⟨hR, hxT⟩ ?_
      intro I46 L46 hq46
      have hq46 : xR I46 ∧ xT I46 ∧ f_fr [25, 26, 27] I I46 ∧ L46 = L ∧ (I46 25 8).toInt = 36 := hq46
      obtain ⟨c46_0, c46_1, c46_2, eL46, c46_4⟩ := hq46
      replace eL46 := eL46.symm
      subst eL46
      have hxO46 := f_dep_fr xO_dep hxO c46_2 rfl
      have hxS46 := f_dep_fr xS_dep hxS c46_2 rfl
      have hF46 := f_fr_tr hF0 c46_2 rfl
      refine And.intro ⟨c46_0, c46_1, (show 0 ≤ (I 74 3).toInt from by first | assumption | omega), (show (I 74 3).toInt ≤ 11 from by first | assumption | omega)⟩ ?_
      intro I54 L54 hq54
      have hq54 : xR I54 ∧ xT I54 ∧ f_fr [25, 26, 27] I46 I54 ∧ L54 = L ∧ I54 25 8 = I46 25 8 := hq54
      obtain ⟨c54_0, c54_1, c54_2, eL54, c54_4⟩ := hq54
      replace eL54 := eL54.symm
      subst eL54
      have hxO54 := f_dep_fr xO_dep hxO46 c54_2 rfl
      have hxS54 := f_dep_fr xS_dep hxS46 c54_2 rfl
      have hF54 := f_fr_tr hF46 c54_2 rfl
      refine And.intro ⟨c54_0, c54_1, (show 0 ≤ (I 74 4).toInt from by first | assumption | omega), (show (I 74 4).toInt ≤ 11 from by first | assumption | omega)⟩ ?_
      intro I62 L62 hq62
      have hq62 : xR I62 ∧ xT I62 ∧ f_fr [25, 26, 27] I54 I62 ∧ L62 = L ∧ I62 25 8 = I54 25 8 := hq62
      obtain ⟨c62_0, c62_1, c62_2, eL62, c62_4⟩ := hq62
      replace eL62 := eL62.symm
      subst eL62
      have hxO62 := f_dep_fr xO_dep hxO54 c62_2 rfl
      have hxS62 := f_dep_fr xS_dep hxS54 c62_2 rfl
      have hF62 := f_fr_tr hF54 c62_2 rfl
      refine And.intro ⟨c62_0, c62_1⟩ ?_
      intro x75 I75 L75 hq75
      have hq75 : I75 = I62 ∧ f_fr [29, 30] L L75 := hq75
      obtain ⟨eI75, c75_1⟩ := hq75
      replace eI75 := eI75.symm
      subst eI75
      have hG75 := f_fr_tr hG0 c75_1 rfl
      apply And.intro
      · intro h78
        have h78 : x75.toInt ≤ 0 := h78
        refine And.intro (show f_in z27 144 from ⟨show 0 ≤ z27.toInt from by omega, show z27.toInt < 144 from by omega⟩) ?_
        have hR86 := xR_a (k := 75) (j := z27.toInt.toNat) (x := Int32.ofInt 2) c62_0 (by exact f_rng _)
        have hF86 := f_fr_up (k := 75) (r := upd (I62 75) (z27.toInt.toNat) (Int32.ofInt 2)) hF62 rfl
        have hxO86 := f_dep_up xO_dep (k := 75) (r := upd (I62 75) (z27.toInt.toNat) (Int32.ofInt 2)) hxO62 rfl
        have hxT86 := f_dep_up xT_dep (k := 75) (r := upd (I62 75) (z27.toInt.toNat) (Int32.ofInt 2)) c62_1 rfl
        have hxS86 := f_dep_up xS_dep (k := 75) (r := upd (I62 75) (z27.toInt.toNat) (Int32.ofInt 2)) hxS62 rfl
        refine And.intro (show f_in z27 144 from ⟨show 0 ≤ z27.toInt from by omega, show z27.toInt < 144 from by omega⟩) ?_
        apply And.intro
        · intro h94
          have h94 : ¬ ((upd (I62 75) (z27.toInt.toNat) (Int32.ofInt 2)) (z27.toInt.toNat)).toInt = 1 := h94
          exact ⟨Or.inl rfl, hR86, hxO86, hxT86, hxS86, hF86, hG75, (show ((0 : Int) = 0 ∨ (0 : Int) = 1) from by first | assumption | omega | rfl)⟩
        · intro h94
          have h94 : ((upd (I62 75) (z27.toInt.toNat) (Int32.ofInt 2)) (z27.toInt.toNat)).toInt = 1 := h94
          exact ⟨Or.inr rfl, hR86, hxO86, hxT86, hxS86, hF86, hG75, (show ((1 : Int) = 0 ∨ (1 : Int) = 1) from by first | assumption | omega | rfl)⟩
      · intro h78
        have h78 : 0 < x75.toInt := h78
        refine And.intro (show f_in z27 144 from ⟨show 0 ≤ z27.toInt from by omega, show z27.toInt < 144 from by omega⟩) ?_
        have hR86 := xR_a (k := 75) (j := z27.toInt.toNat) (x := Int32.ofInt 1) c62_0 (by exact f_rng _)
        have hF86 := f_fr_up (k := 75) (r := upd (I62 75) (z27.toInt.toNat) (Int32.ofInt 1)) hF62 rfl
        have hxO86 := f_dep_up xO_dep (k := 75) (r := upd (I62 75) (z27.toInt.toNat) (Int32.ofInt 1)) hxO62 rfl
        have hxT86 := f_dep_up xT_dep (k := 75) (r := upd (I62 75) (z27.toInt.toNat) (Int32.ofInt 1)) c62_1 rfl
        have hxS86 := f_dep_up xS_dep (k := 75) (r := upd (I62 75) (z27.toInt.toNat) (Int32.ofInt 1)) hxS62 rfl
        refine And.intro (show f_in z27 144 from ⟨show 0 ≤ z27.toInt from by omega, show z27.toInt < 144 from by omega⟩) ?_
        apply And.intro
        · intro h94
          have h94 : ¬ ((upd (I62 75) (z27.toInt.toNat) (Int32.ofInt 1)) (z27.toInt.toNat)).toInt = 1 := h94
          exact ⟨Or.inl rfl, hR86, hxO86, hxT86, hxS86, hF86, hG75, (show ((0 : Int) = 0 ∨ (0 : Int) = 1) from by first | assumption | omega | rfl)⟩
        · intro h94
          have h94 : ((upd (I62 75) (z27.toInt.toNat) (Int32.ofInt 1)) (z27.toInt.toNat)).toInt = 1 := h94
          exact ⟨Or.inr rfl, hR86, hxO86, hxT86, hxS86, hF86, hG75, (show ((1 : Int) = 0 ∨ (1 : Int) = 1) from by first | assumption | omega | rfl)⟩
theorem mul12 {x y z q : Int} (hx0 : 0 ≤ x) (hx : x ≤ 10) (hy0 : 0 ≤ y) (hy : y ≤ 12) (hz : z = x * y + 4294967296 * q) (hl : -2147483648 ≤ z) (hu : z ≤ 2147483647) : z = x * y ∧ 0 ≤ z ∧ z ≤ 120 := by
  have h1 : 0 ≤ x * y := Int.mul_nonneg hx0 hy0
  have h2 : x * y ≤ 10 * 12 := Int.mul_le_mul hx hy hy0 (by decide)
  omega
theorem div_b {v y n : Int} (hv : 0 ≤ v) (hy : 0 < y) (h : v < n * y) : 0 ≤ v / y ∧ v / y < n := ⟨Int.ediv_nonneg hv (by omega), Int.ediv_lt_of_lt_mul hy h⟩
theorem mod_b {v y : Int} (hy : 0 < y) : 0 ≤ v % y ∧ v % y < y := ⟨Int.emod_nonneg _ (by omega), Int.emod_lt_of_pos _ hy⟩
def tX6_putTwo : List (Instr × Nat) := [(.aload_n 0, 1), (.getfield 31, 3), (.getfield 125, 3), (.istore_n 1, 1), (.iload_n 1, 1), (.iconst 1, 1), (.if_icmp .ge 5, 3), (.iconst 0, 1), (.ireturn, 1), (.aload_n 0, 1), (.getfield 20, 3), (.iconst 0, 1), (.invokestatic 53, 3), (.iconst 0, 1), (.istore_n 2, 1), (.iload_n 2, 1), (.aload_n 0, 1), (.getfield 39, 3), (.getfield 63, 3), (.iconst 1, 1), (.iadd, 1), (.iload_n 1, 1), (.imul, 1), (.if_icmp .ge 90, 3), (.iload_n 2, 1), (.iload_n 1, 1), (.idiv, 1), (.istore_n 3, 1), (.aload_n 0, 1), (.iload_n 3, 1), (.iload_n 2, 1), (.iload_n 1, 1), (.irem, 1), (.invokevirtual 128, 3), (.ifCond .ne 6, 3), (.goto 66, 3), (.iload_n 3, 1), (.iload_n 1, 1), (.imul, 1), (.istore 4, 2), (.iload 4, 2), (.aload_n 0, 1), (.getfield 39, 3), (.getfield 63, 3), (.iconst 2, 1), (.iadd, 1), (.iload_n 1, 1), (.imul, 1), (.if_icmp .ge 45, 3), (.aload_n 0, 1), (.iload 4, 2), (.iload_n 1, 1), (.idiv, 1), (.iload 4, 2), (.iload_n 1, 1), (.irem, 1), (.invokevirtual 131, 3), (.istore 5, 2), (.iload 5, 2), (.ifCond .eq 20, 3), (.aload_n 0, 1), (.invokevirtual 134, 3), (.ifCond .eq 13, 3), (.aload_n 0, 1), (.iconst 2, 1), (.invokevirtual 116, 3), (.ifCond .eq 5, 3), (.iconst 1, 1), (.ireturn, 1), (.iinc 4 1, 3), (.goto (-55), 3), (.iinc 2 1, 3), (.goto (-99), 3), (.iconst 0, 1), (.ireturn, 1)]
theorem tX6_putTwo_ok : f_chk cX6_putTwo 0 tX6_putTwo = true := by decide +kernel
def pX6_putTwo (av : List Value) (I : fM) (L : fN) : Prop := match av with
  | [.ref 72] => xR I ∧ xO I ∧ xT I ∧ xS I ∧ (I 40 6).toInt ≤ 6
  | _ => False
def qX6_putTwo (av : List Value) (I : fM) (L : fN) (r : Value) (I' : fM) (L' : fN) : Prop := match av, r with
  | [.ref 72], .int x => xR I' ∧ xO I' ∧ xT I' ∧ xS I' ∧ f_fr [25, 26, 27, 28, 31, 32, 33, 34, 35, 36, 37, 38, 39, 69, 74, 75] I I' ∧ f_fr [29, 30, 70] L L' ∧ (x.toInt = 0 ∨ x.toInt = 1)
  | _, _ => False
set_option maxHeartbeats 4000000 in
set_option maxRecDepth 100000 in
theorem mX6_putTwo {l : Launch} {a : Nat → Nat} {cy dC : Nat → ClassId} {dI : Nat → Nat → Nat} (hinj : ∀ i j, i < 80 → j < 80 → a i = a j → i = j) : f_Met (xE a) l xY 80 a cy dC dI yX6_putTwo cX6_putTwo 6 3 37 pX6_putTwo qX6_putTwo := by
  refine f_met_of (xE_c a) hinj xY_hi (by decide) (fun av I L h => by unfold pX6_putTwo at h; split at h <;> first | exact Nat.le_of_ble_eq_true rfl | exact h.elim) ?_
  intro pP eP sP mP aP bP hP9 cP C av I L hp
  unfold pX6_putTwo at hp
  split at hp
  case h_2 => exact hp.elim
  case h_1 =>
    obtain ⟨hR, hxO, hxT, hxS, p4⟩ := hp
    have hn : 0 ≤ (I 40 6).toInt ∧ (I 40 6).toInt ≤ 8 := hR 40 6
    have hw : 0 ≤ (I 15 10).toInt ∧ (I 15 10).toInt ≤ 12 := hR 15 10
    have hF0 : f_fr [25, 26, 27, 28, 31, 32, 33, 34, 35, 36, 37, 38, 39, 69, 74, 75] I I := f_fr_rf
    have hG0 : f_fr [29, 30, 70] L L := f_fr_rf
    have lp25 : ∀ (n25 : Nat), ∀ (wd : Int32) (f : Int32) (J25 : fM) (M25 : fN), xR J25 ∧ f_fr [25, 26, 27, 28, 31, 32, 33, 34, 35, 36, 37, 38, 39, 69, 74, 75] I J25 ∧ f_fr [29, 30, 70] L M25 ∧ xO J25 ∧ xT J25 ∧ xS J25 ∧ (1 ≤ wd.toInt) ∧ (wd.toInt ≤ 12) ∧ (0 ≤ f.toInt) ∧ (f.toInt ≤ 2147483647) ∧ (2147483647 - f.toInt) < n25 → f_W pP l eP (f_rm 37) sP mP aP bP hP9 cP xY 80 a cy dC dI 6 (f_K 3 (qX6_putTwo [.ref 72] I L)) 25 [(2, .int f), (1, .int wd), (0, .ref 72)] [] J25 M25 := by
      intro n25
      induction n25 with
      | zero =>
        intro wd f J25 M25 h9
        obtain ⟨hR25c, hF25c, hG25c, hxO25c, hxT25c, hxS25c, u25_1, u25_2, u25_3, u25_4, hm25⟩ := h9
        omega
      | succ n25 ih25 =>
        intro wd f J25 M25 h9
        obtain ⟨hR25c, hF25c, hG25c, hxO25c, hxT25c, hxS25c, u25_1, u25_2, u25_3, u25_4, hm25⟩ := h9
        have lp63 : ∀ (n63 : Nat), ∀ (p : Int32) (g : Int32) (J63 : fM) (M63 : fN), xR J63 ∧ f_fr [25, 26, 27, 28, 31, 32, 33, 34, 35, 36, 37, 38, 39, 69, 74, 75] I J63 ∧ f_fr [29, 30, 70] L M63 ∧ xO J63 ∧ xT J63 ∧ xS J63 ∧ (f.toInt ≤ 120) ∧ (0 ≤ g.toInt) ∧ (g.toInt ≤ 2147483647) ∧ (0 ≤ (J63 74 1).toInt) ∧ (0 ≤ (J63 74 3).toInt) ∧ ((J63 74 3).toInt ≤ 11) ∧ (2147483647 - g.toInt) < n63 → f_W pP l eP (f_rm 37) sP mP aP bP hP9 cP xY 80 a cy dC dI 6 (f_K 3 (qX6_putTwo [.ref 72] I L)) 63 [(4, .int g), (3, .int p), (2, .int f), (1, .int wd), (0, .ref 72)] [] J63 M63 := by
          intro n63
          induction n63 with
          | zero =>
            intro p g J63 M63 h9
            obtain ⟨hR63c, hF63c, hG63c, hxO63c, hxT63c, hxS63c, u63_1, u63_2, u63_3, u63_4, u63_5, u63_6, hm63⟩ := h9
            omega
          | succ n63 ih63 =>
            intro p g J63 M63 h9
            obtain ⟨hR63c, hF63c, hG63c, hxO63c, hxT63c, hxS63c, u63_1, u63_2, u63_3, u63_4, u63_5, u63_6, hm63⟩ := h9
            refine f_wp_ok C f_cl flX6_ok fiX6_ok fjX6_ok (sn := none) (fun j h => by cases h) (cs := (f_cnl [(128, (3, 3, 6, pX6_putFirst, qX6_putFirst)), (131, (3, 3, 6, pX6_putSecond, qX6_putSecond)), (134, (1, 3, 6, pX6_canPairComeOutEven, qX6_canPairComeOutEven)), (116, (2, 3, 6, pX6_isSentenceWith, qX6_isSentenceWith))])) (cz := (f_cnl [(53, (2, 0, 0, pJ7_fill_53178, qJ7_fill_53178))])) (f_cnl_of (P := fun j S => f_cok pP l eP (f_rm 37) sP mP aP bP hP9 cP xY 80 a cy dC dI 6 _ _ (.invokevirtual j) true S) (List.forall_mem_cons.mpr ⟨f_cokV C (mX6_putFirst hinj) (ci := 6) rfl (List.forall_mem_cons.mpr ⟨(mlX6_ok _ (List.mem_of_getElem? (i := 16) rfl)), kc_X6_putFirst⟩) (by decide +kernel) ⟨Nat.le_of_ble_eq_true rfl, Nat.le_of_ble_eq_true rfl⟩, List.forall_mem_cons.mpr ⟨f_cokV C (mX6_putSecond hinj) (ci := 6) rfl (List.forall_mem_cons.mpr ⟨(mlX6_ok _ (List.mem_of_getElem? (i := 17) rfl)), kc_X6_putSecond⟩) (by decide +kernel) ⟨Nat.le_of_ble_eq_true rfl, Nat.le_of_ble_eq_true rfl⟩, List.forall_mem_cons.mpr ⟨f_cokV C (mX6_canPairComeOutEven hinj) (ci := 6) rfl (List.forall_mem_cons.mpr ⟨(mlX6_ok _ (List.mem_of_getElem? (i := 18) rfl)), kc_X6_canPairComeOutEven⟩) (by decide +kernel) ⟨Nat.le_of_ble_eq_true rfl, Nat.le_of_ble_eq_true rfl⟩, List.forall_mem_cons.mpr ⟨f_cokV C (mX6_isSentenceWith hinj) (ci := 6) rfl (List.forall_mem_cons.mpr ⟨(mlX6_ok _ (List.mem_of_getElem? (i := 13) rfl)), kc_X6_isSentenceWith⟩) (by decide +kernel) ⟨Nat.le_of_ble_eq_true rfl, Nat.le_of_ble_eq_true rfl⟩, fun _ h => absurd h List.not_mem_nil⟩⟩⟩⟩)) (f_cnl_of (P := fun j S => f_cok pP l eP (f_rm 37) sP mP aP bP hP9 cP xY 80 a cy dC dI 6 _ _ (.invokestatic j) false S) (List.forall_mem_cons.mpr ⟨f_cokS C (mJ7_fill_53178 hinj) (List.forall_mem_cons.mpr ⟨(mlX6_ok _ (List.mem_of_getElem? (i := 1) rfl)), kc_J7_fill_53178⟩) (by decide +kernel) ⟨Nat.le_of_ble_eq_true rfl, Nat.le_of_ble_eq_true rfl⟩, fun _ h => absurd h List.not_mem_nil⟩)) tX6_putTwo_ok (cut := (f_cnl [(25, (fun (ls' : fLs) (st' : List Value) (I' : fM) (L' : fN) => ∃ wd : Int32, ∃ f : Int32, (∀ q ∈ ([(2, .int f), (1, .int wd), (0, .ref 72)] : fLs), q ∈ ls') ∧ st' = [] ∧ (xR I' ∧ f_fr [25, 26, 27, 28, 31, 32, 33, 34, 35, 36, 37, 38, 39, 69, 74, 75] I I' ∧ f_fr [29, 30, 70] L L' ∧ xO I' ∧ xT I' ∧ xS I' ∧ (1 ≤ wd.toInt) ∧ (wd.toInt ≤ 12) ∧ (0 ≤ f.toInt) ∧ (f.toInt ≤ 2147483647) ∧ (2147483647 - f.toInt) < n25))), (63, (fun (ls' : fLs) (st' : List Value) (I' : fM) (L' : fN) => ∃ p : Int32, ∃ g : Int32, (∀ q ∈ ([(4, .int g), (3, .int p), (2, .int f), (1, .int wd), (0, .ref 72)] : fLs), q ∈ ls') ∧ st' = [] ∧ (xR I' ∧ f_fr [25, 26, 27, 28, 31, 32, 33, 34, 35, 36, 37, 38, 39, 69, 74, 75] I I' ∧ f_fr [29, 30, 70] L L' ∧ xO I' ∧ xT I' ∧ xS I' ∧ (f.toInt ≤ 120) ∧ (0 ≤ g.toInt) ∧ (g.toInt ≤ 2147483647) ∧ (0 ≤ (I' 74 1).toInt) ∧ (0 ≤ (I' 74 3).toInt) ∧ ((I' 74 3).toInt ≤ 11) ∧ (2147483647 - g.toInt) < n63)))])) (f_cnl_of (P := fun (tQ : Nat) (P : fLs → List Value → fM → fN → Prop) => ∀ ls' st' I' L', P ls' st' I' L' → f_W pP l eP (f_rm 37) sP mP aP bP hP9 cP xY 80 a cy dC dI 6 (f_K 3 (qX6_putTwo [.ref 72] I L)) tQ ls' st' I' L') (List.forall_mem_cons.mpr ⟨(fun ls' st' I' L' h => by obtain ⟨wd, f, hs, e1, h9⟩ := h; rw [e1]; exact f_W_sub hs (ih25 wd f I' L' h9)), List.forall_mem_cons.mpr ⟨(fun ls' st' I' L' h => by obtain ⟨p, g, hs, e1, h9⟩ := h; rw [e1]; exact f_W_sub hs (ih63 p g I' L' h9)), fun _ h => absurd h List.not_mem_nil⟩⟩)) 32 63 (f_seek 63 0 tX6_putTwo) (f_seek_ok 63 0 tX6_putTwo tX6_putTwo_ok) _ _ _ _ ?_
            have r69_1 : 0 ≤ (J63 40 6).toInt ∧ (J63 40 6).toInt ≤ 8 := hR63c 40 6
            have e69_2 : (J63 40 6).toInt = (I 40 6).toInt := congrArg Int32.toInt (congrFun (hF63c 40 rfl) 6)
            intro z73 q73 _ hq73 hl73 hu73
            have hq73 : z73.toInt = (J63 40 6).toInt + 2 + 4294967296 * q73 := hq73
            try have hz73 : z73.toInt = (J63 40 6).toInt + 2 := by omega
            intro z75 q75 _ hq75 hl75 hu75
            have hq75 : z75.toInt = z73.toInt * wd.toInt + 4294967296 * q75 := hq75
            have m75 := mul12 (x := z73.toInt) (y := wd.toInt) (by omega) (by omega) (by omega) (by omega) hq75 hl75 hu75
            apply And.intro
            · intro h76
              have h76 : z75.toInt ≤ g.toInt := h76
              intro z121 q121 _ hq121 hl121 hu121
              have hq121 : z121.toInt = f.toInt + 1 + 4294967296 * q121 := hq121
              try have hz121 : z121.toInt = f.toInt + 1 := by omega
              exact ⟨wd, z121, (by intro q9 h9; simp only [List.mem_cons, List.not_mem_nil, or_false] at h9; rcases h9 with h9 | h9 | h9 <;> subst h9 <;> repeat (first | exact List.mem_cons_self | apply List.mem_cons_of_mem)), rfl, hR63c, hF63c, hG63c, hxO63c, hxT63c, hxS63c, (show 1 ≤ wd.toInt from by first | assumption | omega), (show wd.toInt ≤ 12 from by first | assumption | omega), (show 0 ≤ z121.toInt from by first | assumption | omega), (show z121.toInt ≤ 2147483647 from by first | assumption | omega), (show (2147483647 - z121.toInt) < n25 from by omega)⟩
            · intro h76
              have h76 : g.toInt < z75.toInt := h76
              refine And.intro (f_ne0 (show wd.toInt ≠ 0 from by omega)) ?_
              have d83 := t_div (x := g) (y := wd) (by omega) (show 0 < wd.toInt from by omega)
              have d83b : 0 ≤ (g / wd).toInt ∧ (g / wd).toInt < z73.toInt := by rw [d83]; exact div_b (by omega) (by omega) (by rw [← m75.1]; omega)
              refine And.intro (f_ne0 (show wd.toInt ≠ 0 from by omega)) ?_
              try have d87 : (g - g / wd * wd).toInt = g.toInt % wd.toInt := t_rem (show 0 ≤ g.toInt from by omega) (show 0 < wd.toInt from by omega)
              have d87b : 0 ≤ (g - g / wd * wd).toInt ∧ (g - g / wd * wd).toInt < wd.toInt := by rw [d87]; exact mod_b (by omega)
              refine And.intro hR63c ?_
              intro x88 I88 L88 hq88
              have hq88 : xR I88 ∧ f_fr [74] J63 I88 ∧ L88 = M63 ∧ (I88 74 2).toInt = (g / wd).toInt ∧ (I88 74 4).toInt = (g - g / wd * wd).toInt ∧ (I88 74 1).toInt = (J63 74 1).toInt ∧ (I88 74 3).toInt = (J63 74 3).toInt ∧ ((x88.toInt = 0 ∨ x88.toInt = 1)) := hq88
              obtain ⟨c88_0, c88_1, eL88, c88_3, c88_4, c88_5, c88_6, c88_7⟩ := hq88
              replace eL88 := eL88.symm
              subst eL88
              have hxO88 := f_dep_fr xO_dep hxO63c c88_1 rfl
              have hxT88 := f_dep_fr xT_dep hxT63c c88_1 rfl
              have hxS88 := f_dep_fr xS_dep hxS63c c88_1 rfl
              have hF88 := f_fr_tr hF63c c88_1 rfl
              apply And.intro
              · intro h95
                have h95 : x88.toInt = 0 := h95
                intro z115 q115 _ hq115 hl115 hu115
                have hq115 : z115.toInt = g.toInt + 1 + 4294967296 * q115 := hq115
                try have hz115 : z115.toInt = g.toInt + 1 := by omega
                exact ⟨p, z115, (by intro q9 h9; simp only [List.mem_cons, List.not_mem_nil, or_false] at h9; rcases h9 with h9 | h9 | h9 | h9 | h9 <;> subst h9 <;> repeat (first | exact List.mem_cons_self | apply List.mem_cons_of_mem)), rfl, c88_0, hF88, hG63c, hxO88, hxT88, hxS88, (show f.toInt ≤ 120 from by first | assumption | omega), (show 0 ≤ z115.toInt from by first | assumption | omega), (show z115.toInt ≤ 2147483647 from by first | assumption | omega), (show 0 ≤ (I88 74 1).toInt from by first | assumption | omega), (show 0 ≤ (I88 74 3).toInt from by first | assumption | omega), (show (I88 74 3).toInt ≤ 11 from by first | assumption | omega), (show (2147483647 - z115.toInt) < n63 from by omega)⟩
              · intro h95
                have h95 : ¬ x88.toInt = 0 := h95
                refine And.intro ⟨c88_0, hxO88, hxT88, hxS88, (show 0 ≤ (I88 74 3).toInt from by first | assumption | omega), (show (I88 74 3).toInt ≤ 11 from by first | assumption | omega), (show 0 ≤ (I88 74 4).toInt from by first | assumption | omega), (show (I88 74 4).toInt ≤ 11 from by first | assumption | omega)⟩ ?_
                intro x99 I99 L99 hq99
                have hq99 : xR I99 ∧ xO I99 ∧ xT I99 ∧ xS I99 ∧ f_fr [25, 26, 27, 28, 31, 32, 33, 34, 35, 36, 37, 38, 39, 69, 75] I88 I99 ∧ f_fr [29, 30, 70] M63 L99 ∧ ((x99.toInt = 0 ∨ x99.toInt = 1)) := hq99
                obtain ⟨c99_0, c99_1, c99_2, c99_3, c99_4, c99_5, c99_6⟩ := hq99
                have hF99 := f_fr_tr hF88 c99_4 rfl
                have hG99 := f_fr_tr hG63c c99_5 rfl
                apply And.intro
                · intro h102
                  have h102 : x99.toInt = 0 := h102
                  intro z115 q115 _ hq115 hl115 hu115
                  have hq115 : z115.toInt = g.toInt + 1 + 4294967296 * q115 := hq115
                  try have hz115 : z115.toInt = g.toInt + 1 := by omega
                  have e63_6 : (I99 74 1).toInt = (I88 74 1).toInt := congrArg Int32.toInt (congrFun (c99_4 74 rfl) 1)
                  have e63_8 : (I99 74 3).toInt = (I88 74 3).toInt := congrArg Int32.toInt (congrFun (c99_4 74 rfl) 3)
                  exact ⟨p, z115, (by intro q9 h9; simp only [List.mem_cons, List.not_mem_nil, or_false] at h9; rcases h9 with h9 | h9 | h9 | h9 | h9 <;> subst h9 <;> repeat (first | exact List.mem_cons_self | apply List.mem_cons_of_mem)), rfl, c99_0, hF99, hG99, c99_1, c99_2, c99_3, (show f.toInt ≤ 120 from by first | assumption | omega), (show 0 ≤ z115.toInt from by first | assumption | omega), (show z115.toInt ≤ 2147483647 from by first | assumption | omega), (show 0 ≤ (I99 74 1).toInt from by first | assumption | omega), (show 0 ≤ (I99 74 3).toInt from by first | assumption | omega), (show (I99 74 3).toInt ≤ 11 from by first | assumption | omega), (show (2147483647 - z115.toInt) < n63 from by omega)⟩
                · intro h102
                  have h102 : ¬ x99.toInt = 0 := h102
                  have r107_5 : 0 ≤ (I99 40 6).toInt ∧ (I99 40 6).toInt ≤ 8 := c99_0 40 6
                  have e107_6 : (I99 40 6).toInt = (I88 40 6).toInt := congrArg Int32.toInt (congrFun (c99_4 40 rfl) 6)
                  have e107_7 : (I88 40 6).toInt = (J63 40 6).toInt := congrArg Int32.toInt (congrFun (c88_1 40 rfl) 6)
                  have e107_9 : (I99 74 1).toInt = (I88 74 1).toInt := congrArg Int32.toInt (congrFun (c99_4 74 rfl) 1)
                  have e107_11 : (I99 74 3).toInt = (I88 74 3).toInt := congrArg Int32.toInt (congrFun (c99_4 74 rfl) 3)
                  have e107_13 : (I99 74 2).toInt = (I88 74 2).toInt := congrArg Int32.toInt (congrFun (c99_4 74 rfl) 2)
                  have e107_15 : (I99 74 4).toInt = (I88 74 4).toInt := congrArg Int32.toInt (congrFun (c99_4 74 rfl) 4)
                  refine And.intro ⟨c99_0, c99_1, c99_2, c99_3, (show 0 ≤ (2 : Int) from by first | assumption | omega), (show (I99 40 6).toInt + (2 : Int) ≤ 8 from by first | assumption | omega), (show (0 < (2 : Int) → 0 ≤ (I99 74 1).toInt ∧ 0 ≤ (I99 74 3).toInt ∧ (I99 74 3).toInt ≤ 11) from by first | assumption | omega), (show (1 < (2 : Int) → 0 ≤ (I99 74 2).toInt ∧ 0 ≤ (I99 74 4).toInt ∧ (I99 74 4).toInt ≤ 11) from by first | assumption | omega)⟩ ?_
                  intro x107 I107 L107 hq107
                  have hq107 : xR I107 ∧ xO I107 ∧ xT I107 ∧ xS I107 ∧ f_fr [25, 26, 27, 28, 31, 32, 33, 34, 35, 36, 37, 38, 39, 69] I99 I107 ∧ f_fr [29, 30, 70] L99 L107 ∧ ((x107.toInt = 0 ∨ x107.toInt = 1)) := hq107
                  obtain ⟨c107_0, c107_1, c107_2, c107_3, c107_4, c107_5, c107_6⟩ := hq107
                  have hF107 := f_fr_tr hF99 c107_4 rfl
                  have hG107 := f_fr_tr hG99 c107_5 rfl
                  apply And.intro
                  · intro h110
                    have h110 : x107.toInt = 0 := h110
                    intro z115 q115 _ hq115 hl115 hu115
                    have hq115 : z115.toInt = g.toInt + 1 + 4294967296 * q115 := hq115
                    try have hz115 : z115.toInt = g.toInt + 1 := by omega
                    have e63_17 : (I107 74 1).toInt = (I99 74 1).toInt := congrArg Int32.toInt (congrFun (c107_4 74 rfl) 1)
                    have e63_19 : (I107 74 3).toInt = (I99 74 3).toInt := congrArg Int32.toInt (congrFun (c107_4 74 rfl) 3)
                    exact ⟨p, z115, (by intro q9 h9; simp only [List.mem_cons, List.not_mem_nil, or_false] at h9; rcases h9 with h9 | h9 | h9 | h9 | h9 <;> subst h9 <;> repeat (first | exact List.mem_cons_self | apply List.mem_cons_of_mem)), rfl, c107_0, hF107, hG107, c107_1, c107_2, c107_3, (show f.toInt ≤ 120 from by first | assumption | omega), (show 0 ≤ z115.toInt from by first | assumption | omega), (show z115.toInt ≤ 2147483647 from by first | assumption | omega), (show 0 ≤ (I107 74 1).toInt from by first | assumption | omega), (show 0 ≤ (I107 74 3).toInt from by first | assumption | omega), (show (I107 74 3).toInt ≤ 11 from by first | assumption | omega), (show (2147483647 - z115.toInt) < n63 from by omega)⟩
                  · intro h110
                    have h110 : ¬ x107.toInt = 0 := h110
                    exact ⟨Or.inr rfl, c107_0, c107_1, c107_2, c107_3, hF107, hG107, (show ((1 : Int) = 0 ∨ (1 : Int) = 1) from by first | assumption | omega | rfl)⟩
        refine f_wp_ok C f_cl flX6_ok fiX6_ok fjX6_ok (sn := none) (fun j h => by cases h) (cs := (f_cnl [(128, (3, 3, 6, pX6_putFirst, qX6_putFirst)), (131, (3, 3, 6, pX6_putSecond, qX6_putSecond)), (134, (1, 3, 6, pX6_canPairComeOutEven, qX6_canPairComeOutEven)), (116, (2, 3, 6, pX6_isSentenceWith, qX6_isSentenceWith))])) (cz := (f_cnl [(53, (2, 0, 0, pJ7_fill_53178, qJ7_fill_53178))])) (f_cnl_of (P := fun j S => f_cok pP l eP (f_rm 37) sP mP aP bP hP9 cP xY 80 a cy dC dI 6 _ _ (.invokevirtual j) true S) (List.forall_mem_cons.mpr ⟨f_cokV C (mX6_putFirst hinj) (ci := 6) rfl (List.forall_mem_cons.mpr ⟨(mlX6_ok _ (List.mem_of_getElem? (i := 16) rfl)), kc_X6_putFirst⟩) (by decide +kernel) ⟨Nat.le_of_ble_eq_true rfl, Nat.le_of_ble_eq_true rfl⟩, List.forall_mem_cons.mpr ⟨f_cokV C (mX6_putSecond hinj) (ci := 6) rfl (List.forall_mem_cons.mpr ⟨(mlX6_ok _ (List.mem_of_getElem? (i := 17) rfl)), kc_X6_putSecond⟩) (by decide +kernel) ⟨Nat.le_of_ble_eq_true rfl, Nat.le_of_ble_eq_true rfl⟩, List.forall_mem_cons.mpr ⟨f_cokV C (mX6_canPairComeOutEven hinj) (ci := 6) rfl (List.forall_mem_cons.mpr ⟨(mlX6_ok _ (List.mem_of_getElem? (i := 18) rfl)), kc_X6_canPairComeOutEven⟩) (by decide +kernel) ⟨Nat.le_of_ble_eq_true rfl, Nat.le_of_ble_eq_true rfl⟩, List.forall_mem_cons.mpr ⟨f_cokV C (mX6_isSentenceWith hinj) (ci := 6) rfl (List.forall_mem_cons.mpr ⟨(mlX6_ok _ (List.mem_of_getElem? (i := 13) rfl)), kc_X6_isSentenceWith⟩) (by decide +kernel) ⟨Nat.le_of_ble_eq_true rfl, Nat.le_of_ble_eq_true rfl⟩, fun _ h => absurd h List.not_mem_nil⟩⟩⟩⟩)) (f_cnl_of (P := fun j S => f_cok pP l eP (f_rm 37) sP mP aP bP hP9 cP xY 80 a cy dC dI 6 _ _ (.invokestatic j) false S) (List.forall_mem_cons.mpr ⟨f_cokS C (mJ7_fill_53178 hinj) (List.forall_mem_cons.mpr ⟨(mlX6_ok _ (List.mem_of_getElem? (i := 1) rfl)), kc_J7_fill_53178⟩) (by decide +kernel) ⟨Nat.le_of_ble_eq_true rfl, Nat.le_of_ble_eq_true rfl⟩, fun _ h => absurd h List.not_mem_nil⟩)) tX6_putTwo_ok (cut := (f_cnl [(25, (fun (ls' : fLs) (st' : List Value) (I' : fM) (L' : fN) => ∃ wd : Int32, ∃ f : Int32, (∀ q ∈ ([(2, .int f), (1, .int wd), (0, .ref 72)] : fLs), q ∈ ls') ∧ st' = [] ∧ (xR I' ∧ f_fr [25, 26, 27, 28, 31, 32, 33, 34, 35, 36, 37, 38, 39, 69, 74, 75] I I' ∧ f_fr [29, 30, 70] L L' ∧ xO I' ∧ xT I' ∧ xS I' ∧ (1 ≤ wd.toInt) ∧ (wd.toInt ≤ 12) ∧ (0 ≤ f.toInt) ∧ (f.toInt ≤ 2147483647) ∧ (2147483647 - f.toInt) < n25))), (63, (fun (ls' : fLs) (st' : List Value) (I' : fM) (L' : fN) => ∃ p : Int32, ∃ g : Int32, (∀ q ∈ ([(4, .int g), (3, .int p), (2, .int f), (1, .int wd), (0, .ref 72)] : fLs), q ∈ ls') ∧ st' = [] ∧ (xR I' ∧ f_fr [25, 26, 27, 28, 31, 32, 33, 34, 35, 36, 37, 38, 39, 69, 74, 75] I I' ∧ f_fr [29, 30, 70] L L' ∧ xO I' ∧ xT I' ∧ xS I' ∧ (f.toInt ≤ 120) ∧ (0 ≤ g.toInt) ∧ (g.toInt ≤ 2147483647) ∧ (0 ≤ (I' 74 1).toInt) ∧ (0 ≤ (I' 74 3).toInt) ∧ ((I' 74 3).toInt ≤ 11) ∧ (2147483647 - g.toInt) < 2147483648)))])) (f_cnl_of (P := fun (tQ : Nat) (P : fLs → List Value → fM → fN → Prop) => ∀ ls' st' I' L', P ls' st' I' L' → f_W pP l eP (f_rm 37) sP mP aP bP hP9 cP xY 80 a cy dC dI 6 (f_K 3 (qX6_putTwo [.ref 72] I L)) tQ ls' st' I' L') (List.forall_mem_cons.mpr ⟨(fun ls' st' I' L' h => by obtain ⟨wd, f, hs, e1, h9⟩ := h; rw [e1]; exact f_W_sub hs (ih25 wd f I' L' h9)), List.forall_mem_cons.mpr ⟨(fun ls' st' I' L' h => by obtain ⟨p, g, hs, e1, h9⟩ := h; rw [e1]; exact f_W_sub hs (lp63 2147483648 p g I' L' h9)), fun _ h => absurd h List.not_mem_nil⟩⟩)) 27 25 (f_seek 25 0 tX6_putTwo) (f_seek_ok 25 0 tX6_putTwo tX6_putTwo_ok) _ _ _ _ ?_
        have r30_1 : 0 ≤ (J25 40 6).toInt ∧ (J25 40 6).toInt ≤ 8 := hR25c 40 6
        have e30_2 : (J25 40 6).toInt = (I 40 6).toInt := congrArg Int32.toInt (congrFun (hF25c 40 rfl) 6)
        intro z34 q34 _ hq34 hl34 hu34
        have hq34 : z34.toInt = (J25 40 6).toInt + 1 + 4294967296 * q34 := hq34
        try have hz34 : z34.toInt = (J25 40 6).toInt + 1 := by omega
        intro z36 q36 _ hq36 hl36 hu36
        have hq36 : z36.toInt = z34.toInt * wd.toInt + 4294967296 * q36 := hq36
        have m36 := mul12 (x := z34.toInt) (y := wd.toInt) (by omega) (by omega) (by omega) (by omega) hq36 hl36 hu36
        apply And.intro
        · intro h37
          have h37 : z36.toInt ≤ f.toInt := h37
          exact ⟨Or.inl rfl, hR25c, hxO25c, hxT25c, hxS25c, hF25c, hG25c, (show ((0 : Int) = 0 ∨ (0 : Int) = 1) from by first | assumption | omega | rfl)⟩
        · intro h37
          have h37 : f.toInt < z36.toInt := h37
          refine And.intro (f_ne0 (show wd.toInt ≠ 0 from by omega)) ?_
          have d42 := t_div (x := f) (y := wd) (by omega) (show 0 < wd.toInt from by omega)
          have d42b : 0 ≤ (f / wd).toInt ∧ (f / wd).toInt < z34.toInt := by rw [d42]; exact div_b (by omega) (by omega) (by rw [← m36.1]; omega)
          refine And.intro (f_ne0 (show wd.toInt ≠ 0 from by omega)) ?_
          try have d48 : (f - f / wd * wd).toInt = f.toInt % wd.toInt := t_rem (show 0 ≤ f.toInt from by omega) (show 0 < wd.toInt from by omega)
          have d48b : 0 ≤ (f - f / wd * wd).toInt ∧ (f - f / wd * wd).toInt < wd.toInt := by rw [d48]; exact mod_b (by omega)
          refine And.intro ⟨hR25c, (show 0 ≤ (f / wd).toInt from by first | assumption | omega), (show (f / wd).toInt ≤ 8 from by first | assumption | omega)⟩ ?_
          intro x49 I49 L49 hq49
          have hq49 : xR I49 ∧ f_fr [74] J25 I49 ∧ L49 = M25 ∧ (I49 74 1).toInt = (f / wd).toInt ∧ (I49 74 3).toInt = (f - f / wd * wd).toInt ∧ ((x49.toInt = 0 ∨ x49.toInt = 1)) := hq49
          obtain ⟨c49_0, c49_1, eL49, c49_3, c49_4, c49_5⟩ := hq49
          replace eL49 := eL49.symm
          subst eL49
          have hxO49 := f_dep_fr xO_dep hxO25c c49_1 rfl
          have hxT49 := f_dep_fr xT_dep hxT25c c49_1 rfl
          have hxS49 := f_dep_fr xS_dep hxS25c c49_1 rfl
          have hF49 := f_fr_tr hF25c c49_1 rfl
          apply And.intro
          · intro h52
            have h52 : ¬ x49.toInt = 0 := h52
            intro z60 q60 _ hq60 hl60 hu60
            have hq60 : z60.toInt = (f / wd).toInt * wd.toInt + 4294967296 * q60 := hq60
            have m60 := mul12 (x := (f / wd).toInt) (y := wd.toInt) (by omega) (by omega) (by omega) (by omega) hq60 hl60 hu60
            exact ⟨f / wd, z60, (by intro q9 h9; simp only [List.mem_cons, List.not_mem_nil, or_false] at h9; rcases h9 with h9 | h9 | h9 | h9 | h9 <;> subst h9 <;> repeat (first | exact List.mem_cons_self | apply List.mem_cons_of_mem)), rfl, c49_0, hF49, hG25c, hxO49, hxT49, hxS49, (show f.toInt ≤ 120 from by first | assumption | omega), (show 0 ≤ z60.toInt from by first | assumption | omega), (show z60.toInt ≤ 2147483647 from by first | assumption | omega), (show 0 ≤ (I49 74 1).toInt from by first | assumption | omega), (show 0 ≤ (I49 74 3).toInt from by first | assumption | omega), (show (I49 74 3).toInt ≤ 11 from by first | assumption | omega), (show (2147483647 - z60.toInt) < 2147483648 from by omega)⟩
          · intro h52
            have h52 : x49.toInt = 0 := h52
            intro z121 q121 _ hq121 hl121 hu121
            have hq121 : z121.toInt = f.toInt + 1 + 4294967296 * q121 := hq121
            try have hz121 : z121.toInt = f.toInt + 1 := by omega
            exact ⟨wd, z121, (by intro q9 h9; simp only [List.mem_cons, List.not_mem_nil, or_false] at h9; rcases h9 with h9 | h9 | h9 <;> subst h9 <;> repeat (first | exact List.mem_cons_self | apply List.mem_cons_of_mem)), rfl, c49_0, hF49, hG25c, hxO49, hxT49, hxS49, (show 1 ≤ wd.toInt from by first | assumption | omega), (show wd.toInt ≤ 12 from by first | assumption | omega), (show 0 ≤ z121.toInt from by first | assumption | omega), (show z121.toInt ≤ 2147483647 from by first | assumption | omega), (show (2147483647 - z121.toInt) < n25 from by omega)⟩
    refine f_wp_ok C f_cl flX6_ok fiX6_ok fjX6_ok (sn := none) (fun j h => by cases h) (cs := (f_cnl [(128, (3, 3, 6, pX6_putFirst, qX6_putFirst)), (131, (3, 3, 6, pX6_putSecond, qX6_putSecond)), (134, (1, 3, 6, pX6_canPairComeOutEven, qX6_canPairComeOutEven)), (116, (2, 3, 6, pX6_isSentenceWith, qX6_isSentenceWith))])) (cz := (f_cnl [(53, (2, 0, 0, pJ7_fill_53178, qJ7_fill_53178))])) (f_cnl_of (P := fun j S => f_cok pP l eP (f_rm 37) sP mP aP bP hP9 cP xY 80 a cy dC dI 6 _ _ (.invokevirtual j) true S) (List.forall_mem_cons.mpr ⟨f_cokV C (mX6_putFirst hinj) (ci := 6) rfl (List.forall_mem_cons.mpr ⟨(mlX6_ok _ (List.mem_of_getElem? (i := 16) rfl)), kc_X6_putFirst⟩) (by decide +kernel) ⟨Nat.le_of_ble_eq_true rfl, Nat.le_of_ble_eq_true rfl⟩, List.forall_mem_cons.mpr ⟨f_cokV C (mX6_putSecond hinj) (ci := 6) rfl (List.forall_mem_cons.mpr ⟨(mlX6_ok _ (List.mem_of_getElem? (i := 17) rfl)), kc_X6_putSecond⟩) (by decide +kernel) ⟨Nat.le_of_ble_eq_true rfl, Nat.le_of_ble_eq_true rfl⟩, List.forall_mem_cons.mpr ⟨f_cokV C (mX6_canPairComeOutEven hinj) (ci := 6) rfl (List.forall_mem_cons.mpr ⟨(mlX6_ok _ (List.mem_of_getElem? (i := 18) rfl)), kc_X6_canPairComeOutEven⟩) (by decide +kernel) ⟨Nat.le_of_ble_eq_true rfl, Nat.le_of_ble_eq_true rfl⟩, List.forall_mem_cons.mpr ⟨f_cokV C (mX6_isSentenceWith hinj) (ci := 6) rfl (List.forall_mem_cons.mpr ⟨(mlX6_ok _ (List.mem_of_getElem? (i := 13) rfl)), kc_X6_isSentenceWith⟩) (by decide +kernel) ⟨Nat.le_of_ble_eq_true rfl, Nat.le_of_ble_eq_true rfl⟩, fun _ h => absurd h List.not_mem_nil⟩⟩⟩⟩)) (f_cnl_of (P := fun j S => f_cok pP l eP (f_rm 37) sP mP aP bP hP9 cP xY 80 a cy dC dI 6 _ _ (.invokestatic j) false S) (List.forall_mem_cons.mpr ⟨f_cokS C (mJ7_fill_53178 hinj) (List.forall_mem_cons.mpr ⟨(mlX6_ok _ (List.mem_of_getElem? (i := 1) rfl)), kc_J7_fill_53178⟩) (by decide +kernel) ⟨Nat.le_of_ble_eq_true rfl, Nat.le_of_ble_eq_true rfl⟩, fun _ h => absurd h List.not_mem_nil⟩)) tX6_putTwo_ok (cut := (f_cnl [(25, (fun (ls' : fLs) (st' : List Value) (I' : fM) (L' : fN) => ∃ wd : Int32, ∃ f : Int32, (∀ q ∈ ([(2, .int f), (1, .int wd), (0, .ref 72)] : fLs), q ∈ ls') ∧ st' = [] ∧ (xR I' ∧ f_fr [25, 26, 27, 28, 31, 32, 33, 34, 35, 36, 37, 38, 39, 69, 74, 75] I I' ∧ f_fr [29, 30, 70] L L' ∧ xO I' ∧ xT I' ∧ xS I' ∧ (1 ≤ wd.toInt) ∧ (wd.toInt ≤ 12) ∧ (0 ≤ f.toInt) ∧ (f.toInt ≤ 2147483647) ∧ (2147483647 - f.toInt) < 2147483648)))])) (f_cnl_of (P := fun (tQ : Nat) (P : fLs → List Value → fM → fN → Prop) => ∀ ls' st' I' L', P ls' st' I' L' → f_W pP l eP (f_rm 37) sP mP aP bP hP9 cP xY 80 a cy dC dI 6 (f_K 3 (qX6_putTwo [.ref 72] I L)) tQ ls' st' I' L') (List.forall_mem_cons.mpr ⟨(fun ls' st' I' L' h => by obtain ⟨wd, f, hs, e1, h9⟩ := h; rw [e1]; exact f_W_sub hs (lp25 2147483648 wd f I' L' h9)), fun _ h => absurd h List.not_mem_nil⟩)) 16 0 tX6_putTwo tX6_putTwo_ok _ _ _ _ ?_
    have r4_1 : 0 ≤ (I 15 10).toInt ∧ (I 15 10).toInt ≤ 12 := hR 15 10
    apply And.intro
    · intro h10
      have h10 : 1 ≤ (I 15 10).toInt := h10
      refine And.intro ⟨(by decide), hR, (fun _ => f_rng _)⟩ ?_
      intro I20 L20 hq20
      have hq20 : xR I20 ∧ f_fr [75] I I20 ∧ L20 = L ∧ (∀ j : Nat, j < (fillN 75) → I20 75 j = (Int32.ofInt 0)) := hq20
      obtain ⟨c20_0, c20_1, eL20, c20_3⟩ := hq20
      replace eL20 := eL20.symm
      subst eL20
      have hxO20 := f_dep_fr xO_dep hxO c20_1 rfl
      have hxT20 := f_dep_fr xT_dep hxT c20_1 rfl
      have hxS20 := f_dep_fr xS_dep hxS c20_1 rfl
      have hF20 := f_fr_tr hF0 c20_1 rfl
      exact ⟨I 15 10, Int32.ofInt 0, (by intro q9 h9; simp only [List.mem_cons, List.not_mem_nil, or_false] at h9; rcases h9 with h9 | h9 | h9 <;> subst h9 <;> repeat (first | exact List.mem_cons_self | apply List.mem_cons_of_mem)), rfl, c20_0, hF20, hG0, hxO20, hxT20, hxS20, (show 1 ≤ (I 15 10).toInt from by first | assumption | omega), (show (I 15 10).toInt ≤ 12 from by first | assumption | omega), (show 0 ≤ (0 : Int) from by first | assumption | omega), (show (0 : Int) ≤ 2147483647 from by first | assumption | omega), (show (2147483647 - (0 : Int)) < 2147483648 from by omega)⟩
    · intro h10
      have h10 : (I 15 10).toInt < 1 := h10
      exact ⟨Or.inl rfl, hR, hxO, hxT, hxS, hF0, hG0, (show ((0 : Int) = 0 ∨ (0 : Int) = 1) from by first | assumption | omega | rfl)⟩
def tX6_findPutIn : List (Instr × Nat) := [(.aload_n 0, 1), (.getfield 15, 3), (.iconst 0, 1), (.iaload, 1), (.bipush (-2), 2), (.if_icmp .eq 4, 3), (.return_, 1), (.aload_n 0, 1), (.getfield 39, 3), (.getfield 63, 3), (.istore_n 1, 1), (.iconst (-1), 1), (.istore_n 2, 1), (.iload_n 1, 1), (.ifCond .le 16, 3), (.aload_n 0, 1), (.iconst 0, 1), (.invokevirtual 116, 3), (.ifCond .eq 8, 3), (.iconst 0, 1), (.istore_n 2, 1), (.goto 48, 3), (.iload_n 1, 1), (.ifCond .le 23, 3), (.iload_n 1, 1), (.iconst 1, 1), (.iadd, 1), (.bipush 8, 2), (.if_icmp .gt 15, 3), (.aload_n 0, 1), (.invokevirtual 119, 3), (.ifCond .eq 8, 3), (.iconst 1, 1), (.istore_n 2, 1), (.goto 24, 3), (.iload_n 1, 1), (.ifCond .le 20, 3), (.iload_n 1, 1), (.iconst 2, 1), (.iadd, 1), (.bipush 8, 2), (.if_icmp .gt 12, 3), (.aload_n 0, 1), (.invokevirtual 122, 3), (.ifCond .eq 5, 3), (.iconst 2, 1), (.istore_n 2, 1), (.aload_n 0, 1), (.getfield 15, 3), (.iconst 0, 1), (.iload_n 2, 1), (.iastore, 1), (.aload_n 0, 1), (.getfield 15, 3), (.iconst 1, 1), (.iload_n 2, 1), (.iconst 1, 1), (.if_icmp .ge 7, 3), (.iconst (-1), 1), (.goto 9, 3), (.aload_n 0, 1), (.getfield 15, 3), (.iconst 1, 1), (.iaload, 1), (.iastore, 1), (.aload_n 0, 1), (.getfield 15, 3), (.iconst 3, 1), (.iload_n 2, 1), (.iconst 1, 1), (.if_icmp .ge 7, 3), (.iconst (-1), 1), (.goto 9, 3), (.aload_n 0, 1), (.getfield 15, 3), (.iconst 3, 1), (.iaload, 1), (.iastore, 1), (.aload_n 0, 1), (.getfield 15, 3), (.iconst 2, 1), (.iload_n 2, 1), (.iconst 2, 1), (.if_icmp .ge 7, 3), (.iconst (-1), 1), (.goto 9, 3), (.aload_n 0, 1), (.getfield 15, 3), (.iconst 2, 1), (.iaload, 1), (.iastore, 1), (.aload_n 0, 1), (.getfield 15, 3), (.iconst 4, 1), (.iload_n 2, 1), (.iconst 2, 1), (.if_icmp .ge 7, 3), (.iconst (-1), 1), (.goto 9, 3), (.aload_n 0, 1), (.getfield 15, 3), (.iconst 4, 1), (.iaload, 1), (.iastore, 1), (.return_, 1)]
theorem tX6_findPutIn_ok : f_chk cX6_findPutIn 0 tX6_findPutIn = true := by decide +kernel
def pX6_findPutIn (av : List Value) (I : fM) (L : fN) : Prop := match av with
  | [.ref 72] => xR I ∧ xO I ∧ xT I ∧ xS I
  | _ => False
def qX6_findPutIn (av : List Value) (I : fM) (L : fN) (r : Value) (I' : fM) (L' : fN) : Prop := match av, r with
  | [.ref 72], .null => xR I' ∧ xO I' ∧ xT I' ∧ xS I' ∧ f_fr [25, 26, 27, 28, 31, 32, 33, 34, 35, 36, 37, 38, 39, 69, 74, 75] I I' ∧ f_fr [29, 30, 70] L L'
  | _, _ => False
set_option maxHeartbeats 4000000 in
set_option maxRecDepth 100000 in
theorem mX6_findPutIn {l : Launch} {a : Nat → Nat} {cy dC : Nat → ClassId} {dI : Nat → Nat → Nat} (hinj : ∀ i j, i < 80 → j < 80 → a i = a j → i = j) : f_Met (xE a) l xY 80 a cy dC dI yX6_findPutIn cX6_findPutIn 3 0 38 pX6_findPutIn qX6_findPutIn := by
  refine f_met_of (xE_c a) hinj xY_hi (by decide) (fun av I L h => by unfold pX6_findPutIn at h; split at h <;> first | exact Nat.le_of_ble_eq_true rfl | exact h.elim) ?_
  intro pP eP sP mP aP bP hP9 cP C av I L hp
  unfold pX6_findPutIn at hp
  split at hp
  case h_2 => exact hp.elim
  case h_1 =>
    obtain ⟨hR, hxO, hxT, hxS⟩ := hp
    have hn : 0 ≤ (I 40 6).toInt ∧ (I 40 6).toInt ≤ 8 := hR 40 6
    have hF0 : f_fr [25, 26, 27, 28, 31, 32, 33, 34, 35, 36, 37, 38, 39, 69, 74, 75] I I := f_fr_rf
    have hG0 : f_fr [29, 30, 70] L L := f_fr_rf
    have lp154 : ∀ (m : Int32) (J154 : fM) (M154 : fN), xR J154 ∧ f_fr [25, 26, 27, 28, 31, 32, 33, 34, 35, 36, 37, 38, 39, 69, 74, 75] I J154 ∧ f_fr [29, 30, 70] L M154 ∧ xO J154 ∧ xT J154 ∧ xS J154 → f_W pP l eP (f_rm 38) sP mP aP bP hP9 cP xY 80 a cy dC dI 3 (f_K 0 (qX6_findPutIn [.ref 72] I L)) 154 [(2, .int m), (0, .ref 72)] [] J154 M154 := by
      intro m J154 M154 h9
      obtain ⟨hR154c, hF154c, hG154c, hxO154c, hxT154c, hxS154c⟩ := h9
      refine f_wp_ok C f_cl flX6_ok fiX6_ok fjX6_ok (sn := none) (fun j h => by cases h) (cs := (f_cnl [(116, (2, 3, 6, pX6_isSentenceWith, qX6_isSentenceWith)), (119, (1, 3, 6, pX6_putOne, qX6_putOne)), (122, (1, 3, 6, pX6_putTwo, qX6_putTwo))])) (cz := (fun _ => none)) (f_cnl_of (P := fun j S => f_cok pP l eP (f_rm 38) sP mP aP bP hP9 cP xY 80 a cy dC dI 3 _ _ (.invokevirtual j) true S) (List.forall_mem_cons.mpr ⟨f_cokV C (mX6_isSentenceWith hinj) (ci := 6) rfl (List.forall_mem_cons.mpr ⟨(mlX6_ok _ (List.mem_of_getElem? (i := 13) rfl)), kc_X6_isSentenceWith⟩) (by decide +kernel) ⟨Nat.le_of_ble_eq_true rfl, Nat.le_of_ble_eq_true rfl⟩, List.forall_mem_cons.mpr ⟨f_cokV C (mX6_putOne hinj) (ci := 6) rfl (List.forall_mem_cons.mpr ⟨(mlX6_ok _ (List.mem_of_getElem? (i := 14) rfl)), kc_X6_putOne⟩) (by decide +kernel) ⟨Nat.le_of_ble_eq_true rfl, Nat.le_of_ble_eq_true rfl⟩, List.forall_mem_cons.mpr ⟨f_cokV C (mX6_putTwo hinj) (ci := 6) rfl (List.forall_mem_cons.mpr ⟨(mlX6_ok _ (List.mem_of_getElem? (i := 15) rfl)), kc_X6_putTwo⟩) (by decide +kernel) ⟨Nat.le_of_ble_eq_true rfl, Nat.le_of_ble_eq_true rfl⟩, fun _ h => absurd h List.not_mem_nil⟩⟩⟩)) (fun j S h => by cases h) tX6_findPutIn_ok (cut := (fun _ => none)) (fun t P h => by cases h) 15 154 (f_seek 154 0 tX6_findPutIn) (f_seek_ok 154 0 tX6_findPutIn tX6_findPutIn_ok) _ _ _ _ ?_
      apply And.intro
      · intro h161
        have h161 : 2 ≤ m.toInt := h161
        refine And.intro (show f_in (Int32.ofInt 4) 5 from ⟨show 0 ≤ 4 from by omega, show 4 < 5 from by omega⟩) ?_
        refine And.intro (show f_in (Int32.ofInt 4) 5 from ⟨show 0 ≤ 4 from by omega, show 4 < 5 from by omega⟩) ?_
        have hR174 := xR_a (k := 74) (j := 4) (x := J154 74 4) hR154c (by exact f_rng _)
        have hF174 := f_fr_up (k := 74) (r := upd (J154 74) 4 (J154 74 4)) hF154c rfl
        have hxO174 := f_dep_up xO_dep (k := 74) (r := upd (J154 74) 4 (J154 74 4)) hxO154c rfl
        have hxT174 := f_dep_up xT_dep (k := 74) (r := upd (J154 74) 4 (J154 74 4)) hxT154c rfl
        have hxS174 := f_dep_up xS_dep (k := 74) (r := upd (J154 74) 4 (J154 74 4)) hxS154c rfl
        exact ⟨hR174, hxO174, hxT174, hxS174, hF174, hG154c⟩
      · intro h161
        have h161 : m.toInt < 2 := h161
        refine And.intro (show f_in (Int32.ofInt 4) 5 from ⟨show 0 ≤ 4 from by omega, show 4 < 5 from by omega⟩) ?_
        have hR174 := xR_a (k := 74) (j := 4) (x := Int32.ofInt (-1)) hR154c (by exact f_rng _)
        have hF174 := f_fr_up (k := 74) (r := upd (J154 74) 4 (Int32.ofInt (-1))) hF154c rfl
        have hxO174 := f_dep_up xO_dep (k := 74) (r := upd (J154 74) 4 (Int32.ofInt (-1))) hxO154c rfl
        have hxT174 := f_dep_up xT_dep (k := 74) (r := upd (J154 74) 4 (Int32.ofInt (-1))) hxT154c rfl
        have hxS174 := f_dep_up xS_dep (k := 74) (r := upd (J154 74) 4 (Int32.ofInt (-1))) hxS154c rfl
        exact ⟨hR174, hxO174, hxT174, hxS174, hF174, hG154c⟩
    have lp133 : ∀ (m : Int32) (J133 : fM) (M133 : fN), xR J133 ∧ f_fr [25, 26, 27, 28, 31, 32, 33, 34, 35, 36, 37, 38, 39, 69, 74, 75] I J133 ∧ f_fr [29, 30, 70] L M133 ∧ xO J133 ∧ xT J133 ∧ xS J133 → f_W pP l eP (f_rm 38) sP mP aP bP hP9 cP xY 80 a cy dC dI 3 (f_K 0 (qX6_findPutIn [.ref 72] I L)) 133 [(2, .int m), (0, .ref 72)] [] J133 M133 := by
      intro m J133 M133 h9
      obtain ⟨hR133c, hF133c, hG133c, hxO133c, hxT133c, hxS133c⟩ := h9
      refine f_wp_ok C f_cl flX6_ok fiX6_ok fjX6_ok (sn := none) (fun j h => by cases h) (cs := (f_cnl [(116, (2, 3, 6, pX6_isSentenceWith, qX6_isSentenceWith)), (119, (1, 3, 6, pX6_putOne, qX6_putOne)), (122, (1, 3, 6, pX6_putTwo, qX6_putTwo))])) (cz := (fun _ => none)) (f_cnl_of (P := fun j S => f_cok pP l eP (f_rm 38) sP mP aP bP hP9 cP xY 80 a cy dC dI 3 _ _ (.invokevirtual j) true S) (List.forall_mem_cons.mpr ⟨f_cokV C (mX6_isSentenceWith hinj) (ci := 6) rfl (List.forall_mem_cons.mpr ⟨(mlX6_ok _ (List.mem_of_getElem? (i := 13) rfl)), kc_X6_isSentenceWith⟩) (by decide +kernel) ⟨Nat.le_of_ble_eq_true rfl, Nat.le_of_ble_eq_true rfl⟩, List.forall_mem_cons.mpr ⟨f_cokV C (mX6_putOne hinj) (ci := 6) rfl (List.forall_mem_cons.mpr ⟨(mlX6_ok _ (List.mem_of_getElem? (i := 14) rfl)), kc_X6_putOne⟩) (by decide +kernel) ⟨Nat.le_of_ble_eq_true rfl, Nat.le_of_ble_eq_true rfl⟩, List.forall_mem_cons.mpr ⟨f_cokV C (mX6_putTwo hinj) (ci := 6) rfl (List.forall_mem_cons.mpr ⟨(mlX6_ok _ (List.mem_of_getElem? (i := 15) rfl)), kc_X6_putTwo⟩) (by decide +kernel) ⟨Nat.le_of_ble_eq_true rfl, Nat.le_of_ble_eq_true rfl⟩, fun _ h => absurd h List.not_mem_nil⟩⟩⟩)) (fun j S h => by cases h) tX6_findPutIn_ok (cut := (f_cnl [(154, (fun (ls' : fLs) (st' : List Value) (I' : fM) (L' : fN) => ∃ m : Int32, (∀ q ∈ ([(2, .int m), (0, .ref 72)] : fLs), q ∈ ls') ∧ st' = [] ∧ (xR I' ∧ f_fr [25, 26, 27, 28, 31, 32, 33, 34, 35, 36, 37, 38, 39, 69, 74, 75] I I' ∧ f_fr [29, 30, 70] L L' ∧ xO I' ∧ xT I' ∧ xS I')))])) (f_cnl_of (P := fun (tQ : Nat) (P : fLs → List Value → fM → fN → Prop) => ∀ ls' st' I' L', P ls' st' I' L' → f_W pP l eP (f_rm 38) sP mP aP bP hP9 cP xY 80 a cy dC dI 3 (f_K 0 (qX6_findPutIn [.ref 72] I L)) tQ ls' st' I' L') (List.forall_mem_cons.mpr ⟨(fun ls' st' I' L' h => by obtain ⟨m, hs, e1, h9⟩ := h; rw [e1]; exact f_W_sub hs (lp154 m I' L' h9)), fun _ h => absurd h List.not_mem_nil⟩)) 14 133 (f_seek 133 0 tX6_findPutIn) (f_seek_ok 133 0 tX6_findPutIn tX6_findPutIn_ok) _ _ _ _ ?_
      apply And.intro
      · intro h140
        have h140 : 2 ≤ m.toInt := h140
        refine And.intro (show f_in (Int32.ofInt 2) 5 from ⟨show 0 ≤ 2 from by omega, show 2 < 5 from by omega⟩) ?_
        refine And.intro (show f_in (Int32.ofInt 2) 5 from ⟨show 0 ≤ 2 from by omega, show 2 < 5 from by omega⟩) ?_
        have hR153 := xR_a (k := 74) (j := 2) (x := J133 74 2) hR133c (by exact f_rng _)
        have hF153 := f_fr_up (k := 74) (r := upd (J133 74) 2 (J133 74 2)) hF133c rfl
        have hxO153 := f_dep_up xO_dep (k := 74) (r := upd (J133 74) 2 (J133 74 2)) hxO133c rfl
        have hxT153 := f_dep_up xT_dep (k := 74) (r := upd (J133 74) 2 (J133 74 2)) hxT133c rfl
        have hxS153 := f_dep_up xS_dep (k := 74) (r := upd (J133 74) 2 (J133 74 2)) hxS133c rfl
        exact ⟨m, (by intro q9 h9; simp only [List.mem_cons, List.not_mem_nil, or_false] at h9; rcases h9 with h9 | h9 <;> subst h9 <;> repeat (first | exact List.mem_cons_self | apply List.mem_cons_of_mem)), rfl, hR153, hF153, hG133c, hxO153, hxT153, hxS153⟩
      · intro h140
        have h140 : m.toInt < 2 := h140
        refine And.intro (show f_in (Int32.ofInt 2) 5 from ⟨show 0 ≤ 2 from by omega, show 2 < 5 from by omega⟩) ?_
        have hR153 := xR_a (k := 74) (j := 2) (x := Int32.ofInt (-1)) hR133c (by exact f_rng _)
        have hF153 := f_fr_up (k := 74) (r := upd (J133 74) 2 (Int32.ofInt (-1))) hF133c rfl
        have hxO153 := f_dep_up xO_dep (k := 74) (r := upd (J133 74) 2 (Int32.ofInt (-1))) hxO133c rfl
        have hxT153 := f_dep_up xT_dep (k := 74) (r := upd (J133 74) 2 (Int32.ofInt (-1))) hxT133c rfl
        have hxS153 := f_dep_up xS_dep (k := 74) (r := upd (J133 74) 2 (Int32.ofInt (-1))) hxS133c rfl
        exact ⟨m, (by intro q9 h9; simp only [List.mem_cons, List.not_mem_nil, or_false] at h9; rcases h9 with h9 | h9 <;> subst h9 <;> repeat (first | exact List.mem_cons_self | apply List.mem_cons_of_mem)), rfl, hR153, hF153, hG133c, hxO153, hxT153, hxS153⟩
    have lp112 : ∀ (m : Int32) (J112 : fM) (M112 : fN), xR J112 ∧ f_fr [25, 26, 27, 28, 31, 32, 33, 34, 35, 36, 37, 38, 39, 69, 74, 75] I J112 ∧ f_fr [29, 30, 70] L M112 ∧ xO J112 ∧ xT J112 ∧ xS J112 → f_W pP l eP (f_rm 38) sP mP aP bP hP9 cP xY 80 a cy dC dI 3 (f_K 0 (qX6_findPutIn [.ref 72] I L)) 112 [(2, .int m), (0, .ref 72)] [] J112 M112 := by
      intro m J112 M112 h9
      obtain ⟨hR112c, hF112c, hG112c, hxO112c, hxT112c, hxS112c⟩ := h9
      refine f_wp_ok C f_cl flX6_ok fiX6_ok fjX6_ok (sn := none) (fun j h => by cases h) (cs := (f_cnl [(116, (2, 3, 6, pX6_isSentenceWith, qX6_isSentenceWith)), (119, (1, 3, 6, pX6_putOne, qX6_putOne)), (122, (1, 3, 6, pX6_putTwo, qX6_putTwo))])) (cz := (fun _ => none)) (f_cnl_of (P := fun j S => f_cok pP l eP (f_rm 38) sP mP aP bP hP9 cP xY 80 a cy dC dI 3 _ _ (.invokevirtual j) true S) (List.forall_mem_cons.mpr ⟨f_cokV C (mX6_isSentenceWith hinj) (ci := 6) rfl (List.forall_mem_cons.mpr ⟨(mlX6_ok _ (List.mem_of_getElem? (i := 13) rfl)), kc_X6_isSentenceWith⟩) (by decide +kernel) ⟨Nat.le_of_ble_eq_true rfl, Nat.le_of_ble_eq_true rfl⟩, List.forall_mem_cons.mpr ⟨f_cokV C (mX6_putOne hinj) (ci := 6) rfl (List.forall_mem_cons.mpr ⟨(mlX6_ok _ (List.mem_of_getElem? (i := 14) rfl)), kc_X6_putOne⟩) (by decide +kernel) ⟨Nat.le_of_ble_eq_true rfl, Nat.le_of_ble_eq_true rfl⟩, List.forall_mem_cons.mpr ⟨f_cokV C (mX6_putTwo hinj) (ci := 6) rfl (List.forall_mem_cons.mpr ⟨(mlX6_ok _ (List.mem_of_getElem? (i := 15) rfl)), kc_X6_putTwo⟩) (by decide +kernel) ⟨Nat.le_of_ble_eq_true rfl, Nat.le_of_ble_eq_true rfl⟩, fun _ h => absurd h List.not_mem_nil⟩⟩⟩)) (fun j S h => by cases h) tX6_findPutIn_ok (cut := (f_cnl [(133, (fun (ls' : fLs) (st' : List Value) (I' : fM) (L' : fN) => ∃ m : Int32, (∀ q ∈ ([(2, .int m), (0, .ref 72)] : fLs), q ∈ ls') ∧ st' = [] ∧ (xR I' ∧ f_fr [25, 26, 27, 28, 31, 32, 33, 34, 35, 36, 37, 38, 39, 69, 74, 75] I I' ∧ f_fr [29, 30, 70] L L' ∧ xO I' ∧ xT I' ∧ xS I')))])) (f_cnl_of (P := fun (tQ : Nat) (P : fLs → List Value → fM → fN → Prop) => ∀ ls' st' I' L', P ls' st' I' L' → f_W pP l eP (f_rm 38) sP mP aP bP hP9 cP xY 80 a cy dC dI 3 (f_K 0 (qX6_findPutIn [.ref 72] I L)) tQ ls' st' I' L') (List.forall_mem_cons.mpr ⟨(fun ls' st' I' L' h => by obtain ⟨m, hs, e1, h9⟩ := h; rw [e1]; exact f_W_sub hs (lp133 m I' L' h9)), fun _ h => absurd h List.not_mem_nil⟩)) 14 112 (f_seek 112 0 tX6_findPutIn) (f_seek_ok 112 0 tX6_findPutIn tX6_findPutIn_ok) _ _ _ _ ?_
      apply And.intro
      · intro h119
        have h119 : 1 ≤ m.toInt := h119
        refine And.intro (show f_in (Int32.ofInt 3) 5 from ⟨show 0 ≤ 3 from by omega, show 3 < 5 from by omega⟩) ?_
        refine And.intro (show f_in (Int32.ofInt 3) 5 from ⟨show 0 ≤ 3 from by omega, show 3 < 5 from by omega⟩) ?_
        have hR132 := xR_a (k := 74) (j := 3) (x := J112 74 3) hR112c (by exact f_rng _)
        have hF132 := f_fr_up (k := 74) (r := upd (J112 74) 3 (J112 74 3)) hF112c rfl
        have hxO132 := f_dep_up xO_dep (k := 74) (r := upd (J112 74) 3 (J112 74 3)) hxO112c rfl
        have hxT132 := f_dep_up xT_dep (k := 74) (r := upd (J112 74) 3 (J112 74 3)) hxT112c rfl
        have hxS132 := f_dep_up xS_dep (k := 74) (r := upd (J112 74) 3 (J112 74 3)) hxS112c rfl
        exact ⟨m, (by intro q9 h9; simp only [List.mem_cons, List.not_mem_nil, or_false] at h9; rcases h9 with h9 | h9 <;> subst h9 <;> repeat (first | exact List.mem_cons_self | apply List.mem_cons_of_mem)), rfl, hR132, hF132, hG112c, hxO132, hxT132, hxS132⟩
      · intro h119
        have h119 : m.toInt < 1 := h119
        refine And.intro (show f_in (Int32.ofInt 3) 5 from ⟨show 0 ≤ 3 from by omega, show 3 < 5 from by omega⟩) ?_
        have hR132 := xR_a (k := 74) (j := 3) (x := Int32.ofInt (-1)) hR112c (by exact f_rng _)
        have hF132 := f_fr_up (k := 74) (r := upd (J112 74) 3 (Int32.ofInt (-1))) hF112c rfl
        have hxO132 := f_dep_up xO_dep (k := 74) (r := upd (J112 74) 3 (Int32.ofInt (-1))) hxO112c rfl
        have hxT132 := f_dep_up xT_dep (k := 74) (r := upd (J112 74) 3 (Int32.ofInt (-1))) hxT112c rfl
        have hxS132 := f_dep_up xS_dep (k := 74) (r := upd (J112 74) 3 (Int32.ofInt (-1))) hxS112c rfl
        exact ⟨m, (by intro q9 h9; simp only [List.mem_cons, List.not_mem_nil, or_false] at h9; rcases h9 with h9 | h9 <;> subst h9 <;> repeat (first | exact List.mem_cons_self | apply List.mem_cons_of_mem)), rfl, hR132, hF132, hG112c, hxO132, hxT132, hxS132⟩
    have lp84 : ∀ (m : Int32) (J84 : fM) (M84 : fN), xR J84 ∧ f_fr [25, 26, 27, 28, 31, 32, 33, 34, 35, 36, 37, 38, 39, 69, 74, 75] I J84 ∧ f_fr [29, 30, 70] L M84 ∧ xO J84 ∧ xT J84 ∧ xS J84 → f_W pP l eP (f_rm 38) sP mP aP bP hP9 cP xY 80 a cy dC dI 3 (f_K 0 (qX6_findPutIn [.ref 72] I L)) 84 [(2, .int m), (0, .ref 72)] [] J84 M84 := by
      intro m J84 M84 h9
      obtain ⟨hR84c, hF84c, hG84c, hxO84c, hxT84c, hxS84c⟩ := h9
      refine f_wp_ok C f_cl flX6_ok fiX6_ok fjX6_ok (sn := none) (fun j h => by cases h) (cs := (f_cnl [(116, (2, 3, 6, pX6_isSentenceWith, qX6_isSentenceWith)), (119, (1, 3, 6, pX6_putOne, qX6_putOne)), (122, (1, 3, 6, pX6_putTwo, qX6_putTwo))])) (cz := (fun _ => none)) (f_cnl_of (P := fun j S => f_cok pP l eP (f_rm 38) sP mP aP bP hP9 cP xY 80 a cy dC dI 3 _ _ (.invokevirtual j) true S) (List.forall_mem_cons.mpr ⟨f_cokV C (mX6_isSentenceWith hinj) (ci := 6) rfl (List.forall_mem_cons.mpr ⟨(mlX6_ok _ (List.mem_of_getElem? (i := 13) rfl)), kc_X6_isSentenceWith⟩) (by decide +kernel) ⟨Nat.le_of_ble_eq_true rfl, Nat.le_of_ble_eq_true rfl⟩, List.forall_mem_cons.mpr ⟨f_cokV C (mX6_putOne hinj) (ci := 6) rfl (List.forall_mem_cons.mpr ⟨(mlX6_ok _ (List.mem_of_getElem? (i := 14) rfl)), kc_X6_putOne⟩) (by decide +kernel) ⟨Nat.le_of_ble_eq_true rfl, Nat.le_of_ble_eq_true rfl⟩, List.forall_mem_cons.mpr ⟨f_cokV C (mX6_putTwo hinj) (ci := 6) rfl (List.forall_mem_cons.mpr ⟨(mlX6_ok _ (List.mem_of_getElem? (i := 15) rfl)), kc_X6_putTwo⟩) (by decide +kernel) ⟨Nat.le_of_ble_eq_true rfl, Nat.le_of_ble_eq_true rfl⟩, fun _ h => absurd h List.not_mem_nil⟩⟩⟩)) (fun j S h => by cases h) tX6_findPutIn_ok (cut := (f_cnl [(112, (fun (ls' : fLs) (st' : List Value) (I' : fM) (L' : fN) => ∃ m : Int32, (∀ q ∈ ([(2, .int m), (0, .ref 72)] : fLs), q ∈ ls') ∧ st' = [] ∧ (xR I' ∧ f_fr [25, 26, 27, 28, 31, 32, 33, 34, 35, 36, 37, 38, 39, 69, 74, 75] I I' ∧ f_fr [29, 30, 70] L L' ∧ xO I' ∧ xT I' ∧ xS I')))])) (f_cnl_of (P := fun (tQ : Nat) (P : fLs → List Value → fM → fN → Prop) => ∀ ls' st' I' L', P ls' st' I' L' → f_W pP l eP (f_rm 38) sP mP aP bP hP9 cP xY 80 a cy dC dI 3 (f_K 0 (qX6_findPutIn [.ref 72] I L)) tQ ls' st' I' L') (List.forall_mem_cons.mpr ⟨(fun ls' st' I' L' h => by obtain ⟨m, hs, e1, h9⟩ := h; rw [e1]; exact f_W_sub hs (lp112 m I' L' h9)), fun _ h => absurd h List.not_mem_nil⟩)) 19 84 (f_seek 84 0 tX6_findPutIn) (f_seek_ok 84 0 tX6_findPutIn tX6_findPutIn_ok) _ _ _ _ ?_
      refine And.intro (show f_in (Int32.ofInt 0) 5 from ⟨show 0 ≤ 0 from by omega, show 0 < 5 from by omega⟩) ?_
      have hR90 := xR_a (k := 74) (j := 0) (x := m) hR84c (by exact f_rng _)
      have hF90 := f_fr_up (k := 74) (r := upd (J84 74) 0 m) hF84c rfl
      have hxO90 := f_dep_up xO_dep (k := 74) (r := upd (J84 74) 0 m) hxO84c rfl
      have hxT90 := f_dep_up xT_dep (k := 74) (r := upd (J84 74) 0 m) hxT84c rfl
      have hxS90 := f_dep_up xS_dep (k := 74) (r := upd (J84 74) 0 m) hxS84c rfl
      apply And.intro
      · intro h98
        have h98 : 1 ≤ m.toInt := h98
        refine And.intro (show f_in (Int32.ofInt 1) 5 from ⟨show 0 ≤ 1 from by omega, show 1 < 5 from by omega⟩) ?_
        refine And.intro (show f_in (Int32.ofInt 1) 5 from ⟨show 0 ≤ 1 from by omega, show 1 < 5 from by omega⟩) ?_
        have hR111 := xR_a (k := 74) (j := 1) (x := J84 74 1) hR90 (by exact f_rng _)
        have hF111 := f_fr_up (k := 74) (r := upd (upd (J84 74) 0 m) 1 (J84 74 1)) hF90 rfl
        have hxO111 := f_dep_up xO_dep (k := 74) (r := upd (upd (J84 74) 0 m) 1 (J84 74 1)) hxO90 rfl
        have hxT111 := f_dep_up xT_dep (k := 74) (r := upd (upd (J84 74) 0 m) 1 (J84 74 1)) hxT90 rfl
        have hxS111 := f_dep_up xS_dep (k := 74) (r := upd (upd (J84 74) 0 m) 1 (J84 74 1)) hxS90 rfl
        exact ⟨m, (by intro q9 h9; simp only [List.mem_cons, List.not_mem_nil, or_false] at h9; rcases h9 with h9 | h9 <;> subst h9 <;> repeat (first | exact List.mem_cons_self | apply List.mem_cons_of_mem)), rfl, hR111, hF111, hG84c, hxO111, hxT111, hxS111⟩
      · intro h98
        have h98 : m.toInt < 1 := h98
        refine And.intro (show f_in (Int32.ofInt 1) 5 from ⟨show 0 ≤ 1 from by omega, show 1 < 5 from by omega⟩) ?_
        have hR111 := xR_a (k := 74) (j := 1) (x := Int32.ofInt (-1)) hR90 (by exact f_rng _)
        have hF111 := f_fr_up (k := 74) (r := upd (upd (J84 74) 0 m) 1 (Int32.ofInt (-1))) hF90 rfl
        have hxO111 := f_dep_up xO_dep (k := 74) (r := upd (upd (J84 74) 0 m) 1 (Int32.ofInt (-1))) hxO90 rfl
        have hxT111 := f_dep_up xT_dep (k := 74) (r := upd (upd (J84 74) 0 m) 1 (Int32.ofInt (-1))) hxT90 rfl
        have hxS111 := f_dep_up xS_dep (k := 74) (r := upd (upd (J84 74) 0 m) 1 (Int32.ofInt (-1))) hxS90 rfl
        exact ⟨m, (by intro q9 h9; simp only [List.mem_cons, List.not_mem_nil, or_false] at h9; rcases h9 with h9 | h9 <;> subst h9 <;> repeat (first | exact List.mem_cons_self | apply List.mem_cons_of_mem)), rfl, hR111, hF111, hG84c, hxO111, hxT111, hxS111⟩
    have lp63 : ∀ (wd : Int32) (m : Int32) (J63 : fM) (M63 : fN), xR J63 ∧ f_fr [25, 26, 27, 28, 31, 32, 33, 34, 35, 36, 37, 38, 39, 69, 74, 75] I J63 ∧ f_fr [29, 30, 70] L M63 ∧ xO J63 ∧ xT J63 ∧ xS J63 ∧ (wd.toInt = (I 40 6).toInt) → f_W pP l eP (f_rm 38) sP mP aP bP hP9 cP xY 80 a cy dC dI 3 (f_K 0 (qX6_findPutIn [.ref 72] I L)) 63 [(2, .int m), (1, .int wd), (0, .ref 72)] [] J63 M63 := by
      intro wd m J63 M63 h9
      obtain ⟨hR63c, hF63c, hG63c, hxO63c, hxT63c, hxS63c, u63_1⟩ := h9
      refine f_wp_ok C f_cl flX6_ok fiX6_ok fjX6_ok (sn := none) (fun j h => by cases h) (cs := (f_cnl [(116, (2, 3, 6, pX6_isSentenceWith, qX6_isSentenceWith)), (119, (1, 3, 6, pX6_putOne, qX6_putOne)), (122, (1, 3, 6, pX6_putTwo, qX6_putTwo))])) (cz := (fun _ => none)) (f_cnl_of (P := fun j S => f_cok pP l eP (f_rm 38) sP mP aP bP hP9 cP xY 80 a cy dC dI 3 _ _ (.invokevirtual j) true S) (List.forall_mem_cons.mpr ⟨f_cokV C (mX6_isSentenceWith hinj) (ci := 6) rfl (List.forall_mem_cons.mpr ⟨(mlX6_ok _ (List.mem_of_getElem? (i := 13) rfl)), kc_X6_isSentenceWith⟩) (by decide +kernel) ⟨Nat.le_of_ble_eq_true rfl, Nat.le_of_ble_eq_true rfl⟩, List.forall_mem_cons.mpr ⟨f_cokV C (mX6_putOne hinj) (ci := 6) rfl (List.forall_mem_cons.mpr ⟨(mlX6_ok _ (List.mem_of_getElem? (i := 14) rfl)), kc_X6_putOne⟩) (by decide +kernel) ⟨Nat.le_of_ble_eq_true rfl, Nat.le_of_ble_eq_true rfl⟩, List.forall_mem_cons.mpr ⟨f_cokV C (mX6_putTwo hinj) (ci := 6) rfl (List.forall_mem_cons.mpr ⟨(mlX6_ok _ (List.mem_of_getElem? (i := 15) rfl)), kc_X6_putTwo⟩) (by decide +kernel) ⟨Nat.le_of_ble_eq_true rfl, Nat.le_of_ble_eq_true rfl⟩, fun _ h => absurd h List.not_mem_nil⟩⟩⟩)) (fun j S h => by cases h) tX6_findPutIn_ok (cut := (f_cnl [(84, (fun (ls' : fLs) (st' : List Value) (I' : fM) (L' : fN) => ∃ m : Int32, (∀ q ∈ ([(2, .int m), (0, .ref 72)] : fLs), q ∈ ls') ∧ st' = [] ∧ (xR I' ∧ f_fr [25, 26, 27, 28, 31, 32, 33, 34, 35, 36, 37, 38, 39, 69, 74, 75] I I' ∧ f_fr [29, 30, 70] L L' ∧ xO I' ∧ xT I' ∧ xS I')))])) (f_cnl_of (P := fun (tQ : Nat) (P : fLs → List Value → fM → fN → Prop) => ∀ ls' st' I' L', P ls' st' I' L' → f_W pP l eP (f_rm 38) sP mP aP bP hP9 cP xY 80 a cy dC dI 3 (f_K 0 (qX6_findPutIn [.ref 72] I L)) tQ ls' st' I' L') (List.forall_mem_cons.mpr ⟨(fun ls' st' I' L' h => by obtain ⟨m, hs, e1, h9⟩ := h; rw [e1]; exact f_W_sub hs (lp84 m I' L' h9)), fun _ h => absurd h List.not_mem_nil⟩)) 15 63 (f_seek 63 0 tX6_findPutIn) (f_seek_ok 63 0 tX6_findPutIn tX6_findPutIn_ok) _ _ _ _ ?_
      apply And.intro
      · intro h64
        have h64 : wd.toInt ≤ 0 := h64
        exact ⟨m, (by intro q9 h9; simp only [List.mem_cons, List.not_mem_nil, or_false] at h9; rcases h9 with h9 | h9 <;> subst h9 <;> repeat (first | exact List.mem_cons_self | apply List.mem_cons_of_mem)), rfl, hR63c, hF63c, hG63c, hxO63c, hxT63c, hxS63c⟩
      · intro h64
        have h64 : 0 < wd.toInt := h64
        intro z69 q69 _ hq69 hl69 hu69
        have hq69 : z69.toInt = wd.toInt + 2 + 4294967296 * q69 := hq69
        try have hz69 : z69.toInt = wd.toInt + 2 := by omega
        apply And.intro
        · intro h72
          have h72 : 8 < z69.toInt := h72
          exact ⟨m, (by intro q9 h9; simp only [List.mem_cons, List.not_mem_nil, or_false] at h9; rcases h9 with h9 | h9 <;> subst h9 <;> repeat (first | exact List.mem_cons_self | apply List.mem_cons_of_mem)), rfl, hR63c, hF63c, hG63c, hxO63c, hxT63c, hxS63c⟩
        · intro h72
          have h72 : z69.toInt ≤ 8 := h72
          have r76_1 : 0 ≤ (J63 40 6).toInt ∧ (J63 40 6).toInt ≤ 8 := hR63c 40 6
          have e76_2 : (J63 40 6).toInt = (I 40 6).toInt := congrArg Int32.toInt (congrFun (hF63c 40 rfl) 6)
          refine And.intro ⟨hR63c, hxO63c, hxT63c, hxS63c, (show (J63 40 6).toInt ≤ 6 from by first | assumption | omega)⟩ ?_
          intro x76 I76 L76 hq76
          have hq76 : xR I76 ∧ xO I76 ∧ xT I76 ∧ xS I76 ∧ f_fr [25, 26, 27, 28, 31, 32, 33, 34, 35, 36, 37, 38, 39, 69, 74, 75] J63 I76 ∧ f_fr [29, 30, 70] M63 L76 ∧ ((x76.toInt = 0 ∨ x76.toInt = 1)) := hq76
          obtain ⟨c76_0, c76_1, c76_2, c76_3, c76_4, c76_5, c76_6⟩ := hq76
          have hF76 := f_fr_tr hF63c c76_4 rfl
          have hG76 := f_fr_tr hG63c c76_5 rfl
          apply And.intro
          · intro h79
            have h79 : x76.toInt = 0 := h79
            exact ⟨m, (by intro q9 h9; simp only [List.mem_cons, List.not_mem_nil, or_false] at h9; rcases h9 with h9 | h9 <;> subst h9 <;> repeat (first | exact List.mem_cons_self | apply List.mem_cons_of_mem)), rfl, c76_0, hF76, hG76, c76_1, c76_2, c76_3⟩
          · intro h79
            have h79 : ¬ x76.toInt = 0 := h79
            exact ⟨Int32.ofInt 2, (by intro q9 h9; simp only [List.mem_cons, List.not_mem_nil, or_false] at h9; rcases h9 with h9 | h9 <;> subst h9 <;> repeat (first | exact List.mem_cons_self | apply List.mem_cons_of_mem)), rfl, c76_0, hF76, hG76, c76_1, c76_2, c76_3⟩
    have lp39 : ∀ (wd : Int32) (m : Int32) (J39 : fM) (M39 : fN), xR J39 ∧ f_fr [25, 26, 27, 28, 31, 32, 33, 34, 35, 36, 37, 38, 39, 69, 74, 75] I J39 ∧ f_fr [29, 30, 70] L M39 ∧ xO J39 ∧ xT J39 ∧ xS J39 ∧ (wd.toInt = (I 40 6).toInt) → f_W pP l eP (f_rm 38) sP mP aP bP hP9 cP xY 80 a cy dC dI 3 (f_K 0 (qX6_findPutIn [.ref 72] I L)) 39 [(2, .int m), (1, .int wd), (0, .ref 72)] [] J39 M39 := by
      intro wd m J39 M39 h9
      obtain ⟨hR39c, hF39c, hG39c, hxO39c, hxT39c, hxS39c, u39_1⟩ := h9
      refine f_wp_ok C f_cl flX6_ok fiX6_ok fjX6_ok (sn := none) (fun j h => by cases h) (cs := (f_cnl [(116, (2, 3, 6, pX6_isSentenceWith, qX6_isSentenceWith)), (119, (1, 3, 6, pX6_putOne, qX6_putOne)), (122, (1, 3, 6, pX6_putTwo, qX6_putTwo))])) (cz := (fun _ => none)) (f_cnl_of (P := fun j S => f_cok pP l eP (f_rm 38) sP mP aP bP hP9 cP xY 80 a cy dC dI 3 _ _ (.invokevirtual j) true S) (List.forall_mem_cons.mpr ⟨f_cokV C (mX6_isSentenceWith hinj) (ci := 6) rfl (List.forall_mem_cons.mpr ⟨(mlX6_ok _ (List.mem_of_getElem? (i := 13) rfl)), kc_X6_isSentenceWith⟩) (by decide +kernel) ⟨Nat.le_of_ble_eq_true rfl, Nat.le_of_ble_eq_true rfl⟩, List.forall_mem_cons.mpr ⟨f_cokV C (mX6_putOne hinj) (ci := 6) rfl (List.forall_mem_cons.mpr ⟨(mlX6_ok _ (List.mem_of_getElem? (i := 14) rfl)), kc_X6_putOne⟩) (by decide +kernel) ⟨Nat.le_of_ble_eq_true rfl, Nat.le_of_ble_eq_true rfl⟩, List.forall_mem_cons.mpr ⟨f_cokV C (mX6_putTwo hinj) (ci := 6) rfl (List.forall_mem_cons.mpr ⟨(mlX6_ok _ (List.mem_of_getElem? (i := 15) rfl)), kc_X6_putTwo⟩) (by decide +kernel) ⟨Nat.le_of_ble_eq_true rfl, Nat.le_of_ble_eq_true rfl⟩, fun _ h => absurd h List.not_mem_nil⟩⟩⟩)) (fun j S h => by cases h) tX6_findPutIn_ok (cut := (f_cnl [(63, (fun (ls' : fLs) (st' : List Value) (I' : fM) (L' : fN) => ∃ wd : Int32, ∃ m : Int32, (∀ q ∈ ([(2, .int m), (1, .int wd), (0, .ref 72)] : fLs), q ∈ ls') ∧ st' = [] ∧ (xR I' ∧ f_fr [25, 26, 27, 28, 31, 32, 33, 34, 35, 36, 37, 38, 39, 69, 74, 75] I I' ∧ f_fr [29, 30, 70] L L' ∧ xO I' ∧ xT I' ∧ xS I' ∧ (wd.toInt = (I 40 6).toInt)))), (84, (fun (ls' : fLs) (st' : List Value) (I' : fM) (L' : fN) => ∃ m : Int32, (∀ q ∈ ([(2, .int m), (0, .ref 72)] : fLs), q ∈ ls') ∧ st' = [] ∧ (xR I' ∧ f_fr [25, 26, 27, 28, 31, 32, 33, 34, 35, 36, 37, 38, 39, 69, 74, 75] I I' ∧ f_fr [29, 30, 70] L L' ∧ xO I' ∧ xT I' ∧ xS I')))])) (f_cnl_of (P := fun (tQ : Nat) (P : fLs → List Value → fM → fN → Prop) => ∀ ls' st' I' L', P ls' st' I' L' → f_W pP l eP (f_rm 38) sP mP aP bP hP9 cP xY 80 a cy dC dI 3 (f_K 0 (qX6_findPutIn [.ref 72] I L)) tQ ls' st' I' L') (List.forall_mem_cons.mpr ⟨(fun ls' st' I' L' h => by obtain ⟨wd, m, hs, e1, h9⟩ := h; rw [e1]; exact f_W_sub hs (lp63 wd m I' L' h9)), List.forall_mem_cons.mpr ⟨(fun ls' st' I' L' h => by obtain ⟨m, hs, e1, h9⟩ := h; rw [e1]; exact f_W_sub hs (lp84 m I' L' h9)), fun _ h => absurd h List.not_mem_nil⟩⟩)) 16 39 (f_seek 39 0 tX6_findPutIn) (f_seek_ok 39 0 tX6_findPutIn tX6_findPutIn_ok) _ _ _ _ ?_
      apply And.intro
      · intro h40
        have h40 : wd.toInt ≤ 0 := h40
        exact ⟨wd, m, (by intro q9 h9; simp only [List.mem_cons, List.not_mem_nil, or_false] at h9; rcases h9 with h9 | h9 | h9 <;> subst h9 <;> repeat (first | exact List.mem_cons_self | apply List.mem_cons_of_mem)), rfl, hR39c, hF39c, hG39c, hxO39c, hxT39c, hxS39c, (show wd.toInt = (I 40 6).toInt from by first | assumption | omega | rfl)⟩
      · intro h40
        have h40 : 0 < wd.toInt := h40
        intro z45 q45 _ hq45 hl45 hu45
        have hq45 : z45.toInt = wd.toInt + 1 + 4294967296 * q45 := hq45
        try have hz45 : z45.toInt = wd.toInt + 1 := by omega
        apply And.intro
        · intro h48
          have h48 : 8 < z45.toInt := h48
          exact ⟨wd, m, (by intro q9 h9; simp only [List.mem_cons, List.not_mem_nil, or_false] at h9; rcases h9 with h9 | h9 | h9 <;> subst h9 <;> repeat (first | exact List.mem_cons_self | apply List.mem_cons_of_mem)), rfl, hR39c, hF39c, hG39c, hxO39c, hxT39c, hxS39c, (show wd.toInt = (I 40 6).toInt from by first | assumption | omega | rfl)⟩
        · intro h48
          have h48 : z45.toInt ≤ 8 := h48
          have r52_1 : 0 ≤ (J39 40 6).toInt ∧ (J39 40 6).toInt ≤ 8 := hR39c 40 6
          have e52_2 : (J39 40 6).toInt = (I 40 6).toInt := congrArg Int32.toInt (congrFun (hF39c 40 rfl) 6)
          refine And.intro ⟨hR39c, hxO39c, hxT39c, hxS39c, (show (J39 40 6).toInt ≤ 7 from by first | assumption | omega)⟩ ?_
          intro x52 I52 L52 hq52
          have hq52 : xR I52 ∧ xO I52 ∧ xT I52 ∧ xS I52 ∧ f_fr [25, 26, 27, 28, 31, 32, 33, 34, 35, 36, 37, 38, 39, 69, 74] J39 I52 ∧ f_fr [29, 30, 70] M39 L52 ∧ ((x52.toInt = 0 ∨ x52.toInt = 1)) := hq52
          obtain ⟨c52_0, c52_1, c52_2, c52_3, c52_4, c52_5, c52_6⟩ := hq52
          have hF52 := f_fr_tr hF39c c52_4 rfl
          have hG52 := f_fr_tr hG39c c52_5 rfl
          apply And.intro
          · intro h55
            have h55 : x52.toInt = 0 := h55
            exact ⟨wd, m, (by intro q9 h9; simp only [List.mem_cons, List.not_mem_nil, or_false] at h9; rcases h9 with h9 | h9 | h9 <;> subst h9 <;> repeat (first | exact List.mem_cons_self | apply List.mem_cons_of_mem)), rfl, c52_0, hF52, hG52, c52_1, c52_2, c52_3, (show wd.toInt = (I 40 6).toInt from by first | assumption | omega | rfl)⟩
          · intro h55
            have h55 : ¬ x52.toInt = 0 := h55
            exact ⟨Int32.ofInt 1, (by intro q9 h9; simp only [List.mem_cons, List.not_mem_nil, or_false] at h9; rcases h9 with h9 | h9 <;> subst h9 <;> repeat (first | exact List.mem_cons_self | apply List.mem_cons_of_mem)), rfl, c52_0, hF52, hG52, c52_1, c52_2, c52_3⟩
    refine f_wp_ok C f_cl flX6_ok fiX6_ok fjX6_ok (sn := none) (fun j h => by cases h) (cs := (f_cnl [(116, (2, 3, 6, pX6_isSentenceWith, qX6_isSentenceWith)), (119, (1, 3, 6, pX6_putOne, qX6_putOne)), (122, (1, 3, 6, pX6_putTwo, qX6_putTwo))])) (cz := (fun _ => none)) (f_cnl_of (P := fun j S => f_cok pP l eP (f_rm 38) sP mP aP bP hP9 cP xY 80 a cy dC dI 3 _ _ (.invokevirtual j) true S) (List.forall_mem_cons.mpr ⟨f_cokV C (mX6_isSentenceWith hinj) (ci := 6) rfl (List.forall_mem_cons.mpr ⟨(mlX6_ok _ (List.mem_of_getElem? (i := 13) rfl)), kc_X6_isSentenceWith⟩) (by decide +kernel) ⟨Nat.le_of_ble_eq_true rfl, Nat.le_of_ble_eq_true rfl⟩, List.forall_mem_cons.mpr ⟨f_cokV C (mX6_putOne hinj) (ci := 6) rfl (List.forall_mem_cons.mpr ⟨(mlX6_ok _ (List.mem_of_getElem? (i := 14) rfl)), kc_X6_putOne⟩) (by decide +kernel) ⟨Nat.le_of_ble_eq_true rfl, Nat.le_of_ble_eq_true rfl⟩, List.forall_mem_cons.mpr ⟨f_cokV C (mX6_putTwo hinj) (ci := 6) rfl (List.forall_mem_cons.mpr ⟨(mlX6_ok _ (List.mem_of_getElem? (i := 15) rfl)), kc_X6_putTwo⟩) (by decide +kernel) ⟨Nat.le_of_ble_eq_true rfl, Nat.le_of_ble_eq_true rfl⟩, fun _ h => absurd h List.not_mem_nil⟩⟩⟩)) (fun j S h => by cases h) tX6_findPutIn_ok (cut := (f_cnl [(39, (fun (ls' : fLs) (st' : List Value) (I' : fM) (L' : fN) => ∃ wd : Int32, ∃ m : Int32, (∀ q ∈ ([(2, .int m), (1, .int wd), (0, .ref 72)] : fLs), q ∈ ls') ∧ st' = [] ∧ (xR I' ∧ f_fr [25, 26, 27, 28, 31, 32, 33, 34, 35, 36, 37, 38, 39, 69, 74, 75] I I' ∧ f_fr [29, 30, 70] L L' ∧ xO I' ∧ xT I' ∧ xS I' ∧ (wd.toInt = (I 40 6).toInt)))), (84, (fun (ls' : fLs) (st' : List Value) (I' : fM) (L' : fN) => ∃ m : Int32, (∀ q ∈ ([(2, .int m), (0, .ref 72)] : fLs), q ∈ ls') ∧ st' = [] ∧ (xR I' ∧ f_fr [25, 26, 27, 28, 31, 32, 33, 34, 35, 36, 37, 38, 39, 69, 74, 75] I I' ∧ f_fr [29, 30, 70] L L' ∧ xO I' ∧ xT I' ∧ xS I')))])) (f_cnl_of (P := fun (tQ : Nat) (P : fLs → List Value → fM → fN → Prop) => ∀ ls' st' I' L', P ls' st' I' L' → f_W pP l eP (f_rm 38) sP mP aP bP hP9 cP xY 80 a cy dC dI 3 (f_K 0 (qX6_findPutIn [.ref 72] I L)) tQ ls' st' I' L') (List.forall_mem_cons.mpr ⟨(fun ls' st' I' L' h => by obtain ⟨wd, m, hs, e1, h9⟩ := h; rw [e1]; exact f_W_sub hs (lp39 wd m I' L' h9)), List.forall_mem_cons.mpr ⟨(fun ls' st' I' L' h => by obtain ⟨m, hs, e1, h9⟩ := h; rw [e1]; exact f_W_sub hs (lp84 m I' L' h9)), fun _ h => absurd h List.not_mem_nil⟩⟩)) 24 0 tX6_findPutIn tX6_findPutIn_ok _ _ _ _ ?_
    refine And.intro (show f_in (Int32.ofInt 0) 5 from ⟨show 0 ≤ 0 from by omega, show 0 < 5 from by omega⟩) ?_
    apply And.intro
    · intro h8
      have h8 : (I 74 0).toInt = (-2) := h8
      have r16_2 : 0 ≤ (I 40 6).toInt ∧ (I 40 6).toInt ≤ 8 := hR 40 6
      apply And.intro
      · intro h23
        have h23 : (I 40 6).toInt ≤ 0 := h23
        exact ⟨I 40 6, Int32.ofInt (-1), (by intro q9 h9; simp only [List.mem_cons, List.not_mem_nil, or_false] at h9; rcases h9 with h9 | h9 | h9 <;> subst h9 <;> repeat (first | exact List.mem_cons_self | apply List.mem_cons_of_mem)), rfl, hR, hF0, hG0, hxO, hxT, hxS, (show (I 40 6).toInt = (I 40 6).toInt from by first | assumption | omega | rfl)⟩
      · intro h23
        have h23 : 0 < (I 40 6).toInt := h23
        refine And.intro ⟨hR, hxO, hxT, hxS, (show 0 ≤ (0 : Int) from by first | assumption | omega), (show (I 40 6).toInt + (0 : Int) ≤ 8 from by first | assumption | omega), (show (0 < (0 : Int) → 0 ≤ (I 74 1).toInt ∧ 0 ≤ (I 74 3).toInt ∧ (I 74 3).toInt ≤ 11) from by first | assumption | omega), (show (1 < (0 : Int) → 0 ≤ (I 74 2).toInt ∧ 0 ≤ (I 74 4).toInt ∧ (I 74 4).toInt ≤ 11) from by first | assumption | omega)⟩ ?_
        intro x28 I28 L28 hq28
        have hq28 : xR I28 ∧ xO I28 ∧ xT I28 ∧ xS I28 ∧ f_fr [25, 26, 27, 28, 31, 32, 33, 34, 35, 36, 37, 38, 39, 69] I I28 ∧ f_fr [29, 30, 70] L L28 ∧ ((x28.toInt = 0 ∨ x28.toInt = 1)) := hq28
        obtain ⟨c28_0, c28_1, c28_2, c28_3, c28_4, c28_5, c28_6⟩ := hq28
        have hF28 := f_fr_tr hF0 c28_4 rfl
        have hG28 := f_fr_tr hG0 c28_5 rfl
        apply And.intro
        · intro h31
          have h31 : x28.toInt = 0 := h31
          exact ⟨I 40 6, Int32.ofInt (-1), (by intro q9 h9; simp only [List.mem_cons, List.not_mem_nil, or_false] at h9; rcases h9 with h9 | h9 | h9 <;> subst h9 <;> repeat (first | exact List.mem_cons_self | apply List.mem_cons_of_mem)), rfl, c28_0, hF28, hG28, c28_1, c28_2, c28_3, (show (I 40 6).toInt = (I 40 6).toInt from by first | assumption | omega | rfl)⟩
        · intro h31
          have h31 : ¬ x28.toInt = 0 := h31
          exact ⟨Int32.ofInt 0, (by intro q9 h9; simp only [List.mem_cons, List.not_mem_nil, or_false] at h9; rcases h9 with h9 | h9 <;> subst h9 <;> repeat (first | exact List.mem_cons_self | apply List.mem_cons_of_mem)), rfl, c28_0, hF28, hG28, c28_1, c28_2, c28_3⟩
    · intro h8
      have h8 : ¬ (I 74 0).toInt = (-2) := h8
      exact ⟨hR, hxO, hxT, hxS, hF0, hG0⟩
