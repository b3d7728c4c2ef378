theorem f_narb (x : Int32) : 0 ≤ (vp_nar .boolean x).toInt ∧ (vp_nar .boolean x).toInt ≤ 1 := by
  have h := f_andc x (m := 1) 1 (by decide) (by decide)
  exact ⟨h.1, show (x &&& 1).toInt ≤ 1 by have := h.2; simpa using this⟩
def tX12_clearBank : List (Instr × Nat) := [(.aload_n 0, 1), (.getfield 36, 3), (.aload_n 0, 1), (.getfield 294, 3), (.iconst 0, 1), (.iastore, 1), (.aload_n 0, 1), (.getfield 39, 3), (.aload_n 0, 1), (.getfield 294, 3), (.iconst 0, 1), (.iastore, 1), (.aload_n 0, 1), (.getfield 42, 3), (.aload_n 0, 1), (.getfield 294, 3), (.iconst (-1), 1), (.iastore, 1), (.aload_n 0, 1), (.getfield 45, 3), (.aload_n 0, 1), (.getfield 294, 3), (.iconst 0, 1), (.iastore, 1), (.aload_n 0, 1), (.getfield 54, 3), (.aload_n 0, 1), (.getfield 294, 3), (.iconst 0, 1), (.bastore, 1), (.return_, 1)]
theorem tX12_clearBank_ok : f_chk cX12_clearBank 0 tX12_clearBank = true := by decide +kernel
def pX12_clearBank (av : List Value) (I : fM) (L : fN) : Prop := match av with
  | [.ref 0] => mR I
  | _ => False
def qX12_clearBank (av : List Value) (I : fM) (L : fN) (r : Value) (I' : fM) (L' : fN) : Prop := match av, r with
  | [.ref 0], .null => mR I' ∧ f_fr [8, 9, 10, 11, 14] I I' ∧ L' = L
  | _, _ => False
set_option maxHeartbeats 4000000 in
set_option maxRecDepth 100000 in
theorem mX12_clearBank {l : Launch} {a : Nat → Nat} {cy dC : Nat → ClassId} {dI : Nat → Nat → Nat} (hinj : ∀ i j, i < 71 → j < 71 → a i = a j → i = j) : f_Met (fun _ => True) l mY 71 a cy dC dI yX12_clearBank cX12_clearBank 1 0 0 pX12_clearBank qX12_clearBank := by
  refine f_met_of (f_Ec_T 71 a) hinj mY_hi (by decide) (fun av I L h => by unfold pX12_clearBank at h; split at h <;> first | exact Nat.le_of_ble_eq_true rfl | exact h.elim) ?_
  intro pP eP sP mP aP bP hP9 cP C av I L hp
  unfold pX12_clearBank at hp
  split at hp
  case h_2 => exact hp.elim
  case h_1 =>
    have hR := hp
    have hF0 : f_fr [8, 9, 10, 11, 14] I I := f_fr_rf
    refine f_wp_ok C f_cl flX12_ok fiX12_ok fjX12_ok (sn := none) (fun j h => by cases h) (cs := (fun _ => none)) (cz := (fun _ => none)) (fun j S h => by cases h) (fun j S h => by cases h) tX12_clearBank_ok (cut := (fun _ => none)) (fun t P h => by cases h) 34 0 tX12_clearBank tX12_clearBank_ok _ _ _ _ ?_
    have r5_1 : 0 ≤ (I 0 25).toInt ∧ (I 0 25).toInt ≤ 1 := hR 0 25
    refine And.intro (show f_in (I 0 25) 2 from ⟨show 0 ≤ (I 0 25).toInt from by omega, show (I 0 25).toInt < 2 from by omega⟩) ?_
    have hR9 := mR_a (k := 8) (j := (I 0 25).toInt.toNat) (x := Int32.ofInt 0) hR (show 0 ≤ 0 ∧ 0 ≤ 5 from ⟨by omega, by omega⟩)
    have hF9 := f_fr_up (k := 8) (r := upd (I 8) ((I 0 25).toInt.toNat) (Int32.ofInt 0)) hF0 rfl
    refine And.intro (show f_in (I 0 25) 2 from ⟨show 0 ≤ (I 0 25).toInt from by omega, show (I 0 25).toInt < 2 from by omega⟩) ?_
    have hR19 := mR_a (k := 9) (j := (I 0 25).toInt.toNat) (x := Int32.ofInt 0) hR9 (show 0 ≤ 0 ∧ 0 ≤ 12 from ⟨by omega, by omega⟩)
    have hF19 := f_fr_up (k := 9) (r := upd (I 9) ((I 0 25).toInt.toNat) (Int32.ofInt 0)) hF9 rfl
    refine And.intro (show f_in (I 0 25) 2 from ⟨show 0 ≤ (I 0 25).toInt from by omega, show (I 0 25).toInt < 2 from by omega⟩) ?_
    have hR29 := mR_a (k := 10) (j := (I 0 25).toInt.toNat) (x := Int32.ofInt (-1)) hR19 (show (-1 : Int) ≤ (Int32.ofInt (-1)).toInt ∧ (Int32.ofInt (-1)).toInt ≤ (1599 : Int) from ⟨by decide, by decide⟩)
    have hF29 := f_fr_up (k := 10) (r := upd (I 10) ((I 0 25).toInt.toNat) (Int32.ofInt (-1))) hF19 rfl
    refine And.intro (show f_in (I 0 25) 2 from ⟨show 0 ≤ (I 0 25).toInt from by omega, show (I 0 25).toInt < 2 from by omega⟩) ?_
    have hR39 := mR_a (k := 11) (j := (I 0 25).toInt.toNat) (x := Int32.ofInt 0) hR29 (show 0 ≤ 0 ∧ 0 ≤ 260 from ⟨by omega, by omega⟩)
    have hF39 := f_fr_up (k := 11) (r := upd (I 11) ((I 0 25).toInt.toNat) (Int32.ofInt 0)) hF29 rfl
    refine And.intro (show f_in (I 0 25) 2 from ⟨show 0 ≤ (I 0 25).toInt from by omega, show (I 0 25).toInt < 2 from by omega⟩) ?_
    have hR49 := mR_a (k := 14) (j := (I 0 25).toInt.toNat) (x := vp_nar .boolean (Int32.ofInt 0)) hR39 (by exact f_rng _)
    have hF49 := f_fr_up (k := 14) (r := upd (I 14) ((I 0 25).toInt.toNat) (vp_nar .boolean (Int32.ofInt 0))) hF39 rfl
    exact ⟨hR49, hF49, rfl⟩
def tX12_here : List (Instr × Nat) := [(.iconst 0, 1), (.istore 4, 2), (.iload 4, 2), (.iload_n 3, 1), (.if_icmp .ge 34, 3), (.aload_n 0, 1), (.getfield 259, 3), (.iconst 2, 1), (.if_icmp .ne 20, 3), (.aload_n 1, 1), (.iload_n 2, 1), (.iload 4, 2), (.iadd, 1), (.laload, 1), (.aload_n 0, 1), (.getfield 266, 3), (.lcmp, 1), (.ifCond .ne 6, 3), (.iload 4, 2), (.ireturn, 1), (.iinc 4 1, 3), (.goto (-34), 3), (.iconst (-1), 1), (.ireturn, 1)]
theorem tX12_here_ok : f_chk cX12_here 0 tX12_here = true := by decide +kernel
def pX12_here (av : List Value) (I : fM) (L : fN) : Prop := match av with
  | [.ref 0, .ref c, .int f, .int m] => (c = 15 ∨ c = 16) ∧ 0 ≤ f.toInt ∧ 0 ≤ m.toInt ∧ m.toInt ≤ 12 ∧ (c = 15 → f.toInt + m.toInt ≤ 10) ∧ (c = 16 → f.toInt + m.toInt ≤ 24)
  | _ => False
def qX12_here (av : List Value) (I : fM) (L : fN) (r : Value) (I' : fM) (L' : fN) : Prop := match av, r with
  | [.ref 0, .ref c, .int f, .int m], .int x => I' = I ∧ L' = L ∧ -1 ≤ x.toInt ∧ x.toInt < m.toInt
  | _, _ => False
set_option maxHeartbeats 4000000 in
set_option maxRecDepth 100000 in
theorem mX12_here {l : Launch} {a : Nat → Nat} {cy dC : Nat → ClassId} {dI : Nat → Nat → Nat} (hinj : ∀ i j, i < 71 → j < 71 → a i = a j → i = j) : f_Met (fun _ => True) l mY 71 a cy dC dI yX12_here cX12_here 5 1 0 pX12_here qX12_here := by
  refine f_met_of (f_Ec_T 71 a) hinj mY_hi (by decide) (fun av I L h => by unfold pX12_here at h; split at h <;> first | exact Nat.le_of_ble_eq_true rfl | exact h.elim) ?_
  intro pP eP sP mP aP bP hP9 cP C av I L hp
  unfold pX12_here at hp
  split at hp
  case h_2 => exact hp.elim
  case h_1 c f m =>
    obtain ⟨p0, p1, p2, p3, p4, p5⟩ := hp
    rcases p0 with rfl | rfl
    -- pat [.ref 0, .ref 15, .int f, .int m]
    · skip
      have p1 : 0 ≤ f.toInt := p1
      have p2 : 0 ≤ m.toInt := p2
      have p3 : m.toInt ≤ 12 := p3
      have p4 : (15 = 15 → f.toInt + m.toInt ≤ 10) := p4
      have p5 : (15 = 16 → f.toInt + m.toInt ≤ 24) := p5
      have q10 : f.toInt + m.toInt ≤ 24 := by first | exact p5 rfl | (have := p4 rfl; omega)
      try have q15 := p4 rfl
      have lp3 : ∀ (n3 : Nat), ∀ (k : Int32), (0 ≤ k.toInt) ∧ (k.toInt ≤ m.toInt) ∧ (m.toInt - k.toInt) < n3 → f_W pP l eP (f_rm 0) sP mP aP bP hP9 cP mY 71 a cy dC dI 5 (f_K 1 (qX12_here [.ref 0, .ref 15, .int f, .int m] I L)) 3 [(4, .int k), (3, .int m), (2, .int f), (1, .ref 15), (0, .ref 0)] [] I L := by
        intro n3
        induction n3 with
        | zero =>
          intro k h9
          obtain ⟨u3_1, u3_2, hm3⟩ := h9
          omega
        | succ n3 ih3 =>
          intro k h9
          obtain ⟨u3_1, u3_2, hm3⟩ := h9
          refine f_wp_ok C f_cl flX12_ok fiX12_ok fjX12_ok (sn := none) (fun j h => by cases h) (cs := (fun _ => none)) (cz := (fun _ => none)) (fun j S h => by cases h) (fun j S h => by cases h) tX12_here_ok (cut := (f_cnl [(3, (fun (ls' : fLs) (st' : List Value) (I' : fM) (L' : fN) => ∃ k : Int32, (∀ q ∈ ([(4, .int k), (3, .int m), (2, .int f), (1, .ref 15), (0, .ref 0)] : fLs), q ∈ ls') ∧ st' = [] ∧ I' = I ∧ L' = L ∧ ((0 ≤ k.toInt) ∧ (k.toInt ≤ m.toInt) ∧ (m.toInt - k.toInt) < n3)))])) (f_cnl_of (P := fun (tQ : Nat) (P : fLs → List Value → fM → fN → Prop) => ∀ ls' st' I' L', P ls' st' I' L' → f_W pP l eP (f_rm 0) sP mP aP bP hP9 cP mY 71 a cy dC dI 5 (f_K 1 (qX12_here [.ref 0, .ref 15, .int f, .int m] I L)) tQ ls' st' I' L') (List.forall_mem_cons.mpr ⟨(fun ls' st' I' L' h => by obtain ⟨k, hs, e1, e2, e3, h9⟩ := h; rw [e1, e2, e3]; exact f_W_sub hs (ih3 k h9)), fun _ h => absurd h List.not_mem_nil⟩)) 21 3 (f_seek 3 0 tX12_here) (f_seek_ok 3 0 tX12_here tX12_here_ok) _ _ _ _ ?_
          apply And.intro
          · intro h6
            have h6 : m.toInt ≤ k.toInt := h6
            exact ⟨rfl, rfl, (show -1 ≤ (-1 : Int) from by first | assumption | omega | rfl), (show (-1 : Int) < m.toInt from by first | assumption | omega | rfl)⟩
          · intro h6
            have h6 : k.toInt < m.toInt := h6
            apply And.intro
            · intro h14
              have h14 : ¬ (I 0 8).toInt = 2 := h14
              intro z34 q34 _ hq34 hl34 hu34
              have hq34 : z34.toInt = k.toInt + 1 + 4294967296 * q34 := hq34
              try have hz34 : z34.toInt = k.toInt + 1 := by omega
              exact ⟨z34, (by intro q9 h9; simp only [List.mem_cons, List.not_mem_nil, or_false] at h9; rcases h9 with h9 | h9 | h9 | h9 | h9 <;> subst h9 <;> repeat (first | exact List.mem_cons_self | apply List.mem_cons_of_mem)), rfl, rfl, rfl, (show 0 ≤ z34.toInt from by first | assumption | omega), (show z34.toInt ≤ m.toInt from by first | assumption | omega), (show (m.toInt - z34.toInt) < n3 from by omega)⟩
            · intro h14
              have h14 : (I 0 8).toInt = 2 := h14
              intro z21 q21 _ hq21 hl21 hu21
              have hq21 : z21.toInt = f.toInt + k.toInt + 4294967296 * q21 := hq21
              try have hz21 : z21.toInt = f.toInt + k.toInt := by omega
              refine And.intro (show f_in z21 10 from ⟨show 0 ≤ z21.toInt from by omega, show z21.toInt < 10 from by omega⟩) ?_
              apply And.intro
              · intro h28
                have h28 : ¬ (lg_cmp (L 15 (z21.toInt.toNat)) (L 0 9)).toInt = 0 := h28
                intro z34 q34 _ hq34 hl34 hu34
                have hq34 : z34.toInt = k.toInt + 1 + 4294967296 * q34 := hq34
                try have hz34 : z34.toInt = k.toInt + 1 := by omega
                exact ⟨z34, (by intro q9 h9; simp only [List.mem_cons, List.not_mem_nil, or_false] at h9; rcases h9 with h9 | h9 | h9 | h9 | h9 <;> subst h9 <;> repeat (first | exact List.mem_cons_self | apply List.mem_cons_of_mem)), rfl, rfl, rfl, (show 0 ≤ z34.toInt from by first | assumption | omega), (show z34.toInt ≤ m.toInt from by first | assumption | omega), (show (m.toInt - z34.toInt) < n3 from by omega)⟩
              · intro h28
                have h28 : (lg_cmp (L 15 (z21.toInt.toNat)) (L 0 9)).toInt = 0 := h28
                exact ⟨rfl, rfl, (show -1 ≤ k.toInt from by first | assumption | omega | rfl), (show k.toInt < m.toInt from by first | assumption | omega | rfl)⟩
      refine f_wp_ok C f_cl flX12_ok fiX12_ok fjX12_ok (sn := none) (fun j h => by cases h) (cs := (fun _ => none)) (cz := (fun _ => none)) (fun j S h => by cases h) (fun j S h => by cases h) tX12_here_ok (cut := (f_cnl [(3, (fun (ls' : fLs) (st' : List Value) (I' : fM) (L' : fN) => ∃ k : Int32, (∀ q ∈ ([(4, .int k), (3, .int m), (2, .int f), (1, .ref 15), (0, .ref 0)] : fLs), q ∈ ls') ∧ st' = [] ∧ I' = I ∧ L' = L ∧ ((0 ≤ k.toInt) ∧ (k.toInt ≤ m.toInt) ∧ (m.toInt - k.toInt) < 13)))])) (f_cnl_of (P := fun (tQ : Nat) (P : fLs → List Value → fM → fN → Prop) => ∀ ls' st' I' L', P ls' st' I' L' → f_W pP l eP (f_rm 0) sP mP aP bP hP9 cP mY 71 a cy dC dI 5 (f_K 1 (qX12_here [.ref 0, .ref 15, .int f, .int m] I L)) tQ ls' st' I' L') (List.forall_mem_cons.mpr ⟨(fun ls' st' I' L' h => by obtain ⟨k, hs, e1, e2, e3, h9⟩ := h; rw [e1, e2, e3]; exact f_W_sub hs (lp3 13 k h9)), fun _ h => absurd h List.not_mem_nil⟩)) 5 0 tX12_here tX12_here_ok _ _ _ _ ?_
      exact ⟨Int32.ofInt 0, (by intro q9 h9; simp only [List.mem_cons, List.not_mem_nil, or_false] at h9; rcases h9 with h9 | h9 | h9 | h9 | h9 <;> subst h9 <;> repeat (first | exact List.mem_cons_self | apply List.mem_cons_of_mem)), rfl, rfl, rfl, (show 0 ≤ (0 : Int) from by first | assumption | omega), (show (0 : Int) ≤ m.toInt from by first | assumption | omega), (show (m.toInt - (0 : Int)) < 13 from by omega)⟩
    -- pat [.ref 0, .ref 16, .int f, .int m]
    · skip
      have p1 : 0 ≤ f.toInt := p1
      have p2 : 0 ≤ m.toInt := p2
      have p3 : m.toInt ≤ 12 := p3
      have p4 : (16 = 15 → f.toInt + m.toInt ≤ 10) := p4
      have p5 : (16 = 16 → f.toInt + m.toInt ≤ 24) := p5
      have q10 : f.toInt + m.toInt ≤ 24 := by first | exact p5 rfl | (have := p4 rfl; omega)
      try have q15 := p4 rfl
      have lp3 : ∀ (n3 : Nat), ∀ (k : Int32), (0 ≤ k.toInt) ∧ (k.toInt ≤ m.toInt) ∧ (m.toInt - k.toInt) < n3 → f_W pP l eP (f_rm 0) sP mP aP bP hP9 cP mY 71 a cy dC dI 5 (f_K 1 (qX12_here [.ref 0, .ref 16, .int f, .int m] I L)) 3 [(4, .int k), (3, .int m), (2, .int f), (1, .ref 16), (0, .ref 0)] [] I L := by
        intro n3
        induction n3 with
        | zero =>
          intro k h9
          obtain ⟨u3_1, u3_2, hm3⟩ := h9
          omega
        | succ n3 ih3 =>
          intro k h9
          obtain ⟨u3_1, u3_2, hm3⟩ := h9
          refine f_wp_ok C f_cl flX12_ok fiX12_ok fjX12_ok (sn := none) (fun j h => by cases h) (cs := (fun _ => none)) (cz := (fun _ => none)) (fun j S h => by cases h) (fun j S h => by cases h) tX12_here_ok (cut := (f_cnl [(3, (fun (ls' : fLs) (st' : List Value) (I' : fM) (L' : fN) => ∃ k : Int32, (∀ q ∈ ([(4, .int k), (3, .int m), (2, .int f), (1, .ref 16), (0, .ref 0)] : fLs), q ∈ ls') ∧ st' = [] ∧ I' = I ∧ L' = L ∧ ((0 ≤ k.toInt) ∧ (k.toInt ≤ m.toInt) ∧ (m.toInt - k.toInt) < n3)))])) (f_cnl_of (P := fun (tQ : Nat) (P : fLs → List Value → fM → fN → Prop) => ∀ ls' st' I' L', P ls' st' I' L' → f_W pP l eP (f_rm 0) sP mP aP bP hP9 cP mY 71 a cy dC dI 5 (f_K 1 (qX12_here [.ref 0, .ref 16, .int f, .int m] I L)) tQ ls' st' I' L') (List.forall_mem_cons.mpr ⟨(fun ls' st' I' L' h => by obtain ⟨k, hs, e1, e2, e3, h9⟩ := h; rw [e1, e2, e3]; exact f_W_sub hs (ih3 k h9)), fun _ h => absurd h List.not_mem_nil⟩)) 21 3 (f_seek 3 0 tX12_here) (f_seek_ok 3 0 tX12_here tX12_here_ok) _ _ _ _ ?_
          apply And.intro
          · intro h6
            have h6 : m.toInt ≤ k.toInt := h6
            exact ⟨rfl, rfl, (show -1 ≤ (-1 : Int) from by first | assumption | omega | rfl), (show (-1 : Int) < m.toInt from by first | assumption | omega | rfl)⟩
          · intro h6
            have h6 : k.toInt < m.toInt := h6
            apply And.intro
            · intro h14
              have h14 : ¬ (I 0 8).toInt = 2 := h14
              intro z34 q34 _ hq34 hl34 hu34
              have hq34 : z34.toInt = k.toInt + 1 + 4294967296 * q34 := hq34
              try have hz34 : z34.toInt = k.toInt + 1 := by omega
              exact ⟨z34, (by intro q9 h9; simp only [List.mem_cons, List.not_mem_nil, or_false] at h9; rcases h9 with h9 | h9 | h9 | h9 | h9 <;> subst h9 <;> repeat (first | exact List.mem_cons_self | apply List.mem_cons_of_mem)), rfl, rfl, rfl, (show 0 ≤ z34.toInt from by first | assumption | omega), (show z34.toInt ≤ m.toInt from by first | assumption | omega), (show (m.toInt - z34.toInt) < n3 from by omega)⟩
            · intro h14
              have h14 : (I 0 8).toInt = 2 := h14
              intro z21 q21 _ hq21 hl21 hu21
              have hq21 : z21.toInt = f.toInt + k.toInt + 4294967296 * q21 := hq21
              try have hz21 : z21.toInt = f.toInt + k.toInt := by omega
              refine And.intro (show f_in z21 24 from ⟨show 0 ≤ z21.toInt from by omega, show z21.toInt < 24 from by omega⟩) ?_
              apply And.intro
              · intro h28
                have h28 : ¬ (lg_cmp (L 16 (z21.toInt.toNat)) (L 0 9)).toInt = 0 := h28
                intro z34 q34 _ hq34 hl34 hu34
                have hq34 : z34.toInt = k.toInt + 1 + 4294967296 * q34 := hq34
                try have hz34 : z34.toInt = k.toInt + 1 := by omega
                exact ⟨z34, (by intro q9 h9; simp only [List.mem_cons, List.not_mem_nil, or_false] at h9; rcases h9 with h9 | h9 | h9 | h9 | h9 <;> subst h9 <;> repeat (first | exact List.mem_cons_self | apply List.mem_cons_of_mem)), rfl, rfl, rfl, (show 0 ≤ z34.toInt from by first | assumption | omega), (show z34.toInt ≤ m.toInt from by first | assumption | omega), (show (m.toInt - z34.toInt) < n3 from by omega)⟩
              · intro h28
                have h28 : (lg_cmp (L 16 (z21.toInt.toNat)) (L 0 9)).toInt = 0 := h28
                exact ⟨rfl, rfl, (show -1 ≤ k.toInt from by first | assumption | omega | rfl), (show k.toInt < m.toInt from by first | assumption | omega | rfl)⟩
      refine f_wp_ok C f_cl flX12_ok fiX12_ok fjX12_ok (sn := none) (fun j h => by cases h) (cs := (fun _ => none)) (cz := (fun _ => none)) (fun j S h => by cases h) (fun j S h => by cases h) tX12_here_ok (cut := (f_cnl [(3, (fun (ls' : fLs) (st' : List Value) (I' : fM) (L' : fN) => ∃ k : Int32, (∀ q ∈ ([(4, .int k), (3, .int m), (2, .int f), (1, .ref 16), (0, .ref 0)] : fLs), q ∈ ls') ∧ st' = [] ∧ I' = I ∧ L' = L ∧ ((0 ≤ k.toInt) ∧ (k.toInt ≤ m.toInt) ∧ (m.toInt - k.toInt) < 13)))])) (f_cnl_of (P := fun (tQ : Nat) (P : fLs → List Value → fM → fN → Prop) => ∀ ls' st' I' L', P ls' st' I' L' → f_W pP l eP (f_rm 0) sP mP aP bP hP9 cP mY 71 a cy dC dI 5 (f_K 1 (qX12_here [.ref 0, .ref 16, .int f, .int m] I L)) tQ ls' st' I' L') (List.forall_mem_cons.mpr ⟨(fun ls' st' I' L' h => by obtain ⟨k, hs, e1, e2, e3, h9⟩ := h; rw [e1, e2, e3]; exact f_W_sub hs (lp3 13 k h9)), fun _ h => absurd h List.not_mem_nil⟩)) 5 0 tX12_here tX12_here_ok _ _ _ _ ?_
      exact ⟨Int32.ofInt 0, (by intro q9 h9; simp only [List.mem_cons, List.not_mem_nil, or_false] at h9; rcases h9 with h9 | h9 | h9 | h9 | h9 <;> subst h9 <;> repeat (first | exact List.mem_cons_self | apply List.mem_cons_of_mem)), rfl, rfl, rfl, (show 0 ≤ (0 : Int) from by first | assumption | omega), (show (0 : Int) ≤ m.toInt from by first | assumption | omega), (show (m.toInt - (0 : Int)) < 13 from by omega)⟩
    -- pat [.ref 0, .ref c, .int f, .int m]
def tX12_kindHere : List (Instr × Nat) := [(.aload_n 0, 1), (.aload_n 0, 1), (.getfield 58, 3), (.iconst 5, 1), (.aload_n 0, 1), (.getfield 294, 3), (.imul, 1), (.aload_n 0, 1), (.getfield 36, 3), (.aload_n 0, 1), (.getfield 294, 3), (.iaload, 1), (.invokevirtual 336, 3), (.ireturn, 1)]
theorem tX12_kindHere_ok : f_chk cX12_kindHere 0 tX12_kindHere = true := by decide +kernel
def pX12_kindHere (av : List Value) (I : fM) (L : fN) : Prop := match av with
  | [.ref 0] => mR I
  | _ => False
def qX12_kindHere (av : List Value) (I : fM) (L : fN) (r : Value) (I' : fM) (L' : fN) : Prop := match av, r with
  | [.ref 0], .int x => I' = I ∧ L' = L ∧ -1 ≤ x.toInt ∧ x.toInt < (I 8 (I 0 25).toInt.toNat).toInt ∧ x.toInt ≤ 4
  | _, _ => False
set_option maxHeartbeats 4000000 in
set_option maxRecDepth 100000 in
theorem mX12_kindHere {l : Launch} {a : Nat → Nat} {cy dC : Nat → ClassId} {dI : Nat → Nat → Nat} (hinj : ∀ i j, i < 71 → j < 71 → a i = a j → i = j) : f_Met (fun _ => True) l mY 71 a cy dC dI yX12_kindHere cX12_kindHere 1 1 1 pX12_kindHere qX12_kindHere := by
  refine f_met_of (f_Ec_T 71 a) hinj mY_hi (by decide) (fun av I L h => by unfold pX12_kindHere at h; split at h <;> first | exact Nat.le_of_ble_eq_true rfl | exact h.elim) ?_
  intro pP eP sP mP aP bP hP9 cP C av I L hp
  unfold pX12_kindHere at hp
  split at hp
  case h_2 => exact hp.elim
  case h_1 =>
    have hR := hp
    refine f_wp_ok C f_cl flX12_ok fiX12_ok fjX12_ok (sn := none) (fun j h => by cases h) (cs := (f_cnl [(336, (4, 1, 11, pX12_here, qX12_here))])) (cz := (fun _ => none)) (f_cnl_of (P := fun j S => f_cok pP l eP (f_rm 1) sP mP aP bP hP9 cP mY 71 a cy dC dI 1 _ _ (.invokevirtual j) true S) (List.forall_mem_cons.mpr ⟨f_cokV C (mX12_here hinj) (ci := 11) rfl (List.forall_mem_cons.mpr ⟨(mlX12_ok _ (List.mem_of_getElem? (i := 19) rfl)), kc_X12_here⟩) (by decide +kernel) ⟨Nat.le_of_ble_eq_true rfl, Nat.le_of_ble_eq_true rfl⟩, fun _ h => absurd h List.not_mem_nil⟩)) (fun j S h => by cases h) tX12_kindHere_ok (cut := (fun _ => none)) (fun t P h => by cases h) 17 0 tX12_kindHere tX12_kindHere_ok _ _ _ _ ?_
    have r7_1 : 0 ≤ (I 0 25).toInt ∧ (I 0 25).toInt ≤ 1 := hR 0 25
    intro z10 q10 _ hq10 hl10 hu10
    have hq10 : z10.toInt = 5 * (I 0 25).toInt + 4294967296 * q10 := hq10
    try have hz10 : z10.toInt = 5 * (I 0 25).toInt := by omega
    refine And.intro (show f_in (I 0 25) 2 from ⟨show 0 ≤ (I 0 25).toInt from by omega, show (I 0 25).toInt < 2 from by omega⟩) ?_
    have r19_2 : 0 ≤ (I 8 ((I 0 25).toInt.toNat)).toInt ∧ (I 8 ((I 0 25).toInt.toNat)).toInt ≤ 5 := hR 8 ((I 0 25).toInt.toNat)
    refine And.intro ⟨(by decide), (show 0 ≤ z10.toInt from by first | assumption | omega), (show 0 ≤ (I 8 ((I 0 25).toInt.toNat)).toInt from by first | assumption | omega), (show (I 8 ((I 0 25).toInt.toNat)).toInt ≤ 12 from by first | assumption | omega), (show (15 = 15 → z10.toInt + (I 8 ((I 0 25).toInt.toNat)).toInt ≤ 10) from fun _ => by omega), (show (15 = 16 → z10.toInt + (I 8 ((I 0 25).toInt.toNat)).toInt ≤ 24) from fun h => absurd h (by decide))⟩ ?_
    intro x20 I20 L20 hq20
    have hq20 : I20 = I ∧ L20 = L ∧ -1 ≤ x20.toInt ∧ x20.toInt < (I 8 ((I 0 25).toInt.toNat)).toInt := hq20
    obtain ⟨eI20, eL20, c20_2, c20_3⟩ := hq20
    replace eI20 := eI20.symm
    subst eI20
    replace eL20 := eL20.symm
    subst eL20
    exact ⟨rfl, rfl, (show -1 ≤ x20.toInt from by first | assumption | omega | rfl), (show x20.toInt < (I 8 (I 0 25).toInt.toNat).toInt from by first | assumption | omega | rfl), (show x20.toInt ≤ 4 from by first | assumption | omega | rfl)⟩
def tX12_wordHere : List (Instr × Nat) := [(.aload_n 0, 1), (.aload_n 0, 1), (.getfield 62, 3), (.bipush 12, 2), (.aload_n 0, 1), (.getfield 294, 3), (.imul, 1), (.aload_n 0, 1), (.getfield 39, 3), (.aload_n 0, 1), (.getfield 294, 3), (.iaload, 1), (.invokevirtual 336, 3), (.ireturn, 1)]
theorem tX12_wordHere_ok : f_chk cX12_wordHere 0 tX12_wordHere = true := by decide +kernel
def pX12_wordHere (av : List Value) (I : fM) (L : fN) : Prop := match av with
  | [.ref 0] => mR I
  | _ => False
def qX12_wordHere (av : List Value) (I : fM) (L : fN) (r : Value) (I' : fM) (L' : fN) : Prop := match av, r with
  | [.ref 0], .int x => I' = I ∧ L' = L ∧ -1 ≤ x.toInt ∧ x.toInt < (I 9 (I 0 25).toInt.toNat).toInt ∧ x.toInt ≤ 11
  | _, _ => False
set_option maxHeartbeats 4000000 in
set_option maxRecDepth 100000 in
theorem mX12_wordHere {l : Launch} {a : Nat → Nat} {cy dC : Nat → ClassId} {dI : Nat → Nat → Nat} (hinj : ∀ i j, i < 71 → j < 71 → a i = a j → i = j) : f_Met (fun _ => True) l mY 71 a cy dC dI yX12_wordHere cX12_wordHere 1 1 1 pX12_wordHere qX12_wordHere := by
  refine f_met_of (f_Ec_T 71 a) hinj mY_hi (by decide) (fun av I L h => by unfold pX12_wordHere at h; split at h <;> first | exact Nat.le_of_ble_eq_true rfl | exact h.elim) ?_
  intro pP eP sP mP aP bP hP9 cP C av I L hp
  unfold pX12_wordHere at hp
  split at hp
  case h_2 => exact hp.elim
  case h_1 =>
    have hR := hp
    refine f_wp_ok C f_cl flX12_ok fiX12_ok fjX12_ok (sn := none) (fun j h => by cases h) (cs := (f_cnl [(336, (4, 1, 11, pX12_here, qX12_here))])) (cz := (fun _ => none)) (f_cnl_of (P := fun j S => f_cok pP l eP (f_rm 1) sP mP aP bP hP9 cP mY 71 a cy dC dI 1 _ _ (.invokevirtual j) true S) (List.forall_mem_cons.mpr ⟨f_cokV C (mX12_here hinj) (ci := 11) rfl (List.forall_mem_cons.mpr ⟨(mlX12_ok _ (List.mem_of_getElem? (i := 19) rfl)), kc_X12_here⟩) (by decide +kernel) ⟨Nat.le_of_ble_eq_true rfl, Nat.le_of_ble_eq_true rfl⟩, fun _ h => absurd h List.not_mem_nil⟩)) (fun j S h => by cases h) tX12_wordHere_ok (cut := (fun _ => none)) (fun t P h => by cases h) 17 0 tX12_wordHere tX12_wordHere_ok _ _ _ _ ?_
    have r8_1 : 0 ≤ (I 0 25).toInt ∧ (I 0 25).toInt ≤ 1 := hR 0 25
    intro z11 q11 _ hq11 hl11 hu11
    have hq11 : z11.toInt = 12 * (I 0 25).toInt + 4294967296 * q11 := hq11
    try have hz11 : z11.toInt = 12 * (I 0 25).toInt := by omega
    refine And.intro (show f_in (I 0 25) 2 from ⟨show 0 ≤ (I 0 25).toInt from by omega, show (I 0 25).toInt < 2 from by omega⟩) ?_
    have r20_2 : 0 ≤ (I 9 ((I 0 25).toInt.toNat)).toInt ∧ (I 9 ((I 0 25).toInt.toNat)).toInt ≤ 12 := hR 9 ((I 0 25).toInt.toNat)
    refine And.intro ⟨(by decide), (show 0 ≤ z11.toInt from by first | assumption | omega), (show 0 ≤ (I 9 ((I 0 25).toInt.toNat)).toInt from by first | assumption | omega), (show (I 9 ((I 0 25).toInt.toNat)).toInt ≤ 12 from by first | assumption | omega), (show (16 = 15 → z11.toInt + (I 9 ((I 0 25).toInt.toNat)).toInt ≤ 10) from fun h => absurd h (by decide)), (show (16 = 16 → z11.toInt + (I 9 ((I 0 25).toInt.toNat)).toInt ≤ 24) from fun _ => by omega)⟩ ?_
    intro x21 I21 L21 hq21
    have hq21 : I21 = I ∧ L21 = L ∧ -1 ≤ x21.toInt ∧ x21.toInt < (I 9 ((I 0 25).toInt.toNat)).toInt := hq21
    obtain ⟨eI21, eL21, c21_2, c21_3⟩ := hq21
    replace eI21 := eI21.symm
    subst eI21
    replace eL21 := eL21.symm
    subst eL21
    exact ⟨rfl, rfl, (show -1 ≤ x21.toInt from by first | assumption | omega | rfl), (show x21.toInt < (I 9 (I 0 25).toInt.toNat).toInt from by first | assumption | omega | rfl), (show x21.toInt ≤ 11 from by first | assumption | omega | rfl)⟩
def tX12_fresh : List (Instr × Nat) := [(.aload_n 0, 1), (.invokevirtual 281, 3), (.ifCond .ne 5, 3), (.lconst 0, 1), (.lreturn, 1), (.aload_n 0, 1), (.getfield 259, 3), (.iconst 2, 1), (.if_icmp .eq 10, 3), (.aload_n 0, 1), (.invokevirtual 288, 3), (.goto 26, 3), (.aload_n 0, 1), (.invokevirtual 340, 3), (.ifCond .ge 10, 3), (.aload_n 0, 1), (.invokevirtual 343, 3), (.ifCond .lt 12, 3), (.aload_n 0, 1), (.iconst 3, 1), (.aload_n 0, 1), (.getfield 252, 3), (.invokevirtual 277, 3), (.aload_n 0, 1), (.getfield 266, 3), (.lstore_n 1, 1), (.aload_n 0, 1), (.invokevirtual 281, 3), (.ifCond .eq 7, 3), (.aload_n 0, 1), (.invokevirtual 285, 3), (.lload_n 1, 1), (.lreturn, 1)]
theorem tX12_fresh_ok : f_chk cX12_fresh 0 tX12_fresh = true := by decide +kernel
def pX12_fresh (av : List Value) (I : fM) (L : fN) : Prop := match av with
  | [.ref 0] => mR I ∧ (I 0 7).toInt ≤ 1600
  | _ => False
def qX12_fresh (av : List Value) (I : fM) (L : fN) (r : Value) (I' : fM) (L' : fN) : Prop := match av, r with
  | [.ref 0], .long x => mR I' ∧ f_fo [4, 5, 6, 7, 8] I I' ∧ f_fr [0] I I' ∧ f_fr [0] L L' ∧ (I' 0 7).toInt ≤ 1600
  | _, _ => False
set_option maxHeartbeats 4000000 in
set_option maxRecDepth 100000 in
theorem mX12_fresh {l : Launch} {a : Nat → Nat} {cy dC : Nat → ClassId} {dI : Nat → Nat → Nat} (hinj : ∀ i j, i < 71 → j < 71 → a i = a j → i = j) : f_Met (fun _ => True) l mY 71 a cy dC dI yX12_fresh cX12_fresh 3 2 2 pX12_fresh qX12_fresh := by
  refine f_met_of (f_Ec_T 71 a) hinj mY_hi (by decide) (fun av I L h => by unfold pX12_fresh at h; split at h <;> first | exact Nat.le_of_ble_eq_true rfl | exact h.elim) ?_
  intro pP eP sP mP aP bP hP9 cP C av I L hp
  unfold pX12_fresh at hp
  split at hp
  case h_2 => exact hp.elim
  case h_1 =>
    obtain ⟨hR, p1⟩ := hp
    have hF0 : f_fr [0] I I := f_fr_rf
    have hG0 : f_fr [0] L L := f_fr_rf
    have hO0 : f_fo [4, 5, 6, 7, 8] I I := f_fo_rf
    have lp47 : ∀ (J47 : fM) (M47 : fN), mR J47 ∧ f_fr [0] I J47 ∧ f_fr [0] L M47 ∧ f_fo [4, 5, 6, 7, 8] I J47 ∧ ((J47 0 7).toInt ≤ 1600) → f_W pP l eP (f_rm 2) sP mP aP bP hP9 cP mY 71 a cy dC dI 3 (f_K 2 (qX12_fresh [.ref 0] I L)) 47 [(0, .ref 0)] [] J47 M47 := by
      intro J47 M47 h9
      obtain ⟨hR47c, hF47c, hG47c, hO47c, u47_1⟩ := h9
      refine f_wp_ok C f_cl flX12_ok fiX12_ok fjX12_ok (sn := none) (fun j h => by cases h) (cs := (f_cnl [(281, (1, 3, 11, pX12_isGood, qX12_isGood)), (288, (1, 0, 11, pX12_misplaced, qX12_misplaced)), (340, (1, 1, 11, pX12_kindHere, qX12_kindHere)), (343, (1, 1, 11, pX12_wordHere, qX12_wordHere)), (277, (3, 0, 11, pX12_fails, qX12_fails)), (285, (1, 0, 11, pX12_goOn, qX12_goOn))])) (cz := (fun _ => none)) (f_cnl_of (P := fun j S => f_cok pP l eP (f_rm 2) sP mP aP bP hP9 cP mY 71 a cy dC dI 3 _ _ (.invokevirtual j) true S) (List.forall_mem_cons.mpr ⟨f_cokV C (mX12_isGood hinj) (ci := 11) rfl (List.forall_mem_cons.mpr ⟨(mlX12_ok _ (List.mem_of_getElem? (i := 7) rfl)), kc_X12_isGood⟩) (by decide +kernel) ⟨Nat.le_of_ble_eq_true rfl, Nat.le_of_ble_eq_true rfl⟩, List.forall_mem_cons.mpr ⟨f_cokV C (mX12_misplaced hinj) (ci := 11) rfl (List.forall_mem_cons.mpr ⟨(mlX12_ok _ (List.mem_of_getElem? (i := 9) rfl)), kc_X12_misplaced⟩) (by decide +kernel) ⟨Nat.le_of_ble_eq_true rfl, Nat.le_of_ble_eq_true rfl⟩, List.forall_mem_cons.mpr ⟨f_cokV C (mX12_kindHere hinj) (ci := 11) rfl (List.forall_mem_cons.mpr ⟨(mlX12_ok _ (List.mem_of_getElem? (i := 20) rfl)), kc_X12_kindHere⟩) (by decide +kernel) ⟨Nat.le_of_ble_eq_true rfl, Nat.le_of_ble_eq_true rfl⟩, List.forall_mem_cons.mpr ⟨f_cokV C (mX12_wordHere hinj) (ci := 11) rfl (List.forall_mem_cons.mpr ⟨(mlX12_ok _ (List.mem_of_getElem? (i := 21) rfl)), kc_X12_wordHere⟩) (by decide +kernel) ⟨Nat.le_of_ble_eq_true rfl, Nat.le_of_ble_eq_true rfl⟩, List.forall_mem_cons.mpr ⟨f_cokV C (mX12_fails hinj) (ci := 11) rfl (List.forall_mem_cons.mpr ⟨(mlX12_ok _ (List.mem_of_getElem? (i := 6) rfl)), kc_X12_fails⟩) (by decide +kernel) ⟨Nat.le_of_ble_eq_true rfl, Nat.le_of_ble_eq_true rfl⟩, List.forall_mem_cons.mpr ⟨f_cokV C (mX12_goOn hinj) (ci := 11) rfl (List.forall_mem_cons.mpr ⟨(mlX12_ok _ (List.mem_of_getElem? (i := 8) rfl)), kc_X12_goOn⟩) (by decide +kernel) ⟨Nat.le_of_ble_eq_true rfl, Nat.le_of_ble_eq_true rfl⟩, fun _ h => absurd h List.not_mem_nil⟩⟩⟩⟩⟩⟩)) (fun j S h => by cases h) tX12_fresh_ok (cut := (fun _ => none)) (fun t P h => by cases h) 13 47 (f_seek 47 0 tX12_fresh) (f_seek_ok 47 0 tX12_fresh tX12_fresh_ok) _ _ _ _ ?_
      refine And.intro trivial ?_
      intro x53 I53 L53 hq53
      have hq53 : I53 = J47 ∧ L53 = M47 ∧ ((x53.toInt = 1 ∧ (J47 0 4).toInt = 0 ∨ x53.toInt = 0 ∧ ¬ (J47 0 4).toInt = 0)) := hq53
      obtain ⟨eI53, eL53, c53_2⟩ := hq53
      replace eI53 := eI53.symm
      subst eI53
      replace eL53 := eL53.symm
      subst eL53
      apply And.intro
      · intro h56
        have h56 : x53.toInt = 0 := h56
        have r64_1 : 0 ≤ (J47 0 7).toInt ∧ (J47 0 7).toInt ≤ 1601 := hR47c 0 7
        exact ⟨hR47c, hO47c, hF47c, hG47c, (show (J47 0 7).toInt ≤ 1600 from by first | assumption | omega | rfl)⟩
      · intro h56
        have h56 : ¬ x53.toInt = 0 := h56
        have r60_1 : 0 ≤ (J47 0 7).toInt ∧ (J47 0 7).toInt ≤ 1601 := hR47c 0 7
        refine And.intro ⟨hR47c, (show (J47 0 7).toInt ≤ 1600 from by first | assumption | omega)⟩ ?_
        intro I60 L60 hq60
        have hq60 : mR I60 ∧ f_fo [6, 7, 8] J47 I60 ∧ f_fr [0] J47 I60 ∧ f_fr [0] M47 L60 ∧ (I60 0 7).toInt ≤ 1600 := hq60
        obtain ⟨c60_0, c60_1, c60_2, c60_3, c60_4⟩ := hq60
        have hO60 := f_fo_tr hO47c c60_1 rfl
        have hF60 := f_fr_tr hF47c c60_2 rfl
        have hG60 := f_fr_tr hG47c c60_3 rfl
        have r64_2 : 0 ≤ (I60 0 7).toInt ∧ (I60 0 7).toInt ≤ 1601 := c60_0 0 7
        exact ⟨c60_0, hO60, hF60, hG60, (show (I60 0 7).toInt ≤ 1600 from by first | assumption | omega | rfl)⟩
    refine f_wp_ok C f_cl flX12_ok fiX12_ok fjX12_ok (sn := none) (fun j h => by cases h) (cs := (f_cnl [(281, (1, 3, 11, pX12_isGood, qX12_isGood)), (288, (1, 0, 11, pX12_misplaced, qX12_misplaced)), (340, (1, 1, 11, pX12_kindHere, qX12_kindHere)), (343, (1, 1, 11, pX12_wordHere, qX12_wordHere)), (277, (3, 0, 11, pX12_fails, qX12_fails)), (285, (1, 0, 11, pX12_goOn, qX12_goOn))])) (cz := (fun _ => none)) (f_cnl_of (P := fun j S => f_cok pP l eP (f_rm 2) sP mP aP bP hP9 cP mY 71 a cy dC dI 3 _ _ (.invokevirtual j) true S) (List.forall_mem_cons.mpr ⟨f_cokV C (mX12_isGood hinj) (ci := 11) rfl (List.forall_mem_cons.mpr ⟨(mlX12_ok _ (List.mem_of_getElem? (i := 7) rfl)), kc_X12_isGood⟩) (by decide +kernel) ⟨Nat.le_of_ble_eq_true rfl, Nat.le_of_ble_eq_true rfl⟩, List.forall_mem_cons.mpr ⟨f_cokV C (mX12_misplaced hinj) (ci := 11) rfl (List.forall_mem_cons.mpr ⟨(mlX12_ok _ (List.mem_of_getElem? (i := 9) rfl)), kc_X12_misplaced⟩) (by decide +kernel) ⟨Nat.le_of_ble_eq_true rfl, Nat.le_of_ble_eq_true rfl⟩, List.forall_mem_cons.mpr ⟨f_cokV C (mX12_kindHere hinj) (ci := 11) rfl (List.forall_mem_cons.mpr ⟨(mlX12_ok _ (List.mem_of_getElem? (i := 20) rfl)), kc_X12_kindHere⟩) (by decide +kernel) ⟨Nat.le_of_ble_eq_true rfl, Nat.le_of_ble_eq_true rfl⟩, List.forall_mem_cons.mpr ⟨f_cokV C (mX12_wordHere hinj) (ci := 11) rfl (List.forall_mem_cons.mpr ⟨(mlX12_ok _ (List.mem_of_getElem? (i := 21) rfl)), kc_X12_wordHere⟩) (by decide +kernel) ⟨Nat.le_of_ble_eq_true rfl, Nat.le_of_ble_eq_true rfl⟩, List.forall_mem_cons.mpr ⟨f_cokV C (mX12_fails hinj) (ci := 11) rfl (List.forall_mem_cons.mpr ⟨(mlX12_ok _ (List.mem_of_getElem? (i := 6) rfl)), kc_X12_fails⟩) (by decide +kernel) ⟨Nat.le_of_ble_eq_true rfl, Nat.le_of_ble_eq_true rfl⟩, List.forall_mem_cons.mpr ⟨f_cokV C (mX12_goOn hinj) (ci := 11) rfl (List.forall_mem_cons.mpr ⟨(mlX12_ok _ (List.mem_of_getElem? (i := 8) rfl)), kc_X12_goOn⟩) (by decide +kernel) ⟨Nat.le_of_ble_eq_true rfl, Nat.le_of_ble_eq_true rfl⟩, fun _ h => absurd h List.not_mem_nil⟩⟩⟩⟩⟩⟩)) (fun j S h => by cases h) tX12_fresh_ok (cut := (f_cnl [(47, (fun (ls' : fLs) (st' : List Value) (I' : fM) (L' : fN) => (∀ q ∈ ([(0, .ref 0)] : fLs), q ∈ ls') ∧ st' = [] ∧ (mR I' ∧ f_fr [0] I I' ∧ f_fr [0] L L' ∧ f_fo [4, 5, 6, 7, 8] I I' ∧ ((I' 0 7).toInt ≤ 1600))))])) (f_cnl_of (P := fun (tQ : Nat) (P : fLs → List Value → fM → fN → Prop) => ∀ ls' st' I' L', P ls' st' I' L' → f_W pP l eP (f_rm 2) sP mP aP bP hP9 cP mY 71 a cy dC dI 3 (f_K 2 (qX12_fresh [.ref 0] I L)) tQ ls' st' I' L') (List.forall_mem_cons.mpr ⟨(fun ls' st' I' L' h => by obtain ⟨hs, e1, h9⟩ := h; rw [e1]; exact f_W_sub hs (lp47  I' L' h9)), fun _ h => absurd h List.not_mem_nil⟩)) 21 0 tX12_fresh tX12_fresh_ok _ _ _ _ ?_
    refine And.intro trivial ?_
    intro x1 I1 L1 hq1
    have hq1 : I1 = I ∧ L1 = L ∧ ((x1.toInt = 1 ∧ (I 0 4).toInt = 0 ∨ x1.toInt = 0 ∧ ¬ (I 0 4).toInt = 0)) := hq1
    obtain ⟨eI1, eL1, c1_2⟩ := hq1
    replace eI1 := eI1.symm
    subst eI1
    replace eL1 := eL1.symm
    subst eL1
    apply And.intro
    · intro h4
      have h4 : ¬ x1.toInt = 0 := h4
      apply And.intro
      · intro h14
        have h14 : (I 0 8).toInt = 2 := h14
        refine And.intro hR ?_
        intro x25 I25 L25 hq25
        have hq25 : I25 = I ∧ L25 = L ∧ -1 ≤ x25.toInt ∧ x25.toInt < (I 8 (I 0 25).toInt.toNat).toInt ∧ x25.toInt ≤ 4 := hq25
        obtain ⟨eI25, eL25, c25_2, c25_3, c25_4⟩ := hq25
        replace eI25 := eI25.symm
        subst eI25
        replace eL25 := eL25.symm
        subst eL25
        apply And.intro
        · intro h28
          have h28 : 0 ≤ x25.toInt := h28
          have r41_2 : 0 ≤ (I 0 6).toInt ∧ (I 0 6).toInt ≤ 1601 := hR 0 6
          refine And.intro ⟨hR, (show 1 ≤ (3 : Int) from by first | assumption | omega)⟩ ?_
          intro I44 L44 hq44
          have hq44 : mR I44 ∧ f_fo [4, 5] I I44 ∧ f_fr [0] I I44 ∧ L44 = L ∧ 1 ≤ (I44 0 4).toInt := hq44
          obtain ⟨c44_0, c44_1, c44_2, eL44, c44_4⟩ := hq44
          replace eL44 := eL44.symm
          subst eL44
          have hO44 := f_fo_tr hO0 c44_1 rfl
          have hF44 := f_fr_tr hF0 c44_2 rfl
          have r47_3 : 0 ≤ (I44 0 7).toInt ∧ (I44 0 7).toInt ≤ 1601 := c44_0 0 7
          have e47_4 : (I44 0 7).toInt = (I 0 7).toInt := congrArg Int32.toInt (c44_1 7 rfl)
          exact ⟨(by intro q9 h9; simp only [List.mem_cons, List.not_mem_nil, or_false] at h9; subst h9 <;> repeat (first | exact List.mem_cons_self | apply List.mem_cons_of_mem)), rfl, c44_0, hF44, hG0, hO44, (show (I44 0 7).toInt ≤ 1600 from by first | assumption | omega)⟩
        · intro h28
          have h28 : x25.toInt < 0 := h28
          refine And.intro hR ?_
          intro x32 I32 L32 hq32
          have hq32 : I32 = I ∧ L32 = L ∧ -1 ≤ x32.toInt ∧ x32.toInt < (I 9 (I 0 25).toInt.toNat).toInt ∧ x32.toInt ≤ 11 := hq32
          obtain ⟨eI32, eL32, c32_2, c32_3, c32_4⟩ := hq32
          replace eI32 := eI32.symm
          subst eI32
          replace eL32 := eL32.symm
          subst eL32
          apply And.intro
          · intro h35
            have h35 : x32.toInt < 0 := h35
            have r47_2 : 0 ≤ (I 0 7).toInt ∧ (I 0 7).toInt ≤ 1601 := hR 0 7
            exact ⟨(by intro q9 h9; simp only [List.mem_cons, List.not_mem_nil, or_false] at h9; subst h9 <;> repeat (first | exact List.mem_cons_self | apply List.mem_cons_of_mem)), rfl, hR, hF0, hG0, hO0, (show (I 0 7).toInt ≤ 1600 from by first | assumption | omega)⟩
          · intro h35
            have h35 : 0 ≤ x32.toInt := h35
            have r41_2 : 0 ≤ (I 0 6).toInt ∧ (I 0 6).toInt ≤ 1601 := hR 0 6
            refine And.intro ⟨hR, (show 1 ≤ (3 : Int) from by first | assumption | omega)⟩ ?_
            intro I44 L44 hq44
            have hq44 : mR I44 ∧ f_fo [4, 5] I I44 ∧ f_fr [0] I I44 ∧ L44 = L ∧ 1 ≤ (I44 0 4).toInt := hq44
            obtain ⟨c44_0, c44_1, c44_2, eL44, c44_4⟩ := hq44
            replace eL44 := eL44.symm
            subst eL44
            have hO44 := f_fo_tr hO0 c44_1 rfl
            have hF44 := f_fr_tr hF0 c44_2 rfl
            have r47_3 : 0 ≤ (I44 0 7).toInt ∧ (I44 0 7).toInt ≤ 1601 := c44_0 0 7
            have e47_4 : (I44 0 7).toInt = (I 0 7).toInt := congrArg Int32.toInt (c44_1 7 rfl)
            exact ⟨(by intro q9 h9; simp only [List.mem_cons, List.not_mem_nil, or_false] at h9; subst h9 <;> repeat (first | exact List.mem_cons_self | apply List.mem_cons_of_mem)), rfl, c44_0, hF44, hG0, hO44, (show (I44 0 7).toInt ≤ 1600 from by first | assumption | omega)⟩
      · intro h14
        have h14 : ¬ (I 0 8).toInt = 2 := h14
        refine And.intro hR ?_
        intro I18 L18 hq18
        have hq18 : mR I18 ∧ f_fo [4, 5] I I18 ∧ f_fr [0] I I18 ∧ L18 = L ∧ 1 ≤ (I18 0 4).toInt := hq18
        obtain ⟨c18_0, c18_1, c18_2, eL18, c18_4⟩ := hq18
        replace eL18 := eL18.symm
        subst eL18
        have hO18 := f_fo_tr hO0 c18_1 rfl
        have hF18 := f_fr_tr hF0 c18_2 rfl
        have r47_2 : 0 ≤ (I18 0 7).toInt ∧ (I18 0 7).toInt ≤ 1601 := c18_0 0 7
        have e47_3 : (I18 0 7).toInt = (I 0 7).toInt := congrArg Int32.toInt (c18_1 7 rfl)
        exact ⟨(by intro q9 h9; simp only [List.mem_cons, List.not_mem_nil, or_false] at h9; subst h9 <;> repeat (first | exact List.mem_cons_self | apply List.mem_cons_of_mem)), rfl, c18_0, hF18, hG0, hO18, (show (I18 0 7).toInt ≤ 1600 from by first | assumption | omega)⟩
    · intro h4
      have h4 : x1.toInt = 0 := h4
      have r8_1 : 0 ≤ (I 0 7).toInt ∧ (I 0 7).toInt ≤ 1601 := hR 0 7
      exact ⟨hR, hO0, hF0, hG0, (show (I 0 7).toInt ≤ 1600 from by first | assumption | omega | rfl)⟩
def tX12_isFull : List (Instr × Nat) := [(.aload_n 0, 1), (.ldc2_w 239, 3), (.invokevirtual 312, 3), (.ifCond .eq 22, 3), (.aload_n 0, 1), (.getfield 36, 3), (.aload_n 0, 1), (.getfield 294, 3), (.iaload, 1), (.iconst 5, 1), (.if_icmp .ne 7, 3), (.iconst 1, 1), (.goto 4, 3), (.iconst 0, 1), (.ireturn, 1), (.aload_n 0, 1), (.ldc2_w 243, 3), (.invokevirtual 312, 3), (.ifCond .eq 23, 3), (.aload_n 0, 1), (.getfield 39, 3), (.aload_n 0, 1), (.getfield 294, 3), (.iaload, 1), (.bipush 12, 2), (.if_icmp .ne 7, 3), (.iconst 1, 1), (.goto 4, 3), (.iconst 0, 1), (.ireturn, 1), (.aload_n 0, 1), (.ldc2_w 241, 3), (.invokevirtual 312, 3), (.ifCond .eq 15, 3), (.aload_n 0, 1), (.getfield 54, 3), (.aload_n 0, 1), (.getfield 294, 3), (.baload, 1), (.ifCond .eq 7, 3), (.iconst 1, 1), (.goto 4, 3), (.iconst 0, 1), (.ireturn, 1)]
theorem tX12_isFull_ok : f_chk cX12_isFull 0 tX12_isFull = true := by decide +kernel
def pX12_isFull (av : List Value) (I : fM) (L : fN) : Prop := match av with
  | [.ref 0] => mR I
  | _ => False
def qX12_isFull (av : List Value) (I : fM) (L : fN) (r : Value) (I' : fM) (L' : fN) : Prop := match av, r with
  | [.ref 0], .int x => I' = I ∧ L' = L ∧ (x.toInt = 0 ∨ x.toInt = 1)
  | _, _ => False
set_option maxHeartbeats 4000000 in
set_option maxRecDepth 100000 in
theorem mX12_isFull {l : Launch} {a : Nat → Nat} {cy dC : Nat → ClassId} {dI : Nat → Nat → Nat} (hinj : ∀ i j, i < 71 → j < 71 → a i = a j → i = j) : f_Met (fun _ => True) l mY 71 a cy dC dI yX12_isFull cX12_isFull 1 3 1 pX12_isFull qX12_isFull := by
  refine f_met_of (f_Ec_T 71 a) hinj mY_hi (by decide) (fun av I L h => by unfold pX12_isFull at h; split at h <;> first | exact Nat.le_of_ble_eq_true rfl | exact h.elim) ?_
  intro pP eP sP mP aP bP hP9 cP C av I L hp
  unfold pX12_isFull at hp
  split at hp
  case h_2 => exact hp.elim
  case h_1 =>
    have hR := hp
    refine f_wp_ok C f_cl flX12_ok fiX12_ok fjX12_ok (sn := none) (fun j h => by cases h) (cs := (f_cnl [(312, (2, 3, 11, pX12_isWord, qX12_isWord))])) (cz := (fun _ => none)) (f_cnl_of (P := fun j S => f_cok pP l eP (f_rm 1) sP mP aP bP hP9 cP mY 71 a cy dC dI 1 _ _ (.invokevirtual j) true S) (List.forall_mem_cons.mpr ⟨f_cokV C (mX12_isWord hinj) (ci := 11) rfl (List.forall_mem_cons.mpr ⟨(mlX12_ok _ (List.mem_of_getElem? (i := 12) rfl)), kc_X12_isWord⟩) (by decide +kernel) ⟨Nat.le_of_ble_eq_true rfl, Nat.le_of_ble_eq_true rfl⟩, fun _ h => absurd h List.not_mem_nil⟩)) (fun j S h => by cases h) tX12_isFull_ok (cut := (fun _ => none)) (fun t P h => by cases h) 24 0 tX12_isFull tX12_isFull_ok _ _ _ _ ?_
    refine And.intro trivial ?_
    intro x4 I4 L4 hq4
    have hq4 : I4 = I ∧ L4 = L ∧ ((x4.toInt = 0 ∨ x4.toInt = 1)) := hq4
    obtain ⟨eI4, eL4, c4_2⟩ := hq4
    replace eI4 := eI4.symm
    subst eI4
    replace eL4 := eL4.symm
    subst eL4
    apply And.intro
    · intro h7
      have h7 : x4.toInt = 0 := h7
      refine And.intro trivial ?_
      intro x33 I33 L33 hq33
      have hq33 : I33 = I ∧ L33 = L ∧ ((x33.toInt = 0 ∨ x33.toInt = 1)) := hq33
      obtain ⟨eI33, eL33, c33_2⟩ := hq33
      replace eI33 := eI33.symm
      subst eI33
      replace eL33 := eL33.symm
      subst eL33
      apply And.intro
      · intro h36
        have h36 : x33.toInt = 0 := h36
        refine And.intro trivial ?_
        intro x63 I63 L63 hq63
        have hq63 : I63 = I ∧ L63 = L ∧ ((x63.toInt = 0 ∨ x63.toInt = 1)) := hq63
        obtain ⟨eI63, eL63, c63_2⟩ := hq63
        replace eI63 := eI63.symm
        subst eI63
        replace eL63 := eL63.symm
        subst eL63
        apply And.intro
        · intro h66
          have h66 : x63.toInt = 0 := h66
          exact ⟨Or.inr rfl, rfl, rfl, (show ((1 : Int) = 0 ∨ (1 : Int) = 1) from by first | assumption | omega | rfl)⟩
        · intro h66
          have h66 : ¬ x63.toInt = 0 := h66
          have r74_1 : 0 ≤ (I 0 25).toInt ∧ (I 0 25).toInt ≤ 1 := hR 0 25
          refine And.intro (show f_in (I 0 25) 2 from ⟨show 0 ≤ (I 0 25).toInt from by omega, show (I 0 25).toInt < 2 from by omega⟩) ?_
          apply And.intro
          · intro h78
            have h78 : (I 14 ((I 0 25).toInt.toNat)).toInt = 0 := h78
            exact ⟨Or.inl rfl, rfl, rfl, (show ((0 : Int) = 0 ∨ (0 : Int) = 1) from by first | assumption | omega | rfl)⟩
          · intro h78
            have h78 : ¬ (I 14 ((I 0 25).toInt.toNat)).toInt = 0 := h78
            exact ⟨Or.inr rfl, rfl, rfl, (show ((1 : Int) = 0 ∨ (1 : Int) = 1) from by first | assumption | omega | rfl)⟩
      · intro h36
        have h36 : ¬ x33.toInt = 0 := h36
        have r44_1 : 0 ≤ (I 0 25).toInt ∧ (I 0 25).toInt ≤ 1 := hR 0 25
        refine And.intro (show f_in (I 0 25) 2 from ⟨show 0 ≤ (I 0 25).toInt from by omega, show (I 0 25).toInt < 2 from by omega⟩) ?_
        have r47_2 : 0 ≤ (I 9 ((I 0 25).toInt.toNat)).toInt ∧ (I 9 ((I 0 25).toInt.toNat)).toInt ≤ 12 := hR 9 ((I 0 25).toInt.toNat)
        apply And.intro
        · intro h50
          have h50 : ¬ (I 9 ((I 0 25).toInt.toNat)).toInt = 12 := h50
          exact ⟨Or.inl rfl, rfl, rfl, (show ((0 : Int) = 0 ∨ (0 : Int) = 1) from by first | assumption | omega | rfl)⟩
        · intro h50
          have h50 : (I 9 ((I 0 25).toInt.toNat)).toInt = 12 := h50
          exact ⟨Or.inr rfl, rfl, rfl, (show ((1 : Int) = 0 ∨ (1 : Int) = 1) from by first | assumption | omega | rfl)⟩
    · intro h7
      have h7 : ¬ x4.toInt = 0 := h7
      have r15_1 : 0 ≤ (I 0 25).toInt ∧ (I 0 25).toInt ≤ 1 := hR 0 25
      refine And.intro (show f_in (I 0 25) 2 from ⟨show 0 ≤ (I 0 25).toInt from by omega, show (I 0 25).toInt < 2 from by omega⟩) ?_
      have r18_2 : 0 ≤ (I 8 ((I 0 25).toInt.toNat)).toInt ∧ (I 8 ((I 0 25).toInt.toNat)).toInt ≤ 5 := hR 8 ((I 0 25).toInt.toNat)
      apply And.intro
      · intro h20
        have h20 : ¬ (I 8 ((I 0 25).toInt.toNat)).toInt = 5 := h20
        exact ⟨Or.inl rfl, rfl, rfl, (show ((0 : Int) = 0 ∨ (0 : Int) = 1) from by first | assumption | omega | rfl)⟩
      · intro h20
        have h20 : (I 8 ((I 0 25).toInt.toNat)).toInt = 5 := h20
        exact ⟨Or.inr rfl, rfl, rfl, (show ((1 : Int) = 0 ∨ (1 : Int) = 1) from by first | assumption | omega | rfl)⟩
def tX12_isWordNumber : List (Instr × Nat) := [(.iload_n 1, 1), (.iconst 0, 1), (.aload_n 0, 1), (.getfield 39, 3), (.aload_n 0, 1), (.getfield 300, 3), (.iaload, 1), (.iconst 1, 1), (.isub, 1), (.invokestatic 366, 3), (.ireturn, 1)]
theorem tX12_isWordNumber_ok : f_chk cX12_isWordNumber 0 tX12_isWordNumber = true := by decide +kernel
def pX12_isWordNumber (av : List Value) (I : fM) (L : fN) : Prop := match av with
  | [.ref 0, .int w] => mR I
  | _ => False
def qX12_isWordNumber (av : List Value) (I : fM) (L : fN) (r : Value) (I' : fM) (L' : fN) : Prop := match av, r with
  | [.ref 0, .int w], .int x => I' = I ∧ L' = L ∧ (x.toInt = 0 ∨ x.toInt = 1 ∧ 0 ≤ w.toInt ∧ w.toInt < (I 9 (I 0 24).toInt.toNat).toInt ∧ w.toInt ≤ 11)
  | _, _ => False
set_option maxHeartbeats 4000000 in
set_option maxRecDepth 100000 in
theorem mX12_isWordNumber {l : Launch} {a : Nat → Nat} {cy dC : Nat → ClassId} {dI : Nat → Nat → Nat} (hinj : ∀ i j, i < 71 → j < 71 → a i = a j → i = j) : f_Met (fun _ => True) l mY 71 a cy dC dI yX12_isWordNumber cX12_isWordNumber 2 3 1 pX12_isWordNumber qX12_isWordNumber := by
  refine f_met_of (f_Ec_T 71 a) hinj mY_hi (by decide) (fun av I L h => by unfold pX12_isWordNumber at h; split at h <;> first | exact Nat.le_of_ble_eq_true rfl | exact h.elim) ?_
  intro pP eP sP mP aP bP hP9 cP C av I L hp
  unfold pX12_isWordNumber at hp
  split at hp
  case h_2 => exact hp.elim
  case h_1 w =>
    have hR := hp
    refine f_wp_ok C f_cl flX12_ok fiX12_ok fjX12_ok (sn := none) (fun j h => by cases h) (cs := (fun _ => none)) (cz := (f_cnl [(366, (3, 3, 11, pX12_isIn, qX12_isIn))])) (fun j S h => by cases h) (f_cnl_of (P := fun j S => f_cok pP l eP (f_rm 1) sP mP aP bP hP9 cP mY 71 a cy dC dI 2 _ _ (.invokestatic j) false S) (List.forall_mem_cons.mpr ⟨f_cokS C (mX12_isIn hinj) (List.forall_mem_cons.mpr ⟨(mlX12_ok _ (List.mem_of_getElem? (i := 27) rfl)), kc_X12_isIn⟩) (by decide +kernel) ⟨Nat.le_of_ble_eq_true rfl, Nat.le_of_ble_eq_true rfl⟩, fun _ h => absurd h List.not_mem_nil⟩)) tX12_isWordNumber_ok (cut := (fun _ => none)) (fun t P h => by cases h) 14 0 tX12_isWordNumber tX12_isWordNumber_ok _ _ _ _ ?_
    have r7_1 : 0 ≤ (I 0 24).toInt ∧ (I 0 24).toInt ≤ 1 := hR 0 24
    refine And.intro (show f_in (I 0 24) 2 from ⟨show 0 ≤ (I 0 24).toInt from by omega, show (I 0 24).toInt < 2 from by omega⟩) ?_
    have r10_2 : 0 ≤ (I 9 ((I 0 24).toInt.toNat)).toInt ∧ (I 9 ((I 0 24).toInt.toNat)).toInt ≤ 12 := hR 9 ((I 0 24).toInt.toNat)
    intro z12 q12 _ hq12 hl12 hu12
    have hq12 : z12.toInt = (I 9 ((I 0 24).toInt.toNat)).toInt - 1 + 4294967296 * q12 := hq12
    try have hz12 : z12.toInt = (I 9 ((I 0 24).toInt.toNat)).toInt - 1 := by omega
    refine And.intro trivial ?_
    intro x13 I13 L13 hq13
    have hq13 : I13 = I ∧ L13 = L ∧ ((x13.toInt = 1 ∧ (0 : Int) ≤ w.toInt ∧ w.toInt ≤ z12.toInt ∨ x13.toInt = 0 ∧ (w.toInt < (0 : Int) ∨ z12.toInt < w.toInt))) := hq13
    obtain ⟨eI13, eL13, c13_2⟩ := hq13
    replace eI13 := eI13.symm
    subst eI13
    replace eL13 := eL13.symm
    subst eL13
    exact ⟨(f_b01 (show x13.toInt = 0 ∨ x13.toInt = 1 from by omega)), rfl, rfl, (show (x13.toInt = 0 ∨ x13.toInt = 1 ∧ 0 ≤ w.toInt ∧ w.toInt < (I 9 (I 0 24).toInt.toNat).toInt ∧ w.toInt ≤ 11) from by first | assumption | omega | rfl)⟩
def tX12_tags : List (Instr × Nat) := [(.aload_n 0, 1), (.iload_n 1, 1), (.invokevirtual 370, 3), (.ifCond .eq 20, 3), (.aload_n 0, 1), (.getfield 48, 3), (.bipush 12, 2), (.aload_n 0, 1), (.getfield 300, 3), (.imul, 1), (.iload_n 1, 1), (.iadd, 1), (.iaload, 1), (.goto 4, 3), (.iconst (-1), 1), (.ireturn, 1)]
theorem tX12_tags_ok : f_chk cX12_tags 0 tX12_tags = true := by decide +kernel
def pX12_tags (av : List Value) (I : fM) (L : fN) : Prop := match av with
  | [.ref 0, .int w] => mR I
  | _ => False
def qX12_tags (av : List Value) (I : fM) (L : fN) (r : Value) (I' : fM) (L' : fN) : Prop := match av, r with
  | [.ref 0, .int w], .int x => I' = I ∧ L' = L
  | _, _ => False
set_option maxHeartbeats 4000000 in
set_option maxRecDepth 100000 in
theorem mX12_tags {l : Launch} {a : Nat → Nat} {cy dC : Nat → ClassId} {dI : Nat → Nat → Nat} (hinj : ∀ i j, i < 71 → j < 71 → a i = a j → i = j) : f_Met (fun _ => True) l mY 71 a cy dC dI yX12_tags cX12_tags 2 1 2 pX12_tags qX12_tags := by
  refine f_met_of (f_Ec_T 71 a) hinj mY_hi (by decide) (fun av I L h => by unfold pX12_tags at h; split at h <;> first | exact Nat.le_of_ble_eq_true rfl | exact h.elim) ?_
  intro pP eP sP mP aP bP hP9 cP C av I L hp
  unfold pX12_tags at hp
  split at hp
  case h_2 => exact hp.elim
  case h_1 w =>
    have hR := hp
    refine f_wp_ok C f_cl flX12_ok fiX12_ok fjX12_ok (sn := none) (fun j h => by cases h) (cs := (f_cnl [(370, (2, 3, 11, pX12_isWordNumber, qX12_isWordNumber))])) (cz := (fun _ => none)) (f_cnl_of (P := fun j S => f_cok pP l eP (f_rm 2) sP mP aP bP hP9 cP mY 71 a cy dC dI 2 _ _ (.invokevirtual j) true S) (List.forall_mem_cons.mpr ⟨f_cokV C (mX12_isWordNumber hinj) (ci := 11) rfl (List.forall_mem_cons.mpr ⟨(mlX12_ok _ (List.mem_of_getElem? (i := 28) rfl)), kc_X12_isWordNumber⟩) (by decide +kernel) ⟨Nat.le_of_ble_eq_true rfl, Nat.le_of_ble_eq_true rfl⟩, fun _ h => absurd h List.not_mem_nil⟩)) (fun j S h => by cases h) tX12_tags_ok (cut := (fun _ => none)) (fun t P h => by cases h) 18 0 tX12_tags tX12_tags_ok _ _ _ _ ?_
    refine And.intro hR ?_
    intro x2 I2 L2 hq2
    have hq2 : I2 = I ∧ L2 = L ∧ ((x2.toInt = 0 ∨ x2.toInt = 1 ∧ 0 ≤ w.toInt ∧ w.toInt < (I 9 (I 0 24).toInt.toNat).toInt ∧ w.toInt ≤ 11)) := hq2
    obtain ⟨eI2, eL2, c2_2⟩ := hq2
    replace eI2 := eI2.symm
    subst eI2
    replace eL2 := eL2.symm
    subst eL2
    apply And.intro
    · intro h5
      have h5 : x2.toInt = 0 := h5
      exact ⟨rfl, rfl⟩
    · intro h5
      have h5 : ¬ x2.toInt = 0 := h5
      have r15_1 : 0 ≤ (I 0 24).toInt ∧ (I 0 24).toInt ≤ 1 := hR 0 24
      intro z18 q18 _ hq18 hl18 hu18
      have hq18 : z18.toInt = 12 * (I 0 24).toInt + 4294967296 * q18 := hq18
      try have hz18 : z18.toInt = 12 * (I 0 24).toInt := by omega
      intro z20 q20 _ hq20 hl20 hu20
      have hq20 : z20.toInt = z18.toInt + w.toInt + 4294967296 * q20 := hq20
      try have hz20 : z20.toInt = z18.toInt + w.toInt := by omega
      refine And.intro (show f_in z20 24 from ⟨show 0 ≤ z20.toInt from by omega, show z20.toInt < 24 from by omega⟩) ?_
      have r21_2 : 0 ≤ (I 12 (z20.toInt.toNat)).toInt ∧ (I 12 (z20.toInt.toNat)).toInt ≤ 3 := hR 12 (z20.toInt.toNat)
      exact ⟨rfl, rfl⟩
def tX12_at : List (Instr × Nat) := [(.iload_n 1, 1), (.iconst 0, 1), (.aload_n 0, 1), (.getfield 309, 3), (.iconst 1, 1), (.isub, 1), (.invokestatic 366, 3), (.ifCond .eq 12, 3), (.aload_n 0, 1), (.getfield 71, 3), (.iload_n 1, 1), (.iaload, 1), (.goto 4, 3), (.iconst (-1), 1), (.ireturn, 1)]
theorem tX12_at_ok : f_chk cX12_at 0 tX12_at = true := by decide +kernel
def pX12_at (av : List Value) (I : fM) (L : fN) : Prop := match av with
  | [.ref 0, .int p] => mR I
  | _ => False
def qX12_at (av : List Value) (I : fM) (L : fN) (r : Value) (I' : fM) (L' : fN) : Prop := match av, r with
  | [.ref 0, .int p], .int x => I' = I ∧ L' = L
  | _, _ => False
set_option maxHeartbeats 4000000 in
set_option maxRecDepth 100000 in
theorem mX12_at {l : Launch} {a : Nat → Nat} {cy dC : Nat → ClassId} {dI : Nat → Nat → Nat} (hinj : ∀ i j, i < 71 → j < 71 → a i = a j → i = j) : f_Met (fun _ => True) l mY 71 a cy dC dI yX12_at cX12_at 2 1 1 pX12_at qX12_at := by
  refine f_met_of (f_Ec_T 71 a) hinj mY_hi (by decide) (fun av I L h => by unfold pX12_at at h; split at h <;> first | exact Nat.le_of_ble_eq_true rfl | exact h.elim) ?_
  intro pP eP sP mP aP bP hP9 cP C av I L hp
  unfold pX12_at at hp
  split at hp
  case h_2 => exact hp.elim
  case h_1 p =>
    have hR := hp
    refine f_wp_ok C f_cl flX12_ok fiX12_ok fjX12_ok (sn := none) (fun j h => by cases h) (cs := (fun _ => none)) (cz := (f_cnl [(366, (3, 3, 11, pX12_isIn, qX12_isIn))])) (fun j S h => by cases h) (f_cnl_of (P := fun j S => f_cok pP l eP (f_rm 1) sP mP aP bP hP9 cP mY 71 a cy dC dI 2 _ _ (.invokestatic j) false S) (List.forall_mem_cons.mpr ⟨f_cokS C (mX12_isIn hinj) (List.forall_mem_cons.mpr ⟨(mlX12_ok _ (List.mem_of_getElem? (i := 27) rfl)), kc_X12_isIn⟩) (by decide +kernel) ⟨Nat.le_of_ble_eq_true rfl, Nat.le_of_ble_eq_true rfl⟩, fun _ h => absurd h List.not_mem_nil⟩)) tX12_at_ok (cut := (fun _ => none)) (fun t P h => by cases h) 17 0 tX12_at tX12_at_ok _ _ _ _ ?_
    have r3_1 : 0 ≤ (I 0 30).toInt ∧ (I 0 30).toInt ≤ 8 := hR 0 30
    intro z7 q7 _ hq7 hl7 hu7
    have hq7 : z7.toInt = (I 0 30).toInt - 1 + 4294967296 * q7 := hq7
    try have hz7 : z7.toInt = (I 0 30).toInt - 1 := by omega
    refine And.intro trivial ?_
    intro x8 I8 L8 hq8
    have hq8 : I8 = I ∧ L8 = L ∧ ((x8.toInt = 1 ∧ (0 : Int) ≤ p.toInt ∧ p.toInt ≤ z7.toInt ∨ x8.toInt = 0 ∧ (p.toInt < (0 : Int) ∨ z7.toInt < p.toInt))) := hq8
    obtain ⟨eI8, eL8, c8_2⟩ := hq8
    replace eI8 := eI8.symm
    subst eI8
    replace eL8 := eL8.symm
    subst eL8
    apply And.intro
    · intro h11
      have h11 : x8.toInt = 0 := h11
      exact ⟨rfl, rfl⟩
    · intro h11
      have h11 : ¬ x8.toInt = 0 := h11
      refine And.intro (show f_in p 8 from ⟨show 0 ≤ p.toInt from by omega, show p.toInt < 8 from by omega⟩) ?_
      have r19_2 : 0 ≤ (I 19 (p.toInt.toNat)).toInt ∧ (I 19 (p.toInt.toNat)).toInt ≤ 11 := hR 19 (p.toInt.toNat)
      exact ⟨rfl, rfl⟩
def tX12_counts : List (Instr × Nat) := [(.aload_n 0, 1), (.getfield 188, 3), (.iload_n 1, 1), (.iaload, 1), (.iload_n 2, 1), (.if_icmp .gt 26, 3), (.aload_n 0, 1), (.getfield 191, 3), (.iload_n 1, 1), (.iaload, 1), (.ifCond .lt 13, 3), (.aload_n 0, 1), (.getfield 191, 3), (.iload_n 1, 1), (.iaload, 1), (.iload_n 2, 1), (.if_icmp .le 7, 3), (.iconst 1, 1), (.goto 4, 3), (.iconst 0, 1), (.ireturn, 1)]
theorem tX12_counts_ok : f_chk cX12_counts 0 tX12_counts = true := by decide +kernel
def pX12_counts (av : List Value) (I : fM) (L : fN) : Prop := match av with
  | [.ref 0, .int n, .int k] => 0 ≤ n.toInt ∧ n.toInt ≤ 11
  | _ => False
def qX12_counts (av : List Value) (I : fM) (L : fN) (r : Value) (I' : fM) (L' : fN) : Prop := match av, r with
  | [.ref 0, .int n, .int k], .int x => I' = I ∧ L' = L ∧ (x.toInt = 0 ∨ x.toInt = 1)
  | _, _ => False
set_option maxHeartbeats 4000000 in
set_option maxRecDepth 100000 in
theorem mX12_counts {l : Launch} {a : Nat → Nat} {cy dC : Nat → ClassId} {dI : Nat → Nat → Nat} (hinj : ∀ i j, i < 71 → j < 71 → a i = a j → i = j) : f_Met (fun _ => True) l mY 71 a cy dC dI yX12_counts cX12_counts 3 3 0 pX12_counts qX12_counts := by
  refine f_met_of (f_Ec_T 71 a) hinj mY_hi (by decide) (fun av I L h => by unfold pX12_counts at h; split at h <;> first | exact Nat.le_of_ble_eq_true rfl | exact h.elim) ?_
  intro pP eP sP mP aP bP hP9 cP C av I L hp
  unfold pX12_counts at hp
  split at hp
  case h_2 => exact hp.elim
  case h_1 n k =>
    obtain ⟨p0, p1⟩ := hp
    refine f_wp_ok C f_cl flX12_ok fiX12_ok fjX12_ok (sn := none) (fun j h => by cases h) (cs := (fun _ => none)) (cz := (fun _ => none)) (fun j S h => by cases h) (fun j S h => by cases h) tX12_counts_ok (cut := (fun _ => none)) (fun t P h => by cases h) 23 0 tX12_counts tX12_counts_ok _ _ _ _ ?_
    refine And.intro (show f_in n 12 from ⟨show 0 ≤ n.toInt from by omega, show n.toInt < 12 from by omega⟩) ?_
    apply And.intro
    · intro h7
      have h7 : k.toInt < (I 58 (n.toInt.toNat)).toInt := h7
      exact ⟨Or.inl rfl, rfl, rfl, (show ((0 : Int) = 0 ∨ (0 : Int) = 1) from by first | assumption | omega | rfl)⟩
    · intro h7
      have h7 : (I 58 (n.toInt.toNat)).toInt ≤ k.toInt := h7
      refine And.intro (show f_in n 12 from ⟨show 0 ≤ n.toInt from by omega, show n.toInt < 12 from by omega⟩) ?_
      apply And.intro
      · intro h16
        have h16 : (I 59 (n.toInt.toNat)).toInt < 0 := h16
        exact ⟨Or.inr rfl, rfl, rfl, (show ((1 : Int) = 0 ∨ (1 : Int) = 1) from by first | assumption | omega | rfl)⟩
      · intro h16
        have h16 : 0 ≤ (I 59 (n.toInt.toNat)).toInt := h16
        refine And.intro (show f_in n 12 from ⟨show 0 ≤ n.toInt from by omega, show n.toInt < 12 from by omega⟩) ?_
        apply And.intro
        · intro h26
          have h26 : (I 59 (n.toInt.toNat)).toInt ≤ k.toInt := h26
          exact ⟨Or.inl rfl, rfl, rfl, (show ((0 : Int) = 0 ∨ (0 : Int) = 1) from by first | assumption | omega | rfl)⟩
        · intro h26
          have h26 : k.toInt < (I 59 (n.toInt.toNat)).toInt := h26
          exact ⟨Or.inr rfl, rfl, rfl, (show ((1 : Int) = 0 ∨ (1 : Int) = 1) from by first | assumption | omega | rfl)⟩
def tX12_untell : List (Instr × Nat) := [(.iload_n 1, 1), (.iconst 0, 1), (.aload_n 0, 1), (.getfield 306, 3), (.iconst 1, 1), (.isub, 1), (.invokestatic 366, 3), (.ifCond .eq 12, 3), (.aload_n 0, 1), (.getfield 191, 3), (.iload_n 1, 1), (.iaload, 1), (.ifCond .lt 5, 3), (.iconst 0, 1), (.ireturn, 1), (.aload_n 0, 1), (.getfield 191, 3), (.iload_n 1, 1), (.aload_n 0, 1), (.getfield 522, 3), (.iastore, 1), (.iconst 1, 1), (.ireturn, 1)]
theorem tX12_untell_ok : f_chk cX12_untell 0 tX12_untell = true := by decide +kernel
def pX12_untell (av : List Value) (I : fM) (L : fN) : Prop := match av with
  | [.ref 0, .int n] => mR I
  | _ => False
def qX12_untell (av : List Value) (I : fM) (L : fN) (r : Value) (I' : fM) (L' : fN) : Prop := match av, r with
  | [.ref 0, .int n], .int x => mR I' ∧ f_fr [59] I I' ∧ L' = L
  | _, _ => False
set_option maxHeartbeats 4000000 in
set_option maxRecDepth 100000 in
theorem mX12_untell {l : Launch} {a : Nat → Nat} {cy dC : Nat → ClassId} {dI : Nat → Nat → Nat} (hinj : ∀ i j, i < 71 → j < 71 → a i = a j → i = j) : f_Met (fun _ => True) l mY 71 a cy dC dI yX12_untell cX12_untell 2 3 1 pX12_untell qX12_untell := by
  refine f_met_of (f_Ec_T 71 a) hinj mY_hi (by decide) (fun av I L h => by unfold pX12_untell at h; split at h <;> first | exact Nat.le_of_ble_eq_true rfl | exact h.elim) ?_
  intro pP eP sP mP aP bP hP9 cP C av I L hp
  unfold pX12_untell at hp
  split at hp
  case h_2 => exact hp.elim
  case h_1 n =>
    have hR := hp
    have hF0 : f_fr [59] I I := f_fr_rf
    refine f_wp_ok C f_cl flX12_ok fiX12_ok fjX12_ok (sn := none) (fun j h => by cases h) (cs := (fun _ => none)) (cz := (f_cnl [(366, (3, 3, 11, pX12_isIn, qX12_isIn))])) (fun j S h => by cases h) (f_cnl_of (P := fun j S => f_cok pP l eP (f_rm 1) sP mP aP bP hP9 cP mY 71 a cy dC dI 2 _ _ (.invokestatic j) false S) (List.forall_mem_cons.mpr ⟨f_cokS C (mX12_isIn hinj) (List.forall_mem_cons.mpr ⟨(mlX12_ok _ (List.mem_of_getElem? (i := 27) rfl)), kc_X12_isIn⟩) (by decide +kernel) ⟨Nat.le_of_ble_eq_true rfl, Nat.le_of_ble_eq_true rfl⟩, fun _ h => absurd h List.not_mem_nil⟩)) tX12_untell_ok (cut := (fun _ => none)) (fun t P h => by cases h) 24 0 tX12_untell tX12_untell_ok _ _ _ _ ?_
    have r3_1 : 0 ≤ (I 0 83).toInt ∧ (I 0 83).toInt ≤ 12 := hR 0 83
    intro z7 q7 _ hq7 hl7 hu7
    have hq7 : z7.toInt = (I 0 83).toInt - 1 + 4294967296 * q7 := hq7
    try have hz7 : z7.toInt = (I 0 83).toInt - 1 := by omega
    refine And.intro trivial ?_
    intro x8 I8 L8 hq8
    have hq8 : I8 = I ∧ L8 = L ∧ ((x8.toInt = 1 ∧ (0 : Int) ≤ n.toInt ∧ n.toInt ≤ z7.toInt ∨ x8.toInt = 0 ∧ (n.toInt < (0 : Int) ∨ z7.toInt < n.toInt))) := hq8
    obtain ⟨eI8, eL8, c8_2⟩ := hq8
    replace eI8 := eI8.symm
    subst eI8
    replace eL8 := eL8.symm
    subst eL8
    apply And.intro
    · intro h11
      have h11 : x8.toInt = 0 := h11
      exact ⟨Or.inl rfl, hR, hF0, rfl⟩
    · intro h11
      have h11 : ¬ x8.toInt = 0 := h11
      refine And.intro (show f_in n 12 from ⟨show 0 ≤ n.toInt from by omega, show n.toInt < 12 from by omega⟩) ?_
      apply And.intro
      · intro h20
        have h20 : (I 59 (n.toInt.toNat)).toInt < 0 := h20
        have r31_3 : 0 ≤ (I 0 84).toInt ∧ (I 0 84).toInt ≤ 100000 := hR 0 84
        refine And.intro (show f_in n 12 from ⟨show 0 ≤ n.toInt from by omega, show n.toInt < 12 from by omega⟩) ?_
        have hR34 := mR_a (k := 59) (j := n.toInt.toNat) (x := I 0 84) hR (by exact f_rng _)
        have hF34 := f_fr_up (k := 59) (r := upd (I 59) (n.toInt.toNat) (I 0 84)) hF0 rfl
        exact ⟨Or.inr rfl, hR34, hF34, rfl⟩
      · intro h20
        have h20 : 0 ≤ (I 59 (n.toInt.toNat)).toInt := h20
        exact ⟨Or.inl rfl, hR, hF0, rfl⟩
def tX12_example : List (Instr × Nat) := [(.aload_n 0, 1), (.getfield 309, 3), (.iconst 1, 1), (.bipush 6, 2), (.invokestatic 366, 3), (.ifCond .eq 12, 3), (.aload_n 0, 1), (.getfield 306, 3), (.bipush 12, 2), (.if_icmp .ne 5, 3), (.iconst (-1), 1), (.ireturn, 1), (.aload_n 0, 1), (.getfield 182, 3), (.aload_n 0, 1), (.getfield 306, 3), (.aload_n 0, 1), (.getfield 309, 3), (.iastore, 1), (.iconst 0, 1), (.istore_n 2, 1), (.iload_n 2, 1), (.aload_n 0, 1), (.getfield 309, 3), (.if_icmp .ge 29, 3), (.aload_n 0, 1), (.getfield 185, 3), (.bipush 6, 2), (.aload_n 0, 1), (.getfield 306, 3), (.imul, 1), (.iload_n 2, 1), (.iadd, 1), (.aload_n 0, 1), (.getfield 71, 3), (.iload_n 2, 1), (.iaload, 1), (.iastore, 1), (.iinc 2 1, 3), (.goto (-31), 3), (.aload_n 0, 1), (.getfield 194, 3), (.aload_n 0, 1), (.getfield 306, 3), (.iload_n 1, 1), (.bastore, 1), (.aload_n 0, 1), (.getfield 188, 3), (.aload_n 0, 1), (.getfield 306, 3), (.aload_n 0, 1), (.getfield 522, 3), (.iastore, 1), (.aload_n 0, 1), (.getfield 191, 3), (.aload_n 0, 1), (.getfield 306, 3), (.iconst (-1), 1), (.iastore, 1), (.aload_n 0, 1), (.dup, 1), (.getfield 306, 3), (.iconst 1, 1), (.iadd, 1), (.putfield 306, 3), (.aload_n 0, 1), (.getfield 306, 3), (.iconst 1, 1), (.isub, 1), (.ireturn, 1)]
theorem tX12_example_ok : f_chk cX12_example 0 tX12_example = true := by decide +kernel
def pX12_example (av : List Value) (I : fM) (L : fN) : Prop := match av with
  | [.ref 0, .int r] => mR I
  | _ => False
def qX12_example (av : List Value) (I : fM) (L : fN) (r : Value) (I' : fM) (L' : fN) : Prop := match av, r with
  | [.ref 0, .int r], .int x => mR I' ∧ f_fo [83] I I' ∧ f_fr [0, 56, 57, 58, 59, 60] I I' ∧ L' = L
  | _, _ => False
set_option maxHeartbeats 4000000 in
set_option maxRecDepth 100000 in
theorem mX12_example {l : Launch} {a : Nat → Nat} {cy dC : Nat → ClassId} {dI : Nat → Nat → Nat} (hinj : ∀ i j, i < 71 → j < 71 → a i = a j → i = j) : f_Met (fun _ => True) l mY 71 a cy dC dI yX12_example cX12_example 3 1 1 pX12_example qX12_example := by
  refine f_met_of (f_Ec_T 71 a) hinj mY_hi (by decide) (fun av I L h => by unfold pX12_example at h; split at h <;> first | exact Nat.le_of_ble_eq_true rfl | exact h.elim) ?_
  intro pP eP sP mP aP bP hP9 cP C av I L hp
  unfold pX12_example at hp
  split at hp
  case h_2 => exact hp.elim
  case h_1 r =>
    have hR := hp
    have hF0 : f_fr [0, 56, 57, 58, 59, 60] I I := f_fr_rf
    have hO0 : f_fo [83] I I := f_fo_rf
    have lp39 : ∀ (n39 : Nat), ∀ (i : Int32) (J39 : fM), mR J39 ∧ f_fr [0, 56, 57, 58, 59, 60] I J39 ∧ f_fo [83] I J39 ∧ (0 ≤ i.toInt) ∧ (i.toInt ≤ (I 0 30).toInt) ∧ ((I 0 30).toInt ≤ 6) ∧ ((J39 0 83).toInt ≤ 11) ∧ (8 - i.toInt) < n39 → f_W pP l eP (f_rm 1) sP mP aP bP hP9 cP mY 71 a cy dC dI 3 (f_K 1 (qX12_example [.ref 0, .int r] I L)) 39 [(2, .int i), (1, .int r), (0, .ref 0)] [] J39 L := by
      intro n39
      induction n39 with
      | zero =>
        intro i J39 h9
        obtain ⟨hR39c, hF39c, hO39c, u39_1, u39_2, u39_3, u39_4, hm39⟩ := h9
        omega
      | succ n39 ih39 =>
        intro i J39 h9
        obtain ⟨hR39c, hF39c, hO39c, u39_1, u39_2, u39_3, u39_4, hm39⟩ := h9
        refine f_wp_ok C f_cl flX12_ok fiX12_ok fjX12_ok (sn := none) (fun j h => by cases h) (cs := (fun _ => none)) (cz := (f_cnl [(366, (3, 3, 11, pX12_isIn, qX12_isIn))])) (fun j S h => by cases h) (f_cnl_of (P := fun j S => f_cok pP l eP (f_rm 1) sP mP aP bP hP9 cP mY 71 a cy dC dI 3 _ _ (.invokestatic j) false S) (List.forall_mem_cons.mpr ⟨f_cokS C (mX12_isIn hinj) (List.forall_mem_cons.mpr ⟨(mlX12_ok _ (List.mem_of_getElem? (i := 27) rfl)), kc_X12_isIn⟩) (by decide +kernel) ⟨Nat.le_of_ble_eq_true rfl, Nat.le_of_ble_eq_true rfl⟩, fun _ h => absurd h List.not_mem_nil⟩)) tX12_example_ok (cut := (f_cnl [(39, (fun (ls' : fLs) (st' : List Value) (I' : fM) (L' : fN) => ∃ i : Int32, (∀ q ∈ ([(2, .int i), (1, .int r), (0, .ref 0)] : fLs), q ∈ ls') ∧ st' = [] ∧ L' = L ∧ (mR I' ∧ f_fr [0, 56, 57, 58, 59, 60] I I' ∧ f_fo [83] I I' ∧ (0 ≤ i.toInt) ∧ (i.toInt ≤ (I 0 30).toInt) ∧ ((I 0 30).toInt ≤ 6) ∧ ((I' 0 83).toInt ≤ 11) ∧ (8 - i.toInt) < n39)))])) (f_cnl_of (P := fun (tQ : Nat) (P : fLs → List Value → fM → fN → Prop) => ∀ ls' st' I' L', P ls' st' I' L' → f_W pP l eP (f_rm 1) sP mP aP bP hP9 cP mY 71 a cy dC dI 3 (f_K 1 (qX12_example [.ref 0, .int r] I L)) tQ ls' st' I' L') (List.forall_mem_cons.mpr ⟨(fun ls' st' I' L' h => by obtain ⟨i, hs, e1, e3, h9⟩ := h; rw [e1, e3]; exact f_W_sub hs (ih39 i I' h9)), fun _ h => absurd h List.not_mem_nil⟩)) 37 39 (f_seek 39 0 tX12_example) (f_seek_ok 39 0 tX12_example tX12_example_ok) _ _ _ _ ?_
        have r41_1 : 0 ≤ (J39 0 30).toInt ∧ (J39 0 30).toInt ≤ 8 := hR39c 0 30
        have e41_2 : (J39 0 30).toInt = (I 0 30).toInt := congrArg Int32.toInt (hO39c 30 rfl)
        apply And.intro
        · intro h44
          have h44 : (J39 0 30).toInt ≤ i.toInt := h44
          have r78_3 : 0 ≤ (J39 0 83).toInt ∧ (J39 0 83).toInt ≤ 12 := hR39c 0 83
          refine And.intro (show f_in (J39 0 83) 12 from ⟨show 0 ≤ (J39 0 83).toInt from by omega, show (J39 0 83).toInt < 12 from by omega⟩) ?_
          have nb82 : 0 ≤ (vp_nar .boolean r).toInt ∧ (vp_nar .boolean r).toInt ≤ 1 := f_narb _
          have hR82 := mR_a (k := 60) (j := (J39 0 83).toInt.toNat) (x := vp_nar .boolean r) hR39c (by exact f_rng _)
          have hF82 := f_fr_up (k := 60) (r := upd (J39 60) ((J39 0 83).toInt.toNat) (vp_nar .boolean r)) hF39c rfl
          have hO82 := f_fo_ne (k := 60) (r := upd (J39 60) ((J39 0 83).toInt.toNat) (vp_nar .boolean r)) hO39c (by decide)
          have r92_4 : 0 ≤ (J39 0 84).toInt ∧ (J39 0 84).toInt ≤ 100000 := hR82 0 84
          have e92_5 : (J39 0 84).toInt = (I 0 84).toInt := congrArg Int32.toInt (hO39c 84 rfl)
          refine And.intro (show f_in (J39 0 83) 12 from ⟨show 0 ≤ (J39 0 83).toInt from by omega, show (J39 0 83).toInt < 12 from by omega⟩) ?_
          have hR95 := mR_a (k := 58) (j := (J39 0 83).toInt.toNat) (x := J39 0 84) hR82 (by exact f_rng _)
          have hF95 := f_fr_up (k := 58) (r := upd (J39 58) ((J39 0 83).toInt.toNat) (J39 0 84)) hF82 rfl
          have hO95 := f_fo_ne (k := 58) (r := upd (J39 58) ((J39 0 83).toInt.toNat) (J39 0 84)) hO82 (by decide)
          refine And.intro (show f_in (J39 0 83) 12 from ⟨show 0 ≤ (J39 0 83).toInt from by omega, show (J39 0 83).toInt < 12 from by omega⟩) ?_
          have hR105 := mR_a (k := 59) (j := (J39 0 83).toInt.toNat) (x := Int32.ofInt (-1)) hR95 (by exact f_rng _)
          have hF105 := f_fr_up (k := 59) (r := upd (J39 59) ((J39 0 83).toInt.toNat) (Int32.ofInt (-1))) hF95 rfl
          have hO105 := f_fo_ne (k := 59) (r := upd (J39 59) ((J39 0 83).toInt.toNat) (Int32.ofInt (-1))) hO95 (by decide)
          intro z112 q112 _ hq112 hl112 hu112
          have hq112 : z112.toInt = (J39 0 83).toInt + 1 + 4294967296 * q112 := hq112
          try have hz112 : z112.toInt = (J39 0 83).toInt + 1 := by omega
          have hR113 := mR_f (k := 0) (j := 83) (x := z112) hR105 (show 0 ≤ z112.toInt ∧ z112.toInt ≤ 12 from ⟨by omega, by omega⟩)
          have hF113 := f_fr_up (k := 0) (r := va_up (J39 0) 83 z112) hF105 rfl
          have hO113 := f_fo_up (j := 83) (x := z112) hO105 rfl
          intro z121 q121 _ hq121 hl121 hu121
          have hq121 : z121.toInt = z112.toInt - 1 + 4294967296 * q121 := hq121
          try have hz121 : z121.toInt = z112.toInt - 1 := by omega
          exact ⟨hR113, hO113, hF113, rfl⟩
        · intro h44
          have h44 : i.toInt < (J39 0 30).toInt := h44
          have r54_3 : 0 ≤ (J39 0 83).toInt ∧ (J39 0 83).toInt ≤ 12 := hR39c 0 83
          intro z57 q57 _ hq57 hl57 hu57
          have hq57 : z57.toInt = 6 * (J39 0 83).toInt + 4294967296 * q57 := hq57
          try have hz57 : z57.toInt = 6 * (J39 0 83).toInt := by omega
          intro z59 q59 _ hq59 hl59 hu59
          have hq59 : z59.toInt = z57.toInt + i.toInt + 4294967296 * q59 := hq59
          try have hz59 : z59.toInt = z57.toInt + i.toInt := by omega
          refine And.intro (show f_in i 8 from ⟨show 0 ≤ i.toInt from by omega, show i.toInt < 8 from by omega⟩) ?_
          have r65_4 : 0 ≤ (J39 19 (i.toInt.toNat)).toInt ∧ (J39 19 (i.toInt.toNat)).toInt ≤ 11 := hR39c 19 (i.toInt.toNat)
          have e65_5 : (J39 19 (i.toInt.toNat)).toInt = (I 19 (i.toInt.toNat)).toInt := congrArg Int32.toInt (congrFun (hF39c 19 rfl) (i.toInt.toNat))
          refine And.intro (show f_in z59 72 from ⟨show 0 ≤ z59.toInt from by omega, show z59.toInt < 72 from by omega⟩) ?_
          have hR66 := mR_a (k := 57) (j := z59.toInt.toNat) (x := J39 19 (i.toInt.toNat)) hR39c (show 0 ≤ (J39 19 (i.toInt.toNat)).toInt ∧ (J39 19 (i.toInt.toNat)).toInt ≤ 11 from ⟨by omega, by omega⟩)
          have hF66 := f_fr_up (k := 57) (r := upd (J39 57) (z59.toInt.toNat) (J39 19 (i.toInt.toNat))) hF39c rfl
          have hO66 := f_fo_ne (k := 57) (r := upd (J39 57) (z59.toInt.toNat) (J39 19 (i.toInt.toNat))) hO39c (by decide)
          intro z67 q67 _ hq67 hl67 hu67
          have hq67 : z67.toInt = i.toInt + 1 + 4294967296 * q67 := hq67
          try have hz67 : z67.toInt = i.toInt + 1 := by omega
          exact ⟨z67, (by intro q9 h9; simp only [List.mem_cons, List.not_mem_nil, or_false] at h9; rcases h9 with h9 | h9 | h9 <;> subst h9 <;> repeat (first | exact List.mem_cons_self | apply List.mem_cons_of_mem)), rfl, rfl, hR66, hF66, hO66, (show 0 ≤ z67.toInt from by first | assumption | omega), (show z67.toInt ≤ (I 0 30).toInt from by first | assumption | omega), (show (I 0 30).toInt ≤ 6 from by first | assumption | omega), (show (J39 0 83).toInt ≤ 11 from by first | assumption | omega), (show (8 - z67.toInt) < n39 from by omega)⟩
    refine f_wp_ok C f_cl flX12_ok fiX12_ok fjX12_ok (sn := none) (fun j h => by cases h) (cs := (fun _ => none)) (cz := (f_cnl [(366, (3, 3, 11, pX12_isIn, qX12_isIn))])) (fun j S h => by cases h) (f_cnl_of (P := fun j S => f_cok pP l eP (f_rm 1) sP mP aP bP hP9 cP mY 71 a cy dC dI 3 _ _ (.invokestatic j) false S) (List.forall_mem_cons.mpr ⟨f_cokS C (mX12_isIn hinj) (List.forall_mem_cons.mpr ⟨(mlX12_ok _ (List.mem_of_getElem? (i := 27) rfl)), kc_X12_isIn⟩) (by decide +kernel) ⟨Nat.le_of_ble_eq_true rfl, Nat.le_of_ble_eq_true rfl⟩, fun _ h => absurd h List.not_mem_nil⟩)) tX12_example_ok (cut := (f_cnl [(39, (fun (ls' : fLs) (st' : List Value) (I' : fM) (L' : fN) => ∃ i : Int32, (∀ q ∈ ([(2, .int i), (1, .int r), (0, .ref 0)] : fLs), q ∈ ls') ∧ st' = [] ∧ L' = L ∧ (mR I' ∧ f_fr [0, 56, 57, 58, 59, 60] I I' ∧ f_fo [83] I I' ∧ (0 ≤ i.toInt) ∧ (i.toInt ≤ (I 0 30).toInt) ∧ ((I 0 30).toInt ≤ 6) ∧ ((I' 0 83).toInt ≤ 11) ∧ (8 - i.toInt) < 9)))])) (f_cnl_of (P := fun (tQ : Nat) (P : fLs → List Value → fM → fN → Prop) => ∀ ls' st' I' L', P ls' st' I' L' → f_W pP l eP (f_rm 1) sP mP aP bP hP9 cP mY 71 a cy dC dI 3 (f_K 1 (qX12_example [.ref 0, .int r] I L)) tQ ls' st' I' L') (List.forall_mem_cons.mpr ⟨(fun ls' st' I' L' h => by obtain ⟨i, hs, e1, e3, h9⟩ := h; rw [e1, e3]; exact f_W_sub hs (lp39 9 i I' h9)), fun _ h => absurd h List.not_mem_nil⟩)) 22 0 tX12_example tX12_example_ok _ _ _ _ ?_
    have r1_1 : 0 ≤ (I 0 30).toInt ∧ (I 0 30).toInt ≤ 8 := hR 0 30
    refine And.intro trivial ?_
    intro x7 I7 L7 hq7
    have hq7 : I7 = I ∧ L7 = L ∧ ((x7.toInt = 1 ∧ (1 : Int) ≤ (I 0 30).toInt ∧ (I 0 30).toInt ≤ (6 : Int) ∨ x7.toInt = 0 ∧ ((I 0 30).toInt < (1 : Int) ∨ (6 : Int) < (I 0 30).toInt))) := hq7
    obtain ⟨eI7, eL7, c7_2⟩ := hq7
    replace eI7 := eI7.symm
    subst eI7
    replace eL7 := eL7.symm
    subst eL7
    apply And.intro
    · intro h10
      have h10 : x7.toInt = 0 := h10
      exact ⟨hR, hO0, hF0, rfl⟩
    · intro h10
      have h10 : ¬ x7.toInt = 0 := h10
      have r14_2 : 0 ≤ (I 0 83).toInt ∧ (I 0 83).toInt ≤ 12 := hR 0 83
      apply And.intro
      · intro h19
        have h19 : ¬ (I 0 83).toInt = 12 := h19
        refine And.intro (show f_in (I 0 83) 12 from ⟨show 0 ≤ (I 0 83).toInt from by omega, show (I 0 83).toInt < 12 from by omega⟩) ?_
        have hR36 := mR_a (k := 56) (j := (I 0 83).toInt.toNat) (x := I 0 30) hR (show 0 ≤ (I 0 30).toInt ∧ (I 0 30).toInt ≤ 6 from ⟨by omega, by omega⟩)
        have hF36 := f_fr_up (k := 56) (r := upd (I 56) ((I 0 83).toInt.toNat) (I 0 30)) hF0 rfl
        have hO36 := f_fo_ne (k := 56) (r := upd (I 56) ((I 0 83).toInt.toNat) (I 0 30)) hO0 (by decide)
        exact ⟨Int32.ofInt 0, (by intro q9 h9; simp only [List.mem_cons, List.not_mem_nil, or_false] at h9; rcases h9 with h9 | h9 | h9 <;> subst h9 <;> repeat (first | exact List.mem_cons_self | apply List.mem_cons_of_mem)), rfl, rfl, hR36, hF36, hO36, (show 0 ≤ (0 : Int) from by first | assumption | omega), (show (0 : Int) ≤ (I 0 30).toInt from by first | assumption | omega), (show (I 0 30).toInt ≤ 6 from by first | assumption | omega), (show (I 0 83).toInt ≤ 11 from by first | assumption | omega), (show (8 - (0 : Int)) < 9 from by omega)⟩
      · intro h19
        have h19 : (I 0 83).toInt = 12 := h19
        exact ⟨hR, hO0, hF0, rfl⟩
def tX12_image : List (Instr × Nat) := [(.iload_n 1, 1), (.iconst 0, 1), (.iconst 2, 1), (.invokestatic 366, 3), (.ifCond .ne 5, 3), (.iconst (-1), 1), (.ireturn, 1), (.aload_n 0, 1), (.getfield 203, 3), (.iload_n 1, 1), (.aload_n 0, 1), (.getfield 306, 3), (.iastore, 1), (.aload_n 0, 1), (.getfield 206, 3), (.iload_n 1, 1), (.aload_n 0, 1), (.getfield 309, 3), (.iastore, 1), (.iconst 0, 1), (.istore_n 2, 1), (.iload_n 2, 1), (.bipush 8, 2), (.if_icmp .ge 26, 3), (.aload_n 0, 1), (.getfield 209, 3), (.bipush 8, 2), (.iload_n 1, 1), (.imul, 1), (.iload_n 2, 1), (.iadd, 1), (.aload_n 0, 1), (.getfield 71, 3), (.iload_n 2, 1), (.iaload, 1), (.iastore, 1), (.iinc 2 1, 3), (.goto (-26), 3), (.iconst 0, 1), (.istore_n 2, 1), (.iload_n 2, 1), (.aload_n 0, 1), (.getfield 306, 3), (.if_icmp .ge 104, 3), (.bipush 12, 2), (.iload_n 1, 1), (.imul, 1), (.iload_n 2, 1), (.iadd, 1), (.istore_n 3, 1), (.aload_n 0, 1), (.getfield 212, 3), (.iload_n 3, 1), (.aload_n 0, 1), (.getfield 182, 3), (.iload_n 2, 1), (.iaload, 1), (.iastore, 1), (.aload_n 0, 1), (.getfield 218, 3), (.iload_n 3, 1), (.aload_n 0, 1), (.getfield 188, 3), (.iload_n 2, 1), (.iaload, 1), (.iastore, 1), (.aload_n 0, 1), (.getfield 221, 3), (.iload_n 3, 1), (.aload_n 0, 1), (.getfield 191, 3), (.iload_n 2, 1), (.iaload, 1), (.iastore, 1), (.aload_n 0, 1), (.getfield 224, 3), (.iload_n 3, 1), (.aload_n 0, 1), (.getfield 194, 3), (.iload_n 2, 1), (.baload, 1), (.bastore, 1), (.iconst 0, 1), (.istore 4, 2), (.iload 4, 2), (.bipush 6, 2), (.if_icmp .ge 33, 3), (.aload_n 0, 1), (.getfield 215, 3), (.bipush 6, 2), (.iload_n 3, 1), (.imul, 1), (.iload 4, 2), (.iadd, 1), (.aload_n 0, 1), (.getfield 185, 3), (.bipush 6, 2), (.iload_n 2, 1), (.imul, 1), (.iload 4, 2), (.iadd, 1), (.iaload, 1), (.iastore, 1), (.iinc 4 1, 3), (.goto (-34), 3), (.iinc 2 1, 3), (.goto (-106), 3), (.aload_n 0, 1), (.getfield 306, 3), (.ireturn, 1)]
theorem tX12_image_ok : f_chk cX12_image 0 tX12_image = true := by decide +kernel
def pX12_image (av : List Value) (I : fM) (L : fN) : Prop := match av with
  | [.ref 0, .int b] => mR I
  | _ => False
def qX12_image (av : List Value) (I : fM) (L : fN) (r : Value) (I' : fM) (L' : fN) : Prop := match av, r with
  | [.ref 0, .int b], .int x => mR I' ∧ f_fr [63, 64, 65, 66, 67, 68, 69, 70] I I' ∧ L' = L
  | _, _ => False
set_option maxHeartbeats 4000000 in
set_option maxRecDepth 100000 in
theorem mX12_image {l : Launch} {a : Nat → Nat} {cy dC : Nat → ClassId} {dI : Nat → Nat → Nat} (hinj : ∀ i j, i < 71 → j < 71 → a i = a j → i = j) : f_Met (fun _ => True) l mY 71 a cy dC dI yX12_image cX12_image 5 1 1 pX12_image qX12_image := by
  refine f_met_of (f_Ec_T 71 a) hinj mY_hi (by decide) (fun av I L h => by unfold pX12_image at h; split at h <;> first | exact Nat.le_of_ble_eq_true rfl | exact h.elim) ?_
  intro pP eP sP mP aP bP hP9 cP C av I L hp
  unfold pX12_image at hp
  split at hp
  case h_2 => exact hp.elim
  case h_1 b =>
    have hR := hp
    have hF0 : f_fr [63, 64, 65, 66, 67, 68, 69, 70] I I := f_fr_rf
    have lp64 : ∀ (n64 : Nat), ∀ (n : Int32) (J64 : fM), mR J64 ∧ f_fr [63, 64, 65, 66, 67, 68, 69, 70] I J64 ∧ (0 ≤ b.toInt) ∧ (b.toInt ≤ 2) ∧ (0 ≤ n.toInt) ∧ (n.toInt ≤ 12) ∧ (12 - n.toInt) < n64 → f_W pP l eP (f_rm 1) sP mP aP bP hP9 cP mY 71 a cy dC dI 5 (f_K 1 (qX12_image [.ref 0, .int b] I L)) 64 [(2, .int n), (1, .int b), (0, .ref 0)] [] J64 L := by
      intro n64
      induction n64 with
      | zero =>
        intro n J64 h9
        obtain ⟨hR64c, hF64c, u64_1, u64_2, u64_3, u64_4, hm64⟩ := h9
        omega
      | succ n64 ih64 =>
        intro n J64 h9
        obtain ⟨hR64c, hF64c, u64_1, u64_2, u64_3, u64_4, hm64⟩ := h9
        have lp130 : ∀ (n130 : Nat), ∀ (k : Int32) (i : Int32) (J130 : fM), mR J130 ∧ f_fr [63, 64, 65, 66, 67, 68, 69, 70] I J130 ∧ (n.toInt ≤ 11) ∧ (k.toInt = 12 * b.toInt + n.toInt) ∧ (0 ≤ i.toInt) ∧ (i.toInt ≤ 6) ∧ (6 - i.toInt) < n130 → f_W pP l eP (f_rm 1) sP mP aP bP hP9 cP mY 71 a cy dC dI 5 (f_K 1 (qX12_image [.ref 0, .int b] I L)) 130 [(4, .int i), (3, .int k), (2, .int n), (1, .int b), (0, .ref 0)] [] J130 L := by
          intro n130
          induction n130 with
          | zero =>
            intro k i J130 h9
            obtain ⟨hR130c, hF130c, u130_1, u130_2, u130_3, u130_4, hm130⟩ := h9
            omega
          | succ n130 ih130 =>
            intro k i J130 h9
            obtain ⟨hR130c, hF130c, u130_1, u130_2, u130_3, u130_4, hm130⟩ := h9
            refine f_wp_ok C f_cl flX12_ok fiX12_ok fjX12_ok (sn := none) (fun j h => by cases h) (cs := (fun _ => none)) (cz := (f_cnl [(366, (3, 3, 11, pX12_isIn, qX12_isIn))])) (fun j S h => by cases h) (f_cnl_of (P := fun j S => f_cok pP l eP (f_rm 1) sP mP aP bP hP9 cP mY 71 a cy dC dI 5 _ _ (.invokestatic j) false S) (List.forall_mem_cons.mpr ⟨f_cokS C (mX12_isIn hinj) (List.forall_mem_cons.mpr ⟨(mlX12_ok _ (List.mem_of_getElem? (i := 27) rfl)), kc_X12_isIn⟩) (by decide +kernel) ⟨Nat.le_of_ble_eq_true rfl, Nat.le_of_ble_eq_true rfl⟩, fun _ h => absurd h List.not_mem_nil⟩)) tX12_image_ok (cut := (f_cnl [(64, (fun (ls' : fLs) (st' : List Value) (I' : fM) (L' : fN) => ∃ n : Int32, (∀ q ∈ ([(2, .int n), (1, .int b), (0, .ref 0)] : fLs), q ∈ ls') ∧ st' = [] ∧ L' = L ∧ (mR I' ∧ f_fr [63, 64, 65, 66, 67, 68, 69, 70] I I' ∧ (0 ≤ b.toInt) ∧ (b.toInt ≤ 2) ∧ (0 ≤ n.toInt) ∧ (n.toInt ≤ 12) ∧ (12 - n.toInt) < n64))), (130, (fun (ls' : fLs) (st' : List Value) (I' : fM) (L' : fN) => ∃ k : Int32, ∃ i : Int32, (∀ q ∈ ([(4, .int i), (3, .int k), (2, .int n), (1, .int b), (0, .ref 0)] : fLs), q ∈ ls') ∧ st' = [] ∧ L' = L ∧ (mR I' ∧ f_fr [63, 64, 65, 66, 67, 68, 69, 70] I I' ∧ (n.toInt ≤ 11) ∧ (k.toInt = 12 * b.toInt + n.toInt) ∧ (0 ≤ i.toInt) ∧ (i.toInt ≤ 6) ∧ (6 - i.toInt) < n130)))])) (f_cnl_of (P := fun (tQ : Nat) (P : fLs → List Value → fM → fN → Prop) => ∀ ls' st' I' L', P ls' st' I' L' → f_W pP l eP (f_rm 1) sP mP aP bP hP9 cP mY 71 a cy dC dI 5 (f_K 1 (qX12_image [.ref 0, .int b] I L)) tQ ls' st' I' L') (List.forall_mem_cons.mpr ⟨(fun ls' st' I' L' h => by obtain ⟨n, hs, e1, e3, h9⟩ := h; rw [e1, e3]; exact f_W_sub hs (ih64 n I' h9)), List.forall_mem_cons.mpr ⟨(fun ls' st' I' L' h => by obtain ⟨k, i, hs, e1, e3, h9⟩ := h; rw [e1, e3]; exact f_W_sub hs (ih130 k i I' h9)), fun _ h => absurd h List.not_mem_nil⟩⟩)) 24 130 (f_seek 130 0 tX12_image) (f_seek_ok 130 0 tX12_image tX12_image_ok) _ _ _ _ ?_
            apply And.intro
            · intro h134
              have h134 : 6 ≤ i.toInt := h134
              intro z167 q167 _ hq167 hl167 hu167
              have hq167 : z167.toInt = n.toInt + 1 + 4294967296 * q167 := hq167
              try have hz167 : z167.toInt = n.toInt + 1 := by omega
              exact ⟨z167, (by intro q9 h9; simp only [List.mem_cons, List.not_mem_nil, or_false] at h9; rcases h9 with h9 | h9 | h9 <;> subst h9 <;> repeat (first | exact List.mem_cons_self | apply List.mem_cons_of_mem)), rfl, rfl, hR130c, hF130c, (show 0 ≤ b.toInt from by first | assumption | omega), (show b.toInt ≤ 2 from by first | assumption | omega), (show 0 ≤ z167.toInt from by first | assumption | omega), (show z167.toInt ≤ 12 from by first | assumption | omega), (show (12 - z167.toInt) < n64 from by omega)⟩
            · intro h134
              have h134 : i.toInt < 6 := h134
              intro z144 q144 _ hq144 hl144 hu144
              have hq144 : z144.toInt = 6 * k.toInt + 4294967296 * q144 := hq144
              try have hz144 : z144.toInt = 6 * k.toInt := by omega
              intro z147 q147 _ hq147 hl147 hu147
              have hq147 : z147.toInt = z144.toInt + i.toInt + 4294967296 * q147 := hq147
              try have hz147 : z147.toInt = z144.toInt + i.toInt := by omega
              intro z155 q155 _ hq155 hl155 hu155
              have hq155 : z155.toInt = 6 * n.toInt + 4294967296 * q155 := hq155
              try have hz155 : z155.toInt = 6 * n.toInt := by omega
              intro z158 q158 _ hq158 hl158 hu158
              have hq158 : z158.toInt = z155.toInt + i.toInt + 4294967296 * q158 := hq158
              try have hz158 : z158.toInt = z155.toInt + i.toInt := by omega
              refine And.intro (show f_in z158 72 from ⟨show 0 ≤ z158.toInt from by omega, show z158.toInt < 72 from by omega⟩) ?_
              have r159_1 : 0 ≤ (J130 57 (z158.toInt.toNat)).toInt ∧ (J130 57 (z158.toInt.toNat)).toInt ≤ 11 := hR130c 57 (z158.toInt.toNat)
              have e159_2 : (J130 57 (z158.toInt.toNat)).toInt = (I 57 (z158.toInt.toNat)).toInt := congrArg Int32.toInt (congrFun (hF130c 57 rfl) (z158.toInt.toNat))
              refine And.intro (show f_in z147 216 from ⟨show 0 ≤ z147.toInt from by omega, show z147.toInt < 216 from by omega⟩) ?_
              have hR160 := mR_a (k := 67) (j := z147.toInt.toNat) (x := J130 57 (z158.toInt.toNat)) hR130c (show 0 ≤ (J130 57 (z158.toInt.toNat)).toInt ∧ (J130 57 (z158.toInt.toNat)).toInt ≤ 11 from ⟨by omega, by omega⟩)
              have hF160 := f_fr_up (k := 67) (r := upd (J130 67) (z147.toInt.toNat) (J130 57 (z158.toInt.toNat))) hF130c rfl
              intro z161 q161 _ hq161 hl161 hu161
              have hq161 : z161.toInt = i.toInt + 1 + 4294967296 * q161 := hq161
              try have hz161 : z161.toInt = i.toInt + 1 := by omega
              exact ⟨k, z161, (by intro q9 h9; simp only [List.mem_cons, List.not_mem_nil, or_false] at h9; rcases h9 with h9 | h9 | h9 | h9 | h9 <;> subst h9 <;> repeat (first | exact List.mem_cons_self | apply List.mem_cons_of_mem)), rfl, rfl, hR160, hF160, (show n.toInt ≤ 11 from by first | assumption | omega), (show k.toInt = 12 * b.toInt + n.toInt from by first | assumption | omega | rfl), (show 0 ≤ z161.toInt from by first | assumption | omega), (show z161.toInt ≤ 6 from by first | assumption | omega), (show (6 - z161.toInt) < n130 from by omega)⟩
        refine f_wp_ok C f_cl flX12_ok fiX12_ok fjX12_ok (sn := none) (fun j h => by cases h) (cs := (fun _ => none)) (cz := (f_cnl [(366, (3, 3, 11, pX12_isIn, qX12_isIn))])) (fun j S h => by cases h) (f_cnl_of (P := fun j S => f_cok pP l eP (f_rm 1) sP mP aP bP hP9 cP mY 71 a cy dC dI 5 _ _ (.invokestatic j) false S) (List.forall_mem_cons.mpr ⟨f_cokS C (mX12_isIn hinj) (List.forall_mem_cons.mpr ⟨(mlX12_ok _ (List.mem_of_getElem? (i := 27) rfl)), kc_X12_isIn⟩) (by decide +kernel) ⟨Nat.le_of_ble_eq_true rfl, Nat.le_of_ble_eq_true rfl⟩, fun _ h => absurd h List.not_mem_nil⟩)) tX12_image_ok (cut := (f_cnl [(130, (fun (ls' : fLs) (st' : List Value) (I' : fM) (L' : fN) => ∃ k : Int32, ∃ i : Int32, (∀ q ∈ ([(4, .int i), (3, .int k), (2, .int n), (1, .int b), (0, .ref 0)] : fLs), q ∈ ls') ∧ st' = [] ∧ L' = L ∧ (mR I' ∧ f_fr [63, 64, 65, 66, 67, 68, 69, 70] I I' ∧ (n.toInt ≤ 11) ∧ (k.toInt = 12 * b.toInt + n.toInt) ∧ (0 ≤ i.toInt) ∧ (i.toInt ≤ 6) ∧ (6 - i.toInt) < 7)))])) (f_cnl_of (P := fun (tQ : Nat) (P : fLs → List Value → fM → fN → Prop) => ∀ ls' st' I' L', P ls' st' I' L' → f_W pP l eP (f_rm 1) sP mP aP bP hP9 cP mY 71 a cy dC dI 5 (f_K 1 (qX12_image [.ref 0, .int b] I L)) tQ ls' st' I' L') (List.forall_mem_cons.mpr ⟨(fun ls' st' I' L' h => by obtain ⟨k, i, hs, e1, e3, h9⟩ := h; rw [e1, e3]; exact f_W_sub hs (lp130 7 k i I' h9)), fun _ h => absurd h List.not_mem_nil⟩)) 47 64 (f_seek 64 0 tX12_image) (f_seek_ok 64 0 tX12_image tX12_image_ok) _ _ _ _ ?_
        have r66_1 : 0 ≤ (J64 0 83).toInt ∧ (J64 0 83).toInt ≤ 12 := hR64c 0 83
        have e66_2 : (J64 0 83).toInt = (I 0 83).toInt := congrArg Int32.toInt (congrFun (hF64c 0 rfl) 83)
        apply And.intro
        · intro h69
          have h69 : (J64 0 83).toInt ≤ n.toInt := h69
          exact ⟨hR64c, hF64c, rfl⟩
        · intro h69
          have h69 : n.toInt < (J64 0 83).toInt := h69
          intro z75 q75 _ hq75 hl75 hu75
          have hq75 : z75.toInt = 12 * b.toInt + 4294967296 * q75 := hq75
          try have hz75 : z75.toInt = 12 * b.toInt := by omega
          intro z77 q77 _ hq77 hl77 hu77
          have hq77 : z77.toInt = z75.toInt + n.toInt + 4294967296 * q77 := hq77
          try have hz77 : z77.toInt = z75.toInt + n.toInt := by omega
          refine And.intro (show f_in n 12 from ⟨show 0 ≤ n.toInt from by omega, show n.toInt < 12 from by omega⟩) ?_
          have r89_3 : 0 ≤ (J64 56 (n.toInt.toNat)).toInt ∧ (J64 56 (n.toInt.toNat)).toInt ≤ 6 := hR64c 56 (n.toInt.toNat)
          have e89_4 : (J64 56 (n.toInt.toNat)).toInt = (I 56 (n.toInt.toNat)).toInt := congrArg Int32.toInt (congrFun (hF64c 56 rfl) (n.toInt.toNat))
          refine And.intro (show f_in z77 36 from ⟨show 0 ≤ z77.toInt from by omega, show z77.toInt < 36 from by omega⟩) ?_
          have hR90 := mR_a (k := 66) (j := z77.toInt.toNat) (x := J64 56 (n.toInt.toNat)) hR64c (show 0 ≤ (J64 56 (n.toInt.toNat)).toInt ∧ (J64 56 (n.toInt.toNat)).toInt ≤ 6 from ⟨by omega, by omega⟩)
          have hF90 := f_fr_up (k := 66) (r := upd (J64 66) (z77.toInt.toNat) (J64 56 (n.toInt.toNat))) hF64c rfl
          refine And.intro (show f_in n 12 from ⟨show 0 ≤ n.toInt from by omega, show n.toInt < 12 from by omega⟩) ?_
          have e101_6 : (J64 58 (n.toInt.toNat)).toInt = (I 58 (n.toInt.toNat)).toInt := congrArg Int32.toInt (congrFun (hF64c 58 rfl) (n.toInt.toNat))
          refine And.intro (show f_in z77 36 from ⟨show 0 ≤ z77.toInt from by omega, show z77.toInt < 36 from by omega⟩) ?_
          have hR102 := mR_a (k := 68) (j := z77.toInt.toNat) (x := J64 58 (n.toInt.toNat)) hR90 (by exact f_rng _)
          have hF102 := f_fr_up (k := 68) (r := upd (J64 68) (z77.toInt.toNat) (J64 58 (n.toInt.toNat))) hF90 rfl
          refine And.intro (show f_in n 12 from ⟨show 0 ≤ n.toInt from by omega, show n.toInt < 12 from by omega⟩) ?_
          have e113_8 : (J64 59 (n.toInt.toNat)).toInt = (I 59 (n.toInt.toNat)).toInt := congrArg Int32.toInt (congrFun (hF64c 59 rfl) (n.toInt.toNat))
          refine And.intro (show f_in z77 36 from ⟨show 0 ≤ z77.toInt from by omega, show z77.toInt < 36 from by omega⟩) ?_
          have hR114 := mR_a (k := 69) (j := z77.toInt.toNat) (x := J64 59 (n.toInt.toNat)) hR102 (by exact f_rng _)
          have hF114 := f_fr_up (k := 69) (r := upd (J64 69) (z77.toInt.toNat) (J64 59 (n.toInt.toNat))) hF102 rfl
          refine And.intro (show f_in n 12 from ⟨show 0 ≤ n.toInt from by omega, show n.toInt < 12 from by omega⟩) ?_
          have e125_10 : (J64 60 (n.toInt.toNat)).toInt = (I 60 (n.toInt.toNat)).toInt := congrArg Int32.toInt (congrFun (hF64c 60 rfl) (n.toInt.toNat))
          refine And.intro (show f_in z77 36 from ⟨show 0 ≤ z77.toInt from by omega, show z77.toInt < 36 from by omega⟩) ?_
          have nb126 : 0 ≤ (vp_nar .boolean (J64 60 (n.toInt.toNat))).toInt ∧ (vp_nar .boolean (J64 60 (n.toInt.toNat))).toInt ≤ 1 := f_narb _
          have hR126 := mR_a (k := 70) (j := z77.toInt.toNat) (x := vp_nar .boolean (J64 60 (n.toInt.toNat))) hR114 (by exact f_rng _)
          have hF126 := f_fr_up (k := 70) (r := upd (J64 70) (z77.toInt.toNat) (vp_nar .boolean (J64 60 (n.toInt.toNat)))) hF114 rfl
          exact ⟨z77, Int32.ofInt 0, (by intro q9 h9; simp only [List.mem_cons, List.not_mem_nil, or_false] at h9; rcases h9 with h9 | h9 | h9 | h9 | h9 <;> subst h9 <;> repeat (first | exact List.mem_cons_self | apply List.mem_cons_of_mem)), rfl, rfl, hR126, hF126, (show n.toInt ≤ 11 from by first | assumption | omega), (show z77.toInt = 12 * b.toInt + n.toInt from by first | assumption | omega | rfl), (show 0 ≤ (0 : Int) from by first | assumption | omega), (show (0 : Int) ≤ 6 from by first | assumption | omega), (show (6 - (0 : Int)) < 7 from by omega)⟩
    have lp33 : ∀ (n33 : Nat), ∀ (i : Int32) (J33 : fM), mR J33 ∧ f_fr [63, 64, 65, 66, 67, 68, 69, 70] I J33 ∧ (0 ≤ b.toInt) ∧ (b.toInt ≤ 2) ∧ (0 ≤ i.toInt) ∧ (i.toInt ≤ 8) ∧ (8 - i.toInt) < n33 → f_W pP l eP (f_rm 1) sP mP aP bP hP9 cP mY 71 a cy dC dI 5 (f_K 1 (qX12_image [.ref 0, .int b] I L)) 33 [(2, .int i), (1, .int b), (0, .ref 0)] [] J33 L := by
      intro n33
      induction n33 with
      | zero =>
        intro i J33 h9
        obtain ⟨hR33c, hF33c, u33_1, u33_2, u33_3, u33_4, hm33⟩ := h9
        omega
      | succ n33 ih33 =>
        intro i J33 h9
        obtain ⟨hR33c, hF33c, u33_1, u33_2, u33_3, u33_4, hm33⟩ := h9
        refine f_wp_ok C f_cl flX12_ok fiX12_ok fjX12_ok (sn := none) (fun j h => by cases h) (cs := (fun _ => none)) (cz := (f_cnl [(366, (3, 3, 11, pX12_isIn, qX12_isIn))])) (fun j S h => by cases h) (f_cnl_of (P := fun j S => f_cok pP l eP (f_rm 1) sP mP aP bP hP9 cP mY 71 a cy dC dI 5 _ _ (.invokestatic j) false S) (List.forall_mem_cons.mpr ⟨f_cokS C (mX12_isIn hinj) (List.forall_mem_cons.mpr ⟨(mlX12_ok _ (List.mem_of_getElem? (i := 27) rfl)), kc_X12_isIn⟩) (by decide +kernel) ⟨Nat.le_of_ble_eq_true rfl, Nat.le_of_ble_eq_true rfl⟩, fun _ h => absurd h List.not_mem_nil⟩)) tX12_image_ok (cut := (f_cnl [(33, (fun (ls' : fLs) (st' : List Value) (I' : fM) (L' : fN) => ∃ i : Int32, (∀ q ∈ ([(2, .int i), (1, .int b), (0, .ref 0)] : fLs), q ∈ ls') ∧ st' = [] ∧ L' = L ∧ (mR I' ∧ f_fr [63, 64, 65, 66, 67, 68, 69, 70] I I' ∧ (0 ≤ b.toInt) ∧ (b.toInt ≤ 2) ∧ (0 ≤ i.toInt) ∧ (i.toInt ≤ 8) ∧ (8 - i.toInt) < n33))), (64, (fun (ls' : fLs) (st' : List Value) (I' : fM) (L' : fN) => ∃ n : Int32, (∀ q ∈ ([(2, .int n), (1, .int b), (0, .ref 0)] : fLs), q ∈ ls') ∧ st' = [] ∧ L' = L ∧ (mR I' ∧ f_fr [63, 64, 65, 66, 67, 68, 69, 70] I I' ∧ (0 ≤ b.toInt) ∧ (b.toInt ≤ 2) ∧ (0 ≤ n.toInt) ∧ (n.toInt ≤ 12) ∧ (12 - n.toInt) < 13)))])) (f_cnl_of (P := fun (tQ : Nat) (P : fLs → List Value → fM → fN → Prop) => ∀ ls' st' I' L', P ls' st' I' L' → f_W pP l eP (f_rm 1) sP mP aP bP hP9 cP mY 71 a cy dC dI 5 (f_K 1 (qX12_image [.ref 0, .int b] I L)) tQ ls' st' I' L') (List.forall_mem_cons.mpr ⟨(fun ls' st' I' L' h => by obtain ⟨i, hs, e1, e3, h9⟩ := h; rw [e1, e3]; exact f_W_sub hs (ih33 i I' h9)), List.forall_mem_cons.mpr ⟨(fun ls' st' I' L' h => by obtain ⟨n, hs, e1, e3, h9⟩ := h; rw [e1, e3]; exact f_W_sub hs (lp64 13 n I' h9)), fun _ h => absurd h List.not_mem_nil⟩⟩)) 20 33 (f_seek 33 0 tX12_image) (f_seek_ok 33 0 tX12_image tX12_image_ok) _ _ _ _ ?_
        apply And.intro
        · intro h36
          have h36 : 8 ≤ i.toInt := h36
          exact ⟨Int32.ofInt 0, (by intro q9 h9; simp only [List.mem_cons, List.not_mem_nil, or_false] at h9; rcases h9 with h9 | h9 | h9 <;> subst h9 <;> repeat (first | exact List.mem_cons_self | apply List.mem_cons_of_mem)), rfl, rfl, hR33c, hF33c, (show 0 ≤ b.toInt from by first | assumption | omega), (show b.toInt ≤ 2 from by first | assumption | omega), (show 0 ≤ (0 : Int) from by first | assumption | omega), (show (0 : Int) ≤ 12 from by first | assumption | omega), (show (12 - (0 : Int)) < 13 from by omega)⟩
        · intro h36
          have h36 : i.toInt < 8 := h36
          intro z46 q46 _ hq46 hl46 hu46
          have hq46 : z46.toInt = 8 * b.toInt + 4294967296 * q46 := hq46
          try have hz46 : z46.toInt = 8 * b.toInt := by omega
          intro z48 q48 _ hq48 hl48 hu48
          have hq48 : z48.toInt = z46.toInt + i.toInt + 4294967296 * q48 := hq48
          try have hz48 : z48.toInt = z46.toInt + i.toInt := by omega
          refine And.intro (show f_in i 8 from ⟨show 0 ≤ i.toInt from by omega, show i.toInt < 8 from by omega⟩) ?_
          have r54_1 : 0 ≤ (J33 19 (i.toInt.toNat)).toInt ∧ (J33 19 (i.toInt.toNat)).toInt ≤ 11 := hR33c 19 (i.toInt.toNat)
          have e54_2 : (J33 19 (i.toInt.toNat)).toInt = (I 19 (i.toInt.toNat)).toInt := congrArg Int32.toInt (congrFun (hF33c 19 rfl) (i.toInt.toNat))
          refine And.intro (show f_in z48 24 from ⟨show 0 ≤ z48.toInt from by omega, show z48.toInt < 24 from by omega⟩) ?_
          have hR55 := mR_a (k := 65) (j := z48.toInt.toNat) (x := J33 19 (i.toInt.toNat)) hR33c (show 0 ≤ (J33 19 (i.toInt.toNat)).toInt ∧ (J33 19 (i.toInt.toNat)).toInt ≤ 11 from ⟨by omega, by omega⟩)
          have hF55 := f_fr_up (k := 65) (r := upd (J33 65) (z48.toInt.toNat) (J33 19 (i.toInt.toNat))) hF33c rfl
          intro z56 q56 _ hq56 hl56 hu56
          have hq56 : z56.toInt = i.toInt + 1 + 4294967296 * q56 := hq56
          try have hz56 : z56.toInt = i.toInt + 1 := by omega
          exact ⟨z56, (by intro q9 h9; simp only [List.mem_cons, List.not_mem_nil, or_false] at h9; rcases h9 with h9 | h9 | h9 <;> subst h9 <;> repeat (first | exact List.mem_cons_self | apply List.mem_cons_of_mem)), rfl, rfl, hR55, hF55, (show 0 ≤ b.toInt from by first | assumption | omega), (show b.toInt ≤ 2 from by first | assumption | omega), (show 0 ≤ z56.toInt from by first | assumption | omega), (show z56.toInt ≤ 8 from by first | assumption | omega), (show (8 - z56.toInt) < n33 from by omega)⟩
    refine f_wp_ok C f_cl flX12_ok fiX12_ok fjX12_ok (sn := none) (fun j h => by cases h) (cs := (fun _ => none)) (cz := (f_cnl [(366, (3, 3, 11, pX12_isIn, qX12_isIn))])) (fun j S h => by cases h) (f_cnl_of (P := fun j S => f_cok pP l eP (f_rm 1) sP mP aP bP hP9 cP mY 71 a cy dC dI 5 _ _ (.invokestatic j) false S) (List.forall_mem_cons.mpr ⟨f_cokS C (mX12_isIn hinj) (List.forall_mem_cons.mpr ⟨(mlX12_ok _ (List.mem_of_getElem? (i := 27) rfl)), kc_X12_isIn⟩) (by decide +kernel) ⟨Nat.le_of_ble_eq_true rfl, Nat.le_of_ble_eq_true rfl⟩, fun _ h => absurd h List.not_mem_nil⟩)) tX12_image_ok (cut := (f_cnl [(33, (fun (ls' : fLs) (st' : List Value) (I' : fM) (L' : fN) => ∃ i : Int32, (∀ q ∈ ([(2, .int i), (1, .int b), (0, .ref 0)] : fLs), q ∈ ls') ∧ st' = [] ∧ L' = L ∧ (mR I' ∧ f_fr [63, 64, 65, 66, 67, 68, 69, 70] I I' ∧ (0 ≤ b.toInt) ∧ (b.toInt ≤ 2) ∧ (0 ≤ i.toInt) ∧ (i.toInt ≤ 8) ∧ (8 - i.toInt) < 9)))])) (f_cnl_of (P := fun (tQ : Nat) (P : fLs → List Value → fM → fN → Prop) => ∀ ls' st' I' L', P ls' st' I' L' → f_W pP l eP (f_rm 1) sP mP aP bP hP9 cP mY 71 a cy dC dI 5 (f_K 1 (qX12_image [.ref 0, .int b] I L)) tQ ls' st' I' L') (List.forall_mem_cons.mpr ⟨(fun ls' st' I' L' h => by obtain ⟨i, hs, e1, e3, h9⟩ := h; rw [e1, e3]; exact f_W_sub hs (lp33 9 i I' h9)), fun _ h => absurd h List.not_mem_nil⟩)) 22 0 tX12_image tX12_image_ok _ _ _ _ ?_
    refine And.intro trivial ?_
    intro x3 I3 L3 hq3
    have hq3 : I3 = I ∧ L3 = L ∧ ((x3.toInt = 1 ∧ (0 : Int) ≤ b.toInt ∧ b.toInt ≤ (2 : Int) ∨ x3.toInt = 0 ∧ (b.toInt < (0 : Int) ∨ (2 : Int) < b.toInt))) := hq3
    obtain ⟨eI3, eL3, c3_2⟩ := hq3
    replace eI3 := eI3.symm
    subst eI3
    replace eL3 := eL3.symm
    subst eL3
    apply And.intro
    · intro h6
      have h6 : ¬ x3.toInt = 0 := h6
      have r17_1 : 0 ≤ (I 0 83).toInt ∧ (I 0 83).toInt ≤ 12 := hR 0 83
      refine And.intro (show f_in b 3 from ⟨show 0 ≤ b.toInt from by omega, show b.toInt < 3 from by omega⟩) ?_
      have hR20 := mR_a (k := 63) (j := b.toInt.toNat) (x := I 0 83) hR (show -1 ≤ (I 0 83).toInt ∧ (I 0 83).toInt ≤ 12 from ⟨by omega, by omega⟩)
      have hF20 := f_fr_up (k := 63) (r := upd (I 63) (b.toInt.toNat) (I 0 83)) hF0 rfl
      have r27_2 : 0 ≤ (I 0 30).toInt ∧ (I 0 30).toInt ≤ 8 := hR20 0 30
      refine And.intro (show f_in b 3 from ⟨show 0 ≤ b.toInt from by omega, show b.toInt < 3 from by omega⟩) ?_
      have hR30 := mR_a (k := 64) (j := b.toInt.toNat) (x := I 0 30) hR20 (show 0 ≤ (I 0 30).toInt ∧ (I 0 30).toInt ≤ 8 from ⟨by omega, by omega⟩)
      have hF30 := f_fr_up (k := 64) (r := upd (I 64) (b.toInt.toNat) (I 0 30)) hF20 rfl
      exact ⟨Int32.ofInt 0, (by intro q9 h9; simp only [List.mem_cons, List.not_mem_nil, or_false] at h9; rcases h9 with h9 | h9 | h9 <;> subst h9 <;> repeat (first | exact List.mem_cons_self | apply List.mem_cons_of_mem)), rfl, rfl, hR30, hF30, (show 0 ≤ b.toInt from by first | assumption | omega), (show b.toInt ≤ 2 from by first | assumption | omega), (show 0 ≤ (0 : Int) from by first | assumption | omega), (show (0 : Int) ≤ 8 from by first | assumption | omega), (show (8 - (0 : Int)) < 9 from by omega)⟩
    · intro h6
      have h6 : x3.toInt = 0 := h6
      exact ⟨hR, hF0, rfl⟩
def tX12_back : List (Instr × Nat) := [(.iload_n 1, 1), (.iconst 0, 1), (.iconst 2, 1), (.invokestatic 366, 3), (.ifCond .eq 12, 3), (.aload_n 0, 1), (.getfield 203, 3), (.iload_n 1, 1), (.iaload, 1), (.ifCond .ge 5, 3), (.iconst (-1), 1), (.ireturn, 1), (.aload_n 0, 1), (.aload_n 0, 1), (.getfield 203, 3), (.iload_n 1, 1), (.iaload, 1), (.putfield 306, 3), (.aload_n 0, 1), (.aload_n 0, 1), (.getfield 206, 3), (.iload_n 1, 1), (.iaload, 1), (.putfield 309, 3), (.iconst 0, 1), (.istore_n 2, 1), (.iload_n 2, 1), (.bipush 8, 2), (.if_icmp .ge 26, 3), (.aload_n 0, 1), (.getfield 71, 3), (.iload_n 2, 1), (.aload_n 0, 1), (.getfield 209, 3), (.bipush 8, 2), (.iload_n 1, 1), (.imul, 1), (.iload_n 2, 1), (.iadd, 1), (.iaload, 1), (.iastore, 1), (.iinc 2 1, 3), (.goto (-26), 3), (.iconst 0, 1), (.istore_n 2, 1), (.iload_n 2, 1), (.aload_n 0, 1), (.getfield 306, 3), (.if_icmp .ge 104, 3), (.bipush 12, 2), (.iload_n 1, 1), (.imul, 1), (.iload_n 2, 1), (.iadd, 1), (.istore_n 3, 1), (.aload_n 0, 1), (.getfield 182, 3), (.iload_n 2, 1), (.aload_n 0, 1), (.getfield 212, 3), (.iload_n 3, 1), (.iaload, 1), (.iastore, 1), (.aload_n 0, 1), (.getfield 188, 3), (.iload_n 2, 1), (.aload_n 0, 1), (.getfield 218, 3), (.iload_n 3, 1), (.iaload, 1), (.iastore, 1), (.aload_n 0, 1), (.getfield 191, 3), (.iload_n 2, 1), (.aload_n 0, 1), (.getfield 221, 3), (.iload_n 3, 1), (.iaload, 1), (.iastore, 1), (.aload_n 0, 1), (.getfield 194, 3), (.iload_n 2, 1), (.aload_n 0, 1), (.getfield 224, 3), (.iload_n 3, 1), (.baload, 1), (.bastore, 1), (.iconst 0, 1), (.istore 4, 2), (.iload 4, 2), (.bipush 6, 2), (.if_icmp .ge 33, 3), (.aload_n 0, 1), (.getfield 185, 3), (.bipush 6, 2), (.iload_n 2, 1), (.imul, 1), (.iload 4, 2), (.iadd, 1), (.aload_n 0, 1), (.getfield 215, 3), (.bipush 6, 2), (.iload_n 3, 1), (.imul, 1), (.iload 4, 2), (.iadd, 1), (.iaload, 1), (.iastore, 1), (.iinc 4 1, 3), (.goto (-34), 3), (.iinc 2 1, 3), (.goto (-106), 3), (.aload_n 0, 1), (.iconst 0, 1), (.putfield 359, 3), (.aload_n 0, 1), (.getfield 306, 3), (.ireturn, 1)]
theorem tX12_back_ok : f_chk cX12_back 0 tX12_back = true := by decide +kernel
def pX12_back (av : List Value) (I : fM) (L : fN) : Prop := match av with
  | [.ref 0, .int b] => mR I
  | _ => False
def qX12_back (av : List Value) (I : fM) (L : fN) (r : Value) (I' : fM) (L' : fN) : Prop := match av, r with
  | [.ref 0, .int b], .int x => mR I' ∧ f_fo [30, 70, 83] I I' ∧ f_fr [0, 19, 56, 57, 58, 59, 60] I I' ∧ L' = L
  | _, _ => False
set_option maxHeartbeats 4000000 in
set_option maxRecDepth 100000 in
theorem mX12_back {l : Launch} {a : Nat → Nat} {cy dC : Nat → ClassId} {dI : Nat → Nat → Nat} (hinj : ∀ i j, i < 71 → j < 71 → a i = a j → i = j) : f_Met (fun _ => True) l mY 71 a cy dC dI yX12_back cX12_back 5 1 1 pX12_back qX12_back := by
  refine f_met_of (f_Ec_T 71 a) hinj mY_hi (by decide) (fun av I L h => by unfold pX12_back at h; split at h <;> first | exact Nat.le_of_ble_eq_true rfl | exact h.elim) ?_
  intro pP eP sP mP aP bP hP9 cP C av I L hp
  unfold pX12_back at hp
  split at hp
  case h_2 => exact hp.elim
  case h_1 b =>
    have hR := hp
    have hF0 : f_fr [0, 19, 56, 57, 58, 59, 60] I I := f_fr_rf
    have hO0 : f_fo [30, 70, 83] I I := f_fo_rf
    have lp73 : ∀ (n73 : Nat), ∀ (n : Int32) (J73 : fM), mR J73 ∧ f_fr [0, 19, 56, 57, 58, 59, 60] I J73 ∧ f_fo [30, 70, 83] I J73 ∧ (0 ≤ b.toInt) ∧ (b.toInt ≤ 2) ∧ (0 ≤ n.toInt) ∧ (n.toInt ≤ 12) ∧ (12 - n.toInt) < n73 → f_W pP l eP (f_rm 1) sP mP aP bP hP9 cP mY 71 a cy dC dI 5 (f_K 1 (qX12_back [.ref 0, .int b] I L)) 73 [(2, .int n), (1, .int b), (0, .ref 0)] [] J73 L := by
      intro n73
      induction n73 with
      | zero =>
        intro n J73 h9
        obtain ⟨hR73c, hF73c, hO73c, u73_1, u73_2, u73_3, u73_4, hm73⟩ := h9
        omega
      | succ n73 ih73 =>
        intro n J73 h9
        obtain ⟨hR73c, hF73c, hO73c, u73_1, u73_2, u73_3, u73_4, hm73⟩ := h9
        have lp139 : ∀ (n139 : Nat), ∀ (k : Int32) (i : Int32) (J139 : fM), mR J139 ∧ f_fr [0, 19, 56, 57, 58, 59, 60] I J139 ∧ f_fo [30, 70, 83] I J139 ∧ (n.toInt ≤ 11) ∧ (k.toInt = 12 * b.toInt + n.toInt) ∧ (0 ≤ i.toInt) ∧ (i.toInt ≤ 6) ∧ (6 - i.toInt) < n139 → f_W pP l eP (f_rm 1) sP mP aP bP hP9 cP mY 71 a cy dC dI 5 (f_K 1 (qX12_back [.ref 0, .int b] I L)) 139 [(4, .int i), (3, .int k), (2, .int n), (1, .int b), (0, .ref 0)] [] J139 L := by
          intro n139
          induction n139 with
          | zero =>
            intro k i J139 h9
            obtain ⟨hR139c, hF139c, hO139c, u139_1, u139_2, u139_3, u139_4, hm139⟩ := h9
            omega
          | succ n139 ih139 =>
            intro k i J139 h9
            obtain ⟨hR139c, hF139c, hO139c, u139_1, u139_2, u139_3, u139_4, hm139⟩ := h9
            refine f_wp_ok C f_cl flX12_ok fiX12_ok fjX12_ok (sn := none) (fun j h => by cases h) (cs := (fun _ => none)) (cz := (f_cnl [(366, (3, 3, 11, pX12_isIn, qX12_isIn))])) (fun j S h => by cases h) (f_cnl_of (P := fun j S => f_cok pP l eP (f_rm 1) sP mP aP bP hP9 cP mY 71 a cy dC dI 5 _ _ (.invokestatic j) false S) (List.forall_mem_cons.mpr ⟨f_cokS C (mX12_isIn hinj) (List.forall_mem_cons.mpr ⟨(mlX12_ok _ (List.mem_of_getElem? (i := 27) rfl)), kc_X12_isIn⟩) (by decide +kernel) ⟨Nat.le_of_ble_eq_true rfl, Nat.le_of_ble_eq_true rfl⟩, fun _ h => absurd h List.not_mem_nil⟩)) tX12_back_ok (cut := (f_cnl [(73, (fun (ls' : fLs) (st' : List Value) (I' : fM) (L' : fN) => ∃ n : Int32, (∀ q ∈ ([(2, .int n), (1, .int b), (0, .ref 0)] : fLs), q ∈ ls') ∧ st' = [] ∧ L' = L ∧ (mR I' ∧ f_fr [0, 19, 56, 57, 58, 59, 60] I I' ∧ f_fo [30, 70, 83] I I' ∧ (0 ≤ b.toInt) ∧ (b.toInt ≤ 2) ∧ (0 ≤ n.toInt) ∧ (n.toInt ≤ 12) ∧ (12 - n.toInt) < n73))), (139, (fun (ls' : fLs) (st' : List Value) (I' : fM) (L' : fN) => ∃ k : Int32, ∃ i : Int32, (∀ q ∈ ([(4, .int i), (3, .int k), (2, .int n), (1, .int b), (0, .ref 0)] : fLs), q ∈ ls') ∧ st' = [] ∧ L' = L ∧ (mR I' ∧ f_fr [0, 19, 56, 57, 58, 59, 60] I I' ∧ f_fo [30, 70, 83] I I' ∧ (n.toInt ≤ 11) ∧ (k.toInt = 12 * b.toInt + n.toInt) ∧ (0 ≤ i.toInt) ∧ (i.toInt ≤ 6) ∧ (6 - i.toInt) < n139)))])) (f_cnl_of (P := fun (tQ : Nat) (P : fLs → List Value → fM → fN → Prop) => ∀ ls' st' I' L', P ls' st' I' L' → f_W pP l eP (f_rm 1) sP mP aP bP hP9 cP mY 71 a cy dC dI 5 (f_K 1 (qX12_back [.ref 0, .int b] I L)) tQ ls' st' I' L') (List.forall_mem_cons.mpr ⟨(fun ls' st' I' L' h => by obtain ⟨n, hs, e1, e3, h9⟩ := h; rw [e1, e3]; exact f_W_sub hs (ih73 n I' h9)), List.forall_mem_cons.mpr ⟨(fun ls' st' I' L' h => by obtain ⟨k, i, hs, e1, e3, h9⟩ := h; rw [e1, e3]; exact f_W_sub hs (ih139 k i I' h9)), fun _ h => absurd h List.not_mem_nil⟩⟩)) 24 139 (f_seek 139 0 tX12_back) (f_seek_ok 139 0 tX12_back tX12_back_ok) _ _ _ _ ?_
            apply And.intro
            · intro h143
              have h143 : 6 ≤ i.toInt := h143
              intro z176 q176 _ hq176 hl176 hu176
              have hq176 : z176.toInt = n.toInt + 1 + 4294967296 * q176 := hq176
              try have hz176 : z176.toInt = n.toInt + 1 := by omega
              exact ⟨z176, (by intro q9 h9; simp only [List.mem_cons, List.not_mem_nil, or_false] at h9; rcases h9 with h9 | h9 | h9 <;> subst h9 <;> repeat (first | exact List.mem_cons_self | apply List.mem_cons_of_mem)), rfl, rfl, hR139c, hF139c, hO139c, (show 0 ≤ b.toInt from by first | assumption | omega), (show b.toInt ≤ 2 from by first | assumption | omega), (show 0 ≤ z176.toInt from by first | assumption | omega), (show z176.toInt ≤ 12 from by first | assumption | omega), (show (12 - z176.toInt) < n73 from by omega)⟩
            · intro h143
              have h143 : i.toInt < 6 := h143
              intro z153 q153 _ hq153 hl153 hu153
              have hq153 : z153.toInt = 6 * n.toInt + 4294967296 * q153 := hq153
              try have hz153 : z153.toInt = 6 * n.toInt := by omega
              intro z156 q156 _ hq156 hl156 hu156
              have hq156 : z156.toInt = z153.toInt + i.toInt + 4294967296 * q156 := hq156
              try have hz156 : z156.toInt = z153.toInt + i.toInt := by omega
              intro z164 q164 _ hq164 hl164 hu164
              have hq164 : z164.toInt = 6 * k.toInt + 4294967296 * q164 := hq164
              try have hz164 : z164.toInt = 6 * k.toInt := by omega
              intro z167 q167 _ hq167 hl167 hu167
              have hq167 : z167.toInt = z164.toInt + i.toInt + 4294967296 * q167 := hq167
              try have hz167 : z167.toInt = z164.toInt + i.toInt := by omega
              refine And.intro (show f_in z167 216 from ⟨show 0 ≤ z167.toInt from by omega, show z167.toInt < 216 from by omega⟩) ?_
              have r168_1 : 0 ≤ (J139 67 (z167.toInt.toNat)).toInt ∧ (J139 67 (z167.toInt.toNat)).toInt ≤ 11 := hR139c 67 (z167.toInt.toNat)
              have e168_2 : (J139 67 (z167.toInt.toNat)).toInt = (I 67 (z167.toInt.toNat)).toInt := congrArg Int32.toInt (congrFun (hF139c 67 rfl) (z167.toInt.toNat))
              refine And.intro (show f_in z156 72 from ⟨show 0 ≤ z156.toInt from by omega, show z156.toInt < 72 from by omega⟩) ?_
              have hR169 := mR_a (k := 57) (j := z156.toInt.toNat) (x := J139 67 (z167.toInt.toNat)) hR139c (show 0 ≤ (J139 67 (z167.toInt.toNat)).toInt ∧ (J139 67 (z167.toInt.toNat)).toInt ≤ 11 from ⟨by omega, by omega⟩)
              have hF169 := f_fr_up (k := 57) (r := upd (J139 57) (z156.toInt.toNat) (J139 67 (z167.toInt.toNat))) hF139c rfl
              have hO169 := f_fo_ne (k := 57) (r := upd (J139 57) (z156.toInt.toNat) (J139 67 (z167.toInt.toNat))) hO139c (by decide)
              intro z170 q170 _ hq170 hl170 hu170
              have hq170 : z170.toInt = i.toInt + 1 + 4294967296 * q170 := hq170
              try have hz170 : z170.toInt = i.toInt + 1 := by omega
              exact ⟨k, z170, (by intro q9 h9; simp only [List.mem_cons, List.not_mem_nil, or_false] at h9; rcases h9 with h9 | h9 | h9 | h9 | h9 <;> subst h9 <;> repeat (first | exact List.mem_cons_self | apply List.mem_cons_of_mem)), rfl, rfl, hR169, hF169, hO169, (show n.toInt ≤ 11 from by first | assumption | omega), (show k.toInt = 12 * b.toInt + n.toInt from by first | assumption | omega | rfl), (show 0 ≤ z170.toInt from by first | assumption | omega), (show z170.toInt ≤ 6 from by first | assumption | omega), (show (6 - z170.toInt) < n139 from by omega)⟩
        refine f_wp_ok C f_cl flX12_ok fiX12_ok fjX12_ok (sn := none) (fun j h => by cases h) (cs := (fun _ => none)) (cz := (f_cnl [(366, (3, 3, 11, pX12_isIn, qX12_isIn))])) (fun j S h => by cases h) (f_cnl_of (P := fun j S => f_cok pP l eP (f_rm 1) sP mP aP bP hP9 cP mY 71 a cy dC dI 5 _ _ (.invokestatic j) false S) (List.forall_mem_cons.mpr ⟨f_cokS C (mX12_isIn hinj) (List.forall_mem_cons.mpr ⟨(mlX12_ok _ (List.mem_of_getElem? (i := 27) rfl)), kc_X12_isIn⟩) (by decide +kernel) ⟨Nat.le_of_ble_eq_true rfl, Nat.le_of_ble_eq_true rfl⟩, fun _ h => absurd h List.not_mem_nil⟩)) tX12_back_ok (cut := (f_cnl [(139, (fun (ls' : fLs) (st' : List Value) (I' : fM) (L' : fN) => ∃ k : Int32, ∃ i : Int32, (∀ q ∈ ([(4, .int i), (3, .int k), (2, .int n), (1, .int b), (0, .ref 0)] : fLs), q ∈ ls') ∧ st' = [] ∧ L' = L ∧ (mR I' ∧ f_fr [0, 19, 56, 57, 58, 59, 60] I I' ∧ f_fo [30, 70, 83] I I' ∧ (n.toInt ≤ 11) ∧ (k.toInt = 12 * b.toInt + n.toInt) ∧ (0 ≤ i.toInt) ∧ (i.toInt ≤ 6) ∧ (6 - i.toInt) < 7)))])) (f_cnl_of (P := fun (tQ : Nat) (P : fLs → List Value → fM → fN → Prop) => ∀ ls' st' I' L', P ls' st' I' L' → f_W pP l eP (f_rm 1) sP mP aP bP hP9 cP mY 71 a cy dC dI 5 (f_K 1 (qX12_back [.ref 0, .int b] I L)) tQ ls' st' I' L') (List.forall_mem_cons.mpr ⟨(fun ls' st' I' L' h => by obtain ⟨k, i, hs, e1, e3, h9⟩ := h; rw [e1, e3]; exact f_W_sub hs (lp139 7 k i I' h9)), fun _ h => absurd h List.not_mem_nil⟩)) 47 73 (f_seek 73 0 tX12_back) (f_seek_ok 73 0 tX12_back tX12_back_ok) _ _ _ _ ?_
        have r75_1 : 0 ≤ (J73 0 83).toInt ∧ (J73 0 83).toInt ≤ 12 := hR73c 0 83
        apply And.intro
        · intro h78
          have h78 : (J73 0 83).toInt ≤ n.toInt := h78
          refine And.intro (Or.inl rfl) ?_
          have hR184 := mR_f (k := 0) (j := 70) (x := Int32.ofInt 0) hR73c (by exact f_rng _)
          have hF184 := f_fr_up (k := 0) (r := va_up (J73 0) 70 (Int32.ofInt 0)) hF73c rfl
          have hO184 := f_fo_up (j := 70) (x := Int32.ofInt 0) hO73c rfl
          exact ⟨hR184, hO184, hF184, rfl⟩
        · intro h78
          have h78 : n.toInt < (J73 0 83).toInt := h78
          intro z84 q84 _ hq84 hl84 hu84
          have hq84 : z84.toInt = 12 * b.toInt + 4294967296 * q84 := hq84
          try have hz84 : z84.toInt = 12 * b.toInt := by omega
          intro z86 q86 _ hq86 hl86 hu86
          have hq86 : z86.toInt = z84.toInt + n.toInt + 4294967296 * q86 := hq86
          try have hz86 : z86.toInt = z84.toInt + n.toInt := by omega
          refine And.intro (show f_in z86 36 from ⟨show 0 ≤ z86.toInt from by omega, show z86.toInt < 36 from by omega⟩) ?_
          have r98_2 : 0 ≤ (J73 66 (z86.toInt.toNat)).toInt ∧ (J73 66 (z86.toInt.toNat)).toInt ≤ 6 := hR73c 66 (z86.toInt.toNat)
          have e98_3 : (J73 66 (z86.toInt.toNat)).toInt = (I 66 (z86.toInt.toNat)).toInt := congrArg Int32.toInt (congrFun (hF73c 66 rfl) (z86.toInt.toNat))
          refine And.intro (show f_in n 12 from ⟨show 0 ≤ n.toInt from by omega, show n.toInt < 12 from by omega⟩) ?_
          have hR99 := mR_a (k := 56) (j := n.toInt.toNat) (x := J73 66 (z86.toInt.toNat)) hR73c (show 0 ≤ (J73 66 (z86.toInt.toNat)).toInt ∧ (J73 66 (z86.toInt.toNat)).toInt ≤ 6 from ⟨by omega, by omega⟩)
          have hF99 := f_fr_up (k := 56) (r := upd (J73 56) (n.toInt.toNat) (J73 66 (z86.toInt.toNat))) hF73c rfl
          have hO99 := f_fo_ne (k := 56) (r := upd (J73 56) (n.toInt.toNat) (J73 66 (z86.toInt.toNat))) hO73c (by decide)
          refine And.intro (show f_in z86 36 from ⟨show 0 ≤ z86.toInt from by omega, show z86.toInt < 36 from by omega⟩) ?_
          have e110_5 : (J73 68 (z86.toInt.toNat)).toInt = (I 68 (z86.toInt.toNat)).toInt := congrArg Int32.toInt (congrFun (hF73c 68 rfl) (z86.toInt.toNat))
          refine And.intro (show f_in n 12 from ⟨show 0 ≤ n.toInt from by omega, show n.toInt < 12 from by omega⟩) ?_
          have hR111 := mR_a (k := 58) (j := n.toInt.toNat) (x := J73 68 (z86.toInt.toNat)) hR99 (by exact f_rng _)
          have hF111 := f_fr_up (k := 58) (r := upd (J73 58) (n.toInt.toNat) (J73 68 (z86.toInt.toNat))) hF99 rfl
          have hO111 := f_fo_ne (k := 58) (r := upd (J73 58) (n.toInt.toNat) (J73 68 (z86.toInt.toNat))) hO99 (by decide)
          refine And.intro (show f_in z86 36 from ⟨show 0 ≤ z86.toInt from by omega, show z86.toInt < 36 from by omega⟩) ?_
          have e122_7 : (J73 69 (z86.toInt.toNat)).toInt = (I 69 (z86.toInt.toNat)).toInt := congrArg Int32.toInt (congrFun (hF73c 69 rfl) (z86.toInt.toNat))
          refine And.intro (show f_in n 12 from ⟨show 0 ≤ n.toInt from by omega, show n.toInt < 12 from by omega⟩) ?_
          have hR123 := mR_a (k := 59) (j := n.toInt.toNat) (x := J73 69 (z86.toInt.toNat)) hR111 (by exact f_rng _)
          have hF123 := f_fr_up (k := 59) (r := upd (J73 59) (n.toInt.toNat) (J73 69 (z86.toInt.toNat))) hF111 rfl
          have hO123 := f_fo_ne (k := 59) (r := upd (J73 59) (n.toInt.toNat) (J73 69 (z86.toInt.toNat))) hO111 (by decide)
          refine And.intro (show f_in z86 36 from ⟨show 0 ≤ z86.toInt from by omega, show z86.toInt < 36 from by omega⟩) ?_
          have e134_9 : (J73 70 (z86.toInt.toNat)).toInt = (I 70 (z86.toInt.toNat)).toInt := congrArg Int32.toInt (congrFun (hF73c 70 rfl) (z86.toInt.toNat))
          refine And.intro (show f_in n 12 from ⟨show 0 ≤ n.toInt from by omega, show n.toInt < 12 from by omega⟩) ?_
          have nb135 : 0 ≤ (vp_nar .boolean (J73 70 (z86.toInt.toNat))).toInt ∧ (vp_nar .boolean (J73 70 (z86.toInt.toNat))).toInt ≤ 1 := f_narb _
          have hR135 := mR_a (k := 60) (j := n.toInt.toNat) (x := vp_nar .boolean (J73 70 (z86.toInt.toNat))) hR123 (by exact f_rng _)
          have hF135 := f_fr_up (k := 60) (r := upd (J73 60) (n.toInt.toNat) (vp_nar .boolean (J73 70 (z86.toInt.toNat)))) hF123 rfl
          have hO135 := f_fo_ne (k := 60) (r := upd (J73 60) (n.toInt.toNat) (vp_nar .boolean (J73 70 (z86.toInt.toNat)))) hO123 (by decide)
          exact ⟨z86, Int32.ofInt 0, (by intro q9 h9; simp only [List.mem_cons, List.not_mem_nil, or_false] at h9; rcases h9 with h9 | h9 | h9 | h9 | h9 <;> subst h9 <;> repeat (first | exact List.mem_cons_self | apply List.mem_cons_of_mem)), rfl, rfl, hR135, hF135, hO135, (show n.toInt ≤ 11 from by first | assumption | omega), (show z86.toInt = 12 * b.toInt + n.toInt from by first | assumption | omega | rfl), (show 0 ≤ (0 : Int) from by first | assumption | omega), (show (0 : Int) ≤ 6 from by first | assumption | omega), (show (6 - (0 : Int)) < 7 from by omega)⟩
    have lp42 : ∀ (n42 : Nat), ∀ (i : Int32) (J42 : fM), mR J42 ∧ f_fr [0, 19, 56, 57, 58, 59, 60] I J42 ∧ f_fo [30, 70, 83] I J42 ∧ (0 ≤ b.toInt) ∧ (b.toInt ≤ 2) ∧ (0 ≤ i.toInt) ∧ (i.toInt ≤ 8) ∧ (8 - i.toInt) < n42 → f_W pP l eP (f_rm 1) sP mP aP bP hP9 cP mY 71 a cy dC dI 5 (f_K 1 (qX12_back [.ref 0, .int b] I L)) 42 [(2, .int i), (1, .int b), (0, .ref 0)] [] J42 L := by
      intro n42
      induction n42 with
      | zero =>
        intro i J42 h9
        obtain ⟨hR42c, hF42c, hO42c, u42_1, u42_2, u42_3, u42_4, hm42⟩ := h9
        omega
      | succ n42 ih42 =>
        intro i J42 h9
        obtain ⟨hR42c, hF42c, hO42c, u42_1, u42_2, u42_3, u42_4, hm42⟩ := h9
        refine f_wp_ok C f_cl flX12_ok fiX12_ok fjX12_ok (sn := none) (fun j h => by cases h) (cs := (fun _ => none)) (cz := (f_cnl [(366, (3, 3, 11, pX12_isIn, qX12_isIn))])) (fun j S h => by cases h) (f_cnl_of (P := fun j S => f_cok pP l eP (f_rm 1) sP mP aP bP hP9 cP mY 71 a cy dC dI 5 _ _ (.invokestatic j) false S) (List.forall_mem_cons.mpr ⟨f_cokS C (mX12_isIn hinj) (List.forall_mem_cons.mpr ⟨(mlX12_ok _ (List.mem_of_getElem? (i := 27) rfl)), kc_X12_isIn⟩) (by decide +kernel) ⟨Nat.le_of_ble_eq_true rfl, Nat.le_of_ble_eq_true rfl⟩, fun _ h => absurd h List.not_mem_nil⟩)) tX12_back_ok (cut := (f_cnl [(42, (fun (ls' : fLs) (st' : List Value) (I' : fM) (L' : fN) => ∃ i : Int32, (∀ q ∈ ([(2, .int i), (1, .int b), (0, .ref 0)] : fLs), q ∈ ls') ∧ st' = [] ∧ L' = L ∧ (mR I' ∧ f_fr [0, 19, 56, 57, 58, 59, 60] I I' ∧ f_fo [30, 70, 83] I I' ∧ (0 ≤ b.toInt) ∧ (b.toInt ≤ 2) ∧ (0 ≤ i.toInt) ∧ (i.toInt ≤ 8) ∧ (8 - i.toInt) < n42))), (73, (fun (ls' : fLs) (st' : List Value) (I' : fM) (L' : fN) => ∃ n : Int32, (∀ q ∈ ([(2, .int n), (1, .int b), (0, .ref 0)] : fLs), q ∈ ls') ∧ st' = [] ∧ L' = L ∧ (mR I' ∧ f_fr [0, 19, 56, 57, 58, 59, 60] I I' ∧ f_fo [30, 70, 83] I I' ∧ (0 ≤ b.toInt) ∧ (b.toInt ≤ 2) ∧ (0 ≤ n.toInt) ∧ (n.toInt ≤ 12) ∧ (12 - n.toInt) < 13)))])) (f_cnl_of (P := fun (tQ : Nat) (P : fLs → List Value → fM → fN → Prop) => ∀ ls' st' I' L', P ls' st' I' L' → f_W pP l eP (f_rm 1) sP mP aP bP hP9 cP mY 71 a cy dC dI 5 (f_K 1 (qX12_back [.ref 0, .int b] I L)) tQ ls' st' I' L') (List.forall_mem_cons.mpr ⟨(fun ls' st' I' L' h => by obtain ⟨i, hs, e1, e3, h9⟩ := h; rw [e1, e3]; exact f_W_sub hs (ih42 i I' h9)), List.forall_mem_cons.mpr ⟨(fun ls' st' I' L' h => by obtain ⟨n, hs, e1, e3, h9⟩ := h; rw [e1, e3]; exact f_W_sub hs (lp73 13 n I' h9)), fun _ h => absurd h List.not_mem_nil⟩⟩)) 20 42 (f_seek 42 0 tX12_back) (f_seek_ok 42 0 tX12_back tX12_back_ok) _ _ _ _ ?_
        apply And.intro
        · intro h45
          have h45 : 8 ≤ i.toInt := h45
          exact ⟨Int32.ofInt 0, (by intro q9 h9; simp only [List.mem_cons, List.not_mem_nil, or_false] at h9; rcases h9 with h9 | h9 | h9 <;> subst h9 <;> repeat (first | exact List.mem_cons_self | apply List.mem_cons_of_mem)), rfl, rfl, hR42c, hF42c, hO42c, (show 0 ≤ b.toInt from by first | assumption | omega), (show b.toInt ≤ 2 from by first | assumption | omega), (show 0 ≤ (0 : Int) from by first | assumption | omega), (show (0 : Int) ≤ 12 from by first | assumption | omega), (show (12 - (0 : Int)) < 13 from by omega)⟩
        · intro h45
          have h45 : i.toInt < 8 := h45
          intro z60 q60 _ hq60 hl60 hu60
          have hq60 : z60.toInt = 8 * b.toInt + 4294967296 * q60 := hq60
          try have hz60 : z60.toInt = 8 * b.toInt := by omega
          intro z62 q62 _ hq62 hl62 hu62
          have hq62 : z62.toInt = z60.toInt + i.toInt + 4294967296 * q62 := hq62
          try have hz62 : z62.toInt = z60.toInt + i.toInt := by omega
          refine And.intro (show f_in z62 24 from ⟨show 0 ≤ z62.toInt from by omega, show z62.toInt < 24 from by omega⟩) ?_
          have r63_1 : 0 ≤ (J42 65 (z62.toInt.toNat)).toInt ∧ (J42 65 (z62.toInt.toNat)).toInt ≤ 11 := hR42c 65 (z62.toInt.toNat)
          have e63_2 : (J42 65 (z62.toInt.toNat)).toInt = (I 65 (z62.toInt.toNat)).toInt := congrArg Int32.toInt (congrFun (hF42c 65 rfl) (z62.toInt.toNat))
          refine And.intro (show f_in i 8 from ⟨show 0 ≤ i.toInt from by omega, show i.toInt < 8 from by omega⟩) ?_
          have hR64 := mR_a (k := 19) (j := i.toInt.toNat) (x := J42 65 (z62.toInt.toNat)) hR42c (show 0 ≤ (J42 65 (z62.toInt.toNat)).toInt ∧ (J42 65 (z62.toInt.toNat)).toInt ≤ 11 from ⟨by omega, by omega⟩)
          have hF64 := f_fr_up (k := 19) (r := upd (J42 19) (i.toInt.toNat) (J42 65 (z62.toInt.toNat))) hF42c rfl
          have hO64 := f_fo_ne (k := 19) (r := upd (J42 19) (i.toInt.toNat) (J42 65 (z62.toInt.toNat))) hO42c (by decide)
          intro z65 q65 _ hq65 hl65 hu65
          have hq65 : z65.toInt = i.toInt + 1 + 4294967296 * q65 := hq65
          try have hz65 : z65.toInt = i.toInt + 1 := by omega
          exact ⟨z65, (by intro q9 h9; simp only [List.mem_cons, List.not_mem_nil, or_false] at h9; rcases h9 with h9 | h9 | h9 <;> subst h9 <;> repeat (first | exact List.mem_cons_self | apply List.mem_cons_of_mem)), rfl, rfl, hR64, hF64, hO64, (show 0 ≤ b.toInt from by first | assumption | omega), (show b.toInt ≤ 2 from by first | assumption | omega), (show 0 ≤ z65.toInt from by first | assumption | omega), (show z65.toInt ≤ 8 from by first | assumption | omega), (show (8 - z65.toInt) < n42 from by omega)⟩
    refine f_wp_ok C f_cl flX12_ok fiX12_ok fjX12_ok (sn := none) (fun j h => by cases h) (cs := (fun _ => none)) (cz := (f_cnl [(366, (3, 3, 11, pX12_isIn, qX12_isIn))])) (fun j S h => by cases h) (f_cnl_of (P := fun j S => f_cok pP l eP (f_rm 1) sP mP aP bP hP9 cP mY 71 a cy dC dI 5 _ _ (.invokestatic j) false S) (List.forall_mem_cons.mpr ⟨f_cokS C (mX12_isIn hinj) (List.forall_mem_cons.mpr ⟨(mlX12_ok _ (List.mem_of_getElem? (i := 27) rfl)), kc_X12_isIn⟩) (by decide +kernel) ⟨Nat.le_of_ble_eq_true rfl, Nat.le_of_ble_eq_true rfl⟩, fun _ h => absurd h List.not_mem_nil⟩)) tX12_back_ok (cut := (f_cnl [(42, (fun (ls' : fLs) (st' : List Value) (I' : fM) (L' : fN) => ∃ i : Int32, (∀ q ∈ ([(2, .int i), (1, .int b), (0, .ref 0)] : fLs), q ∈ ls') ∧ st' = [] ∧ L' = L ∧ (mR I' ∧ f_fr [0, 19, 56, 57, 58, 59, 60] I I' ∧ f_fo [30, 70, 83] I I' ∧ (0 ≤ b.toInt) ∧ (b.toInt ≤ 2) ∧ (0 ≤ i.toInt) ∧ (i.toInt ≤ 8) ∧ (8 - i.toInt) < 9)))])) (f_cnl_of (P := fun (tQ : Nat) (P : fLs → List Value → fM → fN → Prop) => ∀ ls' st' I' L', P ls' st' I' L' → f_W pP l eP (f_rm 1) sP mP aP bP hP9 cP mY 71 a cy dC dI 5 (f_K 1 (qX12_back [.ref 0, .int b] I L)) tQ ls' st' I' L') (List.forall_mem_cons.mpr ⟨(fun ls' st' I' L' h => by obtain ⟨i, hs, e1, e3, h9⟩ := h; rw [e1, e3]; exact f_W_sub hs (lp42 9 i I' h9)), fun _ h => absurd h List.not_mem_nil⟩)) 27 0 tX12_back tX12_back_ok _ _ _ _ ?_
    refine And.intro trivial ?_
    intro x3 I3 L3 hq3
    have hq3 : I3 = I ∧ L3 = L ∧ ((x3.toInt = 1 ∧ (0 : Int) ≤ b.toInt ∧ b.toInt ≤ (2 : Int) ∨ x3.toInt = 0 ∧ (b.toInt < (0 : Int) ∨ (2 : Int) < b.toInt))) := hq3
    obtain ⟨eI3, eL3, c3_2⟩ := hq3
    replace eI3 := eI3.symm
    subst eI3
    replace eL3 := eL3.symm
    subst eL3
    apply And.intro
    · intro h6
      have h6 : x3.toInt = 0 := h6
      exact ⟨hR, hO0, hF0, rfl⟩
    · intro h6
      have h6 : ¬ x3.toInt = 0 := h6
      refine And.intro (show f_in b 3 from ⟨show 0 ≤ b.toInt from by omega, show b.toInt < 3 from by omega⟩) ?_
      have r14_1 : -1 ≤ (I 63 (b.toInt.toNat)).toInt ∧ (I 63 (b.toInt.toNat)).toInt ≤ 12 := hR 63 (b.toInt.toNat)
      apply And.intro
      · intro h15
        have h15 : 0 ≤ (I 63 (b.toInt.toNat)).toInt := h15
        refine And.intro (show f_in b 3 from ⟨show 0 ≤ b.toInt from by omega, show b.toInt < 3 from by omega⟩) ?_
        have hR27 := mR_f (k := 0) (j := 83) (x := I 63 (b.toInt.toNat)) hR (show 0 ≤ (I 63 (b.toInt.toNat)).toInt ∧ (I 63 (b.toInt.toNat)).toInt ≤ 12 from ⟨by omega, by omega⟩)
        have hF27 := f_fr_up (k := 0) (r := va_up (I 0) 83 (I 63 (b.toInt.toNat))) hF0 rfl
        have hO27 := f_fo_up (j := 83) (x := I 63 (b.toInt.toNat)) hO0 rfl
        refine And.intro (show f_in b 3 from ⟨show 0 ≤ b.toInt from by omega, show b.toInt < 3 from by omega⟩) ?_
        have r36_2 : 0 ≤ (I 64 (b.toInt.toNat)).toInt ∧ (I 64 (b.toInt.toNat)).toInt ≤ 8 := hR27 64 (b.toInt.toNat)
        have hR37 := mR_f (k := 0) (j := 30) (x := I 64 (b.toInt.toNat)) hR27 (show 0 ≤ (I 64 (b.toInt.toNat)).toInt ∧ (I 64 (b.toInt.toNat)).toInt ≤ 8 from ⟨by omega, by omega⟩)
        have hF37 := f_fr_up (k := 0) (r := va_up (va_up (I 0) 83 (I 63 (b.toInt.toNat))) 30 (I 64 (b.toInt.toNat))) hF27 rfl
        have hO37 := f_fo_up (j := 30) (x := I 64 (b.toInt.toNat)) hO27 rfl
        exact ⟨Int32.ofInt 0, (by intro q9 h9; simp only [List.mem_cons, List.not_mem_nil, or_false] at h9; rcases h9 with h9 | h9 | h9 <;> subst h9 <;> repeat (first | exact List.mem_cons_self | apply List.mem_cons_of_mem)), rfl, rfl, hR37, hF37, hO37, (show 0 ≤ b.toInt from by first | assumption | omega), (show b.toInt ≤ 2 from by first | assumption | omega), (show 0 ≤ (0 : Int) from by first | assumption | omega), (show (0 : Int) ≤ 8 from by first | assumption | omega), (show (8 - (0 : Int)) < 9 from by omega)⟩
      · intro h15
        have h15 : (I 63 (b.toInt.toNat)).toInt < 0 := h15
        exact ⟨hR, hO0, hF0, rfl⟩
