/-- the first words of the grown row are below W -/
def gr (J : fM) (m W : Int) : Prop := ∀ i : Nat, (i : Int) < m → (J 54 i).toInt < W
theorem gr_eq {J K : fM} {m W : Int} (e : K 54 = J 54) (h : gr J m W) : gr K m W := by unfold gr; rw [e]; exact h
def pX12_putInb (av : List Value) (I : fM) (L : fN) : Prop := match av with
  | [.ref 0, .int m, .int p, .int w] => mR I ∧ 0 ≤ p.toInt ∧ p.toInt ≤ m.toInt ∧ m.toInt ≤ 9 ∧ 0 ≤ w.toInt ∧ w.toInt ≤ 11
  | _ => False
def qX12_putInb (av : List Value) (I : fM) (L : fN) (r : Value) (I' : fM) (L' : fN) : Prop := match av, r with
  | [.ref 0, .int m, .int p, .int w], .null => mR I' ∧ f_fr [54] I I' ∧ L' = L ∧ (∀ W : Int, gr I m.toInt W → w.toInt < W → gr I' (m.toInt + 1) W)
  | _, _ => False
set_option maxHeartbeats 40000000 in
set_option maxRecDepth 100000 in
theorem mX12_putInb {l : Launch} {a : Nat → Nat} {cy dC : Nat → ClassId} {dI : Nat → Nat → Nat} (hinj : ∀ i j, i < 71 → j < 71 → a i = a j → i = j) : f_Met (fun _ => True) l mY 71 a cy dC dI yX12_putIn cX12_putIn 5 0 0 pX12_putInb qX12_putInb := by
  refine f_met_of (f_Ec_T 71 a) hinj mY_hi (by decide) (fun av I L h => by unfold pX12_putInb at h; split at h <;> first | exact Nat.le_of_ble_eq_true rfl | exact h.elim) ?_
  intro pP eP sP mP aP bP hP9 cP C av I L hp
  unfold pX12_putInb at hp
  split at hp
  case h_2 => exact hp.elim
  case h_1 m p w =>
    obtain ⟨hR, p1, p2, p3, p4, p5⟩ := hp
    have hF0 : f_fr [54] I I := f_fr_rf
    have lp3 : ∀ (n3 : Nat), ∀ (i : Int32) (J3 : fM), mR J3 ∧ f_fr [54] I J3 ∧ (p.toInt ≤ i.toInt) ∧ (i.toInt ≤ m.toInt) ∧ ((∀ k : Nat, (k : Int) < i.toInt → J3 54 k = I 54 k)) ∧ ((∀ k : Nat, i.toInt < k → (k : Int) ≤ m.toInt → J3 54 k = I 54 (k - 1))) ∧ (i.toInt - p.toInt) < n3 → f_W pP l eP (f_rm 0) sP mP aP bP hP9 cP mY 71 a cy dC dI 5 (f_K 0 (qX12_putInb [.ref 0, .int m, .int p, .int w] I L)) 3 [(4, .int i), (3, .int w), (2, .int p), (1, .int m), (0, .ref 0)] [] J3 L := by
      intro n3
      induction n3 with
      | zero =>
        intro i J3 h9
        obtain ⟨hR3c, hF3c, u3_1, u3_2, u3_3, u3_4, hm3⟩ := h9
        omega
      | succ n3 ih3 =>
        intro i J3 h9
        obtain ⟨hR3c, hF3c, u3_1, u3_2, u3_3, u3_4, hm3⟩ := h9
        refine f_wp_ok C f_cl flX12_ok fiX12_ok fjX12_ok (sn := none) (fun j h => by cases h) (cs := (fun _ => none)) (cz := (fun _ => none)) (fun j S h => by cases h) (fun j S h => by cases h) tX12_putIn_ok (cut := (f_cnl [(3, (fun (ls' : fLs) (st' : List Value) (I' : fM) (L' : fN) => ∃ i : Int32, (∀ q ∈ ([(4, .int i), (3, .int w), (2, .int p), (1, .int m), (0, .ref 0)] : fLs), q ∈ ls') ∧ st' = [] ∧ L' = L ∧ (mR I' ∧ f_fr [54] I I' ∧ (p.toInt ≤ i.toInt) ∧ (i.toInt ≤ m.toInt) ∧ ((∀ k : Nat, (k : Int) < i.toInt → I' 54 k = I 54 k)) ∧ ((∀ k : Nat, i.toInt < k → (k : Int) ≤ m.toInt → I' 54 k = I 54 (k - 1))) ∧ (i.toInt - p.toInt) < n3)))])) (f_cnl_of (P := fun (tQ : Nat) (P : fLs → List Value → fM → fN → Prop) => ∀ ls' st' I' L', P ls' st' I' L' → f_W pP l eP (f_rm 0) sP mP aP bP hP9 cP mY 71 a cy dC dI 5 (f_K 0 (qX12_putInb [.ref 0, .int m, .int p, .int w] I L)) tQ ls' st' I' L') (List.forall_mem_cons.mpr ⟨(fun ls' st' I' L' h => by obtain ⟨i, hs, e1, e3, h9⟩ := h; rw [e1, e3]; exact f_W_sub hs (ih3 i I' h9)), fun _ h => absurd h List.not_mem_nil⟩)) 18 3 (f_seek 3 0 tX12_putIn) (f_seek_ok 3 0 tX12_putIn tX12_putIn_ok) _ _ _ _ ?_
        apply And.intro
        · intro h6
          have h6 : i.toInt ≤ p.toInt := h6
          refine And.intro (show f_in p 10 from ⟨show 0 ≤ p.toInt from by omega, show p.toInt < 10 from by omega⟩) ?_
          have hR37 := mR_a (k := 54) (j := p.toInt.toNat) (x := w) hR3c (show 0 ≤ w.toInt ∧ w.toInt ≤ 11 from ⟨by omega, by omega⟩)
          have hF37 := f_fr_up (k := 54) (r := upd (J3 54) (p.toInt.toNat) w) hF3c rfl
          exact ⟨hR37, hF37, rfl, (fun W h1 h2 k hk => by
            show ((upd (J3 54) p.toInt.toNat w) k).toInt < W
            by_cases q : k = p.toInt.toNat
            · rw [q, pk_us]; exact h2
            · rw [pk_un q]
              by_cases q' : (k : Int) < p.toInt
              · rw [u3_3 k (by omega)]; exact h1 k (by omega)
              · rw [u3_4 k (by omega) (by omega)]; exact h1 (k - 1) (by omega))⟩
        · intro h6
          have h6 : p.toInt < i.toInt := h6
          intro z22 q22 _ hq22 hl22 hu22
          have hq22 : z22.toInt = i.toInt - 1 + 4294967296 * q22 := hq22
          try have hz22 : z22.toInt = i.toInt - 1 := by omega
          refine And.intro (show f_in z22 10 from ⟨show 0 ≤ z22.toInt from by omega, show z22.toInt < 10 from by omega⟩) ?_
          have r23_1 : 0 ≤ (J3 54 (z22.toInt.toNat)).toInt ∧ (J3 54 (z22.toInt.toNat)).toInt ≤ 11 := hR3c 54 (z22.toInt.toNat)
          refine And.intro (show f_in i 10 from ⟨show 0 ≤ i.toInt from by omega, show i.toInt < 10 from by omega⟩) ?_
          have hR24 := mR_a (k := 54) (j := i.toInt.toNat) (x := J3 54 (z22.toInt.toNat)) hR3c (show 0 ≤ (J3 54 (z22.toInt.toNat)).toInt ∧ (J3 54 (z22.toInt.toNat)).toInt ≤ 11 from ⟨by omega, by omega⟩)
          have hF24 := f_fr_up (k := 54) (r := upd (J3 54) (i.toInt.toNat) (J3 54 (z22.toInt.toNat))) hF3c rfl
          intro z25 q25 _ hq25 hl25 hu25
          have hq25 : z25.toInt = i.toInt + (-1) + 4294967296 * q25 := hq25
          try have hz25 : z25.toInt = i.toInt + (-1) := by omega
          have q25 : ∀ k : Nat, (k : Int) < z25.toInt → (upd (J3 54) i.toInt.toNat (J3 54 z22.toInt.toNat)) k = I 54 k := fun k hk => by rw [pk_un (by omega)]; exact u3_3 k (by omega)
          have r25 : ∀ k : Nat, z25.toInt < k → (k : Int) ≤ m.toInt → (upd (J3 54) i.toInt.toNat (J3 54 z22.toInt.toNat)) k = I 54 (k - 1) := fun k h1 h2 => by
            by_cases q : k = i.toInt.toNat
            · rw [q, pk_us, u3_3 _ (by omega), show z22.toInt.toNat = i.toInt.toNat - 1 by omega]
            · rw [pk_un q]; exact u3_4 k (by omega) h2
          exact ⟨z25, (by intro q9 h9; simp only [List.mem_cons, List.not_mem_nil, or_false] at h9; rcases h9 with h9 | h9 | h9 | h9 | h9 <;> subst h9 <;> repeat (first | exact List.mem_cons_self | apply List.mem_cons_of_mem)), rfl, rfl, hR24, hF24, (show p.toInt ≤ z25.toInt from by first | assumption | omega), (show z25.toInt ≤ m.toInt from by first | assumption | omega), (show (∀ k : Nat, (k : Int) < z25.toInt → (upd (J3 54) (i.toInt.toNat) (J3 54 (z22.toInt.toNat))) k = I 54 k) from by first | assumption | omega | exact fun _ _ => rfl | exact fun _ _ => ⟨rfl, rfl⟩ | exact fun _ _ => ⟨rfl, rfl, rfl⟩ | (intro j9 hj9; omega)), (show (∀ k : Nat, z25.toInt < k → (k : Int) ≤ m.toInt → (upd (J3 54) (i.toInt.toNat) (J3 54 (z22.toInt.toNat))) k = I 54 (k - 1)) from by first | assumption | omega | exact fun _ _ => rfl | exact fun _ _ => ⟨rfl, rfl⟩ | exact fun _ _ => ⟨rfl, rfl, rfl⟩ | (intro j9 hj9; omega)), (show (z25.toInt - p.toInt) < n3 from by omega)⟩
    refine f_wp_ok C f_cl flX12_ok fiX12_ok fjX12_ok (sn := none) (fun j h => by cases h) (cs := (fun _ => none)) (cz := (fun _ => none)) (fun j S h => by cases h) (fun j S h => by cases h) tX12_putIn_ok (cut := (f_cnl [(3, (fun (ls' : fLs) (st' : List Value) (I' : fM) (L' : fN) => ∃ i : Int32, (∀ q ∈ ([(4, .int i), (3, .int w), (2, .int p), (1, .int m), (0, .ref 0)] : fLs), q ∈ ls') ∧ st' = [] ∧ L' = L ∧ (mR I' ∧ f_fr [54] I I' ∧ (p.toInt ≤ i.toInt) ∧ (i.toInt ≤ m.toInt) ∧ ((∀ k : Nat, (k : Int) < i.toInt → I' 54 k = I 54 k)) ∧ ((∀ k : Nat, i.toInt < k → (k : Int) ≤ m.toInt → I' 54 k = I 54 (k - 1))) ∧ (i.toInt - p.toInt) < 10)))])) (f_cnl_of (P := fun (tQ : Nat) (P : fLs → List Value → fM → fN → Prop) => ∀ ls' st' I' L', P ls' st' I' L' → f_W pP l eP (f_rm 0) sP mP aP bP hP9 cP mY 71 a cy dC dI 5 (f_K 0 (qX12_putInb [.ref 0, .int m, .int p, .int w] I L)) tQ ls' st' I' L') (List.forall_mem_cons.mpr ⟨(fun ls' st' I' L' h => by obtain ⟨i, hs, e1, e3, h9⟩ := h; rw [e1, e3]; exact f_W_sub hs (lp3 10 i I' h9)), fun _ h => absurd h List.not_mem_nil⟩)) 5 0 tX12_putIn tX12_putIn_ok _ _ _ _ ?_
    exact ⟨m, (by intro q9 h9; simp only [List.mem_cons, List.not_mem_nil, or_false] at h9; rcases h9 with h9 | h9 | h9 | h9 | h9 <;> subst h9 <;> repeat (first | exact List.mem_cons_self | apply List.mem_cons_of_mem)), rfl, rfl, hR, hF0, (show p.toInt ≤ m.toInt from by first | assumption | omega), (show m.toInt ≤ m.toInt from by first | assumption | omega), (show (∀ k : Nat, (k : Int) < m.toInt → I 54 k = I 54 k) from by first | assumption | omega | exact fun _ _ => rfl | exact fun _ _ => ⟨rfl, rfl⟩ | exact fun _ _ => ⟨rfl, rfl, rfl⟩ | (intro j9 hj9; omega)), (show (∀ k : Nat, m.toInt < k → (k : Int) ≤ m.toInt → I 54 k = I 54 (k - 1)) from by first | assumption | omega | exact fun _ _ => rfl | exact fun _ _ => ⟨rfl, rfl⟩ | exact fun _ _ => ⟨rfl, rfl, rfl⟩ | (intro j9 hj9; omega)), (show (m.toInt - p.toInt) < 10 from by omega)⟩
def pX12_takeOutb (av : List Value) (I : fM) (L : fN) : Prop := match av with
  | [.ref 0, .int m, .int p] => mR I ∧ 0 ≤ p.toInt ∧ p.toInt ≤ m.toInt ∧ m.toInt ≤ 9
  | _ => False
def qX12_takeOutb (av : List Value) (I : fM) (L : fN) (r : Value) (I' : fM) (L' : fN) : Prop := match av, r with
  | [.ref 0, .int m, .int p], .null => mR I' ∧ f_fr [54] I I' ∧ L' = L ∧ (∀ W : Int, gr I (m.toInt + 1) W → gr I' m.toInt W)
  | _, _ => False
set_option maxHeartbeats 40000000 in
set_option maxRecDepth 100000 in
theorem mX12_takeOutb {l : Launch} {a : Nat → Nat} {cy dC : Nat → ClassId} {dI : Nat → Nat → Nat} (hinj : ∀ i j, i < 71 → j < 71 → a i = a j → i = j) : f_Met (fun _ => True) l mY 71 a cy dC dI yX12_takeOut cX12_takeOut 4 0 0 pX12_takeOutb qX12_takeOutb := by
  refine f_met_of (f_Ec_T 71 a) hinj mY_hi (by decide) (fun av I L h => by unfold pX12_takeOutb at h; split at h <;> first | exact Nat.le_of_ble_eq_true rfl | exact h.elim) ?_
  intro pP eP sP mP aP bP hP9 cP C av I L hp
  unfold pX12_takeOutb at hp
  split at hp
  case h_2 => exact hp.elim
  case h_1 m p =>
    obtain ⟨hR, p1, p2, p3⟩ := hp
    have hF0 : f_fr [54] I I := f_fr_rf
    have lp2 : ∀ (n2 : Nat), ∀ (i : Int32) (J2 : fM), mR J2 ∧ f_fr [54] I J2 ∧ (p.toInt ≤ i.toInt) ∧ (i.toInt ≤ m.toInt) ∧ ((∀ k : Nat, i.toInt ≤ k → J2 54 k = I 54 k)) ∧ ((∀ W : Int, gr I (m.toInt + 1) W → gr J2 i.toInt W)) ∧ (m.toInt - i.toInt) < n2 → f_W pP l eP (f_rm 0) sP mP aP bP hP9 cP mY 71 a cy dC dI 4 (f_K 0 (qX12_takeOutb [.ref 0, .int m, .int p] I L)) 2 [(3, .int i), (2, .int p), (1, .int m), (0, .ref 0)] [] J2 L := by
      intro n2
      induction n2 with
      | zero =>
        intro i J2 h9
        obtain ⟨hR2c, hF2c, u2_1, u2_2, u2_3, u2_4, hm2⟩ := h9
        omega
      | succ n2 ih2 =>
        intro i J2 h9
        obtain ⟨hR2c, hF2c, u2_1, u2_2, u2_3, u2_4, hm2⟩ := h9
        refine f_wp_ok C f_cl flX12_ok fiX12_ok fjX12_ok (sn := none) (fun j h => by cases h) (cs := (fun _ => none)) (cz := (fun _ => none)) (fun j S h => by cases h) (fun j S h => by cases h) tX12_takeOut_ok (cut := (f_cnl [(2, (fun (ls' : fLs) (st' : List Value) (I' : fM) (L' : fN) => ∃ i : Int32, (∀ q ∈ ([(3, .int i), (2, .int p), (1, .int m), (0, .ref 0)] : fLs), q ∈ ls') ∧ st' = [] ∧ L' = L ∧ (mR I' ∧ f_fr [54] I I' ∧ (p.toInt ≤ i.toInt) ∧ (i.toInt ≤ m.toInt) ∧ ((∀ k : Nat, i.toInt ≤ k → I' 54 k = I 54 k)) ∧ ((∀ W : Int, gr I (m.toInt + 1) W → gr I' i.toInt W)) ∧ (m.toInt - i.toInt) < n2)))])) (f_cnl_of (P := fun (tQ : Nat) (P : fLs → List Value → fM → fN → Prop) => ∀ ls' st' I' L', P ls' st' I' L' → f_W pP l eP (f_rm 0) sP mP aP bP hP9 cP mY 71 a cy dC dI 4 (f_K 0 (qX12_takeOutb [.ref 0, .int m, .int p] I L)) tQ ls' st' I' L') (List.forall_mem_cons.mpr ⟨(fun ls' st' I' L' h => by obtain ⟨i, hs, e1, e3, h9⟩ := h; rw [e1, e3]; exact f_W_sub hs (ih2 i I' h9)), fun _ h => absurd h List.not_mem_nil⟩)) 18 2 (f_seek 2 0 tX12_takeOut) (f_seek_ok 2 0 tX12_takeOut tX12_takeOut_ok) _ _ _ _ ?_
        apply And.intro
        · intro h4
          have h4 : m.toInt ≤ i.toInt := h4
          exact ⟨hR2c, hF2c, rfl, (fun W h k hk => u2_4 W h k (by omega))⟩
        · intro h4
          have h4 : i.toInt < m.toInt := h4
          intro z18 q18 _ hq18 hl18 hu18
          have hq18 : z18.toInt = i.toInt + 1 + 4294967296 * q18 := hq18
          try have hz18 : z18.toInt = i.toInt + 1 := by omega
          refine And.intro (show f_in z18 10 from ⟨show 0 ≤ z18.toInt from by omega, show z18.toInt < 10 from by omega⟩) ?_
          have r19_1 : 0 ≤ (J2 54 (z18.toInt.toNat)).toInt ∧ (J2 54 (z18.toInt.toNat)).toInt ≤ 11 := hR2c 54 (z18.toInt.toNat)
          refine And.intro (show f_in i 10 from ⟨show 0 ≤ i.toInt from by omega, show i.toInt < 10 from by omega⟩) ?_
          have hR20 := mR_a (k := 54) (j := i.toInt.toNat) (x := J2 54 (z18.toInt.toNat)) hR2c (show 0 ≤ (J2 54 (z18.toInt.toNat)).toInt ∧ (J2 54 (z18.toInt.toNat)).toInt ≤ 11 from ⟨by omega, by omega⟩)
          have hF20 := f_fr_up (k := 54) (r := upd (J2 54) (i.toInt.toNat) (J2 54 (z18.toInt.toNat))) hF2c rfl
          intro z21 q21 _ hq21 hl21 hu21
          have hq21 : z21.toInt = i.toInt + 1 + 4294967296 * q21 := hq21
          try have hz21 : z21.toInt = i.toInt + 1 := by omega
          have q21 : ∀ k : Nat, z21.toInt ≤ k → (upd (J2 54) i.toInt.toNat (J2 54 z18.toInt.toNat)) k = I 54 k := fun k hk => by rw [pk_un (by omega)]; exact u2_3 k (by omega)
          have r21 : ∀ W : Int, gr I (m.toInt + 1) W → gr (va_up J2 54 (upd (J2 54) (i.toInt.toNat) (J2 54 (z18.toInt.toNat)))) z21.toInt W := fun W h k hk => by
            show ((upd (J2 54) i.toInt.toNat (J2 54 z18.toInt.toNat)) k).toInt < W
            by_cases q : k = i.toInt.toNat
            · rw [q, pk_us, u2_3 _ (by omega)]; exact h _ (by omega)
            · rw [pk_un q]; exact u2_4 W h k (by omega)
          exact ⟨z21, (by intro q9 h9; simp only [List.mem_cons, List.not_mem_nil, or_false] at h9; rcases h9 with h9 | h9 | h9 | h9 <;> subst h9 <;> repeat (first | exact List.mem_cons_self | apply List.mem_cons_of_mem)), rfl, rfl, hR20, hF20, (show p.toInt ≤ z21.toInt from by first | assumption | omega), (show z21.toInt ≤ m.toInt from by first | assumption | omega), (show (∀ k : Nat, z21.toInt ≤ k → (upd (J2 54) (i.toInt.toNat) (J2 54 (z18.toInt.toNat))) k = I 54 k) from by first | assumption | omega | exact fun _ _ => rfl | exact fun _ _ => ⟨rfl, rfl⟩ | exact fun _ _ => ⟨rfl, rfl, rfl⟩ | (intro j9 hj9; omega)), (show (∀ W : Int, gr I (m.toInt + 1) W → gr (va_up J2 54 (upd (J2 54) (i.toInt.toNat) (J2 54 (z18.toInt.toNat)))) z21.toInt W) from by first | assumption | omega | exact fun _ _ => rfl | exact fun _ _ => ⟨rfl, rfl⟩ | exact fun _ _ => ⟨rfl, rfl, rfl⟩ | (intro j9 hj9; omega)), (show (m.toInt - z21.toInt) < n2 from by omega)⟩
    refine f_wp_ok C f_cl flX12_ok fiX12_ok fjX12_ok (sn := none) (fun j h => by cases h) (cs := (fun _ => none)) (cz := (fun _ => none)) (fun j S h => by cases h) (fun j S h => by cases h) tX12_takeOut_ok (cut := (f_cnl [(2, (fun (ls' : fLs) (st' : List Value) (I' : fM) (L' : fN) => ∃ i : Int32, (∀ q ∈ ([(3, .int i), (2, .int p), (1, .int m), (0, .ref 0)] : fLs), q ∈ ls') ∧ st' = [] ∧ L' = L ∧ (mR I' ∧ f_fr [54] I I' ∧ (p.toInt ≤ i.toInt) ∧ (i.toInt ≤ m.toInt) ∧ ((∀ k : Nat, i.toInt ≤ k → I' 54 k = I 54 k)) ∧ ((∀ W : Int, gr I (m.toInt + 1) W → gr I' i.toInt W)) ∧ (m.toInt - i.toInt) < 10)))])) (f_cnl_of (P := fun (tQ : Nat) (P : fLs → List Value → fM → fN → Prop) => ∀ ls' st' I' L', P ls' st' I' L' → f_W pP l eP (f_rm 0) sP mP aP bP hP9 cP mY 71 a cy dC dI 4 (f_K 0 (qX12_takeOutb [.ref 0, .int m, .int p] I L)) tQ ls' st' I' L') (List.forall_mem_cons.mpr ⟨(fun ls' st' I' L' h => by obtain ⟨i, hs, e1, e3, h9⟩ := h; rw [e1, e3]; exact f_W_sub hs (lp2 10 i I' h9)), fun _ h => absurd h List.not_mem_nil⟩)) 5 0 tX12_takeOut tX12_takeOut_ok _ _ _ _ ?_
    have q0 : ∀ W : Int, gr I (m.toInt + 1) W → gr I p.toInt W := fun W h k hk => h k (by omega)
    exact ⟨p, (by intro q9 h9; simp only [List.mem_cons, List.not_mem_nil, or_false] at h9; rcases h9 with h9 | h9 | h9 | h9 <;> subst h9 <;> repeat (first | exact List.mem_cons_self | apply List.mem_cons_of_mem)), rfl, rfl, hR, hF0, (show p.toInt ≤ p.toInt from by first | assumption | omega), (show p.toInt ≤ m.toInt from by first | assumption | omega), (show (∀ k : Nat, p.toInt ≤ k → I 54 k = I 54 k) from by first | assumption | omega | exact fun _ _ => rfl | exact fun _ _ => ⟨rfl, rfl⟩ | exact fun _ _ => ⟨rfl, rfl, rfl⟩ | (intro j9 hj9; omega)), (show (∀ W : Int, gr I (m.toInt + 1) W → gr I p.toInt W) from by first | assumption | omega | exact fun _ _ => rfl | exact fun _ _ => ⟨rfl, rfl⟩ | exact fun _ _ => ⟨rfl, rfl, rfl⟩ | (intro j9 hj9; omega)), (show (m.toInt - p.toInt) < 10 from by omega)⟩
def tX12_isGrown : List (Instr × Nat) := [(.aload_n 0, 1), (.iload_n 1, 1), (.putfield 407, 3), (.aload_n 0, 1), (.aload_n 0, 1), (.getfield 42, 3), (.aload_n 0, 1), (.getfield 300, 3), (.iaload, 1), (.putfield 416, 3), (.iconst 0, 1), (.istore_n 2, 1), (.iload_n 2, 1), (.iload_n 1, 1), (.if_icmp .ge 20, 3), (.aload_n 0, 1), (.iload_n 2, 1), (.aload_n 0, 1), (.getfield 176, 3), (.iload_n 2, 1), (.iaload, 1), (.invokevirtual 419, 3), (.iinc 2 1, 3), (.goto (-19), 3), (.aload_n 0, 1), (.invokevirtual 494, 3), (.ireturn, 1)]
theorem tX12_isGrown_ok : f_chk cX12_isGrown 0 tX12_isGrown = true := by decide +kernel
def pX12_isGrown (av : List Value) (I : fM) (L : fN) : Prop := match av with
  | [.ref 0, .int m] => mR I ∧ mL I ∧ mK I ∧ mW I ∧ 0 ≤ m.toInt ∧ m.toInt ≤ 8 ∧ gr I m.toInt (I 9 (I 0 24).toInt.toNat).toInt
  | _ => False
def qX12_isGrown (av : List Value) (I : fM) (L : fN) (r : Value) (I' : fM) (L' : fN) : Prop := match av, r with
  | [.ref 0, .int m], .int x => mR I' ∧ mL I' ∧ mK I' ∧ mW I' ∧ f_fo [45, 46, 47, 48, 53, 54, 55, 59] I I' ∧ f_fr [0, 21, 22, 23, 24, 25, 26, 27, 28, 29, 30, 31, 32, 33, 34, 35, 36, 37, 38, 39, 40, 41, 42, 43, 44] I I' ∧ L' = L ∧ (x.toInt = 0 ∨ x.toInt = 1)
  | _, _ => False
set_option maxHeartbeats 40000000 in
set_option maxRecDepth 100000 in
theorem mX12_isGrown {l : Launch} {a : Nat → Nat} {cy dC : Nat → ClassId} {dI : Nat → Nat → Nat} (hinj : ∀ i j, i < 71 → j < 71 → a i = a j → i = j) : f_Met (fun _ => True) l mY 71 a cy dC dI yX12_isGrown cX12_isGrown 3 3 4 pX12_isGrown qX12_isGrown := by
  refine f_met_of (f_Ec_T 71 a) hinj mY_hi (by decide) (fun av I L h => by unfold pX12_isGrown at h; split at h <;> first | exact Nat.le_of_ble_eq_true rfl | exact h.elim) ?_
  intro pP eP sP mP aP bP hP9 cP C av I L hp
  unfold pX12_isGrown at hp
  split at hp
  case h_2 => exact hp.elim
  case h_1 m =>
    obtain ⟨hR, hmL, hmK, hmW, p4, p5, p6⟩ := hp
    have hF0 : f_fr [0, 21, 22, 23, 24, 25, 26, 27, 28, 29, 30, 31, 32, 33, 34, 35, 36, 37, 38, 39, 40, 41, 42, 43, 44] I I := f_fr_rf
    have hO0 : f_fo [45, 46, 47, 48, 53, 54, 55, 59] I I := f_fo_rf
    have lp20 : ∀ (n20 : Nat), ∀ (i : Int32) (J20 : fM), mR J20 ∧ f_fr [0, 21, 22, 23, 24, 25, 26, 27, 28, 29, 30, 31, 32, 33, 34, 35, 36, 37, 38, 39, 40, 41, 42, 43, 44] I J20 ∧ f_fo [45, 46, 47, 48, 53, 54, 55, 59] I J20 ∧ mL J20 ∧ mK J20 ∧ mW J20 ∧ (0 ≤ i.toInt) ∧ (i.toInt ≤ m.toInt) ∧ ((J20 0 53).toInt = m.toInt) ∧ ((J20 0 54).toInt = (I 10 (I 0 24).toInt.toNat).toInt) ∧ ((∀ j : Nat, (j : Int) < i.toInt → oK J20 j)) ∧ (m.toInt - i.toInt) < n20 → f_W pP l eP (f_rm 4) sP mP aP bP hP9 cP mY 71 a cy dC dI 3 (f_K 3 (qX12_isGrown [.ref 0, .int m] I L)) 20 [(2, .int i), (1, .int m), (0, .ref 0)] [] J20 L := by
      intro n20
      induction n20 with
      | zero =>
        intro i J20 h9
        obtain ⟨hR20c, hF20c, hO20c, hmL20c, hmK20c, hmW20c, u20_1, u20_2, u20_3, u20_4, u20_5, hm20⟩ := h9
        omega
      | succ n20 ih20 =>
        intro i J20 h9
        obtain ⟨hR20c, hF20c, hO20c, hmL20c, hmK20c, hmW20c, u20_1, u20_2, u20_3, u20_4, u20_5, hm20⟩ := h9
        refine f_wp_ok C f_cl flX12_ok fiX12_ok fjX12_ok (sn := none) (fun j h => by cases h) (cs := (f_cnl [(419, (3, 0, 11, pX12_layWord, qX12_layWord)), (494, (1, 3, 11, pX12_isSentence, qX12_isSentence))])) (cz := (fun _ => none)) (f_cnl_of (P := fun j S => f_cok pP l eP (f_rm 4) sP mP aP bP hP9 cP mY 71 a cy dC dI 3 _ _ (.invokevirtual j) true S) (List.forall_mem_cons.mpr ⟨f_cokV C (mX12_layWord hinj) (ci := 11) rfl (List.forall_mem_cons.mpr ⟨(mlX12_ok _ (List.mem_of_getElem? (i := 37) rfl)), kc_X12_layWord⟩) (by decide +kernel) ⟨Nat.le_of_ble_eq_true rfl, Nat.le_of_ble_eq_true rfl⟩, List.forall_mem_cons.mpr ⟨f_cokV C (mX12_isSentence hinj) (ci := 11) rfl (List.forall_mem_cons.mpr ⟨(mlX12_ok _ (List.mem_of_getElem? (i := 57) rfl)), kc_X12_isSentence⟩) (by decide +kernel) ⟨Nat.le_of_ble_eq_true rfl, Nat.le_of_ble_eq_true rfl⟩, fun _ h => absurd h List.not_mem_nil⟩⟩)) (fun j S h => by cases h) tX12_isGrown_ok (cut := (f_cnl [(20, (fun (ls' : fLs) (st' : List Value) (I' : fM) (L' : fN) => ∃ i : Int32, (∀ q ∈ ([(2, .int i), (1, .int m), (0, .ref 0)] : fLs), q ∈ ls') ∧ st' = [] ∧ L' = L ∧ (mR I' ∧ f_fr [0, 21, 22, 23, 24, 25, 26, 27, 28, 29, 30, 31, 32, 33, 34, 35, 36, 37, 38, 39, 40, 41, 42, 43, 44] I I' ∧ f_fo [45, 46, 47, 48, 53, 54, 55, 59] I I' ∧ mL I' ∧ mK I' ∧ mW I' ∧ (0 ≤ i.toInt) ∧ (i.toInt ≤ m.toInt) ∧ ((I' 0 53).toInt = m.toInt) ∧ ((I' 0 54).toInt = (I 10 (I 0 24).toInt.toNat).toInt) ∧ ((∀ j : Nat, (j : Int) < i.toInt → oK I' j)) ∧ (m.toInt - i.toInt) < n20)))])) (f_cnl_of (P := fun (tQ : Nat) (P : fLs → List Value → fM → fN → Prop) => ∀ ls' st' I' L', P ls' st' I' L' → f_W pP l eP (f_rm 4) sP mP aP bP hP9 cP mY 71 a cy dC dI 3 (f_K 3 (qX12_isGrown [.ref 0, .int m] I L)) tQ ls' st' I' L') (List.forall_mem_cons.mpr ⟨(fun ls' st' I' L' h => by obtain ⟨i, hs, e1, e3, h9⟩ := h; rw [e1, e3]; exact f_W_sub hs (ih20 i I' h9)), fun _ h => absurd h List.not_mem_nil⟩)) 15 20 (f_seek 20 0 tX12_isGrown) (f_seek_ok 20 0 tX12_isGrown tX12_isGrown_ok) _ _ _ _ ?_
        apply And.intro
        · intro h22
          have h22 : m.toInt ≤ i.toInt := h22
          refine And.intro ⟨hR20c, hmL20c, hmK20c, (mO_all hmL (hO20c 24 rfl) (hF20c 8 rfl) (hF20c 11 rfl) (fun j hj => u20_5 j (by omega)) u20_4)⟩ ?_
          intro x43 I43 L43 hq43
          have hq43 : mR I43 ∧ mL I43 ∧ mK I43 ∧ mO I43 ∧ f_fo [45, 46, 47, 48, 55, 59] J20 I43 ∧ f_fr [0, 21, 22, 23, 24, 25, 26, 27, 28, 29, 30, 31, 32, 33, 34, 37, 38, 39, 40, 41, 42, 43, 44] J20 I43 ∧ L43 = L ∧ ((x43.toInt = 0 ∨ x43.toInt = 1)) := hq43
          obtain ⟨c43_0, c43_1, c43_2, c43_3, c43_4, c43_5, eL43, c43_7⟩ := hq43
          replace eL43 := eL43.symm
          subst eL43
          have hO43 := f_fo_tr hO20c c43_4 rfl
          have hmW43 := f_depo_fo mW_dep hmW20c c43_5 c43_4 rfl rfl
          have hF43 := f_fr_tr hF20c c43_5 rfl
          exact ⟨(f_b01 (show x43.toInt = 0 ∨ x43.toInt = 1 from by omega)), c43_0, c43_1, c43_2, hmW43, hO43, hF43, rfl, (show (x43.toInt = 0 ∨ x43.toInt = 1) from by first | assumption | omega | rfl)⟩
        · intro h22
          have h22 : i.toInt < m.toInt := h22
          refine And.intro (show f_in i 10 from ⟨show 0 ≤ i.toInt from by omega, show i.toInt < 10 from by omega⟩) ?_
          have r32_1 : 0 ≤ (J20 54 (i.toInt.toNat)).toInt ∧ (J20 54 (i.toInt.toNat)).toInt ≤ 11 := hR20c 54 (i.toInt.toNat)
          have e32_2 : (J20 54 (i.toInt.toNat)).toInt = (I 54 (i.toInt.toNat)).toInt := congrArg Int32.toInt (congrFun (hF20c 54 rfl) (i.toInt.toNat))
          have w33 : (J20 54 i.toInt.toNat).toInt < (J20 9 (J20 0 24).toInt.toNat).toInt := by rw [hF20c 54 rfl, hO20c 24 rfl, hF20c 9 rfl]; exact p6 i.toInt.toNat (by omega)
          have r33_3 : 0 ≤ (J20 9 ((J20 0 24).toInt.toNat)).toInt ∧ (J20 9 ((J20 0 24).toInt.toNat)).toInt ≤ 12 := hR20c 9 ((J20 0 24).toInt.toNat)
          have e33_4 : (J20 9 ((J20 0 24).toInt.toNat)).toInt = (J20 9 ((I 0 24).toInt.toNat)).toInt := by rw [(hO20c 24 rfl)]
          have e33_5 : (J20 9 ((I 0 24).toInt.toNat)).toInt = (I 9 ((I 0 24).toInt.toNat)).toInt := congrArg Int32.toInt (congrFun (hF20c 9 rfl) ((I 0 24).toInt.toNat))
          have r33_6 : 0 ≤ (J20 0 24).toInt ∧ (J20 0 24).toInt ≤ 1 := hR20c 0 24
          have e33_7 : (J20 0 24).toInt = (I 0 24).toInt := congrArg Int32.toInt (hO20c 24 rfl)
          refine And.intro ⟨hR20c, hmL20c, (show 0 ≤ i.toInt from by first | assumption | omega), (show i.toInt ≤ 9 from by first | assumption | omega), (show 0 ≤ (J20 54 (i.toInt.toNat)).toInt from by first | assumption | omega), (show (J20 54 (i.toInt.toNat)).toInt < (J20 9 (J20 0 24).toInt.toNat).toInt from by first | assumption | omega)⟩ ?_
          intro I33 L33 hq33
          have hq33 : mR I33 ∧ f_fr [35, 36] J20 I33 ∧ L33 = L ∧ oK I33 i.toInt.toNat ∧ ((∀ j : Nat, ¬ j = i.toInt.toNat → oK J20 j → oK I33 j)) := hq33
          obtain ⟨c33_0, c33_1, eL33, c33_3, c33_4⟩ := hq33
          replace eL33 := eL33.symm
          subst eL33
          have hO33 := f_fo_fr hO20c c33_1 rfl
          have hmL33 := f_depo_fr mL_dep hmL20c c33_1 rfl rfl
          have hmK33 := f_depo_fr mK_dep hmK20c c33_1 rfl rfl
          have hmW33 := f_depo_fr mW_dep hmW20c c33_1 rfl rfl
          have hF33 := f_fr_tr hF20c c33_1 rfl
          intro z36 q36 _ hq36 hl36 hu36
          have hq36 : z36.toInt = i.toInt + 1 + 4294967296 * q36 := hq36
          try have hz36 : z36.toInt = i.toInt + 1 := by omega
          have q36 : ∀ j : Nat, (j : Int) < z36.toInt → oK I33 j := fun j hj => by
            by_cases q : j = i.toInt.toNat
            · rw [q]; exact c33_3
            · exact c33_4 j q (u20_5 j (by omega))
          have r20_8 : 0 ≤ (I33 0 53).toInt ∧ (I33 0 53).toInt ≤ 10 := c33_0 0 53
          have e20_9 : (I33 0 53).toInt = (J20 0 53).toInt := congrArg Int32.toInt (congrFun (c33_1 0 rfl) 53)
          have r20_10 : -1 ≤ (I33 0 54).toInt ∧ (I33 0 54).toInt ≤ 1599 := c33_0 0 54
          have e20_11 : (I33 0 54).toInt = (J20 0 54).toInt := congrArg Int32.toInt (congrFun (c33_1 0 rfl) 54)
          exact ⟨z36, (by intro q9 h9; simp only [List.mem_cons, List.not_mem_nil, or_false] at h9; rcases h9 with h9 | h9 | h9 <;> subst h9 <;> repeat (first | exact List.mem_cons_self | apply List.mem_cons_of_mem)), rfl, rfl, c33_0, hF33, hO33, hmL33, hmK33, hmW33, (show 0 ≤ z36.toInt from by first | assumption | omega), (show z36.toInt ≤ m.toInt from by first | assumption | omega), (show (I33 0 53).toInt = m.toInt from by first | assumption | omega | rfl), (show (I33 0 54).toInt = (I 10 (I 0 24).toInt.toNat).toInt from by first | assumption | omega | rfl), (show (∀ j : Nat, (j : Int) < z36.toInt → oK I33 j) from by first | assumption | omega | exact fun _ _ => rfl | exact fun _ _ => ⟨rfl, rfl⟩ | exact fun _ _ => ⟨rfl, rfl, rfl⟩ | (intro j9 hj9; omega)), (show (m.toInt - z36.toInt) < n20 from by omega)⟩
    refine f_wp_ok C f_cl flX12_ok fiX12_ok fjX12_ok (sn := none) (fun j h => by cases h) (cs := (f_cnl [(419, (3, 0, 11, pX12_layWord, qX12_layWord)), (494, (1, 3, 11, pX12_isSentence, qX12_isSentence))])) (cz := (fun _ => none)) (f_cnl_of (P := fun j S => f_cok pP l eP (f_rm 4) sP mP aP bP hP9 cP mY 71 a cy dC dI 3 _ _ (.invokevirtual j) true S) (List.forall_mem_cons.mpr ⟨f_cokV C (mX12_layWord hinj) (ci := 11) rfl (List.forall_mem_cons.mpr ⟨(mlX12_ok _ (List.mem_of_getElem? (i := 37) rfl)), kc_X12_layWord⟩) (by decide +kernel) ⟨Nat.le_of_ble_eq_true rfl, Nat.le_of_ble_eq_true rfl⟩, List.forall_mem_cons.mpr ⟨f_cokV C (mX12_isSentence hinj) (ci := 11) rfl (List.forall_mem_cons.mpr ⟨(mlX12_ok _ (List.mem_of_getElem? (i := 57) rfl)), kc_X12_isSentence⟩) (by decide +kernel) ⟨Nat.le_of_ble_eq_true rfl, Nat.le_of_ble_eq_true rfl⟩, fun _ h => absurd h List.not_mem_nil⟩⟩)) (fun j S h => by cases h) tX12_isGrown_ok (cut := (f_cnl [(20, (fun (ls' : fLs) (st' : List Value) (I' : fM) (L' : fN) => ∃ i : Int32, (∀ q ∈ ([(2, .int i), (1, .int m), (0, .ref 0)] : fLs), q ∈ ls') ∧ st' = [] ∧ L' = L ∧ (mR I' ∧ f_fr [0, 21, 22, 23, 24, 25, 26, 27, 28, 29, 30, 31, 32, 33, 34, 35, 36, 37, 38, 39, 40, 41, 42, 43, 44] I I' ∧ f_fo [45, 46, 47, 48, 53, 54, 55, 59] I I' ∧ mL I' ∧ mK I' ∧ mW I' ∧ (0 ≤ i.toInt) ∧ (i.toInt ≤ m.toInt) ∧ ((I' 0 53).toInt = m.toInt) ∧ ((I' 0 54).toInt = (I 10 (I 0 24).toInt.toNat).toInt) ∧ ((∀ j : Nat, (j : Int) < i.toInt → oK I' j)) ∧ (m.toInt - i.toInt) < 9)))])) (f_cnl_of (P := fun (tQ : Nat) (P : fLs → List Value → fM → fN → Prop) => ∀ ls' st' I' L', P ls' st' I' L' → f_W pP l eP (f_rm 4) sP mP aP bP hP9 cP mY 71 a cy dC dI 3 (f_K 3 (qX12_isGrown [.ref 0, .int m] I L)) tQ ls' st' I' L') (List.forall_mem_cons.mpr ⟨(fun ls' st' I' L' h => by obtain ⟨i, hs, e1, e3, h9⟩ := h; rw [e1, e3]; exact f_W_sub hs (lp20 9 i I' h9)), fun _ h => absurd h List.not_mem_nil⟩)) 15 0 tX12_isGrown tX12_isGrown_ok _ _ _ _ ?_
    have hR2 := mR_f (k := 0) (j := 53) (x := m) hR (show 0 ≤ m.toInt ∧ m.toInt ≤ 10 from ⟨by omega, by omega⟩)
    have hF2 := f_fr_up (k := 0) (r := va_up (I 0) 53 m) hF0 rfl
    have hO2 := f_fo_up (j := 53) (x := m) hO0 rfl
    have hmL2 := f_depo_up0 mL_dep (j := 53) (x := m) hmL rfl rfl
    have hmK2 := f_depo_up0 mK_dep (j := 53) (x := m) hmK rfl rfl
    have hmW2 := f_depo_up0 mW_dep (j := 53) (x := m) hmW rfl rfl
    have r11_1 : 0 ≤ (I 0 24).toInt ∧ (I 0 24).toInt ≤ 1 := hR2 0 24
    refine And.intro (show f_in (I 0 24) 2 from ⟨show 0 ≤ (I 0 24).toInt from by omega, show (I 0 24).toInt < 2 from by omega⟩) ?_
    have r14_2 : -1 ≤ (I 10 ((I 0 24).toInt.toNat)).toInt ∧ (I 10 ((I 0 24).toInt.toNat)).toInt ≤ 1599 := hR2 10 ((I 0 24).toInt.toNat)
    have hR15 := mR_f (k := 0) (j := 54) (x := I 10 ((I 0 24).toInt.toNat)) hR2 (show -1 ≤ (I 10 ((I 0 24).toInt.toNat)).toInt ∧ (I 10 ((I 0 24).toInt.toNat)).toInt ≤ 1599 from ⟨by omega, by omega⟩)
    have hF15 := f_fr_up (k := 0) (r := va_up (va_up (I 0) 53 m) 54 (I 10 ((I 0 24).toInt.toNat))) hF2 rfl
    have hO15 := f_fo_up (j := 54) (x := I 10 ((I 0 24).toInt.toNat)) hO2 rfl
    have hmL15 := f_depo_up0 mL_dep (j := 54) (x := I 10 ((I 0 24).toInt.toNat)) hmL2 rfl rfl
    have hmK15 := f_depo_up0 mK_dep (j := 54) (x := I 10 ((I 0 24).toInt.toNat)) hmK2 rfl rfl
    have hmW15 := f_depo_up0 mW_dep (j := 54) (x := I 10 ((I 0 24).toInt.toNat)) hmW2 rfl rfl
    exact ⟨Int32.ofInt 0, (by intro q9 h9; simp only [List.mem_cons, List.not_mem_nil, or_false] at h9; rcases h9 with h9 | h9 | h9 <;> subst h9 <;> repeat (first | exact List.mem_cons_self | apply List.mem_cons_of_mem)), rfl, rfl, hR15, hF15, hO15, hmL15, hmK15, hmW15, (show 0 ≤ (0 : Int) from by first | assumption | omega), (show (0 : Int) ≤ m.toInt from by first | assumption | omega), (show m.toInt = m.toInt from by first | assumption | omega | rfl), (show (I 10 ((I 0 24).toInt.toNat)).toInt = (I 10 (I 0 24).toInt.toNat).toInt from by first | assumption | omega | rfl), (show (∀ j : Nat, (j : Int) < (0 : Int) → oK (va_up (va_up I 0 (va_up (I 0) 53 m)) 0 (va_up (va_up (I 0) 53 m) 54 (I 10 ((I 0 24).toInt.toNat)))) j) from by first | assumption | omega | exact fun _ _ => rfl | exact fun _ _ => ⟨rfl, rfl⟩ | exact fun _ _ => ⟨rfl, rfl, rfl⟩ | (intro j9 hj9; omega)), (show (m.toInt - (0 : Int)) < 9 from by omega)⟩
def tX12_addsOne : List (Instr × Nat) := [(.iconst 0, 1), (.istore_n 3, 1), (.iload_n 3, 1), (.iload_n 1, 1), (.if_icmp .gt 82, 3), (.iconst 0, 1), (.istore 4, 2), (.iload 4, 2), (.aload_n 0, 1), (.getfield 39, 3), (.aload_n 0, 1), (.getfield 300, 3), (.iaload, 1), (.if_icmp .ge 59, 3), (.aload_n 0, 1), (.iload_n 1, 1), (.iload_n 3, 1), (.iload 4, 2), (.invokevirtual 506, 3), (.aload_n 0, 1), (.iload_n 1, 1), (.iconst 1, 1), (.iadd, 1), (.invokevirtual 510, 3), (.istore 5, 2), (.aload_n 0, 1), (.iload_n 1, 1), (.iload_n 3, 1), (.invokevirtual 513, 3), (.iload 5, 2), (.ifCond .ne 6, 3), (.goto 22, 3), (.aload_n 0, 1), (.getfield 179, 3), (.iload_n 2, 1), (.iload_n 3, 1), (.iastore, 1), (.aload_n 0, 1), (.getfield 179, 3), (.iload_n 2, 1), (.iconst 1, 1), (.iadd, 1), (.iload 4, 2), (.iastore, 1), (.iconst 1, 1), (.ireturn, 1), (.iinc 4 1, 3), (.goto (-67), 3), (.iinc 3 1, 3), (.goto (-81), 3), (.iconst 0, 1), (.ireturn, 1)]
theorem tX12_addsOne_ok : f_chk cX12_addsOne 0 tX12_addsOne = true := by decide +kernel
def pX12_addsOne (av : List Value) (I : fM) (L : fN) : Prop := match av with
  | [.ref 0, .int m, .int d] => mR I ∧ mL I ∧ mK I ∧ mW I ∧ 0 ≤ m.toInt ∧ m.toInt ≤ 7 ∧ (d.toInt = 0 ∨ d.toInt = 2) ∧ gr I m.toInt (I 9 (I 0 24).toInt.toNat).toInt
  | _ => False
def qX12_addsOne (av : List Value) (I : fM) (L : fN) (r : Value) (I' : fM) (L' : fN) : Prop := match av, r with
  | [.ref 0, .int m, .int d], .int x => mR I' ∧ mL I' ∧ mK I' ∧ mW I' ∧ f_fo [45, 46, 47, 48, 53, 54, 55, 59] I I' ∧ f_fr [0, 21, 22, 23, 24, 25, 26, 27, 28, 29, 30, 31, 32, 33, 34, 35, 36, 37, 38, 39, 40, 41, 42, 43, 44, 54, 55] I I' ∧ L' = L ∧ (x.toInt = 0 ∨ x.toInt = 1) ∧ gr I' m.toInt (I 9 (I 0 24).toInt.toNat).toInt
  | _, _ => False
set_option maxHeartbeats 40000000 in
set_option maxRecDepth 100000 in
theorem mX12_addsOne {l : Launch} {a : Nat → Nat} {cy dC : Nat → ClassId} {dI : Nat → Nat → Nat} (hinj : ∀ i j, i < 71 → j < 71 → a i = a j → i = j) : f_Met (fun _ => True) l mY 71 a cy dC dI yX12_addsOne cX12_addsOne 6 3 5 pX12_addsOne qX12_addsOne := by
  refine f_met_of (f_Ec_T 71 a) hinj mY_hi (by decide) (fun av I L h => by unfold pX12_addsOne at h; split at h <;> first | exact Nat.le_of_ble_eq_true rfl | exact h.elim) ?_
  intro pP eP sP mP aP bP hP9 cP C av I L hp
  unfold pX12_addsOne at hp
  split at hp
  case h_2 => exact hp.elim
  case h_1 m d =>
    obtain ⟨hR, hmL, hmK, hmW, p4, p5, p6, p7⟩ := hp
    have hw : (I 9 (I 0 24).toInt.toNat).toInt ≤ 12 := (hR 9 _).2
    have hF0 : f_fr [0, 21, 22, 23, 24, 25, 26, 27, 28, 29, 30, 31, 32, 33, 34, 35, 36, 37, 38, 39, 40, 41, 42, 43, 44, 54, 55] I I := f_fr_rf
    have hO0 : f_fo [45, 46, 47, 48, 53, 54, 55, 59] I I := f_fo_rf
    have lp2 : ∀ (n2 : Nat), ∀ (p : Int32) (J2 : fM), mR J2 ∧ f_fr [0, 21, 22, 23, 24, 25, 26, 27, 28, 29, 30, 31, 32, 33, 34, 35, 36, 37, 38, 39, 40, 41, 42, 43, 44, 54, 55] I J2 ∧ f_fo [45, 46, 47, 48, 53, 54, 55, 59] I J2 ∧ mL J2 ∧ mK J2 ∧ mW J2 ∧ (0 ≤ p.toInt) ∧ (p.toInt ≤ m.toInt + 1) ∧ (gr J2 m.toInt (I 9 (I 0 24).toInt.toNat).toInt) ∧ (9 - p.toInt) < n2 → f_W pP l eP (f_rm 5) sP mP aP bP hP9 cP mY 71 a cy dC dI 6 (f_K 3 (qX12_addsOne [.ref 0, .int m, .int d] I L)) 2 [(3, .int p), (2, .int d), (1, .int m), (0, .ref 0)] [] J2 L := by
      intro n2
      induction n2 with
      | zero =>
        intro p J2 h9
        obtain ⟨hR2c, hF2c, hO2c, hmL2c, hmK2c, hmW2c, u2_1, u2_2, u2_3, hm2⟩ := h9
        omega
      | succ n2 ih2 =>
        intro p J2 h9
        obtain ⟨hR2c, hF2c, hO2c, hmL2c, hmK2c, hmW2c, u2_1, u2_2, u2_3, hm2⟩ := h9
        have lp10 : ∀ (n10 : Nat), ∀ (w : Int32) (J10 : fM), mR J10 ∧ f_fr [0, 21, 22, 23, 24, 25, 26, 27, 28, 29, 30, 31, 32, 33, 34, 35, 36, 37, 38, 39, 40, 41, 42, 43, 44, 54, 55] I J10 ∧ f_fo [45, 46, 47, 48, 53, 54, 55, 59] I J10 ∧ mL J10 ∧ mK J10 ∧ mW J10 ∧ (p.toInt ≤ m.toInt) ∧ (0 ≤ w.toInt) ∧ (w.toInt ≤ 12) ∧ (gr J10 m.toInt (I 9 (I 0 24).toInt.toNat).toInt) ∧ (12 - w.toInt) < n10 → f_W pP l eP (f_rm 5) sP mP aP bP hP9 cP mY 71 a cy dC dI 6 (f_K 3 (qX12_addsOne [.ref 0, .int m, .int d] I L)) 10 [(4, .int w), (3, .int p), (2, .int d), (1, .int m), (0, .ref 0)] [] J10 L := by
          intro n10
          induction n10 with
          | zero =>
            intro w J10 h9
            obtain ⟨hR10c, hF10c, hO10c, hmL10c, hmK10c, hmW10c, u10_1, u10_2, u10_3, u10_4, hm10⟩ := h9
            omega
          | succ n10 ih10 =>
            intro w J10 h9
            obtain ⟨hR10c, hF10c, hO10c, hmL10c, hmK10c, hmW10c, u10_1, u10_2, u10_3, u10_4, hm10⟩ := h9
            have e10 : (J10 9 (J10 0 24).toInt.toNat).toInt = (I 9 (I 0 24).toInt.toNat).toInt := by rw [hO10c 24 rfl, hF10c 9 rfl]
            refine f_wp_ok C f_cl flX12_ok fiX12_ok fjX12_ok (sn := none) (fun j h => by cases h) (cs := (f_cnl [(506, (4, 0, 11, pX12_putInb, qX12_putInb)), (510, (2, 3, 11, pX12_isGrown, qX12_isGrown)), (513, (3, 0, 11, pX12_takeOutb, qX12_takeOutb))])) (cz := (fun _ => none)) (f_cnl_of (P := fun j S => f_cok pP l eP (f_rm 5) sP mP aP bP hP9 cP mY 71 a cy dC dI 6 _ _ (.invokevirtual j) true S) (List.forall_mem_cons.mpr ⟨f_cokV C (mX12_putInb hinj) (ci := 11) rfl (List.forall_mem_cons.mpr ⟨(mlX12_ok _ (List.mem_of_getElem? (i := 61) rfl)), kc_X12_putIn⟩) (by decide +kernel) ⟨Nat.le_of_ble_eq_true rfl, Nat.le_of_ble_eq_true rfl⟩, List.forall_mem_cons.mpr ⟨f_cokV C (mX12_isGrown hinj) (ci := 11) rfl (List.forall_mem_cons.mpr ⟨(mlX12_ok _ (List.mem_of_getElem? (i := 62) rfl)), kc_X12_isGrown⟩) (by decide +kernel) ⟨Nat.le_of_ble_eq_true rfl, Nat.le_of_ble_eq_true rfl⟩, List.forall_mem_cons.mpr ⟨f_cokV C (mX12_takeOutb hinj) (ci := 11) rfl (List.forall_mem_cons.mpr ⟨(mlX12_ok _ (List.mem_of_getElem? (i := 63) rfl)), kc_X12_takeOut⟩) (by decide +kernel) ⟨Nat.le_of_ble_eq_true rfl, Nat.le_of_ble_eq_true rfl⟩, fun _ h => absurd h List.not_mem_nil⟩⟩⟩)) (fun j S h => by cases h) tX12_addsOne_ok (cut := (f_cnl [(2, (fun (ls' : fLs) (st' : List Value) (I' : fM) (L' : fN) => ∃ p : Int32, (∀ q ∈ ([(3, .int p), (2, .int d), (1, .int m), (0, .ref 0)] : fLs), q ∈ ls') ∧ st' = [] ∧ L' = L ∧ (mR I' ∧ f_fr [0, 21, 22, 23, 24, 25, 26, 27, 28, 29, 30, 31, 32, 33, 34, 35, 36, 37, 38, 39, 40, 41, 42, 43, 44, 54, 55] I I' ∧ f_fo [45, 46, 47, 48, 53, 54, 55, 59] I I' ∧ mL I' ∧ mK I' ∧ mW I' ∧ (0 ≤ p.toInt) ∧ (p.toInt ≤ m.toInt + 1) ∧ (gr I' m.toInt (I 9 (I 0 24).toInt.toNat).toInt) ∧ (9 - p.toInt) < n2))), (10, (fun (ls' : fLs) (st' : List Value) (I' : fM) (L' : fN) => ∃ w : Int32, (∀ q ∈ ([(4, .int w), (3, .int p), (2, .int d), (1, .int m), (0, .ref 0)] : fLs), q ∈ ls') ∧ st' = [] ∧ L' = L ∧ (mR I' ∧ f_fr [0, 21, 22, 23, 24, 25, 26, 27, 28, 29, 30, 31, 32, 33, 34, 35, 36, 37, 38, 39, 40, 41, 42, 43, 44, 54, 55] I I' ∧ f_fo [45, 46, 47, 48, 53, 54, 55, 59] I I' ∧ mL I' ∧ mK I' ∧ mW I' ∧ (p.toInt ≤ m.toInt) ∧ (0 ≤ w.toInt) ∧ (w.toInt ≤ 12) ∧ (gr I' m.toInt (I 9 (I 0 24).toInt.toNat).toInt) ∧ (12 - w.toInt) < n10)))])) (f_cnl_of (P := fun (tQ : Nat) (P : fLs → List Value → fM → fN → Prop) => ∀ ls' st' I' L', P ls' st' I' L' → f_W pP l eP (f_rm 5) sP mP aP bP hP9 cP mY 71 a cy dC dI 6 (f_K 3 (qX12_addsOne [.ref 0, .int m, .int d] I L)) tQ ls' st' I' L') (List.forall_mem_cons.mpr ⟨(fun ls' st' I' L' h => by obtain ⟨p, hs, e1, e3, h9⟩ := h; rw [e1, e3]; exact f_W_sub hs (ih2 p I' h9)), List.forall_mem_cons.mpr ⟨(fun ls' st' I' L' h => by obtain ⟨w, hs, e1, e3, h9⟩ := h; rw [e1, e3]; exact f_W_sub hs (ih10 w I' h9)), fun _ h => absurd h List.not_mem_nil⟩⟩)) 41 10 (f_seek 10 0 tX12_addsOne) (f_seek_ok 10 0 tX12_addsOne tX12_addsOne_ok) _ _ _ _ ?_
            have r17_1 : 0 ≤ (J10 0 24).toInt ∧ (J10 0 24).toInt ≤ 1 := hR10c 0 24
            have e17_2 : (J10 0 24).toInt = (I 0 24).toInt := congrArg Int32.toInt (hO10c 24 rfl)
            refine And.intro (show f_in (J10 0 24) 2 from ⟨show 0 ≤ (J10 0 24).toInt from by omega, show (J10 0 24).toInt < 2 from by omega⟩) ?_
            have r20_3 : 0 ≤ (J10 9 ((J10 0 24).toInt.toNat)).toInt ∧ (J10 9 ((J10 0 24).toInt.toNat)).toInt ≤ 12 := hR10c 9 ((J10 0 24).toInt.toNat)
            have e20_4 : (J10 9 ((J10 0 24).toInt.toNat)).toInt = (J10 9 ((I 0 24).toInt.toNat)).toInt := by rw [(hO10c 24 rfl)]
            have e20_5 : (J10 9 ((I 0 24).toInt.toNat)).toInt = (I 9 ((I 0 24).toInt.toNat)).toInt := congrArg Int32.toInt (congrFun (hF10c 9 rfl) ((I 0 24).toInt.toNat))
            apply And.intro
            · intro h21
              have h21 : (J10 9 ((J10 0 24).toInt.toNat)).toInt ≤ w.toInt := h21
              intro z80 q80 _ hq80 hl80 hu80
              have hq80 : z80.toInt = p.toInt + 1 + 4294967296 * q80 := hq80
              try have hz80 : z80.toInt = p.toInt + 1 := by omega
              exact ⟨z80, (by intro q9 h9; simp only [List.mem_cons, List.not_mem_nil, or_false] at h9; rcases h9 with h9 | h9 | h9 | h9 <;> subst h9 <;> repeat (first | exact List.mem_cons_self | apply List.mem_cons_of_mem)), rfl, rfl, hR10c, hF10c, hO10c, hmL10c, hmK10c, hmW10c, (show 0 ≤ z80.toInt from by first | assumption | omega), (show z80.toInt ≤ m.toInt + 1 from by first | assumption | omega), (show gr J10 m.toInt (I 9 (I 0 24).toInt.toNat).toInt from by first | assumption | omega), (show (9 - z80.toInt) < n2 from by omega)⟩
            · intro h21
              have h21 : w.toInt < (J10 9 ((J10 0 24).toInt.toNat)).toInt := h21
              refine And.intro ⟨hR10c, (show 0 ≤ p.toInt from by first | assumption | omega), (show p.toInt ≤ m.toInt from by first | assumption | omega), (show m.toInt ≤ 9 from by first | assumption | omega), (show 0 ≤ w.toInt from by first | assumption | omega), (show w.toInt ≤ 11 from by first | assumption | omega)⟩ ?_
              intro I29 L29 hq29
              have hq29 : mR I29 ∧ f_fr [54] J10 I29 ∧ L29 = L ∧ ((∀ W : Int, gr J10 m.toInt W → w.toInt < W → gr I29 (m.toInt + 1) W)) := hq29
              obtain ⟨c29_0, c29_1, eL29, c29_3⟩ := hq29
              replace eL29 := eL29.symm
              subst eL29
              have hO29 := f_fo_fr hO10c c29_1 rfl
              have hmL29 := f_depo_fr mL_dep hmL10c c29_1 rfl rfl
              have hmK29 := f_depo_fr mK_dep hmK10c c29_1 rfl rfl
              have hmW29 := f_depo_fr mW_dep hmW10c c29_1 rfl rfl
              have hF29 := f_fr_tr hF10c c29_1 rfl
              have g29 : gr I29 (m.toInt + 1) (I 9 (I 0 24).toInt.toNat).toInt := c29_3 _ u10_4 (by omega)
              intro z35 q35 _ hq35 hl35 hu35
              have hq35 : z35.toInt = m.toInt + 1 + 4294967296 * q35 := hq35
              try have hz35 : z35.toInt = m.toInt + 1 := by omega
              refine And.intro ⟨c29_0, hmL29, hmK29, hmW29, (show 0 ≤ z35.toInt from by first | assumption | omega), (show z35.toInt ≤ 8 from by first | assumption | omega), (show gr I29 z35.toInt (I29 9 (I29 0 24).toInt.toNat).toInt from by rw [congrFun (c29_1 0 rfl) 24, c29_1 9 rfl, e10, show z35.toInt = m.toInt + 1 by omega]; exact g29)⟩ ?_
              intro x36 I36 L36 hq36
              have hq36 : mR I36 ∧ mL I36 ∧ mK I36 ∧ mW I36 ∧ f_fo [45, 46, 47, 48, 53, 54, 55, 59] I29 I36 ∧ f_fr [0, 21, 22, 23, 24, 25, 26, 27, 28, 29, 30, 31, 32, 33, 34, 35, 36, 37, 38, 39, 40, 41, 42, 43, 44] I29 I36 ∧ L36 = L ∧ ((x36.toInt = 0 ∨ x36.toInt = 1)) := hq36
              obtain ⟨c36_0, c36_1, c36_2, c36_3, c36_4, c36_5, eL36, c36_7⟩ := hq36
              replace eL36 := eL36.symm
              subst eL36
              have hO36 := f_fo_tr hO29 c36_4 rfl
              have hF36 := f_fr_tr hF29 c36_5 rfl
              refine And.intro ⟨c36_0, (show 0 ≤ p.toInt from by first | assumption | omega), (show p.toInt ≤ m.toInt from by first | assumption | omega), (show m.toInt ≤ 9 from by first | assumption | omega)⟩ ?_
              intro I44 L44 hq44
              have hq44 : mR I44 ∧ f_fr [54] I36 I44 ∧ L44 = L ∧ ((∀ W : Int, gr I36 (m.toInt + 1) W → gr I44 m.toInt W)) := hq44
              obtain ⟨c44_0, c44_1, eL44, c44_3⟩ := hq44
              replace eL44 := eL44.symm
              subst eL44
              have hO44 := f_fo_fr hO36 c44_1 rfl
              have hmL44 := f_depo_fr mL_dep c36_1 c44_1 rfl rfl
              have hmK44 := f_depo_fr mK_dep c36_2 c44_1 rfl rfl
              have hmW44 := f_depo_fr mW_dep c36_3 c44_1 rfl rfl
              have hF44 := f_fr_tr hF36 c44_1 rfl
              have g44 : gr I44 m.toInt (I 9 (I 0 24).toInt.toNat).toInt := c44_3 _ (gr_eq (c36_5 54 rfl) g29)
              apply And.intro
              · intro h49
                have h49 : ¬ x36.toInt = 0 := h49
                refine And.intro (show f_in d 4 from ⟨show 0 ≤ d.toInt from by omega, show d.toInt < 4 from by omega⟩) ?_
                have hR61 := mR_a (k := 55) (j := d.toInt.toNat) (x := p) c44_0 (by exact f_rng _)
                have hF61 := f_fr_up (k := 55) (r := upd (I44 55) (d.toInt.toNat) p) hF44 rfl
                have hO61 := f_fo_ne (k := 55) (r := upd (I44 55) (d.toInt.toNat) p) hO44 (by decide)
                have hmL61 := f_depo_up mL_dep (k := 55) (r := upd (I44 55) (d.toInt.toNat) p) hmL44 rfl (by decide)
                have hmK61 := f_depo_up mK_dep (k := 55) (r := upd (I44 55) (d.toInt.toNat) p) hmK44 rfl (by decide)
                have hmW61 := f_depo_up mW_dep (k := 55) (r := upd (I44 55) (d.toInt.toNat) p) hmW44 rfl (by decide)
                intro z68 q68 _ hq68 hl68 hu68
                have hq68 : z68.toInt = d.toInt + 1 + 4294967296 * q68 := hq68
                try have hz68 : z68.toInt = d.toInt + 1 := by omega
                refine And.intro (show f_in z68 4 from ⟨show 0 ≤ z68.toInt from by omega, show z68.toInt < 4 from by omega⟩) ?_
                have hR71 := mR_a (k := 55) (j := z68.toInt.toNat) (x := w) hR61 (by exact f_rng _)
                have hF71 := f_fr_up (k := 55) (r := upd (upd (I44 55) (d.toInt.toNat) p) (z68.toInt.toNat) w) hF61 rfl
                have hO71 := f_fo_ne (k := 55) (r := upd (upd (I44 55) (d.toInt.toNat) p) (z68.toInt.toNat) w) hO61 (by decide)
                have hmL71 := f_depo_up mL_dep (k := 55) (r := upd (upd (I44 55) (d.toInt.toNat) p) (z68.toInt.toNat) w) hmL61 rfl (by decide)
                have hmK71 := f_depo_up mK_dep (k := 55) (r := upd (upd (I44 55) (d.toInt.toNat) p) (z68.toInt.toNat) w) hmK61 rfl (by decide)
                have hmW71 := f_depo_up mW_dep (k := 55) (r := upd (upd (I44 55) (d.toInt.toNat) p) (z68.toInt.toNat) w) hmW61 rfl (by decide)
                exact ⟨Or.inr rfl, hR71, hmL71, hmK71, hmW71, hO71, hF71, rfl, (show ((1 : Int) = 0 ∨ (1 : Int) = 1) from by first | assumption | omega | rfl), (gr_eq rfl g44)⟩
              · intro h49
                have h49 : x36.toInt = 0 := h49
                intro z74 q74 _ hq74 hl74 hu74
                have hq74 : z74.toInt = w.toInt + 1 + 4294967296 * q74 := hq74
                try have hz74 : z74.toInt = w.toInt + 1 := by omega
                exact ⟨z74, (by intro q9 h9; simp only [List.mem_cons, List.not_mem_nil, or_false] at h9; rcases h9 with h9 | h9 | h9 | h9 | h9 <;> subst h9 <;> repeat (first | exact List.mem_cons_self | apply List.mem_cons_of_mem)), rfl, rfl, c44_0, hF44, hO44, hmL44, hmK44, hmW44, (show p.toInt ≤ m.toInt from by first | assumption | omega), (show 0 ≤ z74.toInt from by first | assumption | omega), (show z74.toInt ≤ 12 from by first | assumption | omega), (show gr I44 m.toInt (I 9 (I 0 24).toInt.toNat).toInt from by first | assumption | omega), (show (12 - z74.toInt) < n10 from by omega)⟩
        refine f_wp_ok C f_cl flX12_ok fiX12_ok fjX12_ok (sn := none) (fun j h => by cases h) (cs := (f_cnl [(506, (4, 0, 11, pX12_putInb, qX12_putInb)), (510, (2, 3, 11, pX12_isGrown, qX12_isGrown)), (513, (3, 0, 11, pX12_takeOutb, qX12_takeOutb))])) (cz := (fun _ => none)) (f_cnl_of (P := fun j S => f_cok pP l eP (f_rm 5) sP mP aP bP hP9 cP mY 71 a cy dC dI 6 _ _ (.invokevirtual j) true S) (List.forall_mem_cons.mpr ⟨f_cokV C (mX12_putInb hinj) (ci := 11) rfl (List.forall_mem_cons.mpr ⟨(mlX12_ok _ (List.mem_of_getElem? (i := 61) rfl)), kc_X12_putIn⟩) (by decide +kernel) ⟨Nat.le_of_ble_eq_true rfl, Nat.le_of_ble_eq_true rfl⟩, List.forall_mem_cons.mpr ⟨f_cokV C (mX12_isGrown hinj) (ci := 11) rfl (List.forall_mem_cons.mpr ⟨(mlX12_ok _ (List.mem_of_getElem? (i := 62) rfl)), kc_X12_isGrown⟩) (by decide +kernel) ⟨Nat.le_of_ble_eq_true rfl, Nat.le_of_ble_eq_true rfl⟩, List.forall_mem_cons.mpr ⟨f_cokV C (mX12_takeOutb hinj) (ci := 11) rfl (List.forall_mem_cons.mpr ⟨(mlX12_ok _ (List.mem_of_getElem? (i := 63) rfl)), kc_X12_takeOut⟩) (by decide +kernel) ⟨Nat.le_of_ble_eq_true rfl, Nat.le_of_ble_eq_true rfl⟩, fun _ h => absurd h List.not_mem_nil⟩⟩⟩)) (fun j S h => by cases h) tX12_addsOne_ok (cut := (f_cnl [(10, (fun (ls' : fLs) (st' : List Value) (I' : fM) (L' : fN) => ∃ w : Int32, (∀ q ∈ ([(4, .int w), (3, .int p), (2, .int d), (1, .int m), (0, .ref 0)] : fLs), q ∈ ls') ∧ st' = [] ∧ L' = L ∧ (mR I' ∧ f_fr [0, 21, 22, 23, 24, 25, 26, 27, 28, 29, 30, 31, 32, 33, 34, 35, 36, 37, 38, 39, 40, 41, 42, 43, 44, 54, 55] I I' ∧ f_fo [45, 46, 47, 48, 53, 54, 55, 59] I I' ∧ mL I' ∧ mK I' ∧ mW I' ∧ (p.toInt ≤ m.toInt) ∧ (0 ≤ w.toInt) ∧ (w.toInt ≤ 12) ∧ (gr I' m.toInt (I 9 (I 0 24).toInt.toNat).toInt) ∧ (12 - w.toInt) < 13)))])) (f_cnl_of (P := fun (tQ : Nat) (P : fLs → List Value → fM → fN → Prop) => ∀ ls' st' I' L', P ls' st' I' L' → f_W pP l eP (f_rm 5) sP mP aP bP hP9 cP mY 71 a cy dC dI 6 (f_K 3 (qX12_addsOne [.ref 0, .int m, .int d] I L)) tQ ls' st' I' L') (List.forall_mem_cons.mpr ⟨(fun ls' st' I' L' h => by obtain ⟨w, hs, e1, e3, h9⟩ := h; rw [e1, e3]; exact f_W_sub hs (lp10 13 w I' h9)), fun _ h => absurd h List.not_mem_nil⟩)) 8 2 (f_seek 2 0 tX12_addsOne) (f_seek_ok 2 0 tX12_addsOne tX12_addsOne_ok) _ _ _ _ ?_
        apply And.intro
        · intro h4
          have h4 : m.toInt < p.toInt := h4
          exact ⟨Or.inl rfl, hR2c, hmL2c, hmK2c, hmW2c, hO2c, hF2c, rfl, (show ((0 : Int) = 0 ∨ (0 : Int) = 1) from by first | assumption | omega | rfl), (show gr J2 m.toInt (I 9 (I 0 24).toInt.toNat).toInt from by first | assumption | omega | rfl)⟩
        · intro h4
          have h4 : p.toInt ≤ m.toInt := h4
          exact ⟨Int32.ofInt 0, (by intro q9 h9; simp only [List.mem_cons, List.not_mem_nil, or_false] at h9; rcases h9 with h9 | h9 | h9 | h9 | h9 <;> subst h9 <;> repeat (first | exact List.mem_cons_self | apply List.mem_cons_of_mem)), rfl, rfl, hR2c, hF2c, hO2c, hmL2c, hmK2c, hmW2c, (show p.toInt ≤ m.toInt from by first | assumption | omega), (show 0 ≤ (0 : Int) from by first | assumption | omega), (show (0 : Int) ≤ 12 from by first | assumption | omega), (show gr J2 m.toInt (I 9 (I 0 24).toInt.toNat).toInt from by first | assumption | omega), (show (12 - (0 : Int)) < 13 from by omega)⟩
    refine f_wp_ok C f_cl flX12_ok fiX12_ok fjX12_ok (sn := none) (fun j h => by cases h) (cs := (f_cnl [(506, (4, 0, 11, pX12_putInb, qX12_putInb)), (510, (2, 3, 11, pX12_isGrown, qX12_isGrown)), (513, (3, 0, 11, pX12_takeOutb, qX12_takeOutb))])) (cz := (fun _ => none)) (f_cnl_of (P := fun j S => f_cok pP l eP (f_rm 5) sP mP aP bP hP9 cP mY 71 a cy dC dI 6 _ _ (.invokevirtual j) true S) (List.forall_mem_cons.mpr ⟨f_cokV C (mX12_putInb hinj) (ci := 11) rfl (List.forall_mem_cons.mpr ⟨(mlX12_ok _ (List.mem_of_getElem? (i := 61) rfl)), kc_X12_putIn⟩) (by decide +kernel) ⟨Nat.le_of_ble_eq_true rfl, Nat.le_of_ble_eq_true rfl⟩, List.forall_mem_cons.mpr ⟨f_cokV C (mX12_isGrown hinj) (ci := 11) rfl (List.forall_mem_cons.mpr ⟨(mlX12_ok _ (List.mem_of_getElem? (i := 62) rfl)), kc_X12_isGrown⟩) (by decide +kernel) ⟨Nat.le_of_ble_eq_true rfl, Nat.le_of_ble_eq_true rfl⟩, List.forall_mem_cons.mpr ⟨f_cokV C (mX12_takeOutb hinj) (ci := 11) rfl (List.forall_mem_cons.mpr ⟨(mlX12_ok _ (List.mem_of_getElem? (i := 63) rfl)), kc_X12_takeOut⟩) (by decide +kernel) ⟨Nat.le_of_ble_eq_true rfl, Nat.le_of_ble_eq_true rfl⟩, fun _ h => absurd h List.not_mem_nil⟩⟩⟩)) (fun j S h => by cases h) tX12_addsOne_ok (cut := (f_cnl [(2, (fun (ls' : fLs) (st' : List Value) (I' : fM) (L' : fN) => ∃ p : Int32, (∀ q ∈ ([(3, .int p), (2, .int d), (1, .int m), (0, .ref 0)] : fLs), q ∈ ls') ∧ st' = [] ∧ L' = L ∧ (mR I' ∧ f_fr [0, 21, 22, 23, 24, 25, 26, 27, 28, 29, 30, 31, 32, 33, 34, 35, 36, 37, 38, 39, 40, 41, 42, 43, 44, 54, 55] I I' ∧ f_fo [45, 46, 47, 48, 53, 54, 55, 59] I I' ∧ mL I' ∧ mK I' ∧ mW I' ∧ (0 ≤ p.toInt) ∧ (p.toInt ≤ m.toInt + 1) ∧ (gr I' m.toInt (I 9 (I 0 24).toInt.toNat).toInt) ∧ (9 - p.toInt) < 10)))])) (f_cnl_of (P := fun (tQ : Nat) (P : fLs → List Value → fM → fN → Prop) => ∀ ls' st' I' L', P ls' st' I' L' → f_W pP l eP (f_rm 5) sP mP aP bP hP9 cP mY 71 a cy dC dI 6 (f_K 3 (qX12_addsOne [.ref 0, .int m, .int d] I L)) tQ ls' st' I' L') (List.forall_mem_cons.mpr ⟨(fun ls' st' I' L' h => by obtain ⟨p, hs, e1, e3, h9⟩ := h; rw [e1, e3]; exact f_W_sub hs (lp2 10 p I' h9)), fun _ h => absurd h List.not_mem_nil⟩)) 5 0 tX12_addsOne tX12_addsOne_ok _ _ _ _ ?_
    have r2_1 : 0 ≤ (I 9 ((I 0 24).toInt.toNat)).toInt ∧ (I 9 ((I 0 24).toInt.toNat)).toInt ≤ 12 := hR 9 ((I 0 24).toInt.toNat)
    have r2_2 : 0 ≤ (I 0 24).toInt ∧ (I 0 24).toInt ≤ 1 := hR 0 24
    exact ⟨Int32.ofInt 0, (by intro q9 h9; simp only [List.mem_cons, List.not_mem_nil, or_false] at h9; rcases h9 with h9 | h9 | h9 | h9 <;> subst h9 <;> repeat (first | exact List.mem_cons_self | apply List.mem_cons_of_mem)), rfl, rfl, hR, hF0, hO0, hmL, hmK, hmW, (show 0 ≤ (0 : Int) from by first | assumption | omega), (show (0 : Int) ≤ m.toInt + 1 from by first | assumption | omega), (show gr I m.toInt (I 9 (I 0 24).toInt.toNat).toInt from by first | assumption | omega), (show (9 - (0 : Int)) < 10 from by omega)⟩
def tX12_addsTwo : List (Instr × Nat) := [(.iconst 0, 1), (.istore_n 1, 1), (.iload_n 1, 1), (.aload_n 0, 1), (.getfield 309, 3), (.if_icmp .gt 84, 3), (.iconst 0, 1), (.istore_n 2, 1), (.iload_n 2, 1), (.aload_n 0, 1), (.getfield 39, 3), (.aload_n 0, 1), (.getfield 300, 3), (.iaload, 1), (.if_icmp .ge 63, 3), (.aload_n 0, 1), (.aload_n 0, 1), (.getfield 309, 3), (.iload_n 1, 1), (.iload_n 2, 1), (.invokevirtual 506, 3), (.aload_n 0, 1), (.aload_n 0, 1), (.getfield 309, 3), (.iconst 1, 1), (.iadd, 1), (.iconst 2, 1), (.invokevirtual 516, 3), (.istore_n 3, 1), (.aload_n 0, 1), (.aload_n 0, 1), (.getfield 309, 3), (.iload_n 1, 1), (.invokevirtual 513, 3), (.iload_n 3, 1), (.ifCond .ne 6, 3), (.goto 19, 3), (.aload_n 0, 1), (.getfield 179, 3), (.iconst 0, 1), (.iload_n 1, 1), (.iastore, 1), (.aload_n 0, 1), (.getfield 179, 3), (.iconst 1, 1), (.iload_n 2, 1), (.iastore, 1), (.iconst 1, 1), (.ireturn, 1), (.iinc 2 1, 3), (.goto (-70), 3), (.iinc 1 1, 3), (.goto (-86), 3), (.iconst 0, 1), (.ireturn, 1)]
theorem tX12_addsTwo_ok : f_chk cX12_addsTwo 0 tX12_addsTwo = true := by decide +kernel
def pX12_addsTwo (av : List Value) (I : fM) (L : fN) : Prop := match av with
  | [.ref 0] => mR I ∧ mL I ∧ mK I ∧ mW I ∧ (I 0 30).toInt ≤ 6 ∧ gr I (I 0 30).toInt (I 9 (I 0 24).toInt.toNat).toInt
  | _ => False
def qX12_addsTwo (av : List Value) (I : fM) (L : fN) (r : Value) (I' : fM) (L' : fN) : Prop := match av, r with
  | [.ref 0], .int x => mR I' ∧ mL I' ∧ mK I' ∧ mW I' ∧ f_fo [45, 46, 47, 48, 53, 54, 55, 59] I I' ∧ f_fr [0, 21, 22, 23, 24, 25, 26, 27, 28, 29, 30, 31, 32, 33, 34, 35, 36, 37, 38, 39, 40, 41, 42, 43, 44, 54, 55] I I' ∧ L' = L ∧ (x.toInt = 0 ∨ x.toInt = 1)
  | _, _ => False
set_option maxHeartbeats 40000000 in
set_option maxRecDepth 100000 in
theorem mX12_addsTwo {l : Launch} {a : Nat → Nat} {cy dC : Nat → ClassId} {dI : Nat → Nat → Nat} (hinj : ∀ i j, i < 71 → j < 71 → a i = a j → i = j) : f_Met (fun _ => True) l mY 71 a cy dC dI yX12_addsTwo cX12_addsTwo 4 3 6 pX12_addsTwo qX12_addsTwo := by
  refine f_met_of (f_Ec_T 71 a) hinj mY_hi (by decide) (fun av I L h => by unfold pX12_addsTwo at h; split at h <;> first | exact Nat.le_of_ble_eq_true rfl | exact h.elim) ?_
  intro pP eP sP mP aP bP hP9 cP C av I L hp
  unfold pX12_addsTwo at hp
  split at hp
  case h_2 => exact hp.elim
  case h_1 =>
    obtain ⟨hR, hmL, hmK, hmW, p4, p5⟩ := hp
    have hw : (I 9 (I 0 24).toInt.toNat).toInt ≤ 12 := (hR 9 _).2
    have hr : 0 ≤ (I 0 30).toInt := (hR 0 30).1
    have hF0 : f_fr [0, 21, 22, 23, 24, 25, 26, 27, 28, 29, 30, 31, 32, 33, 34, 35, 36, 37, 38, 39, 40, 41, 42, 43, 44, 54, 55] I I := f_fr_rf
    have hO0 : f_fo [45, 46, 47, 48, 53, 54, 55, 59] I I := f_fo_rf
    have lp2 : ∀ (n2 : Nat), ∀ (p : Int32) (J2 : fM), mR J2 ∧ f_fr [0, 21, 22, 23, 24, 25, 26, 27, 28, 29, 30, 31, 32, 33, 34, 35, 36, 37, 38, 39, 40, 41, 42, 43, 44, 54, 55] I J2 ∧ f_fo [45, 46, 47, 48, 53, 54, 55, 59] I J2 ∧ mL J2 ∧ mK J2 ∧ mW J2 ∧ (0 ≤ p.toInt) ∧ (p.toInt ≤ (I 0 30).toInt + 1) ∧ (gr J2 (I 0 30).toInt (I 9 (I 0 24).toInt.toNat).toInt) ∧ (9 - p.toInt) < n2 → f_W pP l eP (f_rm 6) sP mP aP bP hP9 cP mY 71 a cy dC dI 4 (f_K 3 (qX12_addsTwo [.ref 0] I L)) 2 [(1, .int p), (0, .ref 0)] [] J2 L := by
      intro n2
      induction n2 with
      | zero =>
        intro p J2 h9
        obtain ⟨hR2c, hF2c, hO2c, hmL2c, hmK2c, hmW2c, u2_1, u2_2, u2_3, hm2⟩ := h9
        omega
      | succ n2 ih2 =>
        intro p J2 h9
        obtain ⟨hR2c, hF2c, hO2c, hmL2c, hmK2c, hmW2c, u2_1, u2_2, u2_3, hm2⟩ := h9
        have f2 : (J2 0 30).toInt = (I 0 30).toInt := congrArg Int32.toInt (hO2c 30 rfl)
        have lp12 : ∀ (n12 : Nat), ∀ (w : Int32) (J12 : fM), mR J12 ∧ f_fr [0, 21, 22, 23, 24, 25, 26, 27, 28, 29, 30, 31, 32, 33, 34, 35, 36, 37, 38, 39, 40, 41, 42, 43, 44, 54, 55] I J12 ∧ f_fo [45, 46, 47, 48, 53, 54, 55, 59] I J12 ∧ mL J12 ∧ mK J12 ∧ mW J12 ∧ (p.toInt ≤ (I 0 30).toInt) ∧ (0 ≤ w.toInt) ∧ (w.toInt ≤ 12) ∧ (gr J12 (I 0 30).toInt (I 9 (I 0 24).toInt.toNat).toInt) ∧ (12 - w.toInt) < n12 → f_W pP l eP (f_rm 6) sP mP aP bP hP9 cP mY 71 a cy dC dI 4 (f_K 3 (qX12_addsTwo [.ref 0] I L)) 12 [(2, .int w), (1, .int p), (0, .ref 0)] [] J12 L := by
          intro n12
          induction n12 with
          | zero =>
            intro w J12 h9
            obtain ⟨hR12c, hF12c, hO12c, hmL12c, hmK12c, hmW12c, u12_1, u12_2, u12_3, u12_4, hm12⟩ := h9
            omega
          | succ n12 ih12 =>
            intro w J12 h9
            obtain ⟨hR12c, hF12c, hO12c, hmL12c, hmK12c, hmW12c, u12_1, u12_2, u12_3, u12_4, hm12⟩ := h9
            have e12 : (J12 9 (J12 0 24).toInt.toNat).toInt = (I 9 (I 0 24).toInt.toNat).toInt := by rw [hO12c 24 rfl, hF12c 9 rfl]
            have f12 : J12 0 30 = I 0 30 := hO12c 30 rfl
            refine f_wp_ok C f_cl flX12_ok fiX12_ok fjX12_ok (sn := none) (fun j h => by cases h) (cs := (f_cnl [(506, (4, 0, 11, pX12_putInb, qX12_putInb)), (516, (3, 3, 11, pX12_addsOne, qX12_addsOne)), (513, (3, 0, 11, pX12_takeOutb, qX12_takeOutb))])) (cz := (fun _ => none)) (f_cnl_of (P := fun j S => f_cok pP l eP (f_rm 6) sP mP aP bP hP9 cP mY 71 a cy dC dI 4 _ _ (.invokevirtual j) true S) (List.forall_mem_cons.mpr ⟨f_cokV C (mX12_putInb hinj) (ci := 11) rfl (List.forall_mem_cons.mpr ⟨(mlX12_ok _ (List.mem_of_getElem? (i := 61) rfl)), kc_X12_putIn⟩) (by decide +kernel) ⟨Nat.le_of_ble_eq_true rfl, Nat.le_of_ble_eq_true rfl⟩, List.forall_mem_cons.mpr ⟨f_cokV C (mX12_addsOne hinj) (ci := 11) rfl (List.forall_mem_cons.mpr ⟨(mlX12_ok _ (List.mem_of_getElem? (i := 64) rfl)), kc_X12_addsOne⟩) (by decide +kernel) ⟨Nat.le_of_ble_eq_true rfl, Nat.le_of_ble_eq_true rfl⟩, List.forall_mem_cons.mpr ⟨f_cokV C (mX12_takeOutb hinj) (ci := 11) rfl (List.forall_mem_cons.mpr ⟨(mlX12_ok _ (List.mem_of_getElem? (i := 63) rfl)), kc_X12_takeOut⟩) (by decide +kernel) ⟨Nat.le_of_ble_eq_true rfl, Nat.le_of_ble_eq_true rfl⟩, fun _ h => absurd h List.not_mem_nil⟩⟩⟩)) (fun j S h => by cases h) tX12_addsTwo_ok (cut := (f_cnl [(2, (fun (ls' : fLs) (st' : List Value) (I' : fM) (L' : fN) => ∃ p : Int32, (∀ q ∈ ([(1, .int p), (0, .ref 0)] : fLs), q ∈ ls') ∧ st' = [] ∧ L' = L ∧ (mR I' ∧ f_fr [0, 21, 22, 23, 24, 25, 26, 27, 28, 29, 30, 31, 32, 33, 34, 35, 36, 37, 38, 39, 40, 41, 42, 43, 44, 54, 55] I I' ∧ f_fo [45, 46, 47, 48, 53, 54, 55, 59] I I' ∧ mL I' ∧ mK I' ∧ mW I' ∧ (0 ≤ p.toInt) ∧ (p.toInt ≤ (I 0 30).toInt + 1) ∧ (gr I' (I 0 30).toInt (I 9 (I 0 24).toInt.toNat).toInt) ∧ (9 - p.toInt) < n2))), (12, (fun (ls' : fLs) (st' : List Value) (I' : fM) (L' : fN) => ∃ w : Int32, (∀ q ∈ ([(2, .int w), (1, .int p), (0, .ref 0)] : fLs), q ∈ ls') ∧ st' = [] ∧ L' = L ∧ (mR I' ∧ f_fr [0, 21, 22, 23, 24, 25, 26, 27, 28, 29, 30, 31, 32, 33, 34, 35, 36, 37, 38, 39, 40, 41, 42, 43, 44, 54, 55] I I' ∧ f_fo [45, 46, 47, 48, 53, 54, 55, 59] I I' ∧ mL I' ∧ mK I' ∧ mW I' ∧ (p.toInt ≤ (I 0 30).toInt) ∧ (0 ≤ w.toInt) ∧ (w.toInt ≤ 12) ∧ (gr I' (I 0 30).toInt (I 9 (I 0 24).toInt.toNat).toInt) ∧ (12 - w.toInt) < n12)))])) (f_cnl_of (P := fun (tQ : Nat) (P : fLs → List Value → fM → fN → Prop) => ∀ ls' st' I' L', P ls' st' I' L' → f_W pP l eP (f_rm 6) sP mP aP bP hP9 cP mY 71 a cy dC dI 4 (f_K 3 (qX12_addsTwo [.ref 0] I L)) tQ ls' st' I' L') (List.forall_mem_cons.mpr ⟨(fun ls' st' I' L' h => by obtain ⟨p, hs, e1, e3, h9⟩ := h; rw [e1, e3]; exact f_W_sub hs (ih2 p I' h9)), List.forall_mem_cons.mpr ⟨(fun ls' st' I' L' h => by obtain ⟨w, hs, e1, e3, h9⟩ := h; rw [e1, e3]; exact f_W_sub hs (ih12 w I' h9)), fun _ h => absurd h List.not_mem_nil⟩⟩)) 43 12 (f_seek 12 0 tX12_addsTwo) (f_seek_ok 12 0 tX12_addsTwo tX12_addsTwo_ok) _ _ _ _ ?_
            have r18_1 : 0 ≤ (J12 0 24).toInt ∧ (J12 0 24).toInt ≤ 1 := hR12c 0 24
            have e18_2 : (J12 0 24).toInt = (I 0 24).toInt := congrArg Int32.toInt (hO12c 24 rfl)
            refine And.intro (show f_in (J12 0 24) 2 from ⟨show 0 ≤ (J12 0 24).toInt from by omega, show (J12 0 24).toInt < 2 from by omega⟩) ?_
            have r21_3 : 0 ≤ (J12 9 ((J12 0 24).toInt.toNat)).toInt ∧ (J12 9 ((J12 0 24).toInt.toNat)).toInt ≤ 12 := hR12c 9 ((J12 0 24).toInt.toNat)
            have e21_4 : (J12 9 ((J12 0 24).toInt.toNat)).toInt = (J12 9 ((I 0 24).toInt.toNat)).toInt := by rw [(hO12c 24 rfl)]
            have e21_5 : (J12 9 ((I 0 24).toInt.toNat)).toInt = (I 9 ((I 0 24).toInt.toNat)).toInt := congrArg Int32.toInt (congrFun (hF12c 9 rfl) ((I 0 24).toInt.toNat))
            apply And.intro
            · intro h22
              have h22 : (J12 9 ((J12 0 24).toInt.toNat)).toInt ≤ w.toInt := h22
              intro z85 q85 _ hq85 hl85 hu85
              have hq85 : z85.toInt = p.toInt + 1 + 4294967296 * q85 := hq85
              try have hz85 : z85.toInt = p.toInt + 1 := by omega
              exact ⟨z85, (by intro q9 h9; simp only [List.mem_cons, List.not_mem_nil, or_false] at h9; rcases h9 with h9 | h9 <;> subst h9 <;> repeat (first | exact List.mem_cons_self | apply List.mem_cons_of_mem)), rfl, rfl, hR12c, hF12c, hO12c, hmL12c, hmK12c, hmW12c, (show 0 ≤ z85.toInt from by first | assumption | omega), (show z85.toInt ≤ (I 0 30).toInt + 1 from by first | assumption | omega), (show gr J12 (I 0 30).toInt (I 9 (I 0 24).toInt.toNat).toInt from by first | assumption | omega), (show (9 - z85.toInt) < n2 from by omega)⟩
            · intro h22
              have h22 : w.toInt < (J12 9 ((J12 0 24).toInt.toNat)).toInt := h22
              have r27_6 : 0 ≤ (J12 0 30).toInt ∧ (J12 0 30).toInt ≤ 8 := hR12c 0 30
              have e27_7 : (J12 0 30).toInt = (I 0 30).toInt := congrArg Int32.toInt (hO12c 30 rfl)
              refine And.intro ⟨hR12c, (show 0 ≤ p.toInt from by first | assumption | omega), (show p.toInt ≤ (J12 0 30).toInt from by first | assumption | omega), (show (J12 0 30).toInt ≤ 9 from by first | assumption | omega), (show 0 ≤ w.toInt from by first | assumption | omega), (show w.toInt ≤ 11 from by first | assumption | omega)⟩ ?_
              intro I32 L32 hq32
              have hq32 : mR I32 ∧ f_fr [54] J12 I32 ∧ L32 = L ∧ ((∀ W : Int, gr J12 (J12 0 30).toInt W → w.toInt < W → gr I32 ((J12 0 30).toInt + 1) W)) := hq32
              obtain ⟨c32_0, c32_1, eL32, c32_3⟩ := hq32
              replace eL32 := eL32.symm
              subst eL32
              have hO32 := f_fo_fr hO12c c32_1 rfl
              have hmL32 := f_depo_fr mL_dep hmL12c c32_1 rfl rfl
              have hmK32 := f_depo_fr mK_dep hmK12c c32_1 rfl rfl
              have hmW32 := f_depo_fr mW_dep hmW12c c32_1 rfl rfl
              have hF32 := f_fr_tr hF12c c32_1 rfl
              have g32 : gr I32 ((I 0 30).toInt + 1) (I 9 (I 0 24).toInt.toNat).toInt := by
                have q := c32_3 (I 9 (I 0 24).toInt.toNat).toInt
                rw [f12] at q
                exact q u12_4 (by omega)
              have h32 : I32 0 30 = I 0 30 := (congrFun (c32_1 0 rfl) 30).trans f12
              have j32 : (I32 0 30).toInt = (I 0 30).toInt := by rw [h32]
              have r37_8 : 0 ≤ (I32 0 30).toInt ∧ (I32 0 30).toInt ≤ 8 := c32_0 0 30
              have e37_9 : (I32 0 30).toInt = (J12 0 30).toInt := congrArg Int32.toInt (congrFun (c32_1 0 rfl) 30)
              intro z41 q41 _ hq41 hl41 hu41
              have hq41 : z41.toInt = (I32 0 30).toInt + 1 + 4294967296 * q41 := hq41
              try have hz41 : z41.toInt = (I32 0 30).toInt + 1 := by omega
              refine And.intro ⟨c32_0, hmL32, hmK32, hmW32, (show 0 ≤ z41.toInt from by first | assumption | omega), (show z41.toInt ≤ 7 from by first | assumption | omega), (show ((2 : Int) = 0 ∨ (2 : Int) = 2) from by first | assumption | omega | rfl), (show gr I32 z41.toInt (I32 9 (I32 0 24).toInt.toNat).toInt from by rw [congrFun (c32_1 0 rfl) 24, c32_1 9 rfl, e12, show z41.toInt = (I 0 30).toInt + 1 by omega]; exact g32)⟩ ?_
              intro x43 I43 L43 hq43
              have hq43 : mR I43 ∧ mL I43 ∧ mK I43 ∧ mW I43 ∧ f_fo [45, 46, 47, 48, 53, 54, 55, 59] I32 I43 ∧ f_fr [0, 21, 22, 23, 24, 25, 26, 27, 28, 29, 30, 31, 32, 33, 34, 35, 36, 37, 38, 39, 40, 41, 42, 43, 44, 54, 55] I32 I43 ∧ L43 = L ∧ ((x43.toInt = 0 ∨ x43.toInt = 1)) ∧ gr I43 z41.toInt (I32 9 (I32 0 24).toInt.toNat).toInt := hq43
              obtain ⟨c43_0, c43_1, c43_2, c43_3, c43_4, c43_5, eL43, c43_7, c43_8⟩ := hq43
              replace eL43 := eL43.symm
              subst eL43
              have hO43 := f_fo_tr hO32 c43_4 rfl
              have hF43 := f_fr_tr hF32 c43_5 rfl
              have e43_10 : (I32 9 ((I32 0 24).toInt.toNat)).toInt = (I32 9 ((I 0 24).toInt.toNat)).toInt := by rw [(hO32 24 rfl)]
              have e43_11 : (I32 9 ((I 0 24).toInt.toNat)).toInt = (J12 9 ((I 0 24).toInt.toNat)).toInt := congrArg Int32.toInt (congrFun (c32_1 9 rfl) ((I 0 24).toInt.toNat))
              have e43_12 : (I32 0 24).toInt = (J12 0 24).toInt := congrArg Int32.toInt (congrFun (c32_1 0 rfl) 24)
              have h43 : I43 0 30 = I 0 30 := (c43_4 30 rfl).trans h32
              have j43 : (I43 0 30).toInt = (I 0 30).toInt := by rw [h43]
              have g43 : gr I43 ((I 0 30).toInt + 1) (I 9 (I 0 24).toInt.toNat).toInt := by
                have q := c43_8
                rw [congrFun (c32_1 0 rfl) 24, c32_1 9 rfl, e12, show z41.toInt = (I 0 30).toInt + 1 by omega] at q
                exact q
              have r49_13 : 0 ≤ (I43 0 30).toInt ∧ (I43 0 30).toInt ≤ 8 := c43_0 0 30
              have e49_14 : (I43 0 30).toInt = (I32 0 30).toInt := congrArg Int32.toInt (c43_4 30 rfl)
              refine And.intro ⟨c43_0, (show 0 ≤ p.toInt from by first | assumption | omega), (show p.toInt ≤ (I43 0 30).toInt from by first | assumption | omega), (show (I43 0 30).toInt ≤ 9 from by first | assumption | omega)⟩ ?_
              intro I53 L53 hq53
              have hq53 : mR I53 ∧ f_fr [54] I43 I53 ∧ L53 = L ∧ ((∀ W : Int, gr I43 ((I43 0 30).toInt + 1) W → gr I53 (I43 0 30).toInt W)) := hq53
              obtain ⟨c53_0, c53_1, eL53, c53_3⟩ := hq53
              replace eL53 := eL53.symm
              subst eL53
              have hO53 := f_fo_fr hO43 c53_1 rfl
              have hmL53 := f_depo_fr mL_dep c43_1 c53_1 rfl rfl
              have hmK53 := f_depo_fr mK_dep c43_2 c53_1 rfl rfl
              have hmW53 := f_depo_fr mW_dep c43_3 c53_1 rfl rfl
              have hF53 := f_fr_tr hF43 c53_1 rfl
              have g53 : gr I53 (I 0 30).toInt (I 9 (I 0 24).toInt.toNat).toInt := by
                have q := c53_3 (I 9 (I 0 24).toInt.toNat).toInt
                rw [h43] at q
                exact q g43
              apply And.intro
              · intro h57
                have h57 : ¬ x43.toInt = 0 := h57
                refine And.intro (show f_in (Int32.ofInt 0) 4 from ⟨show 0 ≤ 0 from by omega, show 0 < 4 from by omega⟩) ?_
                have hR69 := mR_a (k := 55) (j := (Int32.ofInt 0).toInt.toNat) (x := p) c53_0 (by exact f_rng _)
                have hF69 := f_fr_up (k := 55) (r := upd (I53 55) ((Int32.ofInt 0).toInt.toNat) p) hF53 rfl
                have hO69 := f_fo_ne (k := 55) (r := upd (I53 55) ((Int32.ofInt 0).toInt.toNat) p) hO53 (by decide)
                have hmL69 := f_depo_up mL_dep (k := 55) (r := upd (I53 55) ((Int32.ofInt 0).toInt.toNat) p) hmL53 rfl (by decide)
                have hmK69 := f_depo_up mK_dep (k := 55) (r := upd (I53 55) ((Int32.ofInt 0).toInt.toNat) p) hmK53 rfl (by decide)
                have hmW69 := f_depo_up mW_dep (k := 55) (r := upd (I53 55) ((Int32.ofInt 0).toInt.toNat) p) hmW53 rfl (by decide)
                refine And.intro (show f_in (Int32.ofInt 1) 4 from ⟨show 0 ≤ 1 from by omega, show 1 < 4 from by omega⟩) ?_
                have hR76 := mR_a (k := 55) (j := (Int32.ofInt 1).toInt.toNat) (x := w) hR69 (by exact f_rng _)
                have hF76 := f_fr_up (k := 55) (r := upd (upd (I53 55) ((Int32.ofInt 0).toInt.toNat) p) ((Int32.ofInt 1).toInt.toNat) w) hF69 rfl
                have hO76 := f_fo_ne (k := 55) (r := upd (upd (I53 55) ((Int32.ofInt 0).toInt.toNat) p) ((Int32.ofInt 1).toInt.toNat) w) hO69 (by decide)
                have hmL76 := f_depo_up mL_dep (k := 55) (r := upd (upd (I53 55) ((Int32.ofInt 0).toInt.toNat) p) ((Int32.ofInt 1).toInt.toNat) w) hmL69 rfl (by decide)
                have hmK76 := f_depo_up mK_dep (k := 55) (r := upd (upd (I53 55) ((Int32.ofInt 0).toInt.toNat) p) ((Int32.ofInt 1).toInt.toNat) w) hmK69 rfl (by decide)
                have hmW76 := f_depo_up mW_dep (k := 55) (r := upd (upd (I53 55) ((Int32.ofInt 0).toInt.toNat) p) ((Int32.ofInt 1).toInt.toNat) w) hmW69 rfl (by decide)
                exact ⟨Or.inr rfl, hR76, hmL76, hmK76, hmW76, hO76, hF76, rfl, (show ((1 : Int) = 0 ∨ (1 : Int) = 1) from by first | assumption | omega | rfl)⟩
              · intro h57
                have h57 : x43.toInt = 0 := h57
                intro z79 q79 _ hq79 hl79 hu79
                have hq79 : z79.toInt = w.toInt + 1 + 4294967296 * q79 := hq79
                try have hz79 : z79.toInt = w.toInt + 1 := by omega
                exact ⟨z79, (by intro q9 h9; simp only [List.mem_cons, List.not_mem_nil, or_false] at h9; rcases h9 with h9 | h9 | h9 <;> subst h9 <;> repeat (first | exact List.mem_cons_self | apply List.mem_cons_of_mem)), rfl, rfl, c53_0, hF53, hO53, hmL53, hmK53, hmW53, (show p.toInt ≤ (I 0 30).toInt from by first | assumption | omega), (show 0 ≤ z79.toInt from by first | assumption | omega), (show z79.toInt ≤ 12 from by first | assumption | omega), (show gr I53 (I 0 30).toInt (I 9 (I 0 24).toInt.toNat).toInt from by first | assumption | omega), (show (12 - z79.toInt) < n12 from by omega)⟩
        refine f_wp_ok C f_cl flX12_ok fiX12_ok fjX12_ok (sn := none) (fun j h => by cases h) (cs := (f_cnl [(506, (4, 0, 11, pX12_putInb, qX12_putInb)), (516, (3, 3, 11, pX12_addsOne, qX12_addsOne)), (513, (3, 0, 11, pX12_takeOutb, qX12_takeOutb))])) (cz := (fun _ => none)) (f_cnl_of (P := fun j S => f_cok pP l eP (f_rm 6) sP mP aP bP hP9 cP mY 71 a cy dC dI 4 _ _ (.invokevirtual j) true S) (List.forall_mem_cons.mpr ⟨f_cokV C (mX12_putInb hinj) (ci := 11) rfl (List.forall_mem_cons.mpr ⟨(mlX12_ok _ (List.mem_of_getElem? (i := 61) rfl)), kc_X12_putIn⟩) (by decide +kernel) ⟨Nat.le_of_ble_eq_true rfl, Nat.le_of_ble_eq_true rfl⟩, List.forall_mem_cons.mpr ⟨f_cokV C (mX12_addsOne hinj) (ci := 11) rfl (List.forall_mem_cons.mpr ⟨(mlX12_ok _ (List.mem_of_getElem? (i := 64) rfl)), kc_X12_addsOne⟩) (by decide +kernel) ⟨Nat.le_of_ble_eq_true rfl, Nat.le_of_ble_eq_true rfl⟩, List.forall_mem_cons.mpr ⟨f_cokV C (mX12_takeOutb hinj) (ci := 11) rfl (List.forall_mem_cons.mpr ⟨(mlX12_ok _ (List.mem_of_getElem? (i := 63) rfl)), kc_X12_takeOut⟩) (by decide +kernel) ⟨Nat.le_of_ble_eq_true rfl, Nat.le_of_ble_eq_true rfl⟩, fun _ h => absurd h List.not_mem_nil⟩⟩⟩)) (fun j S h => by cases h) tX12_addsTwo_ok (cut := (f_cnl [(12, (fun (ls' : fLs) (st' : List Value) (I' : fM) (L' : fN) => ∃ w : Int32, (∀ q ∈ ([(2, .int w), (1, .int p), (0, .ref 0)] : fLs), q ∈ ls') ∧ st' = [] ∧ L' = L ∧ (mR I' ∧ f_fr [0, 21, 22, 23, 24, 25, 26, 27, 28, 29, 30, 31, 32, 33, 34, 35, 36, 37, 38, 39, 40, 41, 42, 43, 44, 54, 55] I I' ∧ f_fo [45, 46, 47, 48, 53, 54, 55, 59] I I' ∧ mL I' ∧ mK I' ∧ mW I' ∧ (p.toInt ≤ (I 0 30).toInt) ∧ (0 ≤ w.toInt) ∧ (w.toInt ≤ 12) ∧ (gr I' (I 0 30).toInt (I 9 (I 0 24).toInt.toNat).toInt) ∧ (12 - w.toInt) < 13)))])) (f_cnl_of (P := fun (tQ : Nat) (P : fLs → List Value → fM → fN → Prop) => ∀ ls' st' I' L', P ls' st' I' L' → f_W pP l eP (f_rm 6) sP mP aP bP hP9 cP mY 71 a cy dC dI 4 (f_K 3 (qX12_addsTwo [.ref 0] I L)) tQ ls' st' I' L') (List.forall_mem_cons.mpr ⟨(fun ls' st' I' L' h => by obtain ⟨w, hs, e1, e3, h9⟩ := h; rw [e1, e3]; exact f_W_sub hs (lp12 13 w I' h9)), fun _ h => absurd h List.not_mem_nil⟩)) 9 2 (f_seek 2 0 tX12_addsTwo) (f_seek_ok 2 0 tX12_addsTwo tX12_addsTwo_ok) _ _ _ _ ?_
        have r4_1 : 0 ≤ (J2 0 30).toInt ∧ (J2 0 30).toInt ≤ 8 := hR2c 0 30
        have e4_2 : (J2 0 30).toInt = (I 0 30).toInt := congrArg Int32.toInt (hO2c 30 rfl)
        apply And.intro
        · intro h7
          have h7 : (J2 0 30).toInt < p.toInt := h7
          exact ⟨Or.inl rfl, hR2c, hmL2c, hmK2c, hmW2c, hO2c, hF2c, rfl, (show ((0 : Int) = 0 ∨ (0 : Int) = 1) from by first | assumption | omega | rfl)⟩
        · intro h7
          have h7 : p.toInt ≤ (J2 0 30).toInt := h7
          exact ⟨Int32.ofInt 0, (by intro q9 h9; simp only [List.mem_cons, List.not_mem_nil, or_false] at h9; rcases h9 with h9 | h9 | h9 <;> subst h9 <;> repeat (first | exact List.mem_cons_self | apply List.mem_cons_of_mem)), rfl, rfl, hR2c, hF2c, hO2c, hmL2c, hmK2c, hmW2c, (show p.toInt ≤ (I 0 30).toInt from by first | assumption | omega), (show 0 ≤ (0 : Int) from by first | assumption | omega), (show (0 : Int) ≤ 12 from by first | assumption | omega), (show gr J2 (I 0 30).toInt (I 9 (I 0 24).toInt.toNat).toInt from by first | assumption | omega), (show (12 - (0 : Int)) < 13 from by omega)⟩
    refine f_wp_ok C f_cl flX12_ok fiX12_ok fjX12_ok (sn := none) (fun j h => by cases h) (cs := (f_cnl [(506, (4, 0, 11, pX12_putInb, qX12_putInb)), (516, (3, 3, 11, pX12_addsOne, qX12_addsOne)), (513, (3, 0, 11, pX12_takeOutb, qX12_takeOutb))])) (cz := (fun _ => none)) (f_cnl_of (P := fun j S => f_cok pP l eP (f_rm 6) sP mP aP bP hP9 cP mY 71 a cy dC dI 4 _ _ (.invokevirtual j) true S) (List.forall_mem_cons.mpr ⟨f_cokV C (mX12_putInb hinj) (ci := 11) rfl (List.forall_mem_cons.mpr ⟨(mlX12_ok _ (List.mem_of_getElem? (i := 61) rfl)), kc_X12_putIn⟩) (by decide +kernel) ⟨Nat.le_of_ble_eq_true rfl, Nat.le_of_ble_eq_true rfl⟩, List.forall_mem_cons.mpr ⟨f_cokV C (mX12_addsOne hinj) (ci := 11) rfl (List.forall_mem_cons.mpr ⟨(mlX12_ok _ (List.mem_of_getElem? (i := 64) rfl)), kc_X12_addsOne⟩) (by decide +kernel) ⟨Nat.le_of_ble_eq_true rfl, Nat.le_of_ble_eq_true rfl⟩, List.forall_mem_cons.mpr ⟨f_cokV C (mX12_takeOutb hinj) (ci := 11) rfl (List.forall_mem_cons.mpr ⟨(mlX12_ok _ (List.mem_of_getElem? (i := 63) rfl)), kc_X12_takeOut⟩) (by decide +kernel) ⟨Nat.le_of_ble_eq_true rfl, Nat.le_of_ble_eq_true rfl⟩, fun _ h => absurd h List.not_mem_nil⟩⟩⟩)) (fun j S h => by cases h) tX12_addsTwo_ok (cut := (f_cnl [(2, (fun (ls' : fLs) (st' : List Value) (I' : fM) (L' : fN) => ∃ p : Int32, (∀ q ∈ ([(1, .int p), (0, .ref 0)] : fLs), q ∈ ls') ∧ st' = [] ∧ L' = L ∧ (mR I' ∧ f_fr [0, 21, 22, 23, 24, 25, 26, 27, 28, 29, 30, 31, 32, 33, 34, 35, 36, 37, 38, 39, 40, 41, 42, 43, 44, 54, 55] I I' ∧ f_fo [45, 46, 47, 48, 53, 54, 55, 59] I I' ∧ mL I' ∧ mK I' ∧ mW I' ∧ (0 ≤ p.toInt) ∧ (p.toInt ≤ (I 0 30).toInt + 1) ∧ (gr I' (I 0 30).toInt (I 9 (I 0 24).toInt.toNat).toInt) ∧ (9 - p.toInt) < 10)))])) (f_cnl_of (P := fun (tQ : Nat) (P : fLs → List Value → fM → fN → Prop) => ∀ ls' st' I' L', P ls' st' I' L' → f_W pP l eP (f_rm 6) sP mP aP bP hP9 cP mY 71 a cy dC dI 4 (f_K 3 (qX12_addsTwo [.ref 0] I L)) tQ ls' st' I' L') (List.forall_mem_cons.mpr ⟨(fun ls' st' I' L' h => by obtain ⟨p, hs, e1, e3, h9⟩ := h; rw [e1, e3]; exact f_W_sub hs (lp2 10 p I' h9)), fun _ h => absurd h List.not_mem_nil⟩)) 5 0 tX12_addsTwo tX12_addsTwo_ok _ _ _ _ ?_
    have r2_1 : 0 ≤ (I 0 30).toInt ∧ (I 0 30).toInt ≤ 8 := hR 0 30
    have r2_2 : 0 ≤ (I 9 ((I 0 24).toInt.toNat)).toInt ∧ (I 9 ((I 0 24).toInt.toNat)).toInt ≤ 12 := hR 9 ((I 0 24).toInt.toNat)
    have r2_3 : 0 ≤ (I 0 24).toInt ∧ (I 0 24).toInt ≤ 1 := hR 0 24
    exact ⟨Int32.ofInt 0, (by intro q9 h9; simp only [List.mem_cons, List.not_mem_nil, or_false] at h9; rcases h9 with h9 | h9 <;> subst h9 <;> repeat (first | exact List.mem_cons_self | apply List.mem_cons_of_mem)), rfl, rfl, hR, hF0, hO0, hmL, hmK, hmW, (show 0 ≤ (0 : Int) from by first | assumption | omega), (show (0 : Int) ≤ (I 0 30).toInt + 1 from by first | assumption | omega), (show gr I (I 0 30).toInt (I 9 (I 0 24).toInt.toNat).toInt from by first | assumption | omega), (show (9 - (0 : Int)) < 10 from by omega)⟩
def tX12_added : List (Instr × Nat) := [(.aload_n 0, 1), (.getfield 309, 3), (.ifCond .eq 12, 3), (.iload_n 1, 1), (.iconst 0, 1), (.iconst 4, 1), (.invokestatic 366, 3), (.ifCond .ne 5, 3), (.iconst (-1), 1), (.ireturn, 1), (.iconst 0, 1), (.istore_n 2, 1), (.iload_n 2, 1), (.aload_n 0, 1), (.getfield 309, 3), (.if_icmp .ge 21, 3), (.aload_n 0, 1), (.getfield 176, 3), (.iload_n 2, 1), (.aload_n 0, 1), (.getfield 71, 3), (.iload_n 2, 1), (.iaload, 1), (.iastore, 1), (.iinc 2 1, 3), (.goto (-23), 3), (.iconst (-1), 1), (.istore_n 2, 1), (.aload_n 0, 1), (.aload_n 0, 1), (.getfield 309, 3), (.invokevirtual 510, 3), (.ifCond .eq 8, 3), (.iconst 0, 1), (.istore_n 2, 1), (.goto 49, 3), (.aload_n 0, 1), (.getfield 309, 3), (.bipush 8, 2), (.if_icmp .ge 20, 3), (.aload_n 0, 1), (.aload_n 0, 1), (.getfield 309, 3), (.iconst 0, 1), (.invokevirtual 516, 3), (.ifCond .eq 8, 3), (.iconst 1, 1), (.istore_n 2, 1), (.goto 23, 3), (.aload_n 0, 1), (.getfield 309, 3), (.iconst 1, 1), (.iadd, 1), (.bipush 8, 2), (.if_icmp .ge 12, 3), (.aload_n 0, 1), (.invokevirtual 519, 3), (.ifCond .eq 5, 3), (.iconst 2, 1), (.istore_n 2, 1), (.iload_n 2, 1), (.ifCond .ge 5, 3), (.iconst (-1), 1), (.ireturn, 1), (.iload_n 1, 1), (.ifCond .ne 5, 3), (.iload_n 2, 1), (.ireturn, 1), (.iload_n 1, 1), (.iconst 1, 1), (.if_icmp .eq 8, 3), (.iload_n 1, 1), (.iconst 3, 1), (.if_icmp .ne 7, 3), (.iconst 1, 1), (.goto 4, 3), (.iconst 2, 1), (.istore_n 3, 1), (.iload_n 2, 1), (.iload_n 3, 1), (.if_icmp .ge 7, 3), (.iconst (-1), 1), (.goto 22, 3), (.aload_n 0, 1), (.getfield 179, 3), (.iconst 2, 1), (.iload_n 3, 1), (.imul, 1), (.iload_n 1, 1), (.iconst 3, 1), (.if_icmp .ge 7, 3), (.iconst 2, 1), (.goto 4, 3), (.iconst 1, 1), (.isub, 1), (.iaload, 1), (.ireturn, 1)]
theorem tX12_added_ok : f_chk cX12_added 0 tX12_added = true := by decide +kernel
def pX12_added (av : List Value) (I : fM) (L : fN) : Prop := match av with
  | [.ref 0, .int what] => mR I ∧ mL I ∧ mK I ∧ mW I
  | _ => False
def qX12_added (av : List Value) (I : fM) (L : fN) (r : Value) (I' : fM) (L' : fN) : Prop := match av, r with
  | [.ref 0, .int what], .int x => mR I' ∧ mL I' ∧ mK I' ∧ mW I' ∧ f_fo [45, 46, 47, 48, 53, 54, 55, 59] I I' ∧ f_fr [0, 21, 22, 23, 24, 25, 26, 27, 28, 29, 30, 31, 32, 33, 34, 35, 36, 37, 38, 39, 40, 41, 42, 43, 44, 54, 55] I I' ∧ L' = L
  | _, _ => False
set_option maxHeartbeats 40000000 in
set_option maxRecDepth 100000 in
theorem mX12_added {l : Launch} {a : Nat → Nat} {cy dC : Nat → ClassId} {dI : Nat → Nat → Nat} (hinj : ∀ i j, i < 71 → j < 71 → a i = a j → i = j) : f_Met (fun _ => True) l mY 71 a cy dC dI yX12_added cX12_added 4 1 7 pX12_added qX12_added := by
  refine f_met_of (f_Ec_T 71 a) hinj mY_hi (by decide) (fun av I L h => by unfold pX12_added at h; split at h <;> first | exact Nat.le_of_ble_eq_true rfl | exact h.elim) ?_
  intro pP eP sP mP aP bP hP9 cP C av I L hp
  unfold pX12_added at hp
  split at hp
  case h_2 => exact hp.elim
  case h_1 what =>
    obtain ⟨hR, hmL, hmK, hmW⟩ := hp
    have hr : 0 ≤ (I 0 30).toInt ∧ (I 0 30).toInt ≤ 8 := hR 0 30
    have hF0 : f_fr [0, 21, 22, 23, 24, 25, 26, 27, 28, 29, 30, 31, 32, 33, 34, 35, 36, 37, 38, 39, 40, 41, 42, 43, 44, 54, 55] I I := f_fr_rf
    have hO0 : f_fo [45, 46, 47, 48, 53, 54, 55, 59] I I := f_fo_rf
    have lp110 : ∀ (many : Int32) (J110 : fM), mR J110 ∧ f_fr [0, 21, 22, 23, 24, 25, 26, 27, 28, 29, 30, 31, 32, 33, 34, 35, 36, 37, 38, 39, 40, 41, 42, 43, 44, 54, 55] I J110 ∧ f_fo [45, 46, 47, 48, 53, 54, 55, 59] I J110 ∧ mL J110 ∧ mK J110 ∧ mW J110 ∧ (0 ≤ what.toInt) ∧ (what.toInt ≤ 4) ∧ (-1 ≤ many.toInt) ∧ (many.toInt ≤ 2) → f_W pP l eP (f_rm 7) sP mP aP bP hP9 cP mY 71 a cy dC dI 4 (f_K 1 (qX12_added [.ref 0, .int what] I L)) 110 [(2, .int many), (1, .int what), (0, .ref 0)] [] J110 L := by
      intro many J110 h9
      obtain ⟨hR110c, hF110c, hO110c, hmL110c, hmK110c, hmW110c, u110_1, u110_2, u110_3, u110_4⟩ := h9
      refine f_wp_ok C f_cl flX12_ok fiX12_ok fjX12_ok (sn := none) (fun j h => by cases h) (cs := (f_cnl [(510, (2, 3, 11, pX12_isGrown, qX12_isGrown)), (516, (3, 3, 11, pX12_addsOne, qX12_addsOne)), (519, (1, 3, 11, pX12_addsTwo, qX12_addsTwo))])) (cz := (f_cnl [(366, (3, 3, 11, pX12_isIn, qX12_isIn))])) (f_cnl_of (P := fun j S => f_cok pP l eP (f_rm 7) sP mP aP bP hP9 cP mY 71 a cy dC dI 4 _ _ (.invokevirtual j) true S) (List.forall_mem_cons.mpr ⟨f_cokV C (mX12_isGrown hinj) (ci := 11) rfl (List.forall_mem_cons.mpr ⟨(mlX12_ok _ (List.mem_of_getElem? (i := 62) rfl)), kc_X12_isGrown⟩) (by decide +kernel) ⟨Nat.le_of_ble_eq_true rfl, Nat.le_of_ble_eq_true rfl⟩, List.forall_mem_cons.mpr ⟨f_cokV C (mX12_addsOne hinj) (ci := 11) rfl (List.forall_mem_cons.mpr ⟨(mlX12_ok _ (List.mem_of_getElem? (i := 64) rfl)), kc_X12_addsOne⟩) (by decide +kernel) ⟨Nat.le_of_ble_eq_true rfl, Nat.le_of_ble_eq_true rfl⟩, List.forall_mem_cons.mpr ⟨f_cokV C (mX12_addsTwo hinj) (ci := 11) rfl (List.forall_mem_cons.mpr ⟨(mlX12_ok _ (List.mem_of_getElem? (i := 65) rfl)), kc_X12_addsTwo⟩) (by decide +kernel) ⟨Nat.le_of_ble_eq_true rfl, Nat.le_of_ble_eq_true rfl⟩, fun _ h => absurd h List.not_mem_nil⟩⟩⟩)) (f_cnl_of (P := fun j S => f_cok pP l eP (f_rm 7) sP mP aP bP hP9 cP mY 71 a cy dC dI 4 _ _ (.invokestatic j) false S) (List.forall_mem_cons.mpr ⟨f_cokS C (mX12_isIn hinj) (List.forall_mem_cons.mpr ⟨(mlX12_ok _ (List.mem_of_getElem? (i := 27) rfl)), kc_X12_isIn⟩) (by decide +kernel) ⟨Nat.le_of_ble_eq_true rfl, Nat.le_of_ble_eq_true rfl⟩, fun _ h => absurd h List.not_mem_nil⟩)) tX12_added_ok (cut := (fun _ => none)) (fun t P h => by cases h) 32 110 (f_seek 110 0 tX12_added) (f_seek_ok 110 0 tX12_added tX12_added_ok) _ _ _ _ ?_
      apply And.intro
      · intro h111
        have h111 : 0 ≤ many.toInt := h111
        apply And.intro
        · intro h117
          have h117 : ¬ what.toInt = 0 := h117
          apply And.intro
          · intro h124
            have h124 : what.toInt = 1 := h124
            apply And.intro
            · intro h140
              have h140 : 1 ≤ many.toInt := h140
              intro z153 q153 _ hq153 hl153 hu153
              have hq153 : z153.toInt = 2 * 1 + 4294967296 * q153 := hq153
              try have hz153 : z153.toInt = 2 * 1 := by omega
              apply And.intro
              · intro h156
                have h156 : 3 ≤ what.toInt := h156
                intro z164 q164 _ hq164 hl164 hu164
                have hq164 : z164.toInt = z153.toInt - 1 + 4294967296 * q164 := hq164
                try have hz164 : z164.toInt = z153.toInt - 1 := by omega
                refine And.intro (show f_in z164 4 from ⟨show 0 ≤ z164.toInt from by omega, show z164.toInt < 4 from by omega⟩) ?_
                exact ⟨hR110c, hmL110c, hmK110c, hmW110c, hO110c, hF110c, rfl⟩
              · intro h156
                have h156 : what.toInt < 3 := h156
                intro z164 q164 _ hq164 hl164 hu164
                have hq164 : z164.toInt = z153.toInt - 2 + 4294967296 * q164 := hq164
                try have hz164 : z164.toInt = z153.toInt - 2 := by omega
                refine And.intro (show f_in z164 4 from ⟨show 0 ≤ z164.toInt from by omega, show z164.toInt < 4 from by omega⟩) ?_
                exact ⟨hR110c, hmL110c, hmK110c, hmW110c, hO110c, hF110c, rfl⟩
            · intro h140
              have h140 : many.toInt < 1 := h140
              exact ⟨hR110c, hmL110c, hmK110c, hmW110c, hO110c, hF110c, rfl⟩
          · intro h124
            have h124 : ¬ what.toInt = 1 := h124
            apply And.intro
            · intro h129
              have h129 : ¬ what.toInt = 3 := h129
              apply And.intro
              · intro h140
                have h140 : 2 ≤ many.toInt := h140
                intro z153 q153 _ hq153 hl153 hu153
                have hq153 : z153.toInt = 2 * 2 + 4294967296 * q153 := hq153
                try have hz153 : z153.toInt = 2 * 2 := by omega
                apply And.intro
                · intro h156
                  have h156 : 3 ≤ what.toInt := h156
                  intro z164 q164 _ hq164 hl164 hu164
                  have hq164 : z164.toInt = z153.toInt - 1 + 4294967296 * q164 := hq164
                  try have hz164 : z164.toInt = z153.toInt - 1 := by omega
                  refine And.intro (show f_in z164 4 from ⟨show 0 ≤ z164.toInt from by omega, show z164.toInt < 4 from by omega⟩) ?_
                  exact ⟨hR110c, hmL110c, hmK110c, hmW110c, hO110c, hF110c, rfl⟩
                · intro h156
                  have h156 : what.toInt < 3 := h156
                  intro z164 q164 _ hq164 hl164 hu164
                  have hq164 : z164.toInt = z153.toInt - 2 + 4294967296 * q164 := hq164
                  try have hz164 : z164.toInt = z153.toInt - 2 := by omega
                  refine And.intro (show f_in z164 4 from ⟨show 0 ≤ z164.toInt from by omega, show z164.toInt < 4 from by omega⟩) ?_
                  exact ⟨hR110c, hmL110c, hmK110c, hmW110c, hO110c, hF110c, rfl⟩
              · intro h140
                have h140 : many.toInt < 2 := h140
                exact ⟨hR110c, hmL110c, hmK110c, hmW110c, hO110c, hF110c, rfl⟩
            · intro h129
              have h129 : what.toInt = 3 := h129
              apply And.intro
              · intro h140
                have h140 : 1 ≤ many.toInt := h140
                intro z153 q153 _ hq153 hl153 hu153
                have hq153 : z153.toInt = 2 * 1 + 4294967296 * q153 := hq153
                try have hz153 : z153.toInt = 2 * 1 := by omega
                apply And.intro
                · intro h156
                  have h156 : 3 ≤ what.toInt := h156
                  intro z164 q164 _ hq164 hl164 hu164
                  have hq164 : z164.toInt = z153.toInt - 1 + 4294967296 * q164 := hq164
                  try have hz164 : z164.toInt = z153.toInt - 1 := by omega
                  refine And.intro (show f_in z164 4 from ⟨show 0 ≤ z164.toInt from by omega, show z164.toInt < 4 from by omega⟩) ?_
                  exact ⟨hR110c, hmL110c, hmK110c, hmW110c, hO110c, hF110c, rfl⟩
                · intro h156
                  have h156 : what.toInt < 3 := h156
                  intro z164 q164 _ hq164 hl164 hu164
                  have hq164 : z164.toInt = z153.toInt - 2 + 4294967296 * q164 := hq164
                  try have hz164 : z164.toInt = z153.toInt - 2 := by omega
                  refine And.intro (show f_in z164 4 from ⟨show 0 ≤ z164.toInt from by omega, show z164.toInt < 4 from by omega⟩) ?_
                  exact ⟨hR110c, hmL110c, hmK110c, hmW110c, hO110c, hF110c, rfl⟩
              · intro h140
                have h140 : many.toInt < 1 := h140
                exact ⟨hR110c, hmL110c, hmK110c, hmW110c, hO110c, hF110c, rfl⟩
        · intro h117
          have h117 : what.toInt = 0 := h117
          exact ⟨hR110c, hmL110c, hmK110c, hmW110c, hO110c, hF110c, rfl⟩
      · intro h111
        have h111 : many.toInt < 0 := h111
        exact ⟨hR110c, hmL110c, hmK110c, hmW110c, hO110c, hF110c, rfl⟩
    have lp90 : ∀ (many : Int32) (J90 : fM), mR J90 ∧ f_fr [0, 21, 22, 23, 24, 25, 26, 27, 28, 29, 30, 31, 32, 33, 34, 35, 36, 37, 38, 39, 40, 41, 42, 43, 44, 54, 55] I J90 ∧ f_fo [45, 46, 47, 48, 53, 54, 55, 59] I J90 ∧ mL J90 ∧ mK J90 ∧ mW J90 ∧ (0 ≤ what.toInt) ∧ (what.toInt ≤ 4) ∧ (many.toInt = -1) ∧ (gr J90 (I 0 30).toInt (I 9 (I 0 24).toInt.toNat).toInt) → f_W pP l eP (f_rm 7) sP mP aP bP hP9 cP mY 71 a cy dC dI 4 (f_K 1 (qX12_added [.ref 0, .int what] I L)) 90 [(2, .int many), (1, .int what), (0, .ref 0)] [] J90 L := by
      intro many J90 h9
      obtain ⟨hR90c, hF90c, hO90c, hmL90c, hmK90c, hmW90c, u90_1, u90_2, u90_3, u90_4⟩ := h9
      have h90 : (J90 0 30).toInt = (I 0 30).toInt := congrArg Int32.toInt (hO90c 30 rfl)
      have e90 : (J90 9 (J90 0 24).toInt.toNat).toInt = (I 9 (I 0 24).toInt.toNat).toInt := by rw [hO90c 24 rfl, hF90c 9 rfl]
      refine f_wp_ok C f_cl flX12_ok fiX12_ok fjX12_ok (sn := none) (fun j h => by cases h) (cs := (f_cnl [(510, (2, 3, 11, pX12_isGrown, qX12_isGrown)), (516, (3, 3, 11, pX12_addsOne, qX12_addsOne)), (519, (1, 3, 11, pX12_addsTwo, qX12_addsTwo))])) (cz := (f_cnl [(366, (3, 3, 11, pX12_isIn, qX12_isIn))])) (f_cnl_of (P := fun j S => f_cok pP l eP (f_rm 7) sP mP aP bP hP9 cP mY 71 a cy dC dI 4 _ _ (.invokevirtual j) true S) (List.forall_mem_cons.mpr ⟨f_cokV C (mX12_isGrown hinj) (ci := 11) rfl (List.forall_mem_cons.mpr ⟨(mlX12_ok _ (List.mem_of_getElem? (i := 62) rfl)), kc_X12_isGrown⟩) (by decide +kernel) ⟨Nat.le_of_ble_eq_true rfl, Nat.le_of_ble_eq_true rfl⟩, List.forall_mem_cons.mpr ⟨f_cokV C (mX12_addsOne hinj) (ci := 11) rfl (List.forall_mem_cons.mpr ⟨(mlX12_ok _ (List.mem_of_getElem? (i := 64) rfl)), kc_X12_addsOne⟩) (by decide +kernel) ⟨Nat.le_of_ble_eq_true rfl, Nat.le_of_ble_eq_true rfl⟩, List.forall_mem_cons.mpr ⟨f_cokV C (mX12_addsTwo hinj) (ci := 11) rfl (List.forall_mem_cons.mpr ⟨(mlX12_ok _ (List.mem_of_getElem? (i := 65) rfl)), kc_X12_addsTwo⟩) (by decide +kernel) ⟨Nat.le_of_ble_eq_true rfl, Nat.le_of_ble_eq_true rfl⟩, fun _ h => absurd h List.not_mem_nil⟩⟩⟩)) (f_cnl_of (P := fun j S => f_cok pP l eP (f_rm 7) sP mP aP bP hP9 cP mY 71 a cy dC dI 4 _ _ (.invokestatic j) false S) (List.forall_mem_cons.mpr ⟨f_cokS C (mX12_isIn hinj) (List.forall_mem_cons.mpr ⟨(mlX12_ok _ (List.mem_of_getElem? (i := 27) rfl)), kc_X12_isIn⟩) (by decide +kernel) ⟨Nat.le_of_ble_eq_true rfl, Nat.le_of_ble_eq_true rfl⟩, fun _ h => absurd h List.not_mem_nil⟩)) tX12_added_ok (cut := (f_cnl [(110, (fun (ls' : fLs) (st' : List Value) (I' : fM) (L' : fN) => ∃ many : Int32, (∀ q ∈ ([(2, .int many), (1, .int what), (0, .ref 0)] : fLs), q ∈ ls') ∧ st' = [] ∧ L' = L ∧ (mR I' ∧ f_fr [0, 21, 22, 23, 24, 25, 26, 27, 28, 29, 30, 31, 32, 33, 34, 35, 36, 37, 38, 39, 40, 41, 42, 43, 44, 54, 55] I I' ∧ f_fo [45, 46, 47, 48, 53, 54, 55, 59] I I' ∧ mL I' ∧ mK I' ∧ mW I' ∧ (0 ≤ what.toInt) ∧ (what.toInt ≤ 4) ∧ (-1 ≤ many.toInt) ∧ (many.toInt ≤ 2))))])) (f_cnl_of (P := fun (tQ : Nat) (P : fLs → List Value → fM → fN → Prop) => ∀ ls' st' I' L', P ls' st' I' L' → f_W pP l eP (f_rm 7) sP mP aP bP hP9 cP mY 71 a cy dC dI 4 (f_K 1 (qX12_added [.ref 0, .int what] I L)) tQ ls' st' I' L') (List.forall_mem_cons.mpr ⟨(fun ls' st' I' L' h => by obtain ⟨many, hs, e1, e3, h9⟩ := h; rw [e1, e3]; exact f_W_sub hs (lp110 many I' h9)), fun _ h => absurd h List.not_mem_nil⟩)) 14 90 (f_seek 90 0 tX12_added) (f_seek_ok 90 0 tX12_added tX12_added_ok) _ _ _ _ ?_
      have r91_1 : 0 ≤ (J90 0 30).toInt ∧ (J90 0 30).toInt ≤ 8 := hR90c 0 30
      have e91_2 : (J90 0 30).toInt = (I 0 30).toInt := congrArg Int32.toInt (hO90c 30 rfl)
      intro z95 q95 _ hq95 hl95 hu95
      have hq95 : z95.toInt = (J90 0 30).toInt + 1 + 4294967296 * q95 := hq95
      try have hz95 : z95.toInt = (J90 0 30).toInt + 1 := by omega
      apply And.intro
      · intro h98
        have h98 : 8 ≤ z95.toInt := h98
        exact ⟨many, (by intro q9 h9; simp only [List.mem_cons, List.not_mem_nil, or_false] at h9; rcases h9 with h9 | h9 | h9 <;> subst h9 <;> repeat (first | exact List.mem_cons_self | apply List.mem_cons_of_mem)), rfl, rfl, hR90c, hF90c, hO90c, hmL90c, hmK90c, hmW90c, (show 0 ≤ what.toInt from by first | assumption | omega), (show what.toInt ≤ 4 from by first | assumption | omega), (show -1 ≤ many.toInt from by first | assumption | omega), (show many.toInt ≤ 2 from by first | assumption | omega)⟩
      · intro h98
        have h98 : z95.toInt < 8 := h98
        refine And.intro ⟨hR90c, hmL90c, hmK90c, hmW90c, (show (J90 0 30).toInt ≤ 6 from by first | assumption | omega), (show gr J90 (J90 0 30).toInt (J90 9 (J90 0 24).toInt.toNat).toInt from by rw [e90, h90]; exact u90_4)⟩ ?_
        intro x102 I102 L102 hq102
        have hq102 : mR I102 ∧ mL I102 ∧ mK I102 ∧ mW I102 ∧ f_fo [45, 46, 47, 48, 53, 54, 55, 59] J90 I102 ∧ f_fr [0, 21, 22, 23, 24, 25, 26, 27, 28, 29, 30, 31, 32, 33, 34, 35, 36, 37, 38, 39, 40, 41, 42, 43, 44, 54, 55] J90 I102 ∧ L102 = L ∧ ((x102.toInt = 0 ∨ x102.toInt = 1)) := hq102
        obtain ⟨c102_0, c102_1, c102_2, c102_3, c102_4, c102_5, eL102, c102_7⟩ := hq102
        replace eL102 := eL102.symm
        subst eL102
        have hO102 := f_fo_tr hO90c c102_4 rfl
        have hF102 := f_fr_tr hF90c c102_5 rfl
        apply And.intro
        · intro h105
          have h105 : x102.toInt = 0 := h105
          exact ⟨many, (by intro q9 h9; simp only [List.mem_cons, List.not_mem_nil, or_false] at h9; rcases h9 with h9 | h9 | h9 <;> subst h9 <;> repeat (first | exact List.mem_cons_self | apply List.mem_cons_of_mem)), rfl, rfl, c102_0, hF102, hO102, c102_1, c102_2, c102_3, (show 0 ≤ what.toInt from by first | assumption | omega), (show what.toInt ≤ 4 from by first | assumption | omega), (show -1 ≤ many.toInt from by first | assumption | omega), (show many.toInt ≤ 2 from by first | assumption | omega)⟩
        · intro h105
          have h105 : ¬ x102.toInt = 0 := h105
          exact ⟨Int32.ofInt 2, (by intro q9 h9; simp only [List.mem_cons, List.not_mem_nil, or_false] at h9; rcases h9 with h9 | h9 | h9 <;> subst h9 <;> repeat (first | exact List.mem_cons_self | apply List.mem_cons_of_mem)), rfl, rfl, c102_0, hF102, hO102, c102_1, c102_2, c102_3, (show 0 ≤ what.toInt from by first | assumption | omega), (show what.toInt ≤ 4 from by first | assumption | omega), (show -1 ≤ (2 : Int) from by first | assumption | omega), (show (2 : Int) ≤ 2 from by first | assumption | omega)⟩
    have lp20 : ∀ (n20 : Nat), ∀ (i : Int32) (J20 : fM), mR J20 ∧ f_fr [0, 21, 22, 23, 24, 25, 26, 27, 28, 29, 30, 31, 32, 33, 34, 35, 36, 37, 38, 39, 40, 41, 42, 43, 44, 54, 55] I J20 ∧ f_fo [45, 46, 47, 48, 53, 54, 55, 59] I J20 ∧ mL J20 ∧ mK J20 ∧ mW J20 ∧ (0 ≤ what.toInt) ∧ (what.toInt ≤ 4) ∧ (0 ≤ i.toInt) ∧ (i.toInt ≤ (I 0 30).toInt) ∧ (gr J20 i.toInt (I 9 (I 0 24).toInt.toNat).toInt) ∧ ((I 0 30).toInt - i.toInt) < n20 → f_W pP l eP (f_rm 7) sP mP aP bP hP9 cP mY 71 a cy dC dI 4 (f_K 1 (qX12_added [.ref 0, .int what] I L)) 20 [(2, .int i), (1, .int what), (0, .ref 0)] [] J20 L := by
      intro n20
      induction n20 with
      | zero =>
        intro i J20 h9
        obtain ⟨hR20c, hF20c, hO20c, hmL20c, hmK20c, hmW20c, u20_1, u20_2, u20_3, u20_4, u20_5, hm20⟩ := h9
        omega
      | succ n20 ih20 =>
        intro i J20 h9
        obtain ⟨hR20c, hF20c, hO20c, hmL20c, hmK20c, hmW20c, u20_1, u20_2, u20_3, u20_4, u20_5, hm20⟩ := h9
        have f20 : (J20 0 30).toInt = (I 0 30).toInt := congrArg Int32.toInt (hO20c 30 rfl)
        have e20 : (J20 9 (J20 0 24).toInt.toNat).toInt = (I 9 (I 0 24).toInt.toNat).toInt := by rw [hO20c 24 rfl, hF20c 9 rfl]
        refine f_wp_ok C f_cl flX12_ok fiX12_ok fjX12_ok (sn := none) (fun j h => by cases h) (cs := (f_cnl [(510, (2, 3, 11, pX12_isGrown, qX12_isGrown)), (516, (3, 3, 11, pX12_addsOne, qX12_addsOne)), (519, (1, 3, 11, pX12_addsTwo, qX12_addsTwo))])) (cz := (f_cnl [(366, (3, 3, 11, pX12_isIn, qX12_isIn))])) (f_cnl_of (P := fun j S => f_cok pP l eP (f_rm 7) sP mP aP bP hP9 cP mY 71 a cy dC dI 4 _ _ (.invokevirtual j) true S) (List.forall_mem_cons.mpr ⟨f_cokV C (mX12_isGrown hinj) (ci := 11) rfl (List.forall_mem_cons.mpr ⟨(mlX12_ok _ (List.mem_of_getElem? (i := 62) rfl)), kc_X12_isGrown⟩) (by decide +kernel) ⟨Nat.le_of_ble_eq_true rfl, Nat.le_of_ble_eq_true rfl⟩, List.forall_mem_cons.mpr ⟨f_cokV C (mX12_addsOne hinj) (ci := 11) rfl (List.forall_mem_cons.mpr ⟨(mlX12_ok _ (List.mem_of_getElem? (i := 64) rfl)), kc_X12_addsOne⟩) (by decide +kernel) ⟨Nat.le_of_ble_eq_true rfl, Nat.le_of_ble_eq_true rfl⟩, List.forall_mem_cons.mpr ⟨f_cokV C (mX12_addsTwo hinj) (ci := 11) rfl (List.forall_mem_cons.mpr ⟨(mlX12_ok _ (List.mem_of_getElem? (i := 65) rfl)), kc_X12_addsTwo⟩) (by decide +kernel) ⟨Nat.le_of_ble_eq_true rfl, Nat.le_of_ble_eq_true rfl⟩, fun _ h => absurd h List.not_mem_nil⟩⟩⟩)) (f_cnl_of (P := fun j S => f_cok pP l eP (f_rm 7) sP mP aP bP hP9 cP mY 71 a cy dC dI 4 _ _ (.invokestatic j) false S) (List.forall_mem_cons.mpr ⟨f_cokS C (mX12_isIn hinj) (List.forall_mem_cons.mpr ⟨(mlX12_ok _ (List.mem_of_getElem? (i := 27) rfl)), kc_X12_isIn⟩) (by decide +kernel) ⟨Nat.le_of_ble_eq_true rfl, Nat.le_of_ble_eq_true rfl⟩, fun _ h => absurd h List.not_mem_nil⟩)) tX12_added_ok (cut := (f_cnl [(20, (fun (ls' : fLs) (st' : List Value) (I' : fM) (L' : fN) => ∃ i : Int32, (∀ q ∈ ([(2, .int i), (1, .int what), (0, .ref 0)] : fLs), q ∈ ls') ∧ st' = [] ∧ L' = L ∧ (mR I' ∧ f_fr [0, 21, 22, 23, 24, 25, 26, 27, 28, 29, 30, 31, 32, 33, 34, 35, 36, 37, 38, 39, 40, 41, 42, 43, 44, 54, 55] I I' ∧ f_fo [45, 46, 47, 48, 53, 54, 55, 59] I I' ∧ mL I' ∧ mK I' ∧ mW I' ∧ (0 ≤ what.toInt) ∧ (what.toInt ≤ 4) ∧ (0 ≤ i.toInt) ∧ (i.toInt ≤ (I 0 30).toInt) ∧ (gr I' i.toInt (I 9 (I 0 24).toInt.toNat).toInt) ∧ ((I 0 30).toInt - i.toInt) < n20))), (90, (fun (ls' : fLs) (st' : List Value) (I' : fM) (L' : fN) => ∃ many : Int32, (∀ q ∈ ([(2, .int many), (1, .int what), (0, .ref 0)] : fLs), q ∈ ls') ∧ st' = [] ∧ L' = L ∧ (mR I' ∧ f_fr [0, 21, 22, 23, 24, 25, 26, 27, 28, 29, 30, 31, 32, 33, 34, 35, 36, 37, 38, 39, 40, 41, 42, 43, 44, 54, 55] I I' ∧ f_fo [45, 46, 47, 48, 53, 54, 55, 59] I I' ∧ mL I' ∧ mK I' ∧ mW I' ∧ (0 ≤ what.toInt) ∧ (what.toInt ≤ 4) ∧ (many.toInt = -1) ∧ (gr I' (I 0 30).toInt (I 9 (I 0 24).toInt.toNat).toInt)))), (110, (fun (ls' : fLs) (st' : List Value) (I' : fM) (L' : fN) => ∃ many : Int32, (∀ q ∈ ([(2, .int many), (1, .int what), (0, .ref 0)] : fLs), q ∈ ls') ∧ st' = [] ∧ L' = L ∧ (mR I' ∧ f_fr [0, 21, 22, 23, 24, 25, 26, 27, 28, 29, 30, 31, 32, 33, 34, 35, 36, 37, 38, 39, 40, 41, 42, 43, 44, 54, 55] I I' ∧ f_fo [45, 46, 47, 48, 53, 54, 55, 59] I I' ∧ mL I' ∧ mK I' ∧ mW I' ∧ (0 ≤ what.toInt) ∧ (what.toInt ≤ 4) ∧ (-1 ≤ many.toInt) ∧ (many.toInt ≤ 2))))])) (f_cnl_of (P := fun (tQ : Nat) (P : fLs → List Value → fM → fN → Prop) => ∀ ls' st' I' L', P ls' st' I' L' → f_W pP l eP (f_rm 7) sP mP aP bP hP9 cP mY 71 a cy dC dI 4 (f_K 1 (qX12_added [.ref 0, .int what] I L)) tQ ls' st' I' L') (List.forall_mem_cons.mpr ⟨(fun ls' st' I' L' h => by obtain ⟨i, hs, e1, e3, h9⟩ := h; rw [e1, e3]; exact f_W_sub hs (ih20 i I' h9)), List.forall_mem_cons.mpr ⟨(fun ls' st' I' L' h => by obtain ⟨many, hs, e1, e3, h9⟩ := h; rw [e1, e3]; exact f_W_sub hs (lp90 many I' h9)), List.forall_mem_cons.mpr ⟨(fun ls' st' I' L' h => by obtain ⟨many, hs, e1, e3, h9⟩ := h; rw [e1, e3]; exact f_W_sub hs (lp110 many I' h9)), fun _ h => absurd h List.not_mem_nil⟩⟩⟩)) 27 20 (f_seek 20 0 tX12_added) (f_seek_ok 20 0 tX12_added tX12_added_ok) _ _ _ _ ?_
        have r22_1 : 0 ≤ (J20 0 30).toInt ∧ (J20 0 30).toInt ≤ 8 := hR20c 0 30
        have e22_2 : (J20 0 30).toInt = (I 0 30).toInt := congrArg Int32.toInt (hO20c 30 rfl)
        apply And.intro
        · intro h25
          have h25 : (J20 0 30).toInt ≤ i.toInt := h25
          have h46 : gr J20 (J20 0 30).toInt (J20 9 (J20 0 24).toInt.toNat).toInt := by rw [e20, f20]; exact fun k hk => u20_5 k (by omega)
          have k46 : gr J20 (I 0 30).toInt (I 9 (I 0 24).toInt.toNat).toInt := fun k hk => u20_5 k (by omega)
          have r53_3 : 0 ≤ (J20 9 ((J20 0 24).toInt.toNat)).toInt ∧ (J20 9 ((J20 0 24).toInt.toNat)).toInt ≤ 12 := hR20c 9 ((J20 0 24).toInt.toNat)
          have e53_4 : (J20 9 ((J20 0 24).toInt.toNat)).toInt = (J20 9 ((I 0 24).toInt.toNat)).toInt := by rw [(hO20c 24 rfl)]
          have e53_5 : (J20 9 ((I 0 24).toInt.toNat)).toInt = (I 9 ((I 0 24).toInt.toNat)).toInt := congrArg Int32.toInt (congrFun (hF20c 9 rfl) ((I 0 24).toInt.toNat))
          have r53_6 : 0 ≤ (J20 0 24).toInt ∧ (J20 0 24).toInt ≤ 1 := hR20c 0 24
          have e53_7 : (J20 0 24).toInt = (I 0 24).toInt := congrArg Int32.toInt (hO20c 24 rfl)
          refine And.intro ⟨hR20c, hmL20c, hmK20c, hmW20c, (show 0 ≤ (J20 0 30).toInt from by first | assumption | omega), (show (J20 0 30).toInt ≤ 8 from by first | assumption | omega), (show gr J20 (J20 0 30).toInt (J20 9 (J20 0 24).toInt.toNat).toInt from by first | assumption | omega)⟩ ?_
          intro x53 I53 L53 hq53
          have hq53 : mR I53 ∧ mL I53 ∧ mK I53 ∧ mW I53 ∧ f_fo [45, 46, 47, 48, 53, 54, 55, 59] J20 I53 ∧ f_fr [0, 21, 22, 23, 24, 25, 26, 27, 28, 29, 30, 31, 32, 33, 34, 35, 36, 37, 38, 39, 40, 41, 42, 43, 44] J20 I53 ∧ L53 = L ∧ ((x53.toInt = 0 ∨ x53.toInt = 1)) := hq53
          obtain ⟨c53_0, c53_1, c53_2, c53_3, c53_4, c53_5, eL53, c53_7⟩ := hq53
          replace eL53 := eL53.symm
          subst eL53
          have hO53 := f_fo_tr hO20c c53_4 rfl
          have hF53 := f_fr_tr hF20c c53_5 rfl
          have h53 : I53 0 30 = I 0 30 := hO53 30 rfl
          have j53 : (I53 0 30).toInt = (I 0 30).toInt := by rw [h53]
          have g53 : gr I53 (I 0 30).toInt (I 9 (I 0 24).toInt.toNat).toInt := gr_eq (c53_5 54 rfl) k46
          have e53 : (I53 9 (I53 0 24).toInt.toNat).toInt = (I 9 (I 0 24).toInt.toNat).toInt := by rw [hO53 24 rfl, hF53 9 rfl]
          apply And.intro
          · intro h56
            have h56 : x53.toInt = 0 := h56
            have r65_8 : 0 ≤ (I53 0 30).toInt ∧ (I53 0 30).toInt ≤ 8 := c53_0 0 30
            have e65_9 : (I53 0 30).toInt = (J20 0 30).toInt := congrArg Int32.toInt (c53_4 30 rfl)
            apply And.intro
            · intro h70
              have h70 : 8 ≤ (I53 0 30).toInt := h70
              have cn90_many : (Int32.ofInt (-1)).toInt = -1 := rfl
              exact ⟨Int32.ofInt (-1), (by intro q9 h9; simp only [List.mem_cons, List.not_mem_nil, or_false] at h9; rcases h9 with h9 | h9 | h9 <;> subst h9 <;> repeat (first | exact List.mem_cons_self | apply List.mem_cons_of_mem)), rfl, rfl, c53_0, hF53, hO53, c53_1, c53_2, c53_3, (show 0 ≤ what.toInt from by first | assumption | omega), (show what.toInt ≤ 4 from by first | assumption | omega), (show (Int32.ofInt (-1)).toInt = -1 from by first | assumption | omega | rfl), (show gr I53 (I 0 30).toInt (I 9 (I 0 24).toInt.toNat).toInt from by first | assumption | omega)⟩
            · intro h70
              have h70 : (I53 0 30).toInt < 8 := h70
              refine And.intro ⟨c53_0, c53_1, c53_2, c53_3, (show 0 ≤ (I53 0 30).toInt from by first | assumption | omega), (show (I53 0 30).toInt ≤ 7 from by first | assumption | omega), (show ((0 : Int) = 0 ∨ (0 : Int) = 2) from by first | assumption | omega | rfl), (show gr I53 (I53 0 30).toInt (I53 9 (I53 0 24).toInt.toNat).toInt from by rw [e53, j53]; exact g53)⟩ ?_
              intro x79 I79 L79 hq79
              have hq79 : mR I79 ∧ mL I79 ∧ mK I79 ∧ mW I79 ∧ f_fo [45, 46, 47, 48, 53, 54, 55, 59] I53 I79 ∧ f_fr [0, 21, 22, 23, 24, 25, 26, 27, 28, 29, 30, 31, 32, 33, 34, 35, 36, 37, 38, 39, 40, 41, 42, 43, 44, 54, 55] I53 I79 ∧ L79 = L ∧ ((x79.toInt = 0 ∨ x79.toInt = 1)) ∧ gr I79 (I53 0 30).toInt (I53 9 (I53 0 24).toInt.toNat).toInt := hq79
              obtain ⟨c79_0, c79_1, c79_2, c79_3, c79_4, c79_5, eL79, c79_7, c79_8⟩ := hq79
              replace eL79 := eL79.symm
              subst eL79
              have hO79 := f_fo_tr hO53 c79_4 rfl
              have hF79 := f_fr_tr hF53 c79_5 rfl
              have e79_10 : (I53 9 ((I53 0 24).toInt.toNat)).toInt = (I53 9 ((I 0 24).toInt.toNat)).toInt := by rw [(hO53 24 rfl)]
              have e79_11 : (I53 9 ((I 0 24).toInt.toNat)).toInt = (J20 9 ((I 0 24).toInt.toNat)).toInt := congrArg Int32.toInt (congrFun (c53_5 9 rfl) ((I 0 24).toInt.toNat))
              have e79_12 : (I53 0 24).toInt = (J20 0 24).toInt := congrArg Int32.toInt (c53_4 24 rfl)
              have g79 : gr I79 (I 0 30).toInt (I 9 (I 0 24).toInt.toNat).toInt := by
                have q := c79_8
                rw [e53, j53] at q
                exact q
              apply And.intro
              · intro h82
                have h82 : x79.toInt = 0 := h82
                have cn90_many : (Int32.ofInt (-1)).toInt = -1 := rfl
                exact ⟨Int32.ofInt (-1), (by intro q9 h9; simp only [List.mem_cons, List.not_mem_nil, or_false] at h9; rcases h9 with h9 | h9 | h9 <;> subst h9 <;> repeat (first | exact List.mem_cons_self | apply List.mem_cons_of_mem)), rfl, rfl, c79_0, hF79, hO79, c79_1, c79_2, c79_3, (show 0 ≤ what.toInt from by first | assumption | omega), (show what.toInt ≤ 4 from by first | assumption | omega), (show (Int32.ofInt (-1)).toInt = -1 from by first | assumption | omega | rfl), (show gr I79 (I 0 30).toInt (I 9 (I 0 24).toInt.toNat).toInt from by first | assumption | omega)⟩
              · intro h82
                have h82 : ¬ x79.toInt = 0 := h82
                exact ⟨Int32.ofInt 1, (by intro q9 h9; simp only [List.mem_cons, List.not_mem_nil, or_false] at h9; rcases h9 with h9 | h9 | h9 <;> subst h9 <;> repeat (first | exact List.mem_cons_self | apply List.mem_cons_of_mem)), rfl, rfl, c79_0, hF79, hO79, c79_1, c79_2, c79_3, (show 0 ≤ what.toInt from by first | assumption | omega), (show what.toInt ≤ 4 from by first | assumption | omega), (show -1 ≤ (1 : Int) from by first | assumption | omega), (show (1 : Int) ≤ 2 from by first | assumption | omega)⟩
          · intro h56
            have h56 : ¬ x53.toInt = 0 := h56
            exact ⟨Int32.ofInt 0, (by intro q9 h9; simp only [List.mem_cons, List.not_mem_nil, or_false] at h9; rcases h9 with h9 | h9 | h9 <;> subst h9 <;> repeat (first | exact List.mem_cons_self | apply List.mem_cons_of_mem)), rfl, rfl, c53_0, hF53, hO53, c53_1, c53_2, c53_3, (show 0 ≤ what.toInt from by first | assumption | omega), (show what.toInt ≤ 4 from by first | assumption | omega), (show -1 ≤ (0 : Int) from by first | assumption | omega), (show (0 : Int) ≤ 2 from by first | assumption | omega)⟩
        · intro h25
          have h25 : i.toInt < (J20 0 30).toInt := h25
          refine And.intro (show f_in i 8 from ⟨show 0 ≤ i.toInt from by omega, show i.toInt < 8 from by omega⟩) ?_
          have r38_3 : 0 ≤ (J20 19 (i.toInt.toNat)).toInt ∧ (J20 19 (i.toInt.toNat)).toInt ≤ 11 := hR20c 19 (i.toInt.toNat)
          have e38_4 : (J20 19 (i.toInt.toNat)).toInt = (I 19 (i.toInt.toNat)).toInt := congrArg Int32.toInt (congrFun (hF20c 19 rfl) (i.toInt.toNat))
          refine And.intro (show f_in i 10 from ⟨show 0 ≤ i.toInt from by omega, show i.toInt < 10 from by omega⟩) ?_
          have hR39 := mR_a (k := 54) (j := i.toInt.toNat) (x := J20 19 (i.toInt.toNat)) hR20c (show 0 ≤ (J20 19 (i.toInt.toNat)).toInt ∧ (J20 19 (i.toInt.toNat)).toInt ≤ 11 from ⟨by omega, by omega⟩)
          have hF39 := f_fr_up (k := 54) (r := upd (J20 54) (i.toInt.toNat) (J20 19 (i.toInt.toNat))) hF20c rfl
          have hO39 := f_fo_ne (k := 54) (r := upd (J20 54) (i.toInt.toNat) (J20 19 (i.toInt.toNat))) hO20c (by decide)
          have hmL39 := f_depo_up mL_dep (k := 54) (r := upd (J20 54) (i.toInt.toNat) (J20 19 (i.toInt.toNat))) hmL20c rfl (by decide)
          have hmK39 := f_depo_up mK_dep (k := 54) (r := upd (J20 54) (i.toInt.toNat) (J20 19 (i.toInt.toNat))) hmK20c rfl (by decide)
          have hmW39 := f_depo_up mW_dep (k := 54) (r := upd (J20 54) (i.toInt.toNat) (J20 19 (i.toInt.toNat))) hmW20c rfl (by decide)
          intro z40 q40 _ hq40 hl40 hu40
          have hq40 : z40.toInt = i.toInt + 1 + 4294967296 * q40 := hq40
          try have hz40 : z40.toInt = i.toInt + 1 := by omega
          have g40 : gr (va_up J20 54 (upd (J20 54) (i.toInt.toNat) (J20 19 (i.toInt.toNat)))) z40.toInt (I 9 (I 0 24).toInt.toNat).toInt := fun k hk => by
            show ((upd (J20 54) i.toInt.toNat (J20 19 i.toInt.toNat)) k).toInt < _
            by_cases q : k = i.toInt.toNat
            · rw [q, pk_us, ← e20]; exact hmW20c.1 i.toInt.toNat (by omega)
            · rw [pk_un q]; exact u20_5 k (by omega)
          exact ⟨z40, (by intro q9 h9; simp only [List.mem_cons, List.not_mem_nil, or_false] at h9; rcases h9 with h9 | h9 | h9 <;> subst h9 <;> repeat (first | exact List.mem_cons_self | apply List.mem_cons_of_mem)), rfl, rfl, hR39, hF39, hO39, hmL39, hmK39, hmW39, (show 0 ≤ what.toInt from by first | assumption | omega), (show what.toInt ≤ 4 from by first | assumption | omega), (show 0 ≤ z40.toInt from by first | assumption | omega), (show z40.toInt ≤ (I 0 30).toInt from by first | assumption | omega), (show gr (va_up J20 54 (upd (J20 54) (i.toInt.toNat) (J20 19 (i.toInt.toNat)))) z40.toInt (I 9 (I 0 24).toInt.toNat).toInt from by first | assumption | omega), (show ((I 0 30).toInt - z40.toInt) < n20 from by omega)⟩
    refine f_wp_ok C f_cl flX12_ok fiX12_ok fjX12_ok (sn := none) (fun j h => by cases h) (cs := (f_cnl [(510, (2, 3, 11, pX12_isGrown, qX12_isGrown)), (516, (3, 3, 11, pX12_addsOne, qX12_addsOne)), (519, (1, 3, 11, pX12_addsTwo, qX12_addsTwo))])) (cz := (f_cnl [(366, (3, 3, 11, pX12_isIn, qX12_isIn))])) (f_cnl_of (P := fun j S => f_cok pP l eP (f_rm 7) sP mP aP bP hP9 cP mY 71 a cy dC dI 4 _ _ (.invokevirtual j) true S) (List.forall_mem_cons.mpr ⟨f_cokV C (mX12_isGrown hinj) (ci := 11) rfl (List.forall_mem_cons.mpr ⟨(mlX12_ok _ (List.mem_of_getElem? (i := 62) rfl)), kc_X12_isGrown⟩) (by decide +kernel) ⟨Nat.le_of_ble_eq_true rfl, Nat.le_of_ble_eq_true rfl⟩, List.forall_mem_cons.mpr ⟨f_cokV C (mX12_addsOne hinj) (ci := 11) rfl (List.forall_mem_cons.mpr ⟨(mlX12_ok _ (List.mem_of_getElem? (i := 64) rfl)), kc_X12_addsOne⟩) (by decide +kernel) ⟨Nat.le_of_ble_eq_true rfl, Nat.le_of_ble_eq_true rfl⟩, List.forall_mem_cons.mpr ⟨f_cokV C (mX12_addsTwo hinj) (ci := 11) rfl (List.forall_mem_cons.mpr ⟨(mlX12_ok _ (List.mem_of_getElem? (i := 65) rfl)), kc_X12_addsTwo⟩) (by decide +kernel) ⟨Nat.le_of_ble_eq_true rfl, Nat.le_of_ble_eq_true rfl⟩, fun _ h => absurd h List.not_mem_nil⟩⟩⟩)) (f_cnl_of (P := fun j S => f_cok pP l eP (f_rm 7) sP mP aP bP hP9 cP mY 71 a cy dC dI 4 _ _ (.invokestatic j) false S) (List.forall_mem_cons.mpr ⟨f_cokS C (mX12_isIn hinj) (List.forall_mem_cons.mpr ⟨(mlX12_ok _ (List.mem_of_getElem? (i := 27) rfl)), kc_X12_isIn⟩) (by decide +kernel) ⟨Nat.le_of_ble_eq_true rfl, Nat.le_of_ble_eq_true rfl⟩, fun _ h => absurd h List.not_mem_nil⟩)) tX12_added_ok (cut := (f_cnl [(20, (fun (ls' : fLs) (st' : List Value) (I' : fM) (L' : fN) => ∃ i : Int32, (∀ q ∈ ([(2, .int i), (1, .int what), (0, .ref 0)] : fLs), q ∈ ls') ∧ st' = [] ∧ L' = L ∧ (mR I' ∧ f_fr [0, 21, 22, 23, 24, 25, 26, 27, 28, 29, 30, 31, 32, 33, 34, 35, 36, 37, 38, 39, 40, 41, 42, 43, 44, 54, 55] I I' ∧ f_fo [45, 46, 47, 48, 53, 54, 55, 59] I I' ∧ mL I' ∧ mK I' ∧ mW I' ∧ (0 ≤ what.toInt) ∧ (what.toInt ≤ 4) ∧ (0 ≤ i.toInt) ∧ (i.toInt ≤ (I 0 30).toInt) ∧ (gr I' i.toInt (I 9 (I 0 24).toInt.toNat).toInt) ∧ ((I 0 30).toInt - i.toInt) < 9)))])) (f_cnl_of (P := fun (tQ : Nat) (P : fLs → List Value → fM → fN → Prop) => ∀ ls' st' I' L', P ls' st' I' L' → f_W pP l eP (f_rm 7) sP mP aP bP hP9 cP mY 71 a cy dC dI 4 (f_K 1 (qX12_added [.ref 0, .int what] I L)) tQ ls' st' I' L') (List.forall_mem_cons.mpr ⟨(fun ls' st' I' L' h => by obtain ⟨i, hs, e1, e3, h9⟩ := h; rw [e1, e3]; exact f_W_sub hs (lp20 9 i I' h9)), fun _ h => absurd h List.not_mem_nil⟩)) 13 0 tX12_added tX12_added_ok _ _ _ _ ?_
    have r1_1 : 0 ≤ (I 0 30).toInt ∧ (I 0 30).toInt ≤ 8 := hR 0 30
    apply And.intro
    · intro h4
      have h4 : (I 0 30).toInt = 0 := h4
      exact ⟨hR, hmL, hmK, hmW, hO0, hF0, rfl⟩
    · intro h4
      have h4 : ¬ (I 0 30).toInt = 0 := h4
      refine And.intro trivial ?_
      intro x10 I10 L10 hq10
      have hq10 : I10 = I ∧ L10 = L ∧ ((x10.toInt = 1 ∧ (0 : Int) ≤ what.toInt ∧ what.toInt ≤ (4 : Int) ∨ x10.toInt = 0 ∧ (what.toInt < (0 : Int) ∨ (4 : Int) < what.toInt))) := hq10
      obtain ⟨eI10, eL10, c10_2⟩ := hq10
      replace eI10 := eI10.symm
      subst eI10
      replace eL10 := eL10.symm
      subst eL10
      apply And.intro
      · intro h13
        have h13 : ¬ x10.toInt = 0 := h13
        have g18 : gr I (0 : Int) (I 9 (I 0 24).toInt.toNat).toInt := fun k hk => by omega
        have r20_2 : 0 ≤ (I 9 ((I 0 24).toInt.toNat)).toInt ∧ (I 9 ((I 0 24).toInt.toNat)).toInt ≤ 12 := hR 9 ((I 0 24).toInt.toNat)
        have r20_3 : 0 ≤ (I 0 24).toInt ∧ (I 0 24).toInt ≤ 1 := hR 0 24
        exact ⟨Int32.ofInt 0, (by intro q9 h9; simp only [List.mem_cons, List.not_mem_nil, or_false] at h9; rcases h9 with h9 | h9 | h9 <;> subst h9 <;> repeat (first | exact List.mem_cons_self | apply List.mem_cons_of_mem)), rfl, rfl, hR, hF0, hO0, hmL, hmK, hmW, (show 0 ≤ what.toInt from by first | assumption | omega), (show what.toInt ≤ 4 from by first | assumption | omega), (show 0 ≤ (0 : Int) from by first | assumption | omega), (show (0 : Int) ≤ (I 0 30).toInt from by first | assumption | omega), (show gr I (0 : Int) (I 9 (I 0 24).toInt.toNat).toInt from by first | assumption | omega), (show ((I 0 30).toInt - (0 : Int)) < 9 from by omega)⟩
      · intro h13
        have h13 : x10.toInt = 0 := h13
        exact ⟨hR, hmL, hmK, hmW, hO0, hF0, rfl⟩
def tX12_judge : List (Instr × Nat) := [(.iconst 0, 1), (.istore_n 2, 1), (.iload_n 2, 1), (.aload_n 0, 1), (.getfield 306, 3), (.if_icmp .ge 91, 3), (.aload_n 0, 1), (.iload_n 2, 1), (.iload_n 1, 1), (.invokevirtual 526, 3), (.ifCond .ne 6, 3), (.goto 73, 3), (.aload_n 0, 1), (.aload_n 0, 1), (.getfield 182, 3), (.iload_n 2, 1), (.iaload, 1), (.putfield 407, 3), (.aload_n 0, 1), (.aload_n 0, 1), (.getfield 42, 3), (.aload_n 0, 1), (.getfield 300, 3), (.iaload, 1), (.putfield 416, 3), (.iconst 0, 1), (.istore_n 3, 1), (.iload_n 3, 1), (.aload_n 0, 1), (.getfield 407, 3), (.if_icmp .ge 25, 3), (.aload_n 0, 1), (.iload_n 3, 1), (.aload_n 0, 1), (.getfield 185, 3), (.bipush 6, 2), (.iload_n 2, 1), (.imul, 1), (.iload_n 3, 1), (.iadd, 1), (.iaload, 1), (.invokevirtual 419, 3), (.iinc 3 1, 3), (.goto (-27), 3), (.aload_n 0, 1), (.invokevirtual 494, 3), (.aload_n 0, 1), (.getfield 194, 3), (.iload_n 2, 1), (.baload, 1), (.if_icmp .eq 5, 3), (.iload_n 2, 1), (.ireturn, 1), (.iinc 2 1, 3), (.goto (-93), 3), (.iconst (-1), 1), (.ireturn, 1)]
theorem tX12_judge_ok : f_chk cX12_judge 0 tX12_judge = true := by decide +kernel
def pX12_judge (av : List Value) (I : fM) (L : fN) : Prop := match av with
  | [.ref 0, .int k] => mR I ∧ mL I ∧ mK I ∧ mW I
  | _ => False
def qX12_judge (av : List Value) (I : fM) (L : fN) (r : Value) (I' : fM) (L' : fN) : Prop := match av, r with
  | [.ref 0, .int k], .int x => mR I' ∧ mL I' ∧ mK I' ∧ mW I' ∧ f_fo [45, 46, 47, 48, 53, 54, 55, 59] I I' ∧ f_fr [0, 21, 22, 23, 24, 25, 26, 27, 28, 29, 30, 31, 32, 33, 34, 35, 36, 37, 38, 39, 40, 41, 42, 43, 44] I I' ∧ L' = L
  | _, _ => False
set_option maxHeartbeats 40000000 in
set_option maxRecDepth 100000 in
theorem mX12_judge {l : Launch} {a : Nat → Nat} {cy dC : Nat → ClassId} {dI : Nat → Nat → Nat} (hinj : ∀ i j, i < 71 → j < 71 → a i = a j → i = j) : f_Met (fun _ => True) l mY 71 a cy dC dI yX12_judge cX12_judge 4 1 4 pX12_judge qX12_judge := by
  refine f_met_of (f_Ec_T 71 a) hinj mY_hi (by decide) (fun av I L h => by unfold pX12_judge at h; split at h <;> first | exact Nat.le_of_ble_eq_true rfl | exact h.elim) ?_
  intro pP eP sP mP aP bP hP9 cP C av I L hp
  unfold pX12_judge at hp
  split at hp
  case h_2 => exact hp.elim
  case h_1 k =>
    obtain ⟨hR, hmL, hmK, hmW⟩ := hp
    have hx : 0 ≤ (I 0 83).toInt ∧ (I 0 83).toInt ≤ 12 := hR 0 83
    have hF0 : f_fr [0, 21, 22, 23, 24, 25, 26, 27, 28, 29, 30, 31, 32, 33, 34, 35, 36, 37, 38, 39, 40, 41, 42, 43, 44] I I := f_fr_rf
    have hO0 : f_fo [45, 46, 47, 48, 53, 54, 55, 59] I I := f_fo_rf
    have lp2 : ∀ (n2 : Nat), ∀ (n : Int32) (J2 : fM), mR J2 ∧ f_fr [0, 21, 22, 23, 24, 25, 26, 27, 28, 29, 30, 31, 32, 33, 34, 35, 36, 37, 38, 39, 40, 41, 42, 43, 44] I J2 ∧ f_fo [45, 46, 47, 48, 53, 54, 55, 59] I J2 ∧ mL J2 ∧ mK J2 ∧ mW J2 ∧ (0 ≤ n.toInt) ∧ (n.toInt ≤ (I 0 83).toInt) ∧ ((I 0 83).toInt - n.toInt) < n2 → f_W pP l eP (f_rm 4) sP mP aP bP hP9 cP mY 71 a cy dC dI 4 (f_K 1 (qX12_judge [.ref 0, .int k] I L)) 2 [(2, .int n), (1, .int k), (0, .ref 0)] [] J2 L := by
      intro n2
      induction n2 with
      | zero =>
        intro n J2 h9
        obtain ⟨hR2c, hF2c, hO2c, hmL2c, hmK2c, hmW2c, u2_1, u2_2, hm2⟩ := h9
        omega
      | succ n2 ih2 =>
        intro n J2 h9
        obtain ⟨hR2c, hF2c, hO2c, hmL2c, hmK2c, hmW2c, u2_1, u2_2, hm2⟩ := h9
        have m2 : 0 ≤ (I 56 n.toInt.toNat).toInt ∧ (I 56 n.toInt.toNat).toInt ≤ 6 := hR 56 _
        have f2 : (J2 0 83).toInt = (I 0 83).toInt := congrArg Int32.toInt (hO2c 83 rfl)
        have g2 : (J2 56 n.toInt.toNat).toInt = (I 56 n.toInt.toNat).toInt := by rw [hF2c 56 rfl]
        have a2 : (J2 10 (J2 0 24).toInt.toNat).toInt = (I 10 (I 0 24).toInt.toNat).toInt := by rw [hO2c 24 rfl, hF2c 10 rfl]
        have lp92 : ∀ (J92 : fM), mR J92 ∧ f_fr [0, 21, 22, 23, 24, 25, 26, 27, 28, 29, 30, 31, 32, 33, 34, 35, 36, 37, 38, 39, 40, 41, 42, 43, 44] I J92 ∧ f_fo [45, 46, 47, 48, 53, 54, 55, 59] I J92 ∧ mL J92 ∧ mK J92 ∧ mW J92 ∧ (n.toInt < (I 0 83).toInt) → f_W pP l eP (f_rm 4) sP mP aP bP hP9 cP mY 71 a cy dC dI 4 (f_K 1 (qX12_judge [.ref 0, .int k] I L)) 92 [(2, .int n), (1, .int k), (0, .ref 0)] [] J92 L := by
          intro J92 h9
          obtain ⟨hR92c, hF92c, hO92c, hmL92c, hmK92c, hmW92c, u92_1⟩ := h9
          refine f_wp_ok C f_cl flX12_ok fiX12_ok fjX12_ok (sn := none) (fun j h => by cases h) (cs := (f_cnl [(526, (3, 3, 11, pX12_counts, qX12_counts)), (419, (3, 0, 11, pX12_layWord, qX12_layWord)), (494, (1, 3, 11, pX12_isSentence, qX12_isSentence))])) (cz := (fun _ => none)) (f_cnl_of (P := fun j S => f_cok pP l eP (f_rm 4) sP mP aP bP hP9 cP mY 71 a cy dC dI 4 _ _ (.invokevirtual j) true S) (List.forall_mem_cons.mpr ⟨f_cokV C (mX12_counts hinj) (ci := 11) rfl (List.forall_mem_cons.mpr ⟨(mlX12_ok _ (List.mem_of_getElem? (i := 66) rfl)), kc_X12_counts⟩) (by decide +kernel) ⟨Nat.le_of_ble_eq_true rfl, Nat.le_of_ble_eq_true rfl⟩, List.forall_mem_cons.mpr ⟨f_cokV C (mX12_layWord hinj) (ci := 11) rfl (List.forall_mem_cons.mpr ⟨(mlX12_ok _ (List.mem_of_getElem? (i := 37) rfl)), kc_X12_layWord⟩) (by decide +kernel) ⟨Nat.le_of_ble_eq_true rfl, Nat.le_of_ble_eq_true rfl⟩, List.forall_mem_cons.mpr ⟨f_cokV C (mX12_isSentence hinj) (ci := 11) rfl (List.forall_mem_cons.mpr ⟨(mlX12_ok _ (List.mem_of_getElem? (i := 57) rfl)), kc_X12_isSentence⟩) (by decide +kernel) ⟨Nat.le_of_ble_eq_true rfl, Nat.le_of_ble_eq_true rfl⟩, fun _ h => absurd h List.not_mem_nil⟩⟩⟩)) (fun j S h => by cases h) tX12_judge_ok (cut := (f_cnl [(2, (fun (ls' : fLs) (st' : List Value) (I' : fM) (L' : fN) => ∃ n : Int32, (∀ q ∈ ([(2, .int n), (1, .int k), (0, .ref 0)] : fLs), q ∈ ls') ∧ st' = [] ∧ L' = L ∧ (mR I' ∧ f_fr [0, 21, 22, 23, 24, 25, 26, 27, 28, 29, 30, 31, 32, 33, 34, 35, 36, 37, 38, 39, 40, 41, 42, 43, 44] I I' ∧ f_fo [45, 46, 47, 48, 53, 54, 55, 59] I I' ∧ mL I' ∧ mK I' ∧ mW I' ∧ (0 ≤ n.toInt) ∧ (n.toInt ≤ (I 0 83).toInt) ∧ ((I 0 83).toInt - n.toInt) < n2)))])) (f_cnl_of (P := fun (tQ : Nat) (P : fLs → List Value → fM → fN → Prop) => ∀ ls' st' I' L', P ls' st' I' L' → f_W pP l eP (f_rm 4) sP mP aP bP hP9 cP mY 71 a cy dC dI 4 (f_K 1 (qX12_judge [.ref 0, .int k] I L)) tQ ls' st' I' L') (List.forall_mem_cons.mpr ⟨(fun ls' st' I' L' h => by obtain ⟨n, hs, e1, e3, h9⟩ := h; rw [e1, e3]; exact f_W_sub hs (ih2 n I' h9)), fun _ h => absurd h List.not_mem_nil⟩)) 5 92 (f_seek 92 0 tX12_judge) (f_seek_ok 92 0 tX12_judge tX12_judge_ok) _ _ _ _ ?_
          intro z92 q92 _ hq92 hl92 hu92
          have hq92 : z92.toInt = n.toInt + 1 + 4294967296 * q92 := hq92
          try have hz92 : z92.toInt = n.toInt + 1 := by omega
          exact ⟨z92, (by intro q9 h9; simp only [List.mem_cons, List.not_mem_nil, or_false] at h9; rcases h9 with h9 | h9 | h9 <;> subst h9 <;> repeat (first | exact List.mem_cons_self | apply List.mem_cons_of_mem)), rfl, rfl, hR92c, hF92c, hO92c, hmL92c, hmK92c, hmW92c, (show 0 ≤ z92.toInt from by first | assumption | omega), (show z92.toInt ≤ (I 0 83).toInt from by first | assumption | omega), (show ((I 0 83).toInt - z92.toInt) < n2 from by omega)⟩
        have lp47 : ∀ (n47 : Nat), ∀ (i : Int32) (J47 : fM), mR J47 ∧ f_fr [0, 21, 22, 23, 24, 25, 26, 27, 28, 29, 30, 31, 32, 33, 34, 35, 36, 37, 38, 39, 40, 41, 42, 43, 44] I J47 ∧ f_fo [45, 46, 47, 48, 53, 54, 55, 59] I J47 ∧ mL J47 ∧ mK J47 ∧ mW J47 ∧ (n.toInt < (I 0 83).toInt) ∧ (0 ≤ i.toInt) ∧ (i.toInt ≤ (I 56 n.toInt.toNat).toInt) ∧ ((J47 0 53).toInt = (I 56 n.toInt.toNat).toInt) ∧ ((J47 0 54).toInt = (I 10 (I 0 24).toInt.toNat).toInt) ∧ ((∀ j : Nat, (j : Int) < i.toInt → oK J47 j)) ∧ (6 - i.toInt) < n47 → f_W pP l eP (f_rm 4) sP mP aP bP hP9 cP mY 71 a cy dC dI 4 (f_K 1 (qX12_judge [.ref 0, .int k] I L)) 47 [(3, .int i), (2, .int n), (1, .int k), (0, .ref 0)] [] J47 L := by
          intro n47
          induction n47 with
          | zero =>
            intro i J47 h9
            obtain ⟨hR47c, hF47c, hO47c, hmL47c, hmK47c, hmW47c, u47_1, u47_2, u47_3, u47_4, u47_5, u47_6, hm47⟩ := h9
            omega
          | succ n47 ih47 =>
            intro i J47 h9
            obtain ⟨hR47c, hF47c, hO47c, hmL47c, hmK47c, hmW47c, u47_1, u47_2, u47_3, u47_4, u47_5, u47_6, hm47⟩ := h9
            have f47 : (J47 0 83).toInt = (I 0 83).toInt := congrArg Int32.toInt (hO47c 83 rfl)
            have g47 : (J47 56 n.toInt.toNat).toInt = (I 56 n.toInt.toNat).toInt := by rw [hF47c 56 rfl]
            refine f_wp_ok C f_cl flX12_ok fiX12_ok fjX12_ok (sn := none) (fun j h => by cases h) (cs := (f_cnl [(526, (3, 3, 11, pX12_counts, qX12_counts)), (419, (3, 0, 11, pX12_layWord, qX12_layWord)), (494, (1, 3, 11, pX12_isSentence, qX12_isSentence))])) (cz := (fun _ => none)) (f_cnl_of (P := fun j S => f_cok pP l eP (f_rm 4) sP mP aP bP hP9 cP mY 71 a cy dC dI 4 _ _ (.invokevirtual j) true S) (List.forall_mem_cons.mpr ⟨f_cokV C (mX12_counts hinj) (ci := 11) rfl (List.forall_mem_cons.mpr ⟨(mlX12_ok _ (List.mem_of_getElem? (i := 66) rfl)), kc_X12_counts⟩) (by decide +kernel) ⟨Nat.le_of_ble_eq_true rfl, Nat.le_of_ble_eq_true rfl⟩, List.forall_mem_cons.mpr ⟨f_cokV C (mX12_layWord hinj) (ci := 11) rfl (List.forall_mem_cons.mpr ⟨(mlX12_ok _ (List.mem_of_getElem? (i := 37) rfl)), kc_X12_layWord⟩) (by decide +kernel) ⟨Nat.le_of_ble_eq_true rfl, Nat.le_of_ble_eq_true rfl⟩, List.forall_mem_cons.mpr ⟨f_cokV C (mX12_isSentence hinj) (ci := 11) rfl (List.forall_mem_cons.mpr ⟨(mlX12_ok _ (List.mem_of_getElem? (i := 57) rfl)), kc_X12_isSentence⟩) (by decide +kernel) ⟨Nat.le_of_ble_eq_true rfl, Nat.le_of_ble_eq_true rfl⟩, fun _ h => absurd h List.not_mem_nil⟩⟩⟩)) (fun j S h => by cases h) tX12_judge_ok (cut := (f_cnl [(47, (fun (ls' : fLs) (st' : List Value) (I' : fM) (L' : fN) => ∃ i : Int32, (∀ q ∈ ([(3, .int i), (2, .int n), (1, .int k), (0, .ref 0)] : fLs), q ∈ ls') ∧ st' = [] ∧ L' = L ∧ (mR I' ∧ f_fr [0, 21, 22, 23, 24, 25, 26, 27, 28, 29, 30, 31, 32, 33, 34, 35, 36, 37, 38, 39, 40, 41, 42, 43, 44] I I' ∧ f_fo [45, 46, 47, 48, 53, 54, 55, 59] I I' ∧ mL I' ∧ mK I' ∧ mW I' ∧ (n.toInt < (I 0 83).toInt) ∧ (0 ≤ i.toInt) ∧ (i.toInt ≤ (I 56 n.toInt.toNat).toInt) ∧ ((I' 0 53).toInt = (I 56 n.toInt.toNat).toInt) ∧ ((I' 0 54).toInt = (I 10 (I 0 24).toInt.toNat).toInt) ∧ ((∀ j : Nat, (j : Int) < i.toInt → oK I' j)) ∧ (6 - i.toInt) < n47))), (92, (fun (ls' : fLs) (st' : List Value) (I' : fM) (L' : fN) => (∀ q ∈ ([(2, .int n), (1, .int k), (0, .ref 0)] : fLs), q ∈ ls') ∧ st' = [] ∧ L' = L ∧ (mR I' ∧ f_fr [0, 21, 22, 23, 24, 25, 26, 27, 28, 29, 30, 31, 32, 33, 34, 35, 36, 37, 38, 39, 40, 41, 42, 43, 44] I I' ∧ f_fo [45, 46, 47, 48, 53, 54, 55, 59] I I' ∧ mL I' ∧ mK I' ∧ mW I' ∧ (n.toInt < (I 0 83).toInt))))])) (f_cnl_of (P := fun (tQ : Nat) (P : fLs → List Value → fM → fN → Prop) => ∀ ls' st' I' L', P ls' st' I' L' → f_W pP l eP (f_rm 4) sP mP aP bP hP9 cP mY 71 a cy dC dI 4 (f_K 1 (qX12_judge [.ref 0, .int k] I L)) tQ ls' st' I' L') (List.forall_mem_cons.mpr ⟨(fun ls' st' I' L' h => by obtain ⟨i, hs, e1, e3, h9⟩ := h; rw [e1, e3]; exact f_W_sub hs (ih47 i I' h9)), List.forall_mem_cons.mpr ⟨(fun ls' st' I' L' h => by obtain ⟨hs, e1, e3, h9⟩ := h; rw [e1, e3]; exact f_W_sub hs (lp92  I' h9)), fun _ h => absurd h List.not_mem_nil⟩⟩)) 20 47 (f_seek 47 0 tX12_judge) (f_seek_ok 47 0 tX12_judge tX12_judge_ok) _ _ _ _ ?_
            have r49_1 : 0 ≤ (J47 0 53).toInt ∧ (J47 0 53).toInt ≤ 10 := hR47c 0 53
            apply And.intro
            · intro h52
              have h52 : (J47 0 53).toInt ≤ i.toInt := h52
              refine And.intro ⟨hR47c, hmL47c, hmK47c, (mO_all hmL (hO47c 24 rfl) (hF47c 8 rfl) (hF47c 11 rfl) (fun j hj => u47_6 j (by omega)) u47_5)⟩ ?_
              intro x78 I78 L78 hq78
              have hq78 : mR I78 ∧ mL I78 ∧ mK I78 ∧ mO I78 ∧ f_fo [45, 46, 47, 48, 55, 59] J47 I78 ∧ f_fr [0, 21, 22, 23, 24, 25, 26, 27, 28, 29, 30, 31, 32, 33, 34, 37, 38, 39, 40, 41, 42, 43, 44] J47 I78 ∧ L78 = L ∧ ((x78.toInt = 0 ∨ x78.toInt = 1)) := hq78
              obtain ⟨c78_0, c78_1, c78_2, c78_3, c78_4, c78_5, eL78, c78_7⟩ := hq78
              replace eL78 := eL78.symm
              subst eL78
              have hO78 := f_fo_tr hO47c c78_4 rfl
              have hmW78 := f_depo_fo mW_dep hmW47c c78_5 c78_4 rfl rfl
              have hF78 := f_fr_tr hF47c c78_5 rfl
              refine And.intro (show f_in n 12 from ⟨show 0 ≤ n.toInt from by omega, show n.toInt < 12 from by omega⟩) ?_
              have e86_3 : (I78 60 (n.toInt.toNat)).toInt = (J47 60 (n.toInt.toNat)).toInt := congrArg Int32.toInt (congrFun (c78_5 60 rfl) (n.toInt.toNat))
              have e86_4 : (J47 60 (n.toInt.toNat)).toInt = (I 60 (n.toInt.toNat)).toInt := congrArg Int32.toInt (congrFun (hF47c 60 rfl) (n.toInt.toNat))
              apply And.intro
              · intro h87
                have h87 : x78.toInt = (I78 60 (n.toInt.toNat)).toInt := h87
                exact ⟨(by intro q9 h9; simp only [List.mem_cons, List.not_mem_nil, or_false] at h9; rcases h9 with h9 | h9 | h9 <;> subst h9 <;> repeat (first | exact List.mem_cons_self | apply List.mem_cons_of_mem)), rfl, rfl, c78_0, hF78, hO78, c78_1, c78_2, hmW78, (show n.toInt < (I 0 83).toInt from by first | assumption | omega)⟩
              · intro h87
                have h87 : ¬ x78.toInt = (I78 60 (n.toInt.toNat)).toInt := h87
                exact ⟨c78_0, c78_1, c78_2, hmW78, hO78, hF78, rfl⟩
            · intro h52
              have h52 : i.toInt < (J47 0 53).toInt := h52
              intro z64 q64 _ hq64 hl64 hu64
              have hq64 : z64.toInt = 6 * n.toInt + 4294967296 * q64 := hq64
              try have hz64 : z64.toInt = 6 * n.toInt := by omega
              intro z66 q66 _ hq66 hl66 hu66
              have hq66 : z66.toInt = z64.toInt + i.toInt + 4294967296 * q66 := hq66
              try have hz66 : z66.toInt = z64.toInt + i.toInt := by omega
              refine And.intro (show f_in z66 72 from ⟨show 0 ≤ z66.toInt from by omega, show z66.toInt < 72 from by omega⟩) ?_
              have r67_2 : 0 ≤ (J47 57 (z66.toInt.toNat)).toInt ∧ (J47 57 (z66.toInt.toNat)).toInt ≤ 11 := hR47c 57 (z66.toInt.toNat)
              have e67_3 : (J47 57 (z66.toInt.toNat)).toInt = (I 57 (z66.toInt.toNat)).toInt := congrArg Int32.toInt (congrFun (hF47c 57 rfl) (z66.toInt.toNat))
              have w68 : (J47 57 z66.toInt.toNat).toInt < (J47 9 (J47 0 24).toInt.toNat).toInt := hmW47c.2.1 n.toInt.toNat z66.toInt.toNat (by omega) (by omega) (by omega)
              have r68_4 : 0 ≤ (J47 9 ((J47 0 24).toInt.toNat)).toInt ∧ (J47 9 ((J47 0 24).toInt.toNat)).toInt ≤ 12 := hR47c 9 ((J47 0 24).toInt.toNat)
              have e68_5 : (J47 9 ((J47 0 24).toInt.toNat)).toInt = (J47 9 ((I 0 24).toInt.toNat)).toInt := by rw [(hO47c 24 rfl)]
              have e68_6 : (J47 9 ((I 0 24).toInt.toNat)).toInt = (I 9 ((I 0 24).toInt.toNat)).toInt := congrArg Int32.toInt (congrFun (hF47c 9 rfl) ((I 0 24).toInt.toNat))
              have r68_7 : 0 ≤ (J47 0 24).toInt ∧ (J47 0 24).toInt ≤ 1 := hR47c 0 24
              have e68_8 : (J47 0 24).toInt = (I 0 24).toInt := congrArg Int32.toInt (hO47c 24 rfl)
              refine And.intro ⟨hR47c, hmL47c, (show 0 ≤ i.toInt from by first | assumption | omega), (show i.toInt ≤ 9 from by first | assumption | omega), (show 0 ≤ (J47 57 (z66.toInt.toNat)).toInt from by first | assumption | omega), (show (J47 57 (z66.toInt.toNat)).toInt < (J47 9 (J47 0 24).toInt.toNat).toInt from by first | assumption | omega)⟩ ?_
              intro I68 L68 hq68
              have hq68 : mR I68 ∧ f_fr [35, 36] J47 I68 ∧ L68 = L ∧ oK I68 i.toInt.toNat ∧ ((∀ j : Nat, ¬ j = i.toInt.toNat → oK J47 j → oK I68 j)) := hq68
              obtain ⟨c68_0, c68_1, eL68, c68_3, c68_4⟩ := hq68
              replace eL68 := eL68.symm
              subst eL68
              have hO68 := f_fo_fr hO47c c68_1 rfl
              have hmL68 := f_depo_fr mL_dep hmL47c c68_1 rfl rfl
              have hmK68 := f_depo_fr mK_dep hmK47c c68_1 rfl rfl
              have hmW68 := f_depo_fr mW_dep hmW47c c68_1 rfl rfl
              have hF68 := f_fr_tr hF47c c68_1 rfl
              intro z71 q71 _ hq71 hl71 hu71
              have hq71 : z71.toInt = i.toInt + 1 + 4294967296 * q71 := hq71
              try have hz71 : z71.toInt = i.toInt + 1 := by omega
              have q71 : ∀ j : Nat, (j : Int) < z71.toInt → oK I68 j := fun j hj => by
                by_cases q : j = i.toInt.toNat
                · rw [q]; exact c68_3
                · exact c68_4 j q (u47_6 j (by omega))
              have r47_9 : 0 ≤ (I68 0 53).toInt ∧ (I68 0 53).toInt ≤ 10 := c68_0 0 53
              have e47_10 : (I68 0 53).toInt = (J47 0 53).toInt := congrArg Int32.toInt (congrFun (c68_1 0 rfl) 53)
              have r47_11 : -1 ≤ (I68 0 54).toInt ∧ (I68 0 54).toInt ≤ 1599 := c68_0 0 54
              have e47_12 : (I68 0 54).toInt = (J47 0 54).toInt := congrArg Int32.toInt (congrFun (c68_1 0 rfl) 54)
              exact ⟨z71, (by intro q9 h9; simp only [List.mem_cons, List.not_mem_nil, or_false] at h9; rcases h9 with h9 | h9 | h9 | h9 <;> subst h9 <;> repeat (first | exact List.mem_cons_self | apply List.mem_cons_of_mem)), rfl, rfl, c68_0, hF68, hO68, hmL68, hmK68, hmW68, (show n.toInt < (I 0 83).toInt from by first | assumption | omega), (show 0 ≤ z71.toInt from by first | assumption | omega), (show z71.toInt ≤ (I 56 n.toInt.toNat).toInt from by first | assumption | omega), (show (I68 0 53).toInt = (I 56 n.toInt.toNat).toInt from by first | assumption | omega | rfl), (show (I68 0 54).toInt = (I 10 (I 0 24).toInt.toNat).toInt from by first | assumption | omega | rfl), (show (∀ j : Nat, (j : Int) < z71.toInt → oK I68 j) from by first | assumption | omega | exact fun _ _ => rfl | exact fun _ _ => ⟨rfl, rfl⟩ | exact fun _ _ => ⟨rfl, rfl, rfl⟩ | (intro j9 hj9; omega)), (show (6 - z71.toInt) < n47 from by omega)⟩
        refine f_wp_ok C f_cl flX12_ok fiX12_ok fjX12_ok (sn := none) (fun j h => by cases h) (cs := (f_cnl [(526, (3, 3, 11, pX12_counts, qX12_counts)), (419, (3, 0, 11, pX12_layWord, qX12_layWord)), (494, (1, 3, 11, pX12_isSentence, qX12_isSentence))])) (cz := (fun _ => none)) (f_cnl_of (P := fun j S => f_cok pP l eP (f_rm 4) sP mP aP bP hP9 cP mY 71 a cy dC dI 4 _ _ (.invokevirtual j) true S) (List.forall_mem_cons.mpr ⟨f_cokV C (mX12_counts hinj) (ci := 11) rfl (List.forall_mem_cons.mpr ⟨(mlX12_ok _ (List.mem_of_getElem? (i := 66) rfl)), kc_X12_counts⟩) (by decide +kernel) ⟨Nat.le_of_ble_eq_true rfl, Nat.le_of_ble_eq_true rfl⟩, List.forall_mem_cons.mpr ⟨f_cokV C (mX12_layWord hinj) (ci := 11) rfl (List.forall_mem_cons.mpr ⟨(mlX12_ok _ (List.mem_of_getElem? (i := 37) rfl)), kc_X12_layWord⟩) (by decide +kernel) ⟨Nat.le_of_ble_eq_true rfl, Nat.le_of_ble_eq_true rfl⟩, List.forall_mem_cons.mpr ⟨f_cokV C (mX12_isSentence hinj) (ci := 11) rfl (List.forall_mem_cons.mpr ⟨(mlX12_ok _ (List.mem_of_getElem? (i := 57) rfl)), kc_X12_isSentence⟩) (by decide +kernel) ⟨Nat.le_of_ble_eq_true rfl, Nat.le_of_ble_eq_true rfl⟩, fun _ h => absurd h List.not_mem_nil⟩⟩⟩)) (fun j S h => by cases h) tX12_judge_ok (cut := (f_cnl [(47, (fun (ls' : fLs) (st' : List Value) (I' : fM) (L' : fN) => ∃ i : Int32, (∀ q ∈ ([(3, .int i), (2, .int n), (1, .int k), (0, .ref 0)] : fLs), q ∈ ls') ∧ st' = [] ∧ L' = L ∧ (mR I' ∧ f_fr [0, 21, 22, 23, 24, 25, 26, 27, 28, 29, 30, 31, 32, 33, 34, 35, 36, 37, 38, 39, 40, 41, 42, 43, 44] I I' ∧ f_fo [45, 46, 47, 48, 53, 54, 55, 59] I I' ∧ mL I' ∧ mK I' ∧ mW I' ∧ (n.toInt < (I 0 83).toInt) ∧ (0 ≤ i.toInt) ∧ (i.toInt ≤ (I 56 n.toInt.toNat).toInt) ∧ ((I' 0 53).toInt = (I 56 n.toInt.toNat).toInt) ∧ ((I' 0 54).toInt = (I 10 (I 0 24).toInt.toNat).toInt) ∧ ((∀ j : Nat, (j : Int) < i.toInt → oK I' j)) ∧ (6 - i.toInt) < 7))), (92, (fun (ls' : fLs) (st' : List Value) (I' : fM) (L' : fN) => (∀ q ∈ ([(2, .int n), (1, .int k), (0, .ref 0)] : fLs), q ∈ ls') ∧ st' = [] ∧ L' = L ∧ (mR I' ∧ f_fr [0, 21, 22, 23, 24, 25, 26, 27, 28, 29, 30, 31, 32, 33, 34, 35, 36, 37, 38, 39, 40, 41, 42, 43, 44] I I' ∧ f_fo [45, 46, 47, 48, 53, 54, 55, 59] I I' ∧ mL I' ∧ mK I' ∧ mW I' ∧ (n.toInt < (I 0 83).toInt))))])) (f_cnl_of (P := fun (tQ : Nat) (P : fLs → List Value → fM → fN → Prop) => ∀ ls' st' I' L', P ls' st' I' L' → f_W pP l eP (f_rm 4) sP mP aP bP hP9 cP mY 71 a cy dC dI 4 (f_K 1 (qX12_judge [.ref 0, .int k] I L)) tQ ls' st' I' L') (List.forall_mem_cons.mpr ⟨(fun ls' st' I' L' h => by obtain ⟨i, hs, e1, e3, h9⟩ := h; rw [e1, e3]; exact f_W_sub hs (lp47 7 i I' h9)), List.forall_mem_cons.mpr ⟨(fun ls' st' I' L' h => by obtain ⟨hs, e1, e3, h9⟩ := h; rw [e1, e3]; exact f_W_sub hs (lp92  I' h9)), fun _ h => absurd h List.not_mem_nil⟩⟩)) 27 2 (f_seek 2 0 tX12_judge) (f_seek_ok 2 0 tX12_judge tX12_judge_ok) _ _ _ _ ?_
        have r4_1 : 0 ≤ (J2 0 83).toInt ∧ (J2 0 83).toInt ≤ 12 := hR2c 0 83
        have e4_2 : (J2 0 83).toInt = (I 0 83).toInt := congrArg Int32.toInt (hO2c 83 rfl)
        apply And.intro
        · intro h7
          have h7 : (J2 0 83).toInt ≤ n.toInt := h7
          exact ⟨hR2c, hmL2c, hmK2c, hmW2c, hO2c, hF2c, rfl⟩
        · intro h7
          have h7 : n.toInt < (J2 0 83).toInt := h7
          refine And.intro ⟨(show 0 ≤ n.toInt from by first | assumption | omega), (show n.toInt ≤ 11 from by first | assumption | omega)⟩ ?_
          intro x13 I13 L13 hq13
          have hq13 : I13 = J2 ∧ L13 = L ∧ ((x13.toInt = 0 ∨ x13.toInt = 1)) := hq13
          obtain ⟨eI13, eL13, c13_2⟩ := hq13
          replace eI13 := eI13.symm
          subst eI13
          replace eL13 := eL13.symm
          subst eL13
          apply And.intro
          · intro h16
            have h16 : ¬ x13.toInt = 0 := h16
            refine And.intro (show f_in n 12 from ⟨show 0 ≤ n.toInt from by omega, show n.toInt < 12 from by omega⟩) ?_
            have r28_3 : 0 ≤ (J2 56 (n.toInt.toNat)).toInt ∧ (J2 56 (n.toInt.toNat)).toInt ≤ 6 := hR2c 56 (n.toInt.toNat)
            have e28_4 : (J2 56 (n.toInt.toNat)).toInt = (I 56 (n.toInt.toNat)).toInt := congrArg Int32.toInt (congrFun (hF2c 56 rfl) (n.toInt.toNat))
            have hR29 := mR_f (k := 0) (j := 53) (x := J2 56 (n.toInt.toNat)) hR2c (show 0 ≤ (J2 56 (n.toInt.toNat)).toInt ∧ (J2 56 (n.toInt.toNat)).toInt ≤ 10 from ⟨by omega, by omega⟩)
            have hF29 := f_fr_up (k := 0) (r := va_up (J2 0) 53 (J2 56 (n.toInt.toNat))) hF2c rfl
            have hO29 := f_fo_up (j := 53) (x := J2 56 (n.toInt.toNat)) hO2c rfl
            have hmL29 := f_depo_up0 mL_dep (j := 53) (x := J2 56 (n.toInt.toNat)) hmL2c rfl rfl
            have hmK29 := f_depo_up0 mK_dep (j := 53) (x := J2 56 (n.toInt.toNat)) hmK2c rfl rfl
            have hmW29 := f_depo_up0 mW_dep (j := 53) (x := J2 56 (n.toInt.toNat)) hmW2c rfl rfl
            have r38_5 : 0 ≤ (J2 0 24).toInt ∧ (J2 0 24).toInt ≤ 1 := hR29 0 24
            have e38_6 : (J2 0 24).toInt = (I 0 24).toInt := congrArg Int32.toInt (hO2c 24 rfl)
            refine And.intro (show f_in (J2 0 24) 2 from ⟨show 0 ≤ (J2 0 24).toInt from by omega, show (J2 0 24).toInt < 2 from by omega⟩) ?_
            have r41_7 : -1 ≤ (J2 10 ((J2 0 24).toInt.toNat)).toInt ∧ (J2 10 ((J2 0 24).toInt.toNat)).toInt ≤ 1599 := hR29 10 ((J2 0 24).toInt.toNat)
            have e41_8 : (J2 10 ((J2 0 24).toInt.toNat)).toInt = (J2 10 ((I 0 24).toInt.toNat)).toInt := by rw [(hO2c 24 rfl)]
            have e41_9 : (J2 10 ((I 0 24).toInt.toNat)).toInt = (I 10 ((I 0 24).toInt.toNat)).toInt := congrArg Int32.toInt (congrFun (hF2c 10 rfl) ((I 0 24).toInt.toNat))
            have hR42 := mR_f (k := 0) (j := 54) (x := J2 10 ((J2 0 24).toInt.toNat)) hR29 (show -1 ≤ (J2 10 ((J2 0 24).toInt.toNat)).toInt ∧ (J2 10 ((J2 0 24).toInt.toNat)).toInt ≤ 1599 from ⟨by omega, by omega⟩)
            have hF42 := f_fr_up (k := 0) (r := va_up (va_up (J2 0) 53 (J2 56 (n.toInt.toNat))) 54 (J2 10 ((J2 0 24).toInt.toNat))) hF29 rfl
            have hO42 := f_fo_up (j := 54) (x := J2 10 ((J2 0 24).toInt.toNat)) hO29 rfl
            have hmL42 := f_depo_up0 mL_dep (j := 54) (x := J2 10 ((J2 0 24).toInt.toNat)) hmL29 rfl rfl
            have hmK42 := f_depo_up0 mK_dep (j := 54) (x := J2 10 ((J2 0 24).toInt.toNat)) hmK29 rfl rfl
            have hmW42 := f_depo_up0 mW_dep (j := 54) (x := J2 10 ((J2 0 24).toInt.toNat)) hmW29 rfl rfl
            exact ⟨Int32.ofInt 0, (by intro q9 h9; simp only [List.mem_cons, List.not_mem_nil, or_false] at h9; rcases h9 with h9 | h9 | h9 | h9 <;> subst h9 <;> repeat (first | exact List.mem_cons_self | apply List.mem_cons_of_mem)), rfl, rfl, hR42, hF42, hO42, hmL42, hmK42, hmW42, (show n.toInt < (I 0 83).toInt from by first | assumption | omega), (show 0 ≤ (0 : Int) from by first | assumption | omega), (show (0 : Int) ≤ (I 56 n.toInt.toNat).toInt from by first | assumption | omega), (show (J2 56 (n.toInt.toNat)).toInt = (I 56 n.toInt.toNat).toInt from by first | assumption | omega | rfl), (show (J2 10 ((J2 0 24).toInt.toNat)).toInt = (I 10 (I 0 24).toInt.toNat).toInt from by first | assumption | omega | rfl), (show (∀ j : Nat, (j : Int) < (0 : Int) → oK (va_up (va_up J2 0 (va_up (J2 0) 53 (J2 56 (n.toInt.toNat)))) 0 (va_up (va_up (J2 0) 53 (J2 56 (n.toInt.toNat))) 54 (J2 10 ((J2 0 24).toInt.toNat)))) j) from by first | assumption | omega | exact fun _ _ => rfl | exact fun _ _ => ⟨rfl, rfl⟩ | exact fun _ _ => ⟨rfl, rfl, rfl⟩ | (intro j9 hj9; omega)), (show (6 - (0 : Int)) < 7 from by omega)⟩
          · intro h16
            have h16 : x13.toInt = 0 := h16
            exact ⟨(by intro q9 h9; simp only [List.mem_cons, List.not_mem_nil, or_false] at h9; rcases h9 with h9 | h9 | h9 <;> subst h9 <;> repeat (first | exact List.mem_cons_self | apply List.mem_cons_of_mem)), rfl, rfl, hR2c, hF2c, hO2c, hmL2c, hmK2c, hmW2c, (show n.toInt < (I 0 83).toInt from by first | assumption | omega)⟩
    refine f_wp_ok C f_cl flX12_ok fiX12_ok fjX12_ok (sn := none) (fun j h => by cases h) (cs := (f_cnl [(526, (3, 3, 11, pX12_counts, qX12_counts)), (419, (3, 0, 11, pX12_layWord, qX12_layWord)), (494, (1, 3, 11, pX12_isSentence, qX12_isSentence))])) (cz := (fun _ => none)) (f_cnl_of (P := fun j S => f_cok pP l eP (f_rm 4) sP mP aP bP hP9 cP mY 71 a cy dC dI 4 _ _ (.invokevirtual j) true S) (List.forall_mem_cons.mpr ⟨f_cokV C (mX12_counts hinj) (ci := 11) rfl (List.forall_mem_cons.mpr ⟨(mlX12_ok _ (List.mem_of_getElem? (i := 66) rfl)), kc_X12_counts⟩) (by decide +kernel) ⟨Nat.le_of_ble_eq_true rfl, Nat.le_of_ble_eq_true rfl⟩, List.forall_mem_cons.mpr ⟨f_cokV C (mX12_layWord hinj) (ci := 11) rfl (List.forall_mem_cons.mpr ⟨(mlX12_ok _ (List.mem_of_getElem? (i := 37) rfl)), kc_X12_layWord⟩) (by decide +kernel) ⟨Nat.le_of_ble_eq_true rfl, Nat.le_of_ble_eq_true rfl⟩, List.forall_mem_cons.mpr ⟨f_cokV C (mX12_isSentence hinj) (ci := 11) rfl (List.forall_mem_cons.mpr ⟨(mlX12_ok _ (List.mem_of_getElem? (i := 57) rfl)), kc_X12_isSentence⟩) (by decide +kernel) ⟨Nat.le_of_ble_eq_true rfl, Nat.le_of_ble_eq_true rfl⟩, fun _ h => absurd h List.not_mem_nil⟩⟩⟩)) (fun j S h => by cases h) tX12_judge_ok (cut := (f_cnl [(2, (fun (ls' : fLs) (st' : List Value) (I' : fM) (L' : fN) => ∃ n : Int32, (∀ q ∈ ([(2, .int n), (1, .int k), (0, .ref 0)] : fLs), q ∈ ls') ∧ st' = [] ∧ L' = L ∧ (mR I' ∧ f_fr [0, 21, 22, 23, 24, 25, 26, 27, 28, 29, 30, 31, 32, 33, 34, 35, 36, 37, 38, 39, 40, 41, 42, 43, 44] I I' ∧ f_fo [45, 46, 47, 48, 53, 54, 55, 59] I I' ∧ mL I' ∧ mK I' ∧ mW I' ∧ (0 ≤ n.toInt) ∧ (n.toInt ≤ (I 0 83).toInt) ∧ ((I 0 83).toInt - n.toInt) < 13)))])) (f_cnl_of (P := fun (tQ : Nat) (P : fLs → List Value → fM → fN → Prop) => ∀ ls' st' I' L', P ls' st' I' L' → f_W pP l eP (f_rm 4) sP mP aP bP hP9 cP mY 71 a cy dC dI 4 (f_K 1 (qX12_judge [.ref 0, .int k] I L)) tQ ls' st' I' L') (List.forall_mem_cons.mpr ⟨(fun ls' st' I' L' h => by obtain ⟨n, hs, e1, e3, h9⟩ := h; rw [e1, e3]; exact f_W_sub hs (lp2 13 n I' h9)), fun _ h => absurd h List.not_mem_nil⟩)) 5 0 tX12_judge tX12_judge_ok _ _ _ _ ?_
    have r2_1 : 0 ≤ (I 0 83).toInt ∧ (I 0 83).toInt ≤ 12 := hR 0 83
    exact ⟨Int32.ofInt 0, (by intro q9 h9; simp only [List.mem_cons, List.not_mem_nil, or_false] at h9; rcases h9 with h9 | h9 | h9 <;> subst h9 <;> repeat (first | exact List.mem_cons_self | apply List.mem_cons_of_mem)), rfl, rfl, hR, hF0, hO0, hmL, hmK, hmW, (show 0 ≤ (0 : Int) from by first | assumption | omega), (show (0 : Int) ≤ (I 0 83).toInt from by first | assumption | omega), (show ((I 0 83).toInt - (0 : Int)) < 13 from by omega)⟩
