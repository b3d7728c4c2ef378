def tX5_write : List (Instr × Nat) := [(.aload_n 0, 1), (.getfield 11, 3), (.aload_n 0, 1), (.getfield 89, 3), (.iload_n 1, 1), (.bipush 8, 2), (.idiv, 1), (.iadd, 1), (.dup2, 1), (.laload, 1), (.iload_n 2, 1), (.sipush 255, 3), (.ixor, 1), (.i2l, 1), (.iload_n 1, 1), (.bipush 8, 2), (.irem, 1), (.bipush 8, 2), (.imul, 1), (.lshl, 1), (.lxor, 1), (.lastore, 1), (.return_, 1)]
theorem tX5_write_ok : f_chk cX5_write 0 tX5_write = true := by decide +kernel
def pX5_write (av : List Value) (I : fM) (L : fN) : Prop := match av with
  | [.ref 69, .int p, .int v] => 0 ≤ p.toInt ∧ p.toInt ≤ 63 ∧ 0 ≤ (I 69 8).toInt ∧ (I 69 8).toInt ≤ 2392
  | _ => False
def qX5_write (av : List Value) (I : fM) (L : fN) (r : Value) (I' : fM) (L' : fN) : Prop := match av, r with
  | [.ref 69, .int p, .int v], .null => I' = I ∧ f_fr [70] L L' ∧ (∀ j : Nat, (j < (I 69 8).toInt.toNat ∨ (I 69 8).toInt.toNat + 8 ≤ j) → L' 70 j = L 70 j)
  | _, _ => False
set_option maxHeartbeats 4000000 in
set_option maxRecDepth 100000 in
theorem mX5_write {l : Launch} {a : Nat → Nat} {cy dC : Nat → ClassId} {dI : Nat → Nat → Nat} (hinj : ∀ i j, i < 80 → j < 80 → a i = a j → i = j) : f_Met (xE a) l xY 80 a cy dC dI yX5_write cX5_write 3 0 0 pX5_write qX5_write := by
  refine f_met_of (xE_c a) hinj xY_hi (by decide) (fun av I L h => by unfold pX5_write at h; split at h <;> first | exact Nat.le_of_ble_eq_true rfl | exact h.elim) ?_
  intro pP eP sP mP aP bP hP9 cP C av I L hp
  unfold pX5_write at hp
  split at hp
  case h_2 => exact hp.elim
  case h_1 p v =>
    obtain ⟨p0, p1, p2, p3⟩ := hp
    have hG0 : f_fr [70] L L := f_fr_rf
    refine f_wp_ok C f_cl flX5_ok fiX5_ok fjX5_ok (sn := none) (fun j h => by cases h) (cs := (fun _ => none)) (cz := (fun _ => none)) (fun j S h => by cases h) (fun j S h => by cases h) tX5_write_ok (cut := (fun _ => none)) (fun t P h => by cases h) 26 0 tX5_write tX5_write_ok _ _ _ _ ?_
    refine And.intro (by decide) ?_
    try have d11 : (p / (Int32.ofInt 8)).toInt = p.toInt / 8 := t_div (show 0 ≤ p.toInt from by omega) (show 0 < 8 from by omega)
    intro z12 q12 _ hq12 hl12 hu12
    have hq12 : z12.toInt = (I 69 8).toInt + (p / (Int32.ofInt 8)).toInt + 4294967296 * q12 := hq12
    try have hz12 : z12.toInt = (I 69 8).toInt + (p / (Int32.ofInt 8)).toInt := by omega
    refine And.intro (show f_in z12 2400 from ⟨show 0 ≤ z12.toInt from by omega, show z12.toInt < 2400 from by omega⟩) ?_
    refine And.intro (by decide) ?_
    try have d24 : (p - p / (Int32.ofInt 8) * (Int32.ofInt 8)).toInt = p.toInt % 8 := t_rem (show 0 ≤ p.toInt from by omega) (show 0 < 8 from by omega)
    intro z27 q27 _ hq27 hl27 hu27
    have hq27 : z27.toInt = (p - p / (Int32.ofInt 8) * (Int32.ofInt 8)).toInt * 8 + 4294967296 * q27 := hq27
    try have hz27 : z27.toInt = (p - p / (Int32.ofInt 8) * (Int32.ofInt 8)).toInt * 8 := by omega
    refine And.intro (show f_in z12 2400 from ⟨show 0 ≤ z12.toInt from by omega, show z12.toInt < 2400 from by omega⟩) ?_
    have hG30 := f_fr_up (k := 70) (r := vp_updL (L 70) (z12.toInt.toNat) ((L 70 (z12.toInt.toNat)) ^^^ (((v ^^^ (Int32.ofInt 255)).toInt64) <<< (z27.toInt64 &&& 63)))) hG0 rfl
    exact ⟨rfl, hG30, (show (∀ j : Nat, (j < (I 69 8).toInt.toNat ∨ (I 69 8).toInt.toNat + 8 ≤ j) → (vp_updL (L 70) (z12.toInt.toNat) ((L 70 (z12.toInt.toNat)) ^^^ (((v ^^^ (Int32.ofInt 255)).toInt64) <<< (z27.toInt64 &&& 63)))) j = L 70 j) from fun j hj => by rw [pk_uLn (by omega)])⟩
def tX5_value : List (Instr × Nat) := [(.aload_n 0, 1), (.getfield 40, 3), (.ifCond .eq 6, 3), (.bipush (-2), 2), (.ireturn, 1), (.iload_n 1, 1), (.ifCond .lt 11, 3), (.iload_n 1, 1), (.aload_n 0, 1), (.getfield 43, 3), (.if_icmp .lt 5, 3), (.iconst (-1), 1), (.ireturn, 1), (.iload_n 2, 1), (.iload_n 3, 1), (.iadd, 1), (.istore 4, 2), (.aload_n 0, 1), (.getfield 11, 3), (.iload_n 1, 1), (.bipush 8, 2), (.imul, 1), (.iload 4, 2), (.bipush 8, 2), (.idiv, 1), (.iadd, 1), (.laload, 1), (.iload 4, 2), (.bipush 8, 2), (.irem, 1), (.bipush 8, 2), (.imul, 1), (.lshr, 1), (.l2i, 1), (.sipush 255, 3), (.iand, 1), (.istore 5, 2), (.iload 5, 2), (.sipush 255, 3), (.if_icmp .ne 7, 3), (.iconst (-1), 1), (.goto 5, 3), (.iload 5, 2), (.ireturn, 1)]
theorem tX5_value_ok : f_chk cX5_value 0 tX5_value = true := by decide +kernel
def pX5_value (av : List Value) (I : fM) (L : fN) : Prop := match av with
  | [.ref 69, .int r, .int p, .int i] => xR I ∧ 0 ≤ p.toInt ∧ 0 ≤ i.toInt ∧ p.toInt + i.toInt ≤ 63
  | _ => False
def qX5_value (av : List Value) (I : fM) (L : fN) (r : Value) (I' : fM) (L' : fN) : Prop := match av, r with
  | [.ref 69, .int r, .int p, .int i], .int x => I' = I ∧ L' = L ∧ ((I 69 6).toInt = 0 → 0 ≤ r.toInt → r.toInt < (I 69 5).toInt → kb L r.toInt.toNat (p.toInt + i.toInt).toNat < 255 → x.toInt = kb L r.toInt.toNat (p.toInt + i.toInt).toNat)
  | _, _ => False
set_option maxHeartbeats 4000000 in
set_option maxRecDepth 100000 in
theorem mX5_value {l : Launch} {a : Nat → Nat} {cy dC : Nat → ClassId} {dI : Nat → Nat → Nat} (hinj : ∀ i j, i < 80 → j < 80 → a i = a j → i = j) : f_Met (xE a) l xY 80 a cy dC dI yX5_value cX5_value 6 1 0 pX5_value qX5_value := by
  refine f_met_of (xE_c a) hinj xY_hi (by decide) (fun av I L h => by unfold pX5_value at h; split at h <;> first | exact Nat.le_of_ble_eq_true rfl | exact h.elim) ?_
  intro pP eP sP mP aP bP hP9 cP C av I L hp
  unfold pX5_value at hp
  split at hp
  case h_2 => exact hp.elim
  case h_1 r p i =>
    obtain ⟨hR, p1, p2, p3⟩ := hp
    refine f_wp_ok C f_cl flX5_ok fiX5_ok fjX5_ok (sn := none) (fun j h => by cases h) (cs := (fun _ => none)) (cz := (fun _ => none)) (fun j S h => by cases h) (fun j S h => by cases h) tX5_value_ok (cut := (fun _ => none)) (fun t P h => by cases h) 42 0 tX5_value tX5_value_ok _ _ _ _ ?_
    apply And.intro
    · intro h4
      have h4 : (I 69 6).toInt = 0 := h4
      apply And.intro
      · intro h11
        have h11 : r.toInt < 0 := h11
        exact ⟨rfl, rfl, (show ((I 69 6).toInt = 0 → 0 ≤ r.toInt → r.toInt < (I 69 5).toInt → kb L r.toInt.toNat (p.toInt + i.toInt).toNat < 255 → (-1 : Int) = kb L r.toInt.toNat (p.toInt + i.toInt).toNat) from fun q1 q2 q3 q4 => by omega)⟩
      · intro h11
        have h11 : 0 ≤ r.toInt := h11
        have r16_2 : 0 ≤ (I 69 5).toInt ∧ (I 69 5).toInt ≤ 300 := hR 69 5
        apply And.intro
        · intro h19
          have h19 : r.toInt < (I 69 5).toInt := h19
          intro z26 q26 _ hq26 hl26 hu26
          have hq26 : z26.toInt = p.toInt + i.toInt + 4294967296 * q26 := hq26
          try have hz26 : z26.toInt = p.toInt + i.toInt := by omega
          intro z36 q36 _ hq36 hl36 hu36
          have hq36 : z36.toInt = r.toInt * 8 + 4294967296 * q36 := hq36
          try have hz36 : z36.toInt = r.toInt * 8 := by omega
          refine And.intro (by decide) ?_
          try have d41 : (z26 / (Int32.ofInt 8)).toInt = z26.toInt / 8 := t_div (show 0 ≤ z26.toInt from by omega) (show 0 < 8 from by omega)
          intro z42 q42 _ hq42 hl42 hu42
          have hq42 : z42.toInt = z36.toInt + (z26 / (Int32.ofInt 8)).toInt + 4294967296 * q42 := hq42
          try have hz42 : z42.toInt = z36.toInt + (z26 / (Int32.ofInt 8)).toInt := by omega
          refine And.intro (show f_in z42 2400 from ⟨show 0 ≤ z42.toInt from by omega, show z42.toInt < 2400 from by omega⟩) ?_
          refine And.intro (by decide) ?_
          try have d48 : (z26 - z26 / (Int32.ofInt 8) * (Int32.ofInt 8)).toInt = z26.toInt % 8 := t_rem (show 0 ≤ z26.toInt from by omega) (show 0 < 8 from by omega)
          intro z51 q51 _ hq51 hl51 hu51
          have hq51 : z51.toInt = (z26 - z26 / (Int32.ofInt 8) * (Int32.ofInt 8)).toInt * 8 + 4294967296 * q51 := hq51
          try have hz51 : z51.toInt = (z26 - z26 / (Int32.ofInt 8) * (Int32.ofInt 8)).toInt * 8 := by omega
          have b57 : 0 ≤ ((((L 70 (z42.toInt.toNat)) >>> (z51.toInt64 &&& 63)).toInt32) &&& (Int32.ofInt 255)).toInt ∧ ((((L 70 (z42.toInt.toNat)) >>> (z51.toInt64 &&& 63)).toInt32) &&& (Int32.ofInt 255)).toInt ≤ 255 := f_andc (((L 70 (z42.toInt.toNat)) >>> (z51.toInt64 &&& 63)).toInt32) 8 (by decide) (by decide)
          have v57 : ((((L 70 (z42.toInt.toNat)) >>> (z51.toInt64 &&& 63)).toInt32) &&& (Int32.ofInt 255)).toInt = kb L r.toInt.toNat (p.toInt + i.toInt).toNat := by
            unfold kb
            rw [← show z42.toInt.toNat = 8 * r.toInt.toNat + (p.toInt + i.toInt).toNat / 8 by omega]
            exact bb_get (by omega) (by omega)
          apply And.intro
          · intro h65
            have h65 : ¬ ((((L 70 (z42.toInt.toNat)) >>> (z51.toInt64 &&& 63)).toInt32) &&& (Int32.ofInt 255)).toInt = 255 := h65
            exact ⟨rfl, rfl, (show ((I 69 6).toInt = 0 → 0 ≤ r.toInt → r.toInt < (I 69 5).toInt → kb L r.toInt.toNat (p.toInt + i.toInt).toNat < 255 → ((((L 70 (z42.toInt.toNat)) >>> (z51.toInt64 &&& 63)).toInt32) &&& (Int32.ofInt 255)).toInt = kb L r.toInt.toNat (p.toInt + i.toInt).toNat) from fun q1 q2 q3 q4 => by omega)⟩
          · intro h65
            have h65 : ((((L 70 (z42.toInt.toNat)) >>> (z51.toInt64 &&& 63)).toInt32) &&& (Int32.ofInt 255)).toInt = 255 := h65
            exact ⟨rfl, rfl, (show ((I 69 6).toInt = 0 → 0 ≤ r.toInt → r.toInt < (I 69 5).toInt → kb L r.toInt.toNat (p.toInt + i.toInt).toNat < 255 → (-1 : Int) = kb L r.toInt.toNat (p.toInt + i.toInt).toNat) from fun q1 q2 q3 q4 => by omega)⟩
        · intro h19
          have h19 : (I 69 5).toInt ≤ r.toInt := h19
          exact ⟨rfl, rfl, (show ((I 69 6).toInt = 0 → 0 ≤ r.toInt → r.toInt < (I 69 5).toInt → kb L r.toInt.toNat (p.toInt + i.toInt).toNat < 255 → (-1 : Int) = kb L r.toInt.toNat (p.toInt + i.toInt).toNat) from fun q1 q2 q3 q4 => by omega)⟩
    · intro h4
      have h4 : ¬ (I 69 6).toInt = 0 := h4
      exact ⟨rfl, rfl, (show ((I 69 6).toInt = 0 → 0 ≤ r.toInt → r.toInt < (I 69 5).toInt → kb L r.toInt.toNat (p.toInt + i.toInt).toNat < 255 → (-2 : Int) = kb L r.toInt.toNat (p.toInt + i.toInt).toNat) from fun q1 q2 q3 q4 => by omega)⟩
def tX5_goalEnd : List (Instr × Nat) := [(.aload_n 0, 1), (.getfield 31, 3), (.getfield 67, 3), (.iconst 1, 1), (.isub, 1), (.istore_n 1, 1), (.iload_n 1, 1), (.ifCond .le 22, 3), (.aload_n 0, 1), (.getfield 31, 3), (.getfield 112, 3), (.iload_n 1, 1), (.iaload, 1), (.iconst (-1), 1), (.if_icmp .eq 9, 3), (.iinc 1 (-1), 3), (.goto (-20), 3), (.iload_n 1, 1), (.ireturn, 1)]
theorem tX5_goalEnd_ok : f_chk cX5_goalEnd 0 tX5_goalEnd = true := by decide +kernel
def pX5_goalEnd (av : List Value) (I : fM) (L : fN) : Prop := match av with
  | [.ref 69] => xR I ∧ 0 < (I 31 9).toInt ∧ ∃ i : Nat, (i : Int) < (I 31 9).toInt ∧ (I 33 i).toInt = -1
  | _ => False
def qX5_goalEnd (av : List Value) (I : fM) (L : fN) (r : Value) (I' : fM) (L' : fN) : Prop := match av, r with
  | [.ref 69], .int x => I' = I ∧ L' = L ∧ 0 ≤ x.toInt ∧ x.toInt < (I 31 9).toInt ∧ (I 33 x.toInt.toNat).toInt = -1
  | _, _ => False
set_option maxHeartbeats 4000000 in
set_option maxRecDepth 100000 in
theorem mX5_goalEnd {l : Launch} {a : Nat → Nat} {cy dC : Nat → ClassId} {dI : Nat → Nat → Nat} (hinj : ∀ i j, i < 80 → j < 80 → a i = a j → i = j) : f_Met (xE a) l xY 80 a cy dC dI yX5_goalEnd cX5_goalEnd 2 1 0 pX5_goalEnd qX5_goalEnd := by
  refine f_met_of (xE_c a) hinj xY_hi (by decide) (fun av I L h => by unfold pX5_goalEnd at h; split at h <;> first | exact Nat.le_of_ble_eq_true rfl | exact h.elim) ?_
  intro pP eP sP mP aP bP hP9 cP C av I L hp
  unfold pX5_goalEnd at hp
  split at hp
  case h_2 => exact hp.elim
  case h_1 =>
    obtain ⟨hR, p1, p2⟩ := hp
    have hn : (I 31 9).toInt ≤ 20 := (hR 31 9).2
    have lp10 : ∀ (n10 : Nat), ∀ (e : Int32), (0 ≤ e.toInt) ∧ (e.toInt < (I 31 9).toInt) ∧ ((∃ i : Nat, (i : Int) ≤ e.toInt ∧ (I 33 i).toInt = -1)) ∧ e.toInt < n10 → f_W pP l eP (f_rm 0) sP mP aP bP hP9 cP xY 80 a cy dC dI 2 (f_K 1 (qX5_goalEnd [.ref 69] I L)) 10 [(1, .int e), (0, .ref 69)] [] I L := by
      intro n10
      induction n10 with
      | zero =>
        intro e h9
        obtain ⟨u10_1, u10_2, u10_3, hm10⟩ := h9
        omega
      | succ n10 ih10 =>
        intro e h9
        obtain ⟨u10_1, u10_2, u10_3, hm10⟩ := h9
        refine f_wp_ok C f_cl flX5_ok fiX5_ok fjX5_ok (sn := none) (fun j h => by cases h) (cs := (fun _ => none)) (cz := (fun _ => none)) (fun j S h => by cases h) (fun j S h => by cases h) tX5_goalEnd_ok (cut := (f_cnl [(10, (fun (ls' : fLs) (st' : List Value) (I' : fM) (L' : fN) => ∃ e : Int32, (∀ q ∈ ([(1, .int e), (0, .ref 69)] : fLs), q ∈ ls') ∧ st' = [] ∧ I' = I ∧ L' = L ∧ ((0 ≤ e.toInt) ∧ (e.toInt < (I 31 9).toInt) ∧ ((∃ i : Nat, (i : Int) ≤ e.toInt ∧ (I 33 i).toInt = -1)) ∧ e.toInt < n10)))])) (f_cnl_of (P := fun (tQ : Nat) (P : fLs → List Value → fM → fN → Prop) => ∀ ls' st' I' L', P ls' st' I' L' → f_W pP l eP (f_rm 0) sP mP aP bP hP9 cP xY 80 a cy dC dI 2 (f_K 1 (qX5_goalEnd [.ref 69] I L)) tQ ls' st' I' L') (List.forall_mem_cons.mpr ⟨(fun ls' st' I' L' h => by obtain ⟨e, hs, e1, e2, e3, h9⟩ := h; rw [e1, e2, e3]; exact f_W_sub hs (ih10 e h9)), fun _ h => absurd h List.not_mem_nil⟩)) 14 10 (f_seek 10 0 tX5_goalEnd) (f_seek_ok 10 0 tX5_goalEnd tX5_goalEnd_ok) _ _ _ _ ?_
        obtain ⟨i, hi, hi2⟩ := u10_3
        apply And.intro
        · intro h11
          have h11 : e.toInt ≤ 0 := h11
          have r34_1 : 0 ≤ (I 31 9).toInt ∧ (I 31 9).toInt ≤ 20 := hR 31 9
          exact ⟨rfl, rfl, (show 0 ≤ e.toInt from by first | assumption | omega | rfl), (show e.toInt < (I 31 9).toInt from by first | assumption | omega | rfl), (by first | exact h24 | (rw [show e.toInt.toNat = i by omega]; exact hi2))⟩
        · intro h11
          have h11 : 0 < e.toInt := h11
          refine And.intro (show f_in e 20 from ⟨show 0 ≤ e.toInt from by omega, show e.toInt < 20 from by omega⟩) ?_
          have r22_1 : -1 ≤ (I 33 (e.toInt.toNat)).toInt ∧ (I 33 (e.toInt.toNat)).toInt ≤ 19 := hR 33 (e.toInt.toNat)
          apply And.intro
          · intro h24
            have h24 : (I 33 (e.toInt.toNat)).toInt = (-1) := h24
            have r34_2 : 0 ≤ (I 31 9).toInt ∧ (I 31 9).toInt ≤ 20 := hR 31 9
            exact ⟨rfl, rfl, (show 0 ≤ e.toInt from by first | assumption | omega | rfl), (show e.toInt < (I 31 9).toInt from by first | assumption | omega | rfl), (by first | exact h24 | (rw [show e.toInt.toNat = i by omega]; exact hi2))⟩
          · intro h24
            have h24 : ¬ (I 33 (e.toInt.toNat)).toInt = (-1) := h24
            intro z27 q27 _ hq27 hl27 hu27
            have hq27 : z27.toInt = e.toInt + (-1) + 4294967296 * q27 := hq27
            try have hz27 : z27.toInt = e.toInt + (-1) := by omega
            have q27 : ∃ i : Nat, (i : Int) ≤ z27.toInt ∧ (I 33 i).toInt = -1 := by
              refine ⟨i, ?_, hi2⟩
              have : i ≠ e.toInt.toNat := fun q => by rw [q] at hi2; exact h24 hi2
              omega
            have r10_2 : 0 ≤ (I 31 9).toInt ∧ (I 31 9).toInt ≤ 20 := hR 31 9
            exact ⟨z27, (by intro q9 h9; simp only [List.mem_cons, List.not_mem_nil, or_false] at h9; rcases h9 with h9 | h9 <;> subst h9 <;> repeat (first | exact List.mem_cons_self | apply List.mem_cons_of_mem)), rfl, rfl, rfl, (show 0 ≤ z27.toInt from by first | assumption | omega), (show z27.toInt < (I 31 9).toInt from by first | assumption | omega), (show (∃ i : Nat, (i : Int) ≤ z27.toInt ∧ (I 33 i).toInt = -1) from by first | assumption | omega | rfl), (show z27.toInt < n10 from by omega)⟩
    refine f_wp_ok C f_cl flX5_ok fiX5_ok fjX5_ok (sn := none) (fun j h => by cases h) (cs := (fun _ => none)) (cz := (fun _ => none)) (fun j S h => by cases h) (fun j S h => by cases h) tX5_goalEnd_ok (cut := (f_cnl [(10, (fun (ls' : fLs) (st' : List Value) (I' : fM) (L' : fN) => ∃ e : Int32, (∀ q ∈ ([(1, .int e), (0, .ref 69)] : fLs), q ∈ ls') ∧ st' = [] ∧ I' = I ∧ L' = L ∧ ((0 ≤ e.toInt) ∧ (e.toInt < (I 31 9).toInt) ∧ ((∃ i : Nat, (i : Int) ≤ e.toInt ∧ (I 33 i).toInt = -1)) ∧ e.toInt < 21)))])) (f_cnl_of (P := fun (tQ : Nat) (P : fLs → List Value → fM → fN → Prop) => ∀ ls' st' I' L', P ls' st' I' L' → f_W pP l eP (f_rm 0) sP mP aP bP hP9 cP xY 80 a cy dC dI 2 (f_K 1 (qX5_goalEnd [.ref 69] I L)) tQ ls' st' I' L') (List.forall_mem_cons.mpr ⟨(fun ls' st' I' L' h => by obtain ⟨e, hs, e1, e2, e3, h9⟩ := h; rw [e1, e2, e3]; exact f_W_sub hs (lp10 21 e h9)), fun _ h => absurd h List.not_mem_nil⟩)) 9 0 tX5_goalEnd tX5_goalEnd_ok _ _ _ _ ?_
    have r4_1 : 0 ≤ (I 31 9).toInt ∧ (I 31 9).toInt ≤ 20 := hR 31 9
    intro z8 q8 _ hq8 hl8 hu8
    have hq8 : z8.toInt = (I 31 9).toInt - 1 + 4294967296 * q8 := hq8
    try have hz8 : z8.toInt = (I 31 9).toInt - 1 := by omega
    have q9 : ∃ i : Nat, (i : Int) ≤ z8.toInt ∧ (I 33 i).toInt = -1 := by obtain ⟨i, hi, hi2⟩ := p2; exact ⟨i, by omega, hi2⟩
    exact ⟨z8, (by intro q9 h9; simp only [List.mem_cons, List.not_mem_nil, or_false] at h9; rcases h9 with h9 | h9 <;> subst h9 <;> repeat (first | exact List.mem_cons_self | apply List.mem_cons_of_mem)), rfl, rfl, rfl, (show 0 ≤ z8.toInt from by first | assumption | omega), (show z8.toInt < (I 31 9).toInt from by first | assumption | omega), (show (∃ i : Nat, (i : Int) ≤ z8.toInt ∧ (I 33 i).toInt = -1) from by first | assumption | omega | rfl), (show z8.toInt < 21 from by omega)⟩
theorem chn_step {B : Nat → Int32} {h i j : Int} (h0 : 0 ≤ h) (i0 : 0 ≤ i) (i4 : i < 4) (hj : j = i + 1) : ((chn B (4 - i).toNat h).length : Int) = 1 + ((chn B (4 - j).toNat (B h.toNat).toInt).length : Int) := by
  rw [show (4 - i).toNat = (4 - j).toNat + 1 by omega]
  show ((if h < 0 then ([] : List Nat) else h.toNat :: chn B (4 - j).toNat (B h.toNat).toInt).length : Int) = _
  rw [if_neg (by omega), List.length_cons]
  omega
theorem chn_end {B : Nat → Int32} {h i : Int} (hh : h < 0 ∨ 4 ≤ i) : ((chn B (4 - i).toNat h).length : Int) = 0 := by
  rcases hh with q | q
  · cases (4 - i).toNat with
    | zero => rfl
    | succ k =>
      show ((if h < 0 then ([] : List Nat) else _).length : Int) = 0
      rw [if_pos q]
      rfl
  · rw [show (4 - i).toNat = 0 by omega]
    rfl
theorem tlS_step {g : Nat → Nat} {B : Nat → Int32} {h i j : Int} (h0 : 0 ≤ h) (i0 : 0 ≤ i) (i4 : i < 4) (hj : j = i + 1) : tlS g B (4 - i).toNat h = g h.toNat + tlS g B (4 - j).toNat (B h.toNat).toInt := by
  rw [show (4 - i).toNat = (4 - j).toNat + 1 by omega]
  show (if h < 0 then 0 else g h.toNat + tlS g B (4 - j).toNat (B h.toNat).toInt) = _
  rw [if_neg (by omega)]
theorem tlS_end {g : Nat → Nat} {B : Nat → Int32} {h i : Int} (hh : h < 0 ∨ 4 ≤ i) : tlS g B (4 - i).toNat h = 0 := by
  rcases hh with q | q
  · cases (4 - i).toNat with
    | zero => rfl
    | succ k =>
      show (if h < 0 then 0 else _) = 0
      rw [if_pos q]
  · rw [show (4 - i).toNat = 0 by omega]
    rfl
theorem tlT_step {Q C B : Nat → Int32} {k : Int} {w : Nat} (k0 : k ≤ 20) (hq : 0 ≤ (Q w).toInt) : tlT Q C B (21 - k).toNat w = (chn B 4 (C w).toInt).length + 1 + tlS (tlT Q C B (20 - k).toNat) B 4 (C (Q w).toInt.toNat).toInt := by
  rw [show (21 - k).toNat = (20 - k).toNat + 1 by omega]
  show (if (Q w).toInt < 0 then 0 else _) = _
  rw [if_neg (by omega)]
theorem tlT_0 {Q C B : Nat → Int32} {k : Int} {w : Nat} (h : 20 < k ∨ (Q w).toInt < 0) : tlT Q C B (21 - k).toNat w = 0 := by
  rcases h with q | q
  · rw [show (21 - k).toNat = 0 by omega]
    rfl
  · cases (21 - k).toNat with
    | zero => rfl
    | succ f =>
      show (if (Q w).toInt < 0 then 0 else _) = 0
      rw [if_pos q]
def tX5_tell : List (Instr × Nat) := [(.aload_n 0, 1), (.getfield 31, 3), (.getfield 68, 3), (.iload_n 1, 1), (.iaload, 1), (.istore 4, 2), (.iload_n 3, 1), (.bipush 20, 2), (.if_icmp .gt 8, 3), (.iload 4, 2), (.ifCond .ge 4, 3), (.return_, 1), (.aload_n 0, 1), (.getfield 31, 3), (.getfield 115, 3), (.iload_n 1, 1), (.iaload, 1), (.istore 5, 2), (.iconst 0, 1), (.istore 6, 2), (.iload 6, 2), (.iconst 4, 1), (.if_icmp .ge 77, 3), (.iload 5, 2), (.iconst (-1), 1), (.if_icmp .eq 71, 3), (.aload_n 0, 1), (.getfield 17, 3), (.iload 5, 2), (.aload_n 0, 1), (.getfield 92, 3), (.iastore, 1), (.aload_n 0, 1), (.bipush 24, 2), (.aload_n 0, 1), (.getfield 95, 3), (.iadd, 1), (.sipush 200, 3), (.aload_n 0, 1), (.getfield 92, 3), (.iadd, 1), (.invokevirtual 120, 3), (.aload_n 0, 1), (.dup, 1), (.getfield 95, 3), (.iconst 1, 1), (.iadd, 1), (.putfield 95, 3), (.aload_n 0, 1), (.dup, 1), (.getfield 92, 3), (.iconst 1, 1), (.iadd, 1), (.putfield 92, 3), (.aload_n 0, 1), (.getfield 31, 3), (.getfield 123, 3), (.iload 5, 2), (.iaload, 1), (.istore 5, 2), (.iinc 6 1, 3), (.goto (-77), 3), (.aload_n 0, 1), (.getfield 31, 3), (.getfield 112, 3), (.iload 4, 2), (.iaload, 1), (.iconst (-1), 1), (.if_icmp .ne 7, 3), (.iconst 1, 1), (.goto 4, 3), (.iconst 0, 1), (.istore 6, 2), (.iload 6, 2), (.ifCond .eq 16, 3), (.aload_n 0, 1), (.getfield 31, 3), (.getfield 126, 3), (.iload 4, 2), (.iaload, 1), (.goto 13, 3), (.bipush 100, 2), (.aload_n 0, 1), (.getfield 17, 3), (.iload 4, 2), (.iaload, 1), (.iadd, 1), (.istore 7, 2), (.aload_n 0, 1), (.bipush 24, 2), (.aload_n 0, 1), (.getfield 95, 3), (.iadd, 1), (.iload 7, 2), (.invokevirtual 120, 3), (.aload_n 0, 1), (.dup, 1), (.getfield 95, 3), (.iconst 1, 1), (.iadd, 1), (.putfield 95, 3), (.iload 6, 2), (.ifCond .eq 18, 3), (.iload_n 2, 1), (.iconst (-1), 1), (.if_icmp .eq 13, 3), (.aload_n 0, 1), (.bipush 56, 2), (.iload 7, 2), (.iadd, 1), (.iload_n 2, 1), (.invokevirtual 120, 3), (.aload_n 0, 1), (.getfield 31, 3), (.getfield 115, 3), (.iload 4, 2), (.iaload, 1), (.istore 8, 2), (.iconst 0, 1), (.istore 9, 2), (.iload 9, 2), (.iconst 4, 1), (.if_icmp .ge 38, 3), (.iload 8, 2), (.iconst (-1), 1), (.if_icmp .eq 32, 3), (.aload_n 0, 1), (.iload 8, 2), (.iload 7, 2), (.iload_n 3, 1), (.iconst 1, 1), (.iadd, 1), (.invokevirtual 102, 3), (.aload_n 0, 1), (.getfield 31, 3), (.getfield 123, 3), (.iload 8, 2), (.iaload, 1), (.istore 8, 2), (.iinc 9 1, 3), (.goto (-38), 3), (.return_, 1)]
theorem tX5_tell_ok : f_chk cX5_tell 0 tX5_tell = true := by decide +kernel
def pX5_tell (d : Nat) (av : List Value) (I : fM) (L : fN) : Prop := match av with
  | [.ref 69, .int w, .int v, .int k] => dpos d ∧ xR I ∧ 0 ≤ w.toInt ∧ w.toInt ≤ 19 ∧ 0 ≤ k.toInt ∧ k.toInt ≤ 21 ∧ 22 - k.toInt ≤ d ∧ 0 ≤ (I 69 8).toInt ∧ (I 69 8).toInt ≤ 2392 ∧ 0 ≤ (I 69 10).toInt ∧ (I 69 10).toInt + (tlT (I 37) (I 34) (I 35) (21 - k.toInt).toNat w.toInt.toNat : Int) ≤ 40
  | _ => False
def qX5_tell (av : List Value) (I : fM) (L : fN) (r : Value) (I' : fM) (L' : fN) : Prop := match av, r with
  | [.ref 69, .int w, .int v, .int k], .null => xR I' ∧ f_fr [69, 71] I I' ∧ f_fr [70] L L' ∧ (I' 69 5).toInt = (I 69 5).toInt ∧ (I' 69 6).toInt = (I 69 6).toInt ∧ (I' 69 8).toInt = (I 69 8).toInt ∧ (I' 69 10).toInt = (I 69 10).toInt + (tlT (I 37) (I 34) (I 35) (21 - k.toInt).toNat w.toInt.toNat : Int) ∧ (∀ j : Nat, (j < (I 69 8).toInt.toNat ∨ (I 69 8).toInt.toNat + 8 ≤ j) → L' 70 j = L 70 j)
  | _, _ => False
set_option maxHeartbeats 4000000 in
set_option maxRecDepth 100000 in
theorem mX5_tell {l : Launch} {a : Nat → Nat} {cy dC : Nat → ClassId} {dI : Nat → Nat → Nat} (hinj : ∀ i j, i < 80 → j < 80 → a i = a j → i = j) : ∀ d : Nat, f_Met (xE a) l xY 80 a cy dC dI yX5_tell cX5_tell 10 0 (d + 1) (pX5_tell d) qX5_tell := by
  intro d
  induction d with
  | zero =>
    intro av I L hp
    exfalso
    unfold pX5_tell at hp
    split at hp
    case h_2 => exact hp.elim
    case h_1 w v k => exact hp.1.elim
  | succ d ih =>
  refine f_met_of (xE_c a) hinj xY_hi (by decide) (fun av I L h => by unfold pX5_tell at h; split at h <;> first | exact Nat.le_of_ble_eq_true rfl | exact h.elim) ?_
  intro pP eP sP mP aP bP hP9 cP C av I L hp
  unfold pX5_tell at hp
  split at hp
  case h_2 => exact hp.elim
  case h_1 w v k =>
    obtain ⟨p0, hR, p2, p3, p4, p5, p6, p7, p8, p9, p10⟩ := hp
    have hF0 : f_fr [69, 71] I I := f_fr_rf
    have hG0 : f_fr [70] L L := f_fr_rf
    have lp23 : ∀ (g : Int32), (g.toInt = (I 37 w.toInt.toNat).toInt) ∧ (0 ≤ g.toInt) ∧ (g.toInt ≤ 19) ∧ (k.toInt ≤ 20) → f_W pP l eP (f_rm (d + 1 + 1)) sP mP aP bP hP9 cP xY 80 a cy dC dI 10 (f_K 0 (qX5_tell [.ref 69, .int w, .int v, .int k] I L)) 23 [(4, .int g), (3, .int k), (2, .int v), (1, .int w), (0, .ref 69)] [] I L := by
      intro g h9
      obtain ⟨u23_1, u23_2, u23_3, u23_4⟩ := h9
      have hT : tlT (I 37) (I 34) (I 35) (21 - k.toInt).toNat w.toInt.toNat = (chn (I 35) 4 (I 34 w.toInt.toNat).toInt).length + 1 + tlS (tlT (I 37) (I 34) (I 35) (20 - k.toInt).toNat) (I 35) 4 (I 34 g.toInt.toNat).toInt := by rw [u23_1]; exact tlT_step u23_4 (by omega)
      have lp226 : ∀ (n226 : Nat), ∀ (o : Int32) (ws : Int32) (i : Int32) (J226 : fM) (M226 : fN), xR J226 ∧ f_fr [69, 71] I J226 ∧ f_fr [70] L M226 ∧ (-1 ≤ ws.toInt) ∧ (ws.toInt ≤ 19) ∧ (0 ≤ i.toInt) ∧ (i.toInt ≤ 4) ∧ ((J226 69 5).toInt = (I 69 5).toInt) ∧ ((J226 69 6).toInt = (I 69 6).toInt) ∧ ((J226 69 8).toInt = (I 69 8).toInt) ∧ (0 ≤ (J226 69 10).toInt) ∧ ((J226 69 10).toInt + (tlS (tlT (I 37) (I 34) (I 35) (20 - k.toInt).toNat) (I 35) (4 - i.toInt).toNat ws.toInt : Int) = (I 69 10).toInt + (tlT (I 37) (I 34) (I 35) (21 - k.toInt).toNat w.toInt.toNat : Int)) ∧ ((∀ j : Nat, (j < (I 69 8).toInt.toNat ∨ (I 69 8).toInt.toNat + 8 ≤ j) → M226 70 j = L 70 j)) ∧ (4 - i.toInt) < n226 → f_W pP l eP (f_rm (d + 1 + 1)) sP mP aP bP hP9 cP xY 80 a cy dC dI 10 (f_K 0 (qX5_tell [.ref 69, .int w, .int v, .int k] I L)) 226 [(9, .int i), (8, .int ws), (7, .int o), (4, .int g), (3, .int k), (2, .int v), (1, .int w), (0, .ref 69)] [] J226 M226 := by
        intro n226
        induction n226 with
        | zero =>
          intro o ws i J226 M226 h9
          obtain ⟨hR226c, hF226c, hG226c, u226_1, u226_2, u226_3, u226_4, u226_5, u226_6, u226_7, u226_8, u226_9, u226_10, hm226⟩ := h9
          omega
        | succ n226 ih226 =>
          intro o ws i J226 M226 h9
          obtain ⟨hR226c, hF226c, hG226c, u226_1, u226_2, u226_3, u226_4, u226_5, u226_6, u226_7, u226_8, u226_9, u226_10, hm226⟩ := h9
          refine f_wp_ok C f_cl flX5_ok fiX5_ok fjX5_ok (sn := none) (fun j h => by cases h) (cs := (f_cnl [(120, (3, 0, 5, pX5_write, qX5_write)), (102, (4, 0, 5, (pX5_tell d), qX5_tell))])) (cz := (fun _ => none)) (f_cnl_of (P := fun j S => f_cok pP l eP (f_rm (d + 1 + 1)) sP mP aP bP hP9 cP xY 80 a cy dC dI 10 _ _ (.invokevirtual j) true S) (List.forall_mem_cons.mpr ⟨f_cokV C (mX5_write hinj) (ci := 5) rfl (List.forall_mem_cons.mpr ⟨(mlX5_ok _ (List.mem_of_getElem? (i := 10) rfl)), kc_X5_write⟩) (by decide +kernel) ⟨by simp only [f_rm]; omega, by simp only [f_rm]; omega⟩, List.forall_mem_cons.mpr ⟨f_cokV C ih (ci := 5) rfl (List.forall_mem_cons.mpr ⟨(mlX5_ok _ (List.mem_of_getElem? (i := 7) rfl)), kc_X5_tell⟩) (by decide +kernel) ⟨by simp only [f_rm]; omega, by simp only [f_rm]; omega⟩, fun _ h => absurd h List.not_mem_nil⟩⟩)) (fun j S h => by cases h) tX5_tell_ok (cut := (f_cnl [(226, (fun (ls' : fLs) (st' : List Value) (I' : fM) (L' : fN) => ∃ o : Int32, ∃ ws : Int32, ∃ i : Int32, (∀ q ∈ ([(9, .int i), (8, .int ws), (7, .int o), (4, .int g), (3, .int k), (2, .int v), (1, .int w), (0, .ref 69)] : fLs), q ∈ ls') ∧ st' = [] ∧ (xR I' ∧ f_fr [69, 71] I I' ∧ f_fr [70] L L' ∧ (-1 ≤ ws.toInt) ∧ (ws.toInt ≤ 19) ∧ (0 ≤ i.toInt) ∧ (i.toInt ≤ 4) ∧ ((I' 69 5).toInt = (I 69 5).toInt) ∧ ((I' 69 6).toInt = (I 69 6).toInt) ∧ ((I' 69 8).toInt = (I 69 8).toInt) ∧ (0 ≤ (I' 69 10).toInt) ∧ ((I' 69 10).toInt + (tlS (tlT (I 37) (I 34) (I 35) (20 - k.toInt).toNat) (I 35) (4 - i.toInt).toNat ws.toInt : Int) = (I 69 10).toInt + (tlT (I 37) (I 34) (I 35) (21 - k.toInt).toNat w.toInt.toNat : Int)) ∧ ((∀ j : Nat, (j < (I 69 8).toInt.toNat ∨ (I 69 8).toInt.toNat + 8 ≤ j) → L' 70 j = L 70 j)) ∧ (4 - i.toInt) < n226)))])) (f_cnl_of (P := fun (tQ : Nat) (P : fLs → List Value → fM → fN → Prop) => ∀ ls' st' I' L', P ls' st' I' L' → f_W pP l eP (f_rm (d + 1 + 1)) sP mP aP bP hP9 cP xY 80 a cy dC dI 10 (f_K 0 (qX5_tell [.ref 69, .int w, .int v, .int k] I L)) tQ ls' st' I' L') (List.forall_mem_cons.mpr ⟨(fun ls' st' I' L' h => by obtain ⟨o, ws, i, hs, e1, h9⟩ := h; rw [e1]; exact f_W_sub hs (ih226 o ws i I' L' h9)), fun _ h => absurd h List.not_mem_nil⟩)) 24 226 (f_seek 226 0 tX5_tell) (f_seek_ok 226 0 tX5_tell tX5_tell_ok) _ _ _ _ ?_
          apply And.intro
          · intro h229
            have h229 : 4 ≤ i.toInt := h229
            try have x229 := tlS_end (g := tlT (I 37) (I 34) (I 35) (20 - k.toInt).toNat) (B := I 35) (h := ws.toInt) (i := i.toInt) (Or.inr (by omega))
            have r267_1 : 0 ≤ (J226 69 5).toInt ∧ (J226 69 5).toInt ≤ 300 := hR226c 69 5
            exact ⟨hR226c, hF226c, hG226c, (show (J226 69 5).toInt = (I 69 5).toInt from by first | assumption | omega | rfl), (show (J226 69 6).toInt = (I 69 6).toInt from by first | assumption | omega | rfl), (show (J226 69 8).toInt = (I 69 8).toInt from by first | assumption | omega | rfl), (show (J226 69 10).toInt = (I 69 10).toInt + (tlT (I 37) (I 34) (I 35) (21 - k.toInt).toNat w.toInt.toNat : Int) from by first | assumption | omega | rfl), (show (∀ j : Nat, (j < (I 69 8).toInt.toNat ∨ (I 69 8).toInt.toNat + 8 ≤ j) → M226 70 j = L 70 j) from by first | assumption | omega | rfl | exact fun _ _ => rfl | exact fun _ _ => ⟨rfl, rfl⟩ | exact fun _ _ => ⟨rfl, rfl, rfl⟩ | (intro j9 hj9; omega))⟩
          · intro h229
            have h229 : i.toInt < 4 := h229
            try have x229 := tlS_end (g := tlT (I 37) (I 34) (I 35) (20 - k.toInt).toNat) (B := I 35) (h := ws.toInt) (i := i.toInt) (Or.inr (by omega))
            apply And.intro
            · intro h235
              have h235 : ws.toInt = (-1) := h235
              try have x235 := tlS_end (g := tlT (I 37) (I 34) (I 35) (20 - k.toInt).toNat) (B := I 35) (h := ws.toInt) (i := i.toInt) (Or.inl (by omega))
              have r267_1 : 0 ≤ (J226 69 5).toInt ∧ (J226 69 5).toInt ≤ 300 := hR226c 69 5
              exact ⟨hR226c, hF226c, hG226c, (show (J226 69 5).toInt = (I 69 5).toInt from by first | assumption | omega | rfl), (show (J226 69 6).toInt = (I 69 6).toInt from by first | assumption | omega | rfl), (show (J226 69 8).toInt = (I 69 8).toInt from by first | assumption | omega | rfl), (show (J226 69 10).toInt = (I 69 10).toInt + (tlT (I 37) (I 34) (I 35) (21 - k.toInt).toNat w.toInt.toNat : Int) from by first | assumption | omega | rfl), (show (∀ j : Nat, (j < (I 69 8).toInt.toNat ∨ (I 69 8).toInt.toNat + 8 ≤ j) → M226 70 j = L 70 j) from by first | assumption | omega | rfl | exact fun _ _ => rfl | exact fun _ _ => ⟨rfl, rfl⟩ | exact fun _ _ => ⟨rfl, rfl, rfl⟩ | (intro j9 hj9; omega))⟩
            · intro h235
              have h235 : ¬ ws.toInt = (-1) := h235
              try have x235 := tlS_end (g := tlT (I 37) (I 34) (I 35) (20 - k.toInt).toNat) (B := I 35) (h := ws.toInt) (i := i.toInt) (Or.inl (by omega))
              have s238 := tlS_step (g := tlT (I 37) (I 34) (I 35) (20 - k.toInt).toNat) (B := I 35) (h := ws.toInt) (i := i.toInt) (j := i.toInt + 1) (by omega) u226_3 (by omega) rfl
              intro z245 q245 _ hq245 hl245 hu245
              have hq245 : z245.toInt = k.toInt + 1 + 4294967296 * q245 := hq245
              try have hz245 : z245.toInt = k.toInt + 1 := by omega
              refine And.intro ⟨(dpos_of (by omega)), hR226c, (show 0 ≤ ws.toInt from by first | assumption | omega), (show ws.toInt ≤ 19 from by first | assumption | omega), (show 0 ≤ z245.toInt from by first | assumption | omega), (show z245.toInt ≤ 21 from by first | assumption | omega), (show 22 - z245.toInt ≤ d from by first | assumption | omega), (show 0 ≤ (J226 69 8).toInt from by first | assumption | omega), (show (J226 69 8).toInt ≤ 2392 from by first | assumption | omega), (show 0 ≤ (J226 69 10).toInt from by first | assumption | omega), (show (J226 69 10).toInt + (tlT (J226 37) (J226 34) (J226 35) (21 - z245.toInt).toNat ws.toInt.toNat : Int) ≤ 40 from by rw [hF226c 37 rfl, hF226c 34 rfl, hF226c 35 rfl, show (21 - z245.toInt).toNat = (20 - k.toInt).toNat by omega]; omega)⟩ ?_
              intro I246 L246 hq246
              have hq246 : xR I246 ∧ f_fr [69, 71] J226 I246 ∧ f_fr [70] M226 L246 ∧ (I246 69 5).toInt = (J226 69 5).toInt ∧ (I246 69 6).toInt = (J226 69 6).toInt ∧ (I246 69 8).toInt = (J226 69 8).toInt ∧ (I246 69 10).toInt = (J226 69 10).toInt + (tlT (J226 37) (J226 34) (J226 35) (21 - z245.toInt).toNat ws.toInt.toNat : Int) ∧ ((∀ j : Nat, (j < (J226 69 8).toInt.toNat ∨ (J226 69 8).toInt.toNat + 8 ≤ j) → L246 70 j = M226 70 j)) := hq246
              obtain ⟨c246_0, c246_1, c246_2, c246_3, c246_4, c246_5, c246_6, c246_7⟩ := hq246
              have hF246 := f_fr_tr hF226c c246_1 rfl
              have hG246 := f_fr_tr hG226c c246_2 rfl
              have t246 : (I246 69 10).toInt = (J226 69 10).toInt + (tlT (I 37) (I 34) (I 35) (20 - k.toInt).toNat ws.toInt.toNat : Int) := by have q := c246_6; rw [hF226c 37 rfl, hF226c 34 rfl, hF226c 35 rfl, show (21 - z245.toInt).toNat = (20 - k.toInt).toNat by omega] at q; exact q
              have o246 : (∀ j : Nat, (j < (I 69 8).toInt.toNat ∨ (I 69 8).toInt.toNat + 8 ≤ j) → L246 70 j = L 70 j) := fun j hj => (c246_7 j (by omega)).trans (u226_10 j hj)
              refine And.intro (show f_in ws 20 from ⟨show 0 ≤ ws.toInt from by omega, show ws.toInt < 20 from by omega⟩) ?_
              have r258_3 : -1 ≤ (I246 35 (ws.toInt.toNat)).toInt ∧ (I246 35 (ws.toInt.toNat)).toInt ≤ 19 := c246_0 35 (ws.toInt.toNat)
              have e258_4 : (I246 35 (ws.toInt.toNat)).toInt = (J226 35 (ws.toInt.toNat)).toInt := congrArg Int32.toInt (congrFun (c246_1 35 rfl) (ws.toInt.toNat))
              have e258_5 : (J226 35 (ws.toInt.toNat)).toInt = (I 35 (ws.toInt.toNat)).toInt := congrArg Int32.toInt (congrFun (hF226c 35 rfl) (ws.toInt.toNat))
              intro z261 q261 _ hq261 hl261 hu261
              have hq261 : z261.toInt = i.toInt + 1 + 4294967296 * q261 := hq261
              try have hz261 : z261.toInt = i.toInt + 1 := by omega
              have s261 : tlS (tlT (I 37) (I 34) (I 35) (20 - k.toInt).toNat) (I 35) (4 - i.toInt).toNat ws.toInt = tlT (I 37) (I 34) (I 35) (20 - k.toInt).toNat ws.toInt.toNat + tlS (tlT (I 37) (I 34) (I 35) (20 - k.toInt).toNat) (I 35) (4 - z261.toInt).toNat (I246 35 ws.toInt.toNat).toInt := by rw [c246_1 35 rfl, hF226c 35 rfl]; exact tlS_step (by omega) u226_3 (by omega) (by omega)
              have r226_6 : 0 ≤ (I246 69 5).toInt ∧ (I246 69 5).toInt ≤ 300 := c246_0 69 5
              exact ⟨o, I246 35 (ws.toInt.toNat), z261, (by intro q9 h9; simp only [List.mem_cons, List.not_mem_nil, or_false] at h9; rcases h9 with h9 | h9 | h9 | h9 | h9 | h9 | h9 | h9 <;> subst h9 <;> repeat (first | exact List.mem_cons_self | apply List.mem_cons_of_mem)), rfl, c246_0, hF246, hG246, (show -1 ≤ (I246 35 (ws.toInt.toNat)).toInt from by first | assumption | omega), (show (I246 35 (ws.toInt.toNat)).toInt ≤ 19 from by first | assumption | omega), (show 0 ≤ z261.toInt from by first | assumption | omega), (show z261.toInt ≤ 4 from by first | assumption | omega), (show (I246 69 5).toInt = (I 69 5).toInt from by first | assumption | omega | rfl), (show (I246 69 6).toInt = (I 69 6).toInt from by first | assumption | omega | rfl), (show (I246 69 8).toInt = (I 69 8).toInt from by first | assumption | omega | rfl), (show 0 ≤ (I246 69 10).toInt from by first | assumption | omega), (show (I246 69 10).toInt + (tlS (tlT (I 37) (I 34) (I 35) (20 - k.toInt).toNat) (I 35) (4 - z261.toInt).toNat (I246 35 (ws.toInt.toNat)).toInt : Int) = (I 69 10).toInt + (tlT (I 37) (I 34) (I 35) (21 - k.toInt).toNat w.toInt.toNat : Int) from by first | assumption | omega | rfl), (show (∀ j : Nat, (j < (I 69 8).toInt.toNat ∨ (I 69 8).toInt.toNat + 8 ≤ j) → L246 70 j = L 70 j) from by first | assumption | omega | exact fun _ _ => rfl | exact fun _ _ => ⟨rfl, rfl⟩ | exact fun _ _ => ⟨rfl, rfl, rfl⟩ | (intro j9 hj9; omega)), (show (4 - z261.toInt) < n226 from by omega)⟩
      have lp211 : ∀ (o : Int32) (J211 : fM) (M211 : fN), xR J211 ∧ f_fr [69, 71] I J211 ∧ f_fr [70] L M211 ∧ ((J211 69 5).toInt = (I 69 5).toInt) ∧ ((J211 69 6).toInt = (I 69 6).toInt) ∧ ((J211 69 8).toInt = (I 69 8).toInt) ∧ (0 ≤ (J211 69 10).toInt) ∧ ((J211 69 10).toInt = (I 69 10).toInt + ((chn (I 35) 4 (I 34 w.toInt.toNat).toInt).length : Int) + 1) ∧ ((∀ j : Nat, (j < (I 69 8).toInt.toNat ∨ (I 69 8).toInt.toNat + 8 ≤ j) → M211 70 j = L 70 j)) → f_W pP l eP (f_rm (d + 1 + 1)) sP mP aP bP hP9 cP xY 80 a cy dC dI 10 (f_K 0 (qX5_tell [.ref 69, .int w, .int v, .int k] I L)) 211 [(7, .int o), (4, .int g), (3, .int k), (2, .int v), (1, .int w), (0, .ref 69)] [] J211 M211 := by
        intro o J211 M211 h9
        obtain ⟨hR211c, hF211c, hG211c, u211_1, u211_2, u211_3, u211_4, u211_5, u211_6⟩ := h9
        refine f_wp_ok C f_cl flX5_ok fiX5_ok fjX5_ok (sn := none) (fun j h => by cases h) (cs := (f_cnl [(120, (3, 0, 5, pX5_write, qX5_write)), (102, (4, 0, 5, (pX5_tell d), qX5_tell))])) (cz := (fun _ => none)) (f_cnl_of (P := fun j S => f_cok pP l eP (f_rm (d + 1 + 1)) sP mP aP bP hP9 cP xY 80 a cy dC dI 10 _ _ (.invokevirtual j) true S) (List.forall_mem_cons.mpr ⟨f_cokV C (mX5_write hinj) (ci := 5) rfl (List.forall_mem_cons.mpr ⟨(mlX5_ok _ (List.mem_of_getElem? (i := 10) rfl)), kc_X5_write⟩) (by decide +kernel) ⟨by simp only [f_rm]; omega, by simp only [f_rm]; omega⟩, List.forall_mem_cons.mpr ⟨f_cokV C ih (ci := 5) rfl (List.forall_mem_cons.mpr ⟨(mlX5_ok _ (List.mem_of_getElem? (i := 7) rfl)), kc_X5_tell⟩) (by decide +kernel) ⟨by simp only [f_rm]; omega, by simp only [f_rm]; omega⟩, fun _ h => absurd h List.not_mem_nil⟩⟩)) (fun j S h => by cases h) tX5_tell_ok (cut := (f_cnl [(226, (fun (ls' : fLs) (st' : List Value) (I' : fM) (L' : fN) => ∃ o : Int32, ∃ ws : Int32, ∃ i : Int32, (∀ q ∈ ([(9, .int i), (8, .int ws), (7, .int o), (4, .int g), (3, .int k), (2, .int v), (1, .int w), (0, .ref 69)] : fLs), q ∈ ls') ∧ st' = [] ∧ (xR I' ∧ f_fr [69, 71] I I' ∧ f_fr [70] L L' ∧ (-1 ≤ ws.toInt) ∧ (ws.toInt ≤ 19) ∧ (0 ≤ i.toInt) ∧ (i.toInt ≤ 4) ∧ ((I' 69 5).toInt = (I 69 5).toInt) ∧ ((I' 69 6).toInt = (I 69 6).toInt) ∧ ((I' 69 8).toInt = (I 69 8).toInt) ∧ (0 ≤ (I' 69 10).toInt) ∧ ((I' 69 10).toInt + (tlS (tlT (I 37) (I 34) (I 35) (20 - k.toInt).toNat) (I 35) (4 - i.toInt).toNat ws.toInt : Int) = (I 69 10).toInt + (tlT (I 37) (I 34) (I 35) (21 - k.toInt).toNat w.toInt.toNat : Int)) ∧ ((∀ j : Nat, (j < (I 69 8).toInt.toNat ∨ (I 69 8).toInt.toNat + 8 ≤ j) → L' 70 j = L 70 j)) ∧ (4 - i.toInt) < 5)))])) (f_cnl_of (P := fun (tQ : Nat) (P : fLs → List Value → fM → fN → Prop) => ∀ ls' st' I' L', P ls' st' I' L' → f_W pP l eP (f_rm (d + 1 + 1)) sP mP aP bP hP9 cP xY 80 a cy dC dI 10 (f_K 0 (qX5_tell [.ref 69, .int w, .int v, .int k] I L)) tQ ls' st' I' L') (List.forall_mem_cons.mpr ⟨(fun ls' st' I' L' h => by obtain ⟨o, ws, i, hs, e1, h9⟩ := h; rw [e1]; exact f_W_sub hs (lp226 5 o ws i I' L' h9)), fun _ h => absurd h List.not_mem_nil⟩)) 11 211 (f_seek 211 0 tX5_tell) (f_seek_ok 211 0 tX5_tell tX5_tell_ok) _ _ _ _ ?_
        refine And.intro (show f_in g 20 from ⟨show 0 ≤ g.toInt from by omega, show g.toInt < 20 from by omega⟩) ?_
        have r220_1 : -1 ≤ (J211 34 (g.toInt.toNat)).toInt ∧ (J211 34 (g.toInt.toNat)).toInt ≤ 19 := hR211c 34 (g.toInt.toNat)
        have e220_2 : (J211 34 (g.toInt.toNat)).toInt = (I 34 (g.toInt.toNat)).toInt := congrArg Int32.toInt (congrFun (hF211c 34 rfl) (g.toInt.toNat))
        have s220 : tlS (tlT (I 37) (I 34) (I 35) (20 - k.toInt).toNat) (I 35) (4 - (0 : Int)).toNat (J211 34 g.toInt.toNat).toInt = tlS (tlT (I 37) (I 34) (I 35) (20 - k.toInt).toNat) (I 35) 4 (I 34 g.toInt.toNat).toInt := by rw [hF211c 34 rfl]; rfl
        have r226_3 : 0 ≤ (J211 69 5).toInt ∧ (J211 69 5).toInt ≤ 300 := hR211c 69 5
        exact ⟨o, J211 34 (g.toInt.toNat), Int32.ofInt 0, (by intro q9 h9; simp only [List.mem_cons, List.not_mem_nil, or_false] at h9; rcases h9 with h9 | h9 | h9 | h9 | h9 | h9 | h9 | h9 <;> subst h9 <;> repeat (first | exact List.mem_cons_self | apply List.mem_cons_of_mem)), rfl, hR211c, hF211c, hG211c, (show -1 ≤ (J211 34 (g.toInt.toNat)).toInt from by first | assumption | omega), (show (J211 34 (g.toInt.toNat)).toInt ≤ 19 from by first | assumption | omega), (show 0 ≤ (0 : Int) from by first | assumption | omega), (show (0 : Int) ≤ 4 from by first | assumption | omega), (show (J211 69 5).toInt = (I 69 5).toInt from by first | assumption | omega | rfl), (show (J211 69 6).toInt = (I 69 6).toInt from by first | assumption | omega | rfl), (show (J211 69 8).toInt = (I 69 8).toInt from by first | assumption | omega | rfl), (show 0 ≤ (J211 69 10).toInt from by first | assumption | omega), (show (J211 69 10).toInt + (tlS (tlT (I 37) (I 34) (I 35) (20 - k.toInt).toNat) (I 35) (4 - (0 : Int)).toNat (J211 34 (g.toInt.toNat)).toInt : Int) = (I 69 10).toInt + (tlT (I 37) (I 34) (I 35) (21 - k.toInt).toNat w.toInt.toNat : Int) from by first | assumption | omega | rfl), (show (∀ j : Nat, (j < (I 69 8).toInt.toNat ∨ (I 69 8).toInt.toNat + 8 ≤ j) → M211 70 j = L 70 j) from by first | assumption | omega | exact fun _ _ => rfl | exact fun _ _ => ⟨rfl, rfl⟩ | exact fun _ _ => ⟨rfl, rfl, rfl⟩ | (intro j9 hj9; omega)), (show (4 - (0 : Int)) < 5 from by omega)⟩
      have lp117 : ∀ (J117 : fM) (M117 : fN), xR J117 ∧ f_fr [69, 71] I J117 ∧ f_fr [70] L M117 ∧ ((J117 69 5).toInt = (I 69 5).toInt) ∧ ((J117 69 6).toInt = (I 69 6).toInt) ∧ ((J117 69 8).toInt = (I 69 8).toInt) ∧ (0 ≤ (J117 69 10).toInt) ∧ ((J117 69 10).toInt = (I 69 10).toInt + ((chn (I 35) 4 (I 34 w.toInt.toNat).toInt).length : Int)) ∧ ((∀ j : Nat, (j < (I 69 8).toInt.toNat ∨ (I 69 8).toInt.toNat + 8 ≤ j) → M117 70 j = L 70 j)) → f_W pP l eP (f_rm (d + 1 + 1)) sP mP aP bP hP9 cP xY 80 a cy dC dI 10 (f_K 0 (qX5_tell [.ref 69, .int w, .int v, .int k] I L)) 117 [(4, .int g), (3, .int k), (2, .int v), (1, .int w), (0, .ref 69)] [] J117 M117 := by
        intro J117 M117 h9
        obtain ⟨hR117c, hF117c, hG117c, u117_1, u117_2, u117_3, u117_4, u117_5, u117_6⟩ := h9
        refine f_wp_ok C f_cl flX5_ok fiX5_ok fjX5_ok (sn := none) (fun j h => by cases h) (cs := (f_cnl [(120, (3, 0, 5, pX5_write, qX5_write)), (102, (4, 0, 5, (pX5_tell d), qX5_tell))])) (cz := (fun _ => none)) (f_cnl_of (P := fun j S => f_cok pP l eP (f_rm (d + 1 + 1)) sP mP aP bP hP9 cP xY 80 a cy dC dI 10 _ _ (.invokevirtual j) true S) (List.forall_mem_cons.mpr ⟨f_cokV C (mX5_write hinj) (ci := 5) rfl (List.forall_mem_cons.mpr ⟨(mlX5_ok _ (List.mem_of_getElem? (i := 10) rfl)), kc_X5_write⟩) (by decide +kernel) ⟨by simp only [f_rm]; omega, by simp only [f_rm]; omega⟩, List.forall_mem_cons.mpr ⟨f_cokV C ih (ci := 5) rfl (List.forall_mem_cons.mpr ⟨(mlX5_ok _ (List.mem_of_getElem? (i := 7) rfl)), kc_X5_tell⟩) (by decide +kernel) ⟨by simp only [f_rm]; omega, by simp only [f_rm]; omega⟩, fun _ h => absurd h List.not_mem_nil⟩⟩)) (fun j S h => by cases h) tX5_tell_ok (cut := (f_cnl [(211, (fun (ls' : fLs) (st' : List Value) (I' : fM) (L' : fN) => ∃ o : Int32, (∀ q ∈ ([(7, .int o), (4, .int g), (3, .int k), (2, .int v), (1, .int w), (0, .ref 69)] : fLs), q ∈ ls') ∧ st' = [] ∧ (xR I' ∧ f_fr [69, 71] I I' ∧ f_fr [70] L L' ∧ ((I' 69 5).toInt = (I 69 5).toInt) ∧ ((I' 69 6).toInt = (I 69 6).toInt) ∧ ((I' 69 8).toInt = (I 69 8).toInt) ∧ (0 ≤ (I' 69 10).toInt) ∧ ((I' 69 10).toInt = (I 69 10).toInt + ((chn (I 35) 4 (I 34 w.toInt.toNat).toInt).length : Int) + 1) ∧ ((∀ j : Nat, (j < (I 69 8).toInt.toNat ∨ (I 69 8).toInt.toNat + 8 ≤ j) → L' 70 j = L 70 j)))))])) (f_cnl_of (P := fun (tQ : Nat) (P : fLs → List Value → fM → fN → Prop) => ∀ ls' st' I' L', P ls' st' I' L' → f_W pP l eP (f_rm (d + 1 + 1)) sP mP aP bP hP9 cP xY 80 a cy dC dI 10 (f_K 0 (qX5_tell [.ref 69, .int w, .int v, .int k] I L)) tQ ls' st' I' L') (List.forall_mem_cons.mpr ⟨(fun ls' st' I' L' h => by obtain ⟨o, hs, e1, h9⟩ := h; rw [e1]; exact f_W_sub hs (lp211 o I' L' h9)), fun _ h => absurd h List.not_mem_nil⟩)) 46 117 (f_seek 117 0 tX5_tell) (f_seek_ok 117 0 tX5_tell tX5_tell_ok) _ _ _ _ ?_
        refine And.intro (show f_in g 20 from ⟨show 0 ≤ g.toInt from by omega, show g.toInt < 20 from by omega⟩) ?_
        have r126_1 : -1 ≤ (J117 33 (g.toInt.toNat)).toInt ∧ (J117 33 (g.toInt.toNat)).toInt ≤ 19 := hR117c 33 (g.toInt.toNat)
        have e126_2 : (J117 33 (g.toInt.toNat)).toInt = (I 33 (g.toInt.toNat)).toInt := congrArg Int32.toInt (congrFun (hF117c 33 rfl) (g.toInt.toNat))
        apply And.intro
        · intro h128
          have h128 : ¬ (J117 33 (g.toInt.toNat)).toInt = (-1) := h128
          apply And.intro
          · intro h140
            have h140 : (0 : Int) = 0 := h140
            refine And.intro (show f_in g 20 from ⟨show 0 ≤ g.toInt from by omega, show g.toInt < 20 from by omega⟩) ?_
            intro z165 q165 _ hq165 hl165 hu165
            have hq165 : z165.toInt = 100 + (J117 71 (g.toInt.toNat)).toInt + 4294967296 * q165 := hq165
            try have hz165 : z165.toInt = 100 + (J117 71 (g.toInt.toNat)).toInt := by omega
            intro z175 q175 _ hq175 hl175 hu175
            have hq175 : z175.toInt = 24 + (J117 69 10).toInt + 4294967296 * q175 := hq175
            try have hz175 : z175.toInt = 24 + (J117 69 10).toInt := by omega
            refine And.intro ⟨(show 0 ≤ z175.toInt from by first | assumption | omega), (show z175.toInt ≤ 63 from by first | assumption | omega), (show 0 ≤ (J117 69 8).toInt from by first | assumption | omega), (show (J117 69 8).toInt ≤ 2392 from by first | assumption | omega)⟩ ?_
            intro I178 L178 hq178
            have hq178 : I178 = J117 ∧ f_fr [70] M117 L178 ∧ ((∀ j : Nat, (j < (J117 69 8).toInt.toNat ∨ (J117 69 8).toInt.toNat + 8 ≤ j) → L178 70 j = M117 70 j)) := hq178
            obtain ⟨eI178, c178_1, c178_2⟩ := hq178
            replace eI178 := eI178.symm
            subst eI178
            have hG178 := f_fr_tr hG117c c178_1 rfl
            have o178 : (∀ j : Nat, (j < (I 69 8).toInt.toNat ∨ (I 69 8).toInt.toNat + 8 ≤ j) → L178 70 j = L 70 j) := fun j hj => (c178_2 j (by omega)).trans (u117_6 j hj)
            intro z187 q187 _ hq187 hl187 hu187
            have hq187 : z187.toInt = (J117 69 10).toInt + 1 + 4294967296 * q187 := hq187
            try have hz187 : z187.toInt = (J117 69 10).toInt + 1 := by omega
            have hR188 := xR_f (k := 69) (j := 10) (x := z187) hR117c (by exact f_rng _)
            have hF188 := f_fr_up (k := 69) (r := va_up (J117 69) 10 z187) hF117c rfl
            apply And.intro
            · intro h193
              have h193 : (0 : Int) = 0 := h193
              exact ⟨z165, (by intro q9 h9; simp only [List.mem_cons, List.not_mem_nil, or_false] at h9; rcases h9 with h9 | h9 | h9 | h9 | h9 | h9 <;> subst h9 <;> repeat (first | exact List.mem_cons_self | apply List.mem_cons_of_mem)), rfl, hR188, hF188, hG178, (show (J117 69 5).toInt = (I 69 5).toInt from by first | assumption | omega | rfl), (show (J117 69 6).toInt = (I 69 6).toInt from by first | assumption | omega | rfl), (show (J117 69 8).toInt = (I 69 8).toInt from by first | assumption | omega | rfl), (show 0 ≤ z187.toInt from by first | assumption | omega), (show z187.toInt = (I 69 10).toInt + ((chn (I 35) 4 (I 34 w.toInt.toNat).toInt).length : Int) + 1 from by first | assumption | omega | rfl), (show (∀ j : Nat, (j < (I 69 8).toInt.toNat ∨ (I 69 8).toInt.toNat + 8 ≤ j) → L178 70 j = L 70 j) from by first | assumption | omega | exact fun _ _ => rfl | exact fun _ _ => ⟨rfl, rfl⟩ | exact fun _ _ => ⟨rfl, rfl, rfl⟩ | (intro j9 hj9; omega))⟩
            · intro h193
              have h193 : ¬ (0 : Int) = 0 := h193
              exfalso
              omega
          · intro h140
            have h140 : ¬ (0 : Int) = 0 := h140
            exfalso
            omega
        · intro h128
          have h128 : (J117 33 (g.toInt.toNat)).toInt = (-1) := h128
          apply And.intro
          · intro h140
            have h140 : (1 : Int) = 0 := h140
            exfalso
            omega
          · intro h140
            have h140 : ¬ (1 : Int) = 0 := h140
            refine And.intro (show f_in g 20 from ⟨show 0 ≤ g.toInt from by omega, show g.toInt < 20 from by omega⟩) ?_
            have r152_3 : -1 ≤ (J117 36 (g.toInt.toNat)).toInt ∧ (J117 36 (g.toInt.toNat)).toInt ≤ 7 := hR117c 36 (g.toInt.toNat)
            have e152_4 : (J117 36 (g.toInt.toNat)).toInt = (I 36 (g.toInt.toNat)).toInt := congrArg Int32.toInt (congrFun (hF117c 36 rfl) (g.toInt.toNat))
            intro z175 q175 _ hq175 hl175 hu175
            have hq175 : z175.toInt = 24 + (J117 69 10).toInt + 4294967296 * q175 := hq175
            try have hz175 : z175.toInt = 24 + (J117 69 10).toInt := by omega
            refine And.intro ⟨(show 0 ≤ z175.toInt from by first | assumption | omega), (show z175.toInt ≤ 63 from by first | assumption | omega), (show 0 ≤ (J117 69 8).toInt from by first | assumption | omega), (show (J117 69 8).toInt ≤ 2392 from by first | assumption | omega)⟩ ?_
            intro I178 L178 hq178
            have hq178 : I178 = J117 ∧ f_fr [70] M117 L178 ∧ ((∀ j : Nat, (j < (J117 69 8).toInt.toNat ∨ (J117 69 8).toInt.toNat + 8 ≤ j) → L178 70 j = M117 70 j)) := hq178
            obtain ⟨eI178, c178_1, c178_2⟩ := hq178
            replace eI178 := eI178.symm
            subst eI178
            have hG178 := f_fr_tr hG117c c178_1 rfl
            have o178 : (∀ j : Nat, (j < (I 69 8).toInt.toNat ∨ (I 69 8).toInt.toNat + 8 ≤ j) → L178 70 j = L 70 j) := fun j hj => (c178_2 j (by omega)).trans (u117_6 j hj)
            intro z187 q187 _ hq187 hl187 hu187
            have hq187 : z187.toInt = (J117 69 10).toInt + 1 + 4294967296 * q187 := hq187
            try have hz187 : z187.toInt = (J117 69 10).toInt + 1 := by omega
            have hR188 := xR_f (k := 69) (j := 10) (x := z187) hR117c (by exact f_rng _)
            have hF188 := f_fr_up (k := 69) (r := va_up (J117 69) 10 z187) hF117c rfl
            apply And.intro
            · intro h193
              have h193 : (1 : Int) = 0 := h193
              exfalso
              omega
            · intro h193
              have h193 : ¬ (1 : Int) = 0 := h193
              apply And.intro
              · intro h198
                have h198 : v.toInt = (-1) := h198
                exact ⟨J117 36 (g.toInt.toNat), (by intro q9 h9; simp only [List.mem_cons, List.not_mem_nil, or_false] at h9; rcases h9 with h9 | h9 | h9 | h9 | h9 | h9 <;> subst h9 <;> repeat (first | exact List.mem_cons_self | apply List.mem_cons_of_mem)), rfl, hR188, hF188, hG178, (show (J117 69 5).toInt = (I 69 5).toInt from by first | assumption | omega | rfl), (show (J117 69 6).toInt = (I 69 6).toInt from by first | assumption | omega | rfl), (show (J117 69 8).toInt = (I 69 8).toInt from by first | assumption | omega | rfl), (show 0 ≤ z187.toInt from by first | assumption | omega), (show z187.toInt = (I 69 10).toInt + ((chn (I 35) 4 (I 34 w.toInt.toNat).toInt).length : Int) + 1 from by first | assumption | omega | rfl), (show (∀ j : Nat, (j < (I 69 8).toInt.toNat ∨ (I 69 8).toInt.toNat + 8 ≤ j) → L178 70 j = L 70 j) from by first | assumption | omega | exact fun _ _ => rfl | exact fun _ _ => ⟨rfl, rfl⟩ | exact fun _ _ => ⟨rfl, rfl, rfl⟩ | (intro j9 hj9; omega))⟩
              · intro h198
                have h198 : ¬ v.toInt = (-1) := h198
                intro z206 q206 _ hq206 hl206 hu206
                have hq206 : z206.toInt = 56 + (J117 36 (g.toInt.toNat)).toInt + 4294967296 * q206 := hq206
                try have hz206 : z206.toInt = 56 + (J117 36 (g.toInt.toNat)).toInt := by omega
                refine And.intro ⟨(show 0 ≤ z206.toInt from by first | assumption | omega), (show z206.toInt ≤ 63 from by first | assumption | omega), (show 0 ≤ (J117 69 8).toInt from by first | assumption | omega), (show (J117 69 8).toInt ≤ 2392 from by first | assumption | omega)⟩ ?_
                intro I208 L208 hq208
                have hq208 : I208 = (va_up J117 69 (va_up (J117 69) 10 z187)) ∧ f_fr [70] L178 L208 ∧ ((∀ j : Nat, (j < (J117 69 8).toInt.toNat ∨ (J117 69 8).toInt.toNat + 8 ≤ j) → L208 70 j = L178 70 j)) := hq208
                obtain ⟨eI208, c208_1, c208_2⟩ := hq208
                replace eI208 := eI208.symm
                subst eI208
                have hG208 := f_fr_tr hG178 c208_1 rfl
                have o208 : (∀ j : Nat, (j < (I 69 8).toInt.toNat ∨ (I 69 8).toInt.toNat + 8 ≤ j) → L208 70 j = L 70 j) := fun j hj => (c208_2 j (by omega)).trans (o178 j hj)
                exact ⟨J117 36 (g.toInt.toNat), (by intro q9 h9; simp only [List.mem_cons, List.not_mem_nil, or_false] at h9; rcases h9 with h9 | h9 | h9 | h9 | h9 | h9 <;> subst h9 <;> repeat (first | exact List.mem_cons_self | apply List.mem_cons_of_mem)), rfl, hR188, hF188, hG208, (show (J117 69 5).toInt = (I 69 5).toInt from by first | assumption | omega | rfl), (show (J117 69 6).toInt = (I 69 6).toInt from by first | assumption | omega | rfl), (show (J117 69 8).toInt = (I 69 8).toInt from by first | assumption | omega | rfl), (show 0 ≤ z187.toInt from by first | assumption | omega), (show z187.toInt = (I 69 10).toInt + ((chn (I 35) 4 (I 34 w.toInt.toNat).toInt).length : Int) + 1 from by first | assumption | omega | rfl), (show (∀ j : Nat, (j < (I 69 8).toInt.toNat ∨ (I 69 8).toInt.toNat + 8 ≤ j) → L208 70 j = L 70 j) from by first | assumption | omega | exact fun _ _ => rfl | exact fun _ _ => ⟨rfl, rfl⟩ | exact fun _ _ => ⟨rfl, rfl, rfl⟩ | (intro j9 hj9; omega))⟩
      have lp37 : ∀ (n37 : Nat), ∀ (h : Int32) (i : Int32) (J37 : fM) (M37 : fN), xR J37 ∧ f_fr [69, 71] I J37 ∧ f_fr [70] L M37 ∧ (-1 ≤ h.toInt) ∧ (h.toInt ≤ 19) ∧ (0 ≤ i.toInt) ∧ (i.toInt ≤ 4) ∧ ((J37 69 5).toInt = (I 69 5).toInt) ∧ ((J37 69 6).toInt = (I 69 6).toInt) ∧ ((J37 69 8).toInt = (I 69 8).toInt) ∧ (0 ≤ (J37 69 10).toInt) ∧ ((J37 69 10).toInt + ((chn (I 35) (4 - i.toInt).toNat h.toInt).length : Int) = (I 69 10).toInt + ((chn (I 35) 4 (I 34 w.toInt.toNat).toInt).length : Int)) ∧ ((∀ j : Nat, (j < (I 69 8).toInt.toNat ∨ (I 69 8).toInt.toNat + 8 ≤ j) → M37 70 j = L 70 j)) ∧ (4 - i.toInt) < n37 → f_W pP l eP (f_rm (d + 1 + 1)) sP mP aP bP hP9 cP xY 80 a cy dC dI 10 (f_K 0 (qX5_tell [.ref 69, .int w, .int v, .int k] I L)) 37 [(6, .int i), (5, .int h), (4, .int g), (3, .int k), (2, .int v), (1, .int w), (0, .ref 69)] [] J37 M37 := by
        intro n37
        induction n37 with
        | zero =>
          intro h i J37 M37 h9
          obtain ⟨hR37c, hF37c, hG37c, u37_1, u37_2, u37_3, u37_4, u37_5, u37_6, u37_7, u37_8, u37_9, u37_10, hm37⟩ := h9
          omega
        | succ n37 ih37 =>
          intro h i J37 M37 h9
          obtain ⟨hR37c, hF37c, hG37c, u37_1, u37_2, u37_3, u37_4, u37_5, u37_6, u37_7, u37_8, u37_9, u37_10, hm37⟩ := h9
          refine f_wp_ok C f_cl flX5_ok fiX5_ok fjX5_ok (sn := none) (fun j h => by cases h) (cs := (f_cnl [(120, (3, 0, 5, pX5_write, qX5_write)), (102, (4, 0, 5, (pX5_tell d), qX5_tell))])) (cz := (fun _ => none)) (f_cnl_of (P := fun j S => f_cok pP l eP (f_rm (d + 1 + 1)) sP mP aP bP hP9 cP xY 80 a cy dC dI 10 _ _ (.invokevirtual j) true S) (List.forall_mem_cons.mpr ⟨f_cokV C (mX5_write hinj) (ci := 5) rfl (List.forall_mem_cons.mpr ⟨(mlX5_ok _ (List.mem_of_getElem? (i := 10) rfl)), kc_X5_write⟩) (by decide +kernel) ⟨by simp only [f_rm]; omega, by simp only [f_rm]; omega⟩, List.forall_mem_cons.mpr ⟨f_cokV C ih (ci := 5) rfl (List.forall_mem_cons.mpr ⟨(mlX5_ok _ (List.mem_of_getElem? (i := 7) rfl)), kc_X5_tell⟩) (by decide +kernel) ⟨by simp only [f_rm]; omega, by simp only [f_rm]; omega⟩, fun _ h => absurd h List.not_mem_nil⟩⟩)) (fun j S h => by cases h) tX5_tell_ok (cut := (f_cnl [(37, (fun (ls' : fLs) (st' : List Value) (I' : fM) (L' : fN) => ∃ h : Int32, ∃ i : Int32, (∀ q ∈ ([(6, .int i), (5, .int h), (4, .int g), (3, .int k), (2, .int v), (1, .int w), (0, .ref 69)] : fLs), q ∈ ls') ∧ st' = [] ∧ (xR I' ∧ f_fr [69, 71] I I' ∧ f_fr [70] L L' ∧ (-1 ≤ h.toInt) ∧ (h.toInt ≤ 19) ∧ (0 ≤ i.toInt) ∧ (i.toInt ≤ 4) ∧ ((I' 69 5).toInt = (I 69 5).toInt) ∧ ((I' 69 6).toInt = (I 69 6).toInt) ∧ ((I' 69 8).toInt = (I 69 8).toInt) ∧ (0 ≤ (I' 69 10).toInt) ∧ ((I' 69 10).toInt + ((chn (I 35) (4 - i.toInt).toNat h.toInt).length : Int) = (I 69 10).toInt + ((chn (I 35) 4 (I 34 w.toInt.toNat).toInt).length : Int)) ∧ ((∀ j : Nat, (j < (I 69 8).toInt.toNat ∨ (I 69 8).toInt.toNat + 8 ≤ j) → L' 70 j = L 70 j)) ∧ (4 - i.toInt) < n37))), (117, (fun (ls' : fLs) (st' : List Value) (I' : fM) (L' : fN) => (∀ q ∈ ([(4, .int g), (3, .int k), (2, .int v), (1, .int w), (0, .ref 69)] : fLs), q ∈ ls') ∧ st' = [] ∧ (xR I' ∧ f_fr [69, 71] I I' ∧ f_fr [70] L L' ∧ ((I' 69 5).toInt = (I 69 5).toInt) ∧ ((I' 69 6).toInt = (I 69 6).toInt) ∧ ((I' 69 8).toInt = (I 69 8).toInt) ∧ (0 ≤ (I' 69 10).toInt) ∧ ((I' 69 10).toInt = (I 69 10).toInt + ((chn (I 35) 4 (I 34 w.toInt.toNat).toInt).length : Int)) ∧ ((∀ j : Nat, (j < (I 69 8).toInt.toNat ∨ (I 69 8).toInt.toNat + 8 ≤ j) → L' 70 j = L 70 j)))))])) (f_cnl_of (P := fun (tQ : Nat) (P : fLs → List Value → fM → fN → Prop) => ∀ ls' st' I' L', P ls' st' I' L' → f_W pP l eP (f_rm (d + 1 + 1)) sP mP aP bP hP9 cP xY 80 a cy dC dI 10 (f_K 0 (qX5_tell [.ref 69, .int w, .int v, .int k] I L)) tQ ls' st' I' L') (List.forall_mem_cons.mpr ⟨(fun ls' st' I' L' h => by obtain ⟨h, i, hs, e1, h9⟩ := h; rw [e1]; exact f_W_sub hs (ih37 h i I' L' h9)), List.forall_mem_cons.mpr ⟨(fun ls' st' I' L' h => by obtain ⟨hs, e1, h9⟩ := h; rw [e1]; exact f_W_sub hs (lp117  I' L' h9)), fun _ h => absurd h List.not_mem_nil⟩⟩)) 45 37 (f_seek 37 0 tX5_tell) (f_seek_ok 37 0 tX5_tell tX5_tell_ok) _ _ _ _ ?_
          apply And.intro
          · intro h40
            have h40 : 4 ≤ i.toInt := h40
            try have x40 := chn_end (B := I 35) (h := h.toInt) (i := i.toInt) (Or.inr (by omega))
            have r117_1 : 0 ≤ (J37 69 5).toInt ∧ (J37 69 5).toInt ≤ 300 := hR37c 69 5
            exact ⟨(by intro q9 h9; simp only [List.mem_cons, List.not_mem_nil, or_false] at h9; rcases h9 with h9 | h9 | h9 | h9 | h9 <;> subst h9 <;> repeat (first | exact List.mem_cons_self | apply List.mem_cons_of_mem)), rfl, hR37c, hF37c, hG37c, (show (J37 69 5).toInt = (I 69 5).toInt from by first | assumption | omega | rfl), (show (J37 69 6).toInt = (I 69 6).toInt from by first | assumption | omega | rfl), (show (J37 69 8).toInt = (I 69 8).toInt from by first | assumption | omega | rfl), (show 0 ≤ (J37 69 10).toInt from by first | assumption | omega), (show (J37 69 10).toInt = (I 69 10).toInt + ((chn (I 35) 4 (I 34 w.toInt.toNat).toInt).length : Int) from by first | assumption | omega | rfl), (show (∀ j : Nat, (j < (I 69 8).toInt.toNat ∨ (I 69 8).toInt.toNat + 8 ≤ j) → M37 70 j = L 70 j) from by first | assumption | omega | exact fun _ _ => rfl | exact fun _ _ => ⟨rfl, rfl⟩ | exact fun _ _ => ⟨rfl, rfl, rfl⟩ | (intro j9 hj9; omega))⟩
          · intro h40
            have h40 : i.toInt < 4 := h40
            try have x40 := chn_end (B := I 35) (h := h.toInt) (i := i.toInt) (Or.inr (by omega))
            apply And.intro
            · intro h46
              have h46 : h.toInt = (-1) := h46
              try have x46 := chn_end (B := I 35) (h := h.toInt) (i := i.toInt) (Or.inl (by omega))
              have r117_1 : 0 ≤ (J37 69 5).toInt ∧ (J37 69 5).toInt ≤ 300 := hR37c 69 5
              exact ⟨(by intro q9 h9; simp only [List.mem_cons, List.not_mem_nil, or_false] at h9; rcases h9 with h9 | h9 | h9 | h9 | h9 <;> subst h9 <;> repeat (first | exact List.mem_cons_self | apply List.mem_cons_of_mem)), rfl, hR37c, hF37c, hG37c, (show (J37 69 5).toInt = (I 69 5).toInt from by first | assumption | omega | rfl), (show (J37 69 6).toInt = (I 69 6).toInt from by first | assumption | omega | rfl), (show (J37 69 8).toInt = (I 69 8).toInt from by first | assumption | omega | rfl), (show 0 ≤ (J37 69 10).toInt from by first | assumption | omega), (show (J37 69 10).toInt = (I 69 10).toInt + ((chn (I 35) 4 (I 34 w.toInt.toNat).toInt).length : Int) from by first | assumption | omega | rfl), (show (∀ j : Nat, (j < (I 69 8).toInt.toNat ∨ (I 69 8).toInt.toNat + 8 ≤ j) → M37 70 j = L 70 j) from by first | assumption | omega | exact fun _ _ => rfl | exact fun _ _ => ⟨rfl, rfl⟩ | exact fun _ _ => ⟨rfl, rfl, rfl⟩ | (intro j9 hj9; omega))⟩
            · intro h46
              have h46 : ¬ h.toInt = (-1) := h46
              try have x46 := chn_end (B := I 35) (h := h.toInt) (i := i.toInt) (Or.inl (by omega))
              have s49 := chn_step (B := I 35) (h := h.toInt) (i := i.toInt) (j := i.toInt + 1) (by omega) u37_3 (by omega) rfl
              refine And.intro (show f_in h 20 from ⟨show 0 ≤ h.toInt from by omega, show h.toInt < 20 from by omega⟩) ?_
              have hR59 := xR_a (k := 71) (j := h.toInt.toNat) (x := J37 69 9) hR37c (by exact f_rng _)
              have hF59 := f_fr_up (k := 71) (r := upd (J37 71) (h.toInt.toNat) (J37 69 9)) hF37c rfl
              intro z67 q67 _ hq67 hl67 hu67
              have hq67 : z67.toInt = 24 + (J37 69 10).toInt + 4294967296 * q67 := hq67
              try have hz67 : z67.toInt = 24 + (J37 69 10).toInt := by omega
              intro z75 q75 _ hq75 hl75 hu75
              have hq75 : z75.toInt = 200 + (J37 69 9).toInt + 4294967296 * q75 := hq75
              try have hz75 : z75.toInt = 200 + (J37 69 9).toInt := by omega
              refine And.intro ⟨(show 0 ≤ z67.toInt from by first | assumption | omega), (show z67.toInt ≤ 63 from by first | assumption | omega), (show 0 ≤ (J37 69 8).toInt from by first | assumption | omega), (show (J37 69 8).toInt ≤ 2392 from by first | assumption | omega)⟩ ?_
              intro I76 L76 hq76
              have hq76 : I76 = (va_up J37 71 (upd (J37 71) (h.toInt.toNat) (J37 69 9))) ∧ f_fr [70] M37 L76 ∧ ((∀ j : Nat, (j < (J37 69 8).toInt.toNat ∨ (J37 69 8).toInt.toNat + 8 ≤ j) → L76 70 j = M37 70 j)) := hq76
              obtain ⟨eI76, c76_1, c76_2⟩ := hq76
              replace eI76 := eI76.symm
              subst eI76
              have hG76 := f_fr_tr hG37c c76_1 rfl
              have o76 : (∀ j : Nat, (j < (I 69 8).toInt.toNat ∨ (I 69 8).toInt.toNat + 8 ≤ j) → L76 70 j = L 70 j) := fun j hj => (c76_2 j (by omega)).trans (u37_10 j hj)
              intro z85 q85 _ hq85 hl85 hu85
              have hq85 : z85.toInt = (J37 69 10).toInt + 1 + 4294967296 * q85 := hq85
              try have hz85 : z85.toInt = (J37 69 10).toInt + 1 := by omega
              have hR86 := xR_f (k := 69) (j := 10) (x := z85) hR59 (by exact f_rng _)
              have hF86 := f_fr_up (k := 69) (r := va_up (J37 69) 10 z85) hF59 rfl
              intro z95 q95 _ hq95 hl95 hu95
              have hq95 : z95.toInt = (J37 69 9).toInt + 1 + 4294967296 * q95 := hq95
              try have hz95 : z95.toInt = (J37 69 9).toInt + 1 := by omega
              have hR96 := xR_f (k := 69) (j := 9) (x := z95) hR86 (by exact f_rng _)
              have hF96 := f_fr_up (k := 69) (r := va_up (va_up (J37 69) 10 z85) 9 z95) hF86 rfl
              refine And.intro (show f_in h 20 from ⟨show 0 ≤ h.toInt from by omega, show h.toInt < 20 from by omega⟩) ?_
              have r108_4 : -1 ≤ (J37 35 (h.toInt.toNat)).toInt ∧ (J37 35 (h.toInt.toNat)).toInt ≤ 19 := hR96 35 (h.toInt.toNat)
              have e108_5 : (J37 35 (h.toInt.toNat)).toInt = (I 35 (h.toInt.toNat)).toInt := congrArg Int32.toInt (congrFun (hF37c 35 rfl) (h.toInt.toNat))
              intro z111 q111 _ hq111 hl111 hu111
              have hq111 : z111.toInt = i.toInt + 1 + 4294967296 * q111 := hq111
              try have hz111 : z111.toInt = i.toInt + 1 := by omega
              have s111 : ((chn (I 35) (4 - i.toInt).toNat h.toInt).length : Int) = 1 + ((chn (I 35) (4 - z111.toInt).toNat (J37 35 h.toInt.toNat).toInt).length : Int) := by rw [hF37c 35 rfl]; exact chn_step (by omega) u37_3 (by omega) (by omega)
              exact ⟨J37 35 (h.toInt.toNat), z111, (by intro q9 h9; simp only [List.mem_cons, List.not_mem_nil, or_false] at h9; rcases h9 with h9 | h9 | h9 | h9 | h9 | h9 | h9 <;> subst h9 <;> repeat (first | exact List.mem_cons_self | apply List.mem_cons_of_mem)), rfl, hR96, hF96, hG76, (show -1 ≤ (J37 35 (h.toInt.toNat)).toInt from by first | assumption | omega), (show (J37 35 (h.toInt.toNat)).toInt ≤ 19 from by first | assumption | omega), (show 0 ≤ z111.toInt from by first | assumption | omega), (show z111.toInt ≤ 4 from by first | assumption | omega), (show (J37 69 5).toInt = (I 69 5).toInt from by first | assumption | omega | rfl), (show (J37 69 6).toInt = (I 69 6).toInt from by first | assumption | omega | rfl), (show (J37 69 8).toInt = (I 69 8).toInt from by first | assumption | omega | rfl), (show 0 ≤ z85.toInt from by first | assumption | omega), (show z85.toInt + ((chn (I 35) (4 - z111.toInt).toNat (J37 35 (h.toInt.toNat)).toInt).length : Int) = (I 69 10).toInt + ((chn (I 35) 4 (I 34 w.toInt.toNat).toInt).length : Int) from by first | assumption | omega | rfl), (show (∀ j : Nat, (j < (I 69 8).toInt.toNat ∨ (I 69 8).toInt.toNat + 8 ≤ j) → L76 70 j = L 70 j) from by first | assumption | omega | exact fun _ _ => rfl | exact fun _ _ => ⟨rfl, rfl⟩ | exact fun _ _ => ⟨rfl, rfl, rfl⟩ | (intro j9 hj9; omega)), (show (4 - z111.toInt) < n37 from by omega)⟩
      refine f_wp_ok C f_cl flX5_ok fiX5_ok fjX5_ok (sn := none) (fun j h => by cases h) (cs := (f_cnl [(120, (3, 0, 5, pX5_write, qX5_write)), (102, (4, 0, 5, (pX5_tell d), qX5_tell))])) (cz := (fun _ => none)) (f_cnl_of (P := fun j S => f_cok pP l eP (f_rm (d + 1 + 1)) sP mP aP bP hP9 cP xY 80 a cy dC dI 10 _ _ (.invokevirtual j) true S) (List.forall_mem_cons.mpr ⟨f_cokV C (mX5_write hinj) (ci := 5) rfl (List.forall_mem_cons.mpr ⟨(mlX5_ok _ (List.mem_of_getElem? (i := 10) rfl)), kc_X5_write⟩) (by decide +kernel) ⟨by simp only [f_rm]; omega, by simp only [f_rm]; omega⟩, List.forall_mem_cons.mpr ⟨f_cokV C ih (ci := 5) rfl (List.forall_mem_cons.mpr ⟨(mlX5_ok _ (List.mem_of_getElem? (i := 7) rfl)), kc_X5_tell⟩) (by decide +kernel) ⟨by simp only [f_rm]; omega, by simp only [f_rm]; omega⟩, fun _ h => absurd h List.not_mem_nil⟩⟩)) (fun j S h => by cases h) tX5_tell_ok (cut := (f_cnl [(37, (fun (ls' : fLs) (st' : List Value) (I' : fM) (L' : fN) => ∃ h : Int32, ∃ i : Int32, (∀ q ∈ ([(6, .int i), (5, .int h), (4, .int g), (3, .int k), (2, .int v), (1, .int w), (0, .ref 69)] : fLs), q ∈ ls') ∧ st' = [] ∧ (xR I' ∧ f_fr [69, 71] I I' ∧ f_fr [70] L L' ∧ (-1 ≤ h.toInt) ∧ (h.toInt ≤ 19) ∧ (0 ≤ i.toInt) ∧ (i.toInt ≤ 4) ∧ ((I' 69 5).toInt = (I 69 5).toInt) ∧ ((I' 69 6).toInt = (I 69 6).toInt) ∧ ((I' 69 8).toInt = (I 69 8).toInt) ∧ (0 ≤ (I' 69 10).toInt) ∧ ((I' 69 10).toInt + ((chn (I 35) (4 - i.toInt).toNat h.toInt).length : Int) = (I 69 10).toInt + ((chn (I 35) 4 (I 34 w.toInt.toNat).toInt).length : Int)) ∧ ((∀ j : Nat, (j < (I 69 8).toInt.toNat ∨ (I 69 8).toInt.toNat + 8 ≤ j) → L' 70 j = L 70 j)) ∧ (4 - i.toInt) < 5)))])) (f_cnl_of (P := fun (tQ : Nat) (P : fLs → List Value → fM → fN → Prop) => ∀ ls' st' I' L', P ls' st' I' L' → f_W pP l eP (f_rm (d + 1 + 1)) sP mP aP bP hP9 cP xY 80 a cy dC dI 10 (f_K 0 (qX5_tell [.ref 69, .int w, .int v, .int k] I L)) tQ ls' st' I' L') (List.forall_mem_cons.mpr ⟨(fun ls' st' I' L' h => by obtain ⟨h, i, hs, e1, h9⟩ := h; rw [e1]; exact f_W_sub hs (lp37 5 h i I' L' h9)), fun _ h => absurd h List.not_mem_nil⟩)) 11 23 (f_seek 23 0 tX5_tell) (f_seek_ok 23 0 tX5_tell tX5_tell_ok) _ _ _ _ ?_
      refine And.intro (show f_in w 20 from ⟨show 0 ≤ w.toInt from by omega, show w.toInt < 20 from by omega⟩) ?_
      have r31_1 : -1 ≤ (I 34 (w.toInt.toNat)).toInt ∧ (I 34 (w.toInt.toNat)).toInt ≤ 19 := hR 34 (w.toInt.toNat)
      have s31 : ((chn (I 35) (4 - (0 : Int)).toNat (I 34 w.toInt.toNat).toInt).length : Int) = ((chn (I 35) 4 (I 34 w.toInt.toNat).toInt).length : Int) := rfl
      have r37_2 : 0 ≤ (I 69 5).toInt ∧ (I 69 5).toInt ≤ 300 := hR 69 5
      exact ⟨I 34 (w.toInt.toNat), Int32.ofInt 0, (by intro q9 h9; simp only [List.mem_cons, List.not_mem_nil, or_false] at h9; rcases h9 with h9 | h9 | h9 | h9 | h9 | h9 | h9 <;> subst h9 <;> repeat (first | exact List.mem_cons_self | apply List.mem_cons_of_mem)), rfl, hR, hF0, hG0, (show -1 ≤ (I 34 (w.toInt.toNat)).toInt from by first | assumption | omega), (show (I 34 (w.toInt.toNat)).toInt ≤ 19 from by first | assumption | omega), (show 0 ≤ (0 : Int) from by first | assumption | omega), (show (0 : Int) ≤ 4 from by first | assumption | omega), (show (I 69 5).toInt = (I 69 5).toInt from by first | assumption | omega | rfl), (show (I 69 6).toInt = (I 69 6).toInt from by first | assumption | omega | rfl), (show (I 69 8).toInt = (I 69 8).toInt from by first | assumption | omega | rfl), (show 0 ≤ (I 69 10).toInt from by first | assumption | omega), (show (I 69 10).toInt + ((chn (I 35) (4 - (0 : Int)).toNat (I 34 (w.toInt.toNat)).toInt).length : Int) = (I 69 10).toInt + ((chn (I 35) 4 (I 34 w.toInt.toNat).toInt).length : Int) from by first | assumption | omega | rfl), (show (∀ j : Nat, (j < (I 69 8).toInt.toNat ∨ (I 69 8).toInt.toNat + 8 ≤ j) → L 70 j = L 70 j) from by first | assumption | omega | exact fun _ _ => rfl | exact fun _ _ => ⟨rfl, rfl⟩ | exact fun _ _ => ⟨rfl, rfl, rfl⟩ | (intro j9 hj9; omega)), (show (4 - (0 : Int)) < 5 from by omega)⟩
    refine f_wp_ok C f_cl flX5_ok fiX5_ok fjX5_ok (sn := none) (fun j h => by cases h) (cs := (f_cnl [(120, (3, 0, 5, pX5_write, qX5_write)), (102, (4, 0, 5, (pX5_tell d), qX5_tell))])) (cz := (fun _ => none)) (f_cnl_of (P := fun j S => f_cok pP l eP (f_rm (d + 1 + 1)) sP mP aP bP hP9 cP xY 80 a cy dC dI 10 _ _ (.invokevirtual j) true S) (List.forall_mem_cons.mpr ⟨f_cokV C (mX5_write hinj) (ci := 5) rfl (List.forall_mem_cons.mpr ⟨(mlX5_ok _ (List.mem_of_getElem? (i := 10) rfl)), kc_X5_write⟩) (by decide +kernel) ⟨by simp only [f_rm]; omega, by simp only [f_rm]; omega⟩, List.forall_mem_cons.mpr ⟨f_cokV C ih (ci := 5) rfl (List.forall_mem_cons.mpr ⟨(mlX5_ok _ (List.mem_of_getElem? (i := 7) rfl)), kc_X5_tell⟩) (by decide +kernel) ⟨by simp only [f_rm]; omega, by simp only [f_rm]; omega⟩, fun _ h => absurd h List.not_mem_nil⟩⟩)) (fun j S h => by cases h) tX5_tell_ok (cut := (f_cnl [(23, (fun (ls' : fLs) (st' : List Value) (I' : fM) (L' : fN) => ∃ g : Int32, (∀ q ∈ ([(4, .int g), (3, .int k), (2, .int v), (1, .int w), (0, .ref 69)] : fLs), q ∈ ls') ∧ st' = [] ∧ I' = I ∧ L' = L ∧ ((g.toInt = (I 37 w.toInt.toNat).toInt) ∧ (0 ≤ g.toInt) ∧ (g.toInt ≤ 19) ∧ (k.toInt ≤ 20))))])) (f_cnl_of (P := fun (tQ : Nat) (P : fLs → List Value → fM → fN → Prop) => ∀ ls' st' I' L', P ls' st' I' L' → f_W pP l eP (f_rm (d + 1 + 1)) sP mP aP bP hP9 cP xY 80 a cy dC dI 10 (f_K 0 (qX5_tell [.ref 69, .int w, .int v, .int k] I L)) tQ ls' st' I' L') (List.forall_mem_cons.mpr ⟨(fun ls' st' I' L' h => by obtain ⟨g, hs, e1, e2, e3, h9⟩ := h; rw [e1, e2, e3]; exact f_W_sub hs (lp23 g h9)), fun _ h => absurd h List.not_mem_nil⟩)) 15 0 tX5_tell tX5_tell_ok _ _ _ _ ?_
    refine And.intro (show f_in w 20 from ⟨show 0 ≤ w.toInt from by omega, show w.toInt < 20 from by omega⟩) ?_
    have r8_1 : -1 ≤ (I 37 (w.toInt.toNat)).toInt ∧ (I 37 (w.toInt.toNat)).toInt ≤ 19 := hR 37 (w.toInt.toNat)
    apply And.intro
    · intro h14
      have h14 : 20 < k.toInt := h14
      have r22_2 : 0 ≤ (I 69 5).toInt ∧ (I 69 5).toInt ≤ 300 := hR 69 5
      exact ⟨hR, hF0, hG0, (show (I 69 5).toInt = (I 69 5).toInt from by first | assumption | omega | rfl), (show (I 69 6).toInt = (I 69 6).toInt from by first | assumption | omega | rfl), (show (I 69 8).toInt = (I 69 8).toInt from by first | assumption | omega | rfl), (show (I 69 10).toInt = (I 69 10).toInt + (tlT (I 37) (I 34) (I 35) (21 - k.toInt).toNat w.toInt.toNat : Int) from by rw [tlT_0 (by omega)]; omega), (show (∀ j : Nat, (j < (I 69 8).toInt.toNat ∨ (I 69 8).toInt.toNat + 8 ≤ j) → L 70 j = L 70 j) from by first | assumption | omega | rfl | exact fun _ _ => rfl | exact fun _ _ => ⟨rfl, rfl⟩ | exact fun _ _ => ⟨rfl, rfl, rfl⟩ | (intro j9 hj9; omega))⟩
    · intro h14
      have h14 : k.toInt ≤ 20 := h14
      apply And.intro
      · intro h19
        have h19 : 0 ≤ (I 37 (w.toInt.toNat)).toInt := h19
        exact ⟨I 37 (w.toInt.toNat), (by intro q9 h9; simp only [List.mem_cons, List.not_mem_nil, or_false] at h9; rcases h9 with h9 | h9 | h9 | h9 | h9 <;> subst h9 <;> repeat (first | exact List.mem_cons_self | apply List.mem_cons_of_mem)), rfl, rfl, rfl, (show (I 37 (w.toInt.toNat)).toInt = (I 37 w.toInt.toNat).toInt from by first | assumption | omega | rfl), (show 0 ≤ (I 37 (w.toInt.toNat)).toInt from by first | assumption | omega), (show (I 37 (w.toInt.toNat)).toInt ≤ 19 from by first | assumption | omega), (show k.toInt ≤ 20 from by first | assumption | omega)⟩
      · intro h19
        have h19 : (I 37 (w.toInt.toNat)).toInt < 0 := h19
        have r22_2 : 0 ≤ (I 69 5).toInt ∧ (I 69 5).toInt ≤ 300 := hR 69 5
        exact ⟨hR, hF0, hG0, (show (I 69 5).toInt = (I 69 5).toInt from by first | assumption | omega | rfl), (show (I 69 6).toInt = (I 69 6).toInt from by first | assumption | omega | rfl), (show (I 69 8).toInt = (I 69 8).toInt from by first | assumption | omega | rfl), (show (I 69 10).toInt = (I 69 10).toInt + (tlT (I 37) (I 34) (I 35) (21 - k.toInt).toNat w.toInt.toNat : Int) from by rw [tlT_0 (by omega)]; omega), (show (∀ j : Nat, (j < (I 69 8).toInt.toNat ∨ (I 69 8).toInt.toNat + 8 ≤ j) → L 70 j = L 70 j) from by first | assumption | omega | rfl | exact fun _ _ => rfl | exact fun _ _ => ⟨rfl, rfl⟩ | exact fun _ _ => ⟨rfl, rfl, rfl⟩ | (intro j9 hj9; omega))⟩
-- callers take X5_tell at depth 22
