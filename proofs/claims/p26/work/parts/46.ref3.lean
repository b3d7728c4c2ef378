def tX12_push : List (Instr × Nat) := [(.aload_n 0, 1), (.getfield 107, 3), (.aload_n 0, 1), (.getfield 376, 3), (.iload_n 1, 1), (.iastore, 1), (.aload_n 0, 1), (.getfield 116, 3), (.aload_n 0, 1), (.getfield 376, 3), (.iload_n 2, 1), (.bastore, 1), (.aload_n 0, 1), (.getfield 110, 3), (.aload_n 0, 1), (.getfield 376, 3), (.iload_n 3, 1), (.iastore, 1), (.aload_n 0, 1), (.dup, 1), (.getfield 376, 3), (.iconst 1, 1), (.iadd, 1), (.putfield 376, 3), (.return_, 1)]
theorem tX12_push_ok : f_chk cX12_push 0 tX12_push = true := by decide +kernel
def pX12_push (av : List Value) (I : fM) (L : fN) : Prop := match av with
  | [.ref 0, .int n, .int g, .int t] => mR I ∧ (I 0 48).toInt ≤ 59 ∧ 0 ≤ n.toInt ∧ n.toInt ≤ 1599 ∧ 0 ≤ t.toInt ∧ t.toInt ≤ 39
  | _ => False
def qX12_push (av : List Value) (I : fM) (L : fN) (r : Value) (I' : fM) (L' : fN) : Prop := match av, r with
  | [.ref 0, .int n, .int g, .int t], .null => mR I' ∧ f_fo [48] I I' ∧ f_fr [0, 31, 32, 34] I I' ∧ L' = L ∧ (I' 0 48).toInt = (I 0 48).toInt + 1 ∧ I' 31 = upd (I 31) (I 0 48).toInt.toNat n ∧ I' 32 = upd (I 32) (I 0 48).toInt.toNat t ∧ I' 34 = upd (I 34) (I 0 48).toInt.toNat (vp_nar .boolean g)
  | _, _ => False
set_option maxHeartbeats 4000000 in
set_option maxRecDepth 100000 in
theorem mX12_push {l : Launch} {a : Nat → Nat} {cy dC : Nat → ClassId} {dI : Nat → Nat → Nat} (hinj : ∀ i j, i < 71 → j < 71 → a i = a j → i = j) : f_Met (fun _ => True) l mY 71 a cy dC dI yX12_push cX12_push 4 0 0 pX12_push qX12_push := by
  refine f_met_of (f_Ec_T 71 a) hinj mY_hi (by decide) (fun av I L h => by unfold pX12_push at h; split at h <;> first | exact Nat.le_of_ble_eq_true rfl | exact h.elim) ?_
  intro pP eP sP mP aP bP hP9 cP C av I L hp
  unfold pX12_push at hp
  split at hp
  case h_2 => exact hp.elim
  case h_1 n g t =>
    obtain ⟨hR, p1, p2, p3, p4, p5⟩ := hp
    have hF0 : f_fr [0, 31, 32, 34] I I := f_fr_rf
    have hO0 : f_fo [48] I I := f_fo_rf
    refine f_wp_ok C f_cl flX12_ok fiX12_ok fjX12_ok (sn := none) (fun j h => by cases h) (cs := (fun _ => none)) (cz := (fun _ => none)) (fun j S h => by cases h) (fun j S h => by cases h) tX12_push_ok (cut := (fun _ => none)) (fun t P h => by cases h) 28 0 tX12_push tX12_push_ok _ _ _ _ ?_
    have r5_1 : 0 ≤ (I 0 48).toInt ∧ (I 0 48).toInt ≤ 60 := hR 0 48
    refine And.intro (show f_in (I 0 48) 60 from ⟨show 0 ≤ (I 0 48).toInt from by omega, show (I 0 48).toInt < 60 from by omega⟩) ?_
    have hR9 := mR_a (k := 31) (j := (I 0 48).toInt.toNat) (x := n) hR (show 0 ≤ n.toInt ∧ n.toInt ≤ 1599 from ⟨by omega, by omega⟩)
    have hF9 := f_fr_up (k := 31) (r := upd (I 31) ((I 0 48).toInt.toNat) n) hF0 rfl
    have hO9 := f_fo_ne (k := 31) (r := upd (I 31) ((I 0 48).toInt.toNat) n) hO0 (by decide)
    refine And.intro (show f_in (I 0 48) 60 from ⟨show 0 ≤ (I 0 48).toInt from by omega, show (I 0 48).toInt < 60 from by omega⟩) ?_
    have nb19 : 0 ≤ (vp_nar .boolean g).toInt ∧ (vp_nar .boolean g).toInt ≤ 1 := f_narb _
    have hR19 := mR_a (k := 34) (j := (I 0 48).toInt.toNat) (x := vp_nar .boolean g) hR9 (by exact f_rng _)
    have hF19 := f_fr_up (k := 34) (r := upd (I 34) ((I 0 48).toInt.toNat) (vp_nar .boolean g)) hF9 rfl
    have hO19 := f_fo_ne (k := 34) (r := upd (I 34) ((I 0 48).toInt.toNat) (vp_nar .boolean g)) hO9 (by decide)
    refine And.intro (show f_in (I 0 48) 60 from ⟨show 0 ≤ (I 0 48).toInt from by omega, show (I 0 48).toInt < 60 from by omega⟩) ?_
    have hR29 := mR_a (k := 32) (j := (I 0 48).toInt.toNat) (x := t) hR19 (show 0 ≤ t.toInt ∧ t.toInt ≤ 39 from ⟨by omega, by omega⟩)
    have hF29 := f_fr_up (k := 32) (r := upd (I 32) ((I 0 48).toInt.toNat) t) hF19 rfl
    have hO29 := f_fo_ne (k := 32) (r := upd (I 32) ((I 0 48).toInt.toNat) t) hO19 (by decide)
    intro z36 q36 _ hq36 hl36 hu36
    have hq36 : z36.toInt = (I 0 48).toInt + 1 + 4294967296 * q36 := hq36
    try have hz36 : z36.toInt = (I 0 48).toInt + 1 := by omega
    have hR37 := mR_f (k := 0) (j := 48) (x := z36) hR29 (show 0 ≤ z36.toInt ∧ z36.toInt ≤ 60 from ⟨by omega, by omega⟩)
    have hF37 := f_fr_up (k := 0) (r := va_up (I 0) 48 z36) hF29 rfl
    have hO37 := f_fo_up (j := 48) (x := z36) hO29 rfl
    exact ⟨hR37, hO37, hF37, rfl, (show z36.toInt = (I 0 48).toInt + 1 from by first | assumption | omega | rfl), (show (upd (I 31) ((I 0 48).toInt.toNat) n) = upd (I 31) (I 0 48).toInt.toNat n from by first | assumption | omega | rfl), (show (upd (I 32) ((I 0 48).toInt.toNat) t) = upd (I 32) (I 0 48).toInt.toNat t from by first | assumption | omega | rfl), (show (upd (I 34) ((I 0 48).toInt.toNat) (vp_nar .boolean g)) = upd (I 34) (I 0 48).toInt.toNat (vp_nar .boolean g) from by first | assumption | omega | rfl)⟩
def tX12_freshGiven : List (Instr × Nat) := [(.aload_n 0, 1), (.getfield 92, 3), (.aload_n 0, 1), (.getfield 379, 3), (.iload_n 1, 1), (.iastore, 1), (.aload_n 0, 1), (.getfield 95, 3), (.aload_n 0, 1), (.getfield 379, 3), (.iconst 0, 1), (.iastore, 1), (.aload_n 0, 1), (.dup, 1), (.getfield 379, 3), (.iconst 1, 1), (.iadd, 1), (.putfield 379, 3), (.aload_n 0, 1), (.getfield 379, 3), (.iconst 1, 1), (.isub, 1), (.ireturn, 1)]
theorem tX12_freshGiven_ok : f_chk cX12_freshGiven 0 tX12_freshGiven = true := by decide +kernel
def pX12_freshGiven (av : List Value) (I : fM) (L : fN) : Prop := match av with
  | [.ref 0, .int b] => mR I ∧ (I 0 46).toInt ≤ 39 ∧ -1 ≤ b.toInt ∧ b.toInt ≤ 39
  | _ => False
def qX12_freshGiven (av : List Value) (I : fM) (L : fN) (r : Value) (I' : fM) (L' : fN) : Prop := match av, r with
  | [.ref 0, .int b], .int x => mR I' ∧ f_fo [46] I I' ∧ f_fr [0, 26, 27] I I' ∧ L' = L ∧ x.toInt = (I 0 46).toInt ∧ (I' 0 46).toInt = (I 0 46).toInt + 1 ∧ I' 26 = upd (I 26) (I 0 46).toInt.toNat b ∧ I' 27 = upd (I 27) (I 0 46).toInt.toNat (Int32.ofInt 0)
  | _, _ => False
set_option maxHeartbeats 4000000 in
set_option maxRecDepth 100000 in
theorem mX12_freshGiven {l : Launch} {a : Nat → Nat} {cy dC : Nat → ClassId} {dI : Nat → Nat → Nat} (hinj : ∀ i j, i < 71 → j < 71 → a i = a j → i = j) : f_Met (fun _ => True) l mY 71 a cy dC dI yX12_freshGiven cX12_freshGiven 2 1 0 pX12_freshGiven qX12_freshGiven := by
  refine f_met_of (f_Ec_T 71 a) hinj mY_hi (by decide) (fun av I L h => by unfold pX12_freshGiven at h; split at h <;> first | exact Nat.le_of_ble_eq_true rfl | exact h.elim) ?_
  intro pP eP sP mP aP bP hP9 cP C av I L hp
  unfold pX12_freshGiven at hp
  split at hp
  case h_2 => exact hp.elim
  case h_1 b =>
    obtain ⟨hR, p1, p2, p3⟩ := hp
    have hF0 : f_fr [0, 26, 27] I I := f_fr_rf
    have hO0 : f_fo [46] I I := f_fo_rf
    refine f_wp_ok C f_cl flX12_ok fiX12_ok fjX12_ok (sn := none) (fun j h => by cases h) (cs := (fun _ => none)) (cz := (fun _ => none)) (fun j S h => by cases h) (fun j S h => by cases h) tX12_freshGiven_ok (cut := (fun _ => none)) (fun t P h => by cases h) 26 0 tX12_freshGiven tX12_freshGiven_ok _ _ _ _ ?_
    have r5_1 : 0 ≤ (I 0 46).toInt ∧ (I 0 46).toInt ≤ 40 := hR 0 46
    refine And.intro (show f_in (I 0 46) 40 from ⟨show 0 ≤ (I 0 46).toInt from by omega, show (I 0 46).toInt < 40 from by omega⟩) ?_
    have hR9 := mR_a (k := 26) (j := (I 0 46).toInt.toNat) (x := b) hR (show -1 ≤ b.toInt ∧ b.toInt ≤ 39 from ⟨by omega, by omega⟩)
    have hF9 := f_fr_up (k := 26) (r := upd (I 26) ((I 0 46).toInt.toNat) b) hF0 rfl
    have hO9 := f_fo_ne (k := 26) (r := upd (I 26) ((I 0 46).toInt.toNat) b) hO0 (by decide)
    refine And.intro (show f_in (I 0 46) 40 from ⟨show 0 ≤ (I 0 46).toInt from by omega, show (I 0 46).toInt < 40 from by omega⟩) ?_
    have hR19 := mR_a (k := 27) (j := (I 0 46).toInt.toNat) (x := Int32.ofInt 0) hR9 (show 0 ≤ 0 ∧ 0 ≤ 4 from ⟨by omega, by omega⟩)
    have hF19 := f_fr_up (k := 27) (r := upd (I 27) ((I 0 46).toInt.toNat) (Int32.ofInt 0)) hF9 rfl
    have hO19 := f_fo_ne (k := 27) (r := upd (I 27) ((I 0 46).toInt.toNat) (Int32.ofInt 0)) hO9 (by decide)
    intro z26 q26 _ hq26 hl26 hu26
    have hq26 : z26.toInt = (I 0 46).toInt + 1 + 4294967296 * q26 := hq26
    try have hz26 : z26.toInt = (I 0 46).toInt + 1 := by omega
    have hR27 := mR_f (k := 0) (j := 46) (x := z26) hR19 (show 0 ≤ z26.toInt ∧ z26.toInt ≤ 40 from ⟨by omega, by omega⟩)
    have hF27 := f_fr_up (k := 0) (r := va_up (I 0) 46 z26) hF19 rfl
    have hO27 := f_fo_up (j := 46) (x := z26) hO19 rfl
    intro z35 q35 _ hq35 hl35 hu35
    have hq35 : z35.toInt = z26.toInt - 1 + 4294967296 * q35 := hq35
    try have hz35 : z35.toInt = z26.toInt - 1 := by omega
    exact ⟨hR27, hO27, hF27, rfl, (show z35.toInt = (I 0 46).toInt from by first | assumption | omega | rfl), (show z26.toInt = (I 0 46).toInt + 1 from by first | assumption | omega | rfl), (show (upd (I 26) ((I 0 46).toInt.toNat) b) = upd (I 26) (I 0 46).toInt.toNat b from by first | assumption | omega | rfl), (show (upd (I 27) ((I 0 46).toInt.toNat) (Int32.ofInt 0)) = upd (I 27) (I 0 46).toInt.toNat (Int32.ofInt 0) from by first | assumption | omega | rfl)⟩
def tX12_freshWanted : List (Instr × Nat) := [(.aload_n 0, 1), (.getfield 101, 3), (.aload_n 0, 1), (.getfield 382, 3), (.iconst 0, 1), (.iastore, 1), (.aload_n 0, 1), (.dup, 1), (.getfield 382, 3), (.iconst 1, 1), (.iadd, 1), (.putfield 382, 3), (.aload_n 0, 1), (.getfield 382, 3), (.iconst 1, 1), (.isub, 1), (.ireturn, 1)]
theorem tX12_freshWanted_ok : f_chk cX12_freshWanted 0 tX12_freshWanted = true := by decide +kernel
def pX12_freshWanted (av : List Value) (I : fM) (L : fN) : Prop := match av with
  | [.ref 0] => mR I ∧ (I 0 47).toInt ≤ 39
  | _ => False
def qX12_freshWanted (av : List Value) (I : fM) (L : fN) (r : Value) (I' : fM) (L' : fN) : Prop := match av, r with
  | [.ref 0], .int x => mR I' ∧ f_fo [47] I I' ∧ f_fr [0, 29] I I' ∧ L' = L ∧ x.toInt = (I 0 47).toInt ∧ (I' 0 47).toInt = (I 0 47).toInt + 1 ∧ I' 29 = upd (I 29) (I 0 47).toInt.toNat (Int32.ofInt 0)
  | _, _ => False
set_option maxHeartbeats 4000000 in
set_option maxRecDepth 100000 in
theorem mX12_freshWanted {l : Launch} {a : Nat → Nat} {cy dC : Nat → ClassId} {dI : Nat → Nat → Nat} (hinj : ∀ i j, i < 71 → j < 71 → a i = a j → i = j) : f_Met (fun _ => True) l mY 71 a cy dC dI yX12_freshWanted cX12_freshWanted 1 1 0 pX12_freshWanted qX12_freshWanted := by
  refine f_met_of (f_Ec_T 71 a) hinj mY_hi (by decide) (fun av I L h => by unfold pX12_freshWanted at h; split at h <;> first | exact Nat.le_of_ble_eq_true rfl | exact h.elim) ?_
  intro pP eP sP mP aP bP hP9 cP C av I L hp
  unfold pX12_freshWanted at hp
  split at hp
  case h_2 => exact hp.elim
  case h_1 =>
    obtain ⟨hR, p1⟩ := hp
    have hF0 : f_fr [0, 29] I I := f_fr_rf
    have hO0 : f_fo [47] I I := f_fo_rf
    refine f_wp_ok C f_cl flX12_ok fiX12_ok fjX12_ok (sn := none) (fun j h => by cases h) (cs := (fun _ => none)) (cz := (fun _ => none)) (fun j S h => by cases h) (fun j S h => by cases h) tX12_freshWanted_ok (cut := (fun _ => none)) (fun t P h => by cases h) 20 0 tX12_freshWanted tX12_freshWanted_ok _ _ _ _ ?_
    have r5_1 : 0 ≤ (I 0 47).toInt ∧ (I 0 47).toInt ≤ 40 := hR 0 47
    refine And.intro (show f_in (I 0 47) 40 from ⟨show 0 ≤ (I 0 47).toInt from by omega, show (I 0 47).toInt < 40 from by omega⟩) ?_
    have hR9 := mR_a (k := 29) (j := (I 0 47).toInt.toNat) (x := Int32.ofInt 0) hR (show 0 ≤ 0 ∧ 0 ≤ 4 from ⟨by omega, by omega⟩)
    have hF9 := f_fr_up (k := 29) (r := upd (I 29) ((I 0 47).toInt.toNat) (Int32.ofInt 0)) hF0 rfl
    have hO9 := f_fo_ne (k := 29) (r := upd (I 29) ((I 0 47).toInt.toNat) (Int32.ofInt 0)) hO0 (by decide)
    intro z16 q16 _ hq16 hl16 hu16
    have hq16 : z16.toInt = (I 0 47).toInt + 1 + 4294967296 * q16 := hq16
    try have hz16 : z16.toInt = (I 0 47).toInt + 1 := by omega
    have hR17 := mR_f (k := 0) (j := 47) (x := z16) hR9 (show 0 ≤ z16.toInt ∧ z16.toInt ≤ 40 from ⟨by omega, by omega⟩)
    have hF17 := f_fr_up (k := 0) (r := va_up (I 0) 47 z16) hF9 rfl
    have hO17 := f_fo_up (j := 47) (x := z16) hO9 rfl
    intro z25 q25 _ hq25 hl25 hu25
    have hq25 : z25.toInt = z16.toInt - 1 + 4294967296 * q25 := hq25
    try have hz25 : z25.toInt = z16.toInt - 1 := by omega
    exact ⟨hR17, hO17, hF17, rfl, (show z25.toInt = (I 0 47).toInt from by first | assumption | omega | rfl), (show z16.toInt = (I 0 47).toInt + 1 from by first | assumption | omega | rfl), (show (upd (I 29) ((I 0 47).toInt.toNat) (Int32.ofInt 0)) = upd (I 29) (I 0 47).toInt.toNat (Int32.ofInt 0) from by first | assumption | omega | rfl)⟩
def tX12_bitsOf : List (Instr × Nat) := [(.iconst 0, 1), (.istore_n 1, 1), (.iconst 0, 1), (.istore_n 2, 1), (.iload_n 2, 1), (.bipush 31, 2), (.if_icmp .ge 17, 3), (.iload_n 1, 1), (.iload_n 0, 1), (.iload_n 2, 1), (.ishr, 1), (.iconst 1, 1), (.iand, 1), (.iadd, 1), (.istore_n 1, 1), (.iinc 2 1, 3), (.goto (-17), 3), (.iload_n 1, 1), (.ireturn, 1)]
theorem tX12_bitsOf_ok : f_chk cX12_bitsOf 0 tX12_bitsOf = true := by decide +kernel
def pX12_bitsOf (av : List Value) (I : fM) (L : fN) : Prop := match av with
  | [.int e] => True
  | _ => False
def qX12_bitsOf (av : List Value) (I : fM) (L : fN) (r : Value) (I' : fM) (L' : fN) : Prop := match av, r with
  | [.int e], .int x => I' = I ∧ L' = L
  | _, _ => False
set_option maxHeartbeats 4000000 in
set_option maxRecDepth 100000 in
theorem mX12_bitsOf {l : Launch} {a : Nat → Nat} {cy dC : Nat → ClassId} {dI : Nat → Nat → Nat} (hinj : ∀ i j, i < 71 → j < 71 → a i = a j → i = j) : f_Met (fun _ => True) l mY 71 a cy dC dI yX12_bitsOf cX12_bitsOf 3 1 0 pX12_bitsOf qX12_bitsOf := by
  refine f_met_of (f_Ec_T 71 a) hinj mY_hi (by decide) (fun av I L h => by unfold pX12_bitsOf at h; split at h <;> first | exact Nat.le_of_ble_eq_true rfl | exact h.elim) ?_
  intro pP eP sP mP aP bP hP9 cP C av I L hp
  unfold pX12_bitsOf at hp
  split at hp
  case h_2 => exact hp.elim
  case h_1 e =>
    have p0 := hp
    have lp4 : ∀ (n4 : Nat), ∀ (n : Int32) (k : Int32), (0 ≤ k.toInt) ∧ (k.toInt ≤ 31) ∧ (31 - k.toInt) < n4 → f_W pP l eP (f_rm 0) sP mP aP bP hP9 cP mY 71 a cy dC dI 3 (f_K 1 (qX12_bitsOf [.int e] I L)) 4 [(2, .int k), (1, .int n), (0, .int e)] [] I L := by
      intro n4
      induction n4 with
      | zero =>
        intro n k h9
        obtain ⟨u4_1, u4_2, hm4⟩ := h9
        omega
      | succ n4 ih4 =>
        intro n k h9
        obtain ⟨u4_1, u4_2, hm4⟩ := h9
        refine f_wp_ok C f_cl flX12_ok fiX12_ok fjX12_ok (sn := none) (fun j h => by cases h) (cs := (fun _ => none)) (cz := (fun _ => none)) (fun j S h => by cases h) (fun j S h => by cases h) tX12_bitsOf_ok (cut := (f_cnl [(4, (fun (ls' : fLs) (st' : List Value) (I' : fM) (L' : fN) => ∃ n : Int32, ∃ k : Int32, (∀ q ∈ ([(2, .int k), (1, .int n), (0, .int e)] : fLs), q ∈ ls') ∧ st' = [] ∧ I' = I ∧ L' = L ∧ ((0 ≤ k.toInt) ∧ (k.toInt ≤ 31) ∧ (31 - k.toInt) < n4)))])) (f_cnl_of (P := fun (tQ : Nat) (P : fLs → List Value → fM → fN → Prop) => ∀ ls' st' I' L', P ls' st' I' L' → f_W pP l eP (f_rm 0) sP mP aP bP hP9 cP mY 71 a cy dC dI 3 (f_K 1 (qX12_bitsOf [.int e] I L)) tQ ls' st' I' L') (List.forall_mem_cons.mpr ⟨(fun ls' st' I' L' h => by obtain ⟨n, k, hs, e1, e2, e3, h9⟩ := h; rw [e1, e2, e3]; exact f_W_sub hs (ih4 n k h9)), fun _ h => absurd h List.not_mem_nil⟩)) 16 4 (f_seek 4 0 tX12_bitsOf) (f_seek_ok 4 0 tX12_bitsOf tX12_bitsOf_ok) _ _ _ _ ?_
        apply And.intro
        · intro h7
          have h7 : 31 ≤ k.toInt := h7
          exact ⟨rfl, rfl⟩
        · intro h7
          have h7 : k.toInt < 31 := h7
          have b15 : 0 ≤ ((e >>> (k &&& 31)) &&& (Int32.ofInt 1)).toInt ∧ ((e >>> (k &&& 31)) &&& (Int32.ofInt 1)).toInt ≤ 1 := f_andc (e >>> (k &&& 31)) 1 (by decide) (by decide)
          intro z16 q16 _ hq16 hl16 hu16
          have hq16 : z16.toInt = n.toInt + ((e >>> (k &&& 31)) &&& (Int32.ofInt 1)).toInt + 4294967296 * q16 := hq16
          try have hz16 : z16.toInt = n.toInt + ((e >>> (k &&& 31)) &&& (Int32.ofInt 1)).toInt := by omega
          intro z18 q18 _ hq18 hl18 hu18
          have hq18 : z18.toInt = k.toInt + 1 + 4294967296 * q18 := hq18
          try have hz18 : z18.toInt = k.toInt + 1 := by omega
          exact ⟨z16, z18, (by intro q9 h9; simp only [List.mem_cons, List.not_mem_nil, or_false] at h9; rcases h9 with h9 | h9 | h9 <;> subst h9 <;> repeat (first | exact List.mem_cons_self | apply List.mem_cons_of_mem)), rfl, rfl, rfl, (show 0 ≤ z18.toInt from by first | assumption | omega), (show z18.toInt ≤ 31 from by first | assumption | omega), (show (31 - z18.toInt) < n4 from by omega)⟩
    refine f_wp_ok C f_cl flX12_ok fiX12_ok fjX12_ok (sn := none) (fun j h => by cases h) (cs := (fun _ => none)) (cz := (fun _ => none)) (fun j S h => by cases h) (fun j S h => by cases h) tX12_bitsOf_ok (cut := (f_cnl [(4, (fun (ls' : fLs) (st' : List Value) (I' : fM) (L' : fN) => ∃ n : Int32, ∃ k : Int32, (∀ q ∈ ([(2, .int k), (1, .int n), (0, .int e)] : fLs), q ∈ ls') ∧ st' = [] ∧ I' = I ∧ L' = L ∧ ((0 ≤ k.toInt) ∧ (k.toInt ≤ 31) ∧ (31 - k.toInt) < 32)))])) (f_cnl_of (P := fun (tQ : Nat) (P : fLs → List Value → fM → fN → Prop) => ∀ ls' st' I' L', P ls' st' I' L' → f_W pP l eP (f_rm 0) sP mP aP bP hP9 cP mY 71 a cy dC dI 3 (f_K 1 (qX12_bitsOf [.int e] I L)) tQ ls' st' I' L') (List.forall_mem_cons.mpr ⟨(fun ls' st' I' L' h => by obtain ⟨n, k, hs, e1, e2, e3, h9⟩ := h; rw [e1, e2, e3]; exact f_W_sub hs (lp4 32 n k h9)), fun _ h => absurd h List.not_mem_nil⟩)) 7 0 tX12_bitsOf tX12_bitsOf_ok _ _ _ _ ?_
    exact ⟨Int32.ofInt 0, Int32.ofInt 0, (by intro q9 h9; simp only [List.mem_cons, List.not_mem_nil, or_false] at h9; rcases h9 with h9 | h9 | h9 <;> subst h9 <;> repeat (first | exact List.mem_cons_self | apply List.mem_cons_of_mem)), rfl, rfl, rfl, (show 0 ≤ (0 : Int) from by first | assumption | omega), (show (0 : Int) ≤ 31 from by first | assumption | omega), (show (31 - (0 : Int)) < 32 from by omega)⟩
def tX12_pairs : List (Instr × Nat) := [(.iconst 0, 1), (.istore_n 1, 1), (.iconst 0, 1), (.istore_n 2, 1), (.iload_n 2, 1), (.aload_n 0, 1), (.getfield 309, 3), (.if_icmp .ge 50, 3), (.iload_n 2, 1), (.iconst 1, 1), (.iadd, 1), (.istore_n 3, 1), (.iload_n 3, 1), (.aload_n 0, 1), (.getfield 309, 3), (.if_icmp .ge 32, 3), (.iload_n 1, 1), (.aload_n 0, 1), (.getfield 173, 3), (.iload_n 2, 1), (.iaload, 1), (.aload_n 0, 1), (.getfield 173, 3), (.iload_n 3, 1), (.iaload, 1), (.if_icmp .le 7, 3), (.iconst 1, 1), (.goto 4, 3), (.iconst 0, 1), (.iadd, 1), (.istore_n 1, 1), (.iinc 3 1, 3), (.goto (-34), 3), (.iinc 2 1, 3), (.goto (-52), 3), (.iload_n 1, 1), (.ireturn, 1)]
theorem tX12_pairs_ok : f_chk cX12_pairs 0 tX12_pairs = true := by decide +kernel
def pX12_pairs (av : List Value) (I : fM) (L : fN) : Prop := match av with
  | [.ref 0] => mR I
  | _ => False
def qX12_pairs (av : List Value) (I : fM) (L : fN) (r : Value) (I' : fM) (L' : fN) : Prop := match av, r with
  | [.ref 0], .int x => I' = I ∧ L' = L
  | _, _ => False
set_option maxHeartbeats 4000000 in
set_option maxRecDepth 100000 in
theorem mX12_pairs {l : Launch} {a : Nat → Nat} {cy dC : Nat → ClassId} {dI : Nat → Nat → Nat} (hinj : ∀ i j, i < 71 → j < 71 → a i = a j → i = j) : f_Met (fun _ => True) l mY 71 a cy dC dI yX12_pairs cX12_pairs 4 1 0 pX12_pairs qX12_pairs := by
  refine f_met_of (f_Ec_T 71 a) hinj mY_hi (by decide) (fun av I L h => by unfold pX12_pairs at h; split at h <;> first | exact Nat.le_of_ble_eq_true rfl | exact h.elim) ?_
  intro pP eP sP mP aP bP hP9 cP C av I L hp
  unfold pX12_pairs at hp
  split at hp
  case h_2 => exact hp.elim
  case h_1 =>
    have hR := hp
    have hn : 0 ≤ (I 0 30).toInt ∧ (I 0 30).toInt ≤ 8 := hR 0 30
    have lp4 : ∀ (n4 : Nat), ∀ (n : Int32) (u : Int32), (0 ≤ u.toInt) ∧ (u.toInt ≤ (I 0 30).toInt) ∧ ((I 0 30).toInt - u.toInt) < n4 → f_W pP l eP (f_rm 0) sP mP aP bP hP9 cP mY 71 a cy dC dI 4 (f_K 1 (qX12_pairs [.ref 0] I L)) 4 [(2, .int u), (1, .int n), (0, .ref 0)] [] I L := by
      intro n4
      induction n4 with
      | zero =>
        intro n u h9
        obtain ⟨u4_1, u4_2, hm4⟩ := h9
        omega
      | succ n4 ih4 =>
        intro n u h9
        obtain ⟨u4_1, u4_2, hm4⟩ := h9
        have lp16 : ∀ (n16 : Nat), ∀ (n : Int32) (v : Int32), (u.toInt < (I 0 30).toInt) ∧ (u.toInt < v.toInt) ∧ (v.toInt ≤ (I 0 30).toInt) ∧ ((I 0 30).toInt - v.toInt) < n16 → f_W pP l eP (f_rm 0) sP mP aP bP hP9 cP mY 71 a cy dC dI 4 (f_K 1 (qX12_pairs [.ref 0] I L)) 16 [(3, .int v), (2, .int u), (1, .int n), (0, .ref 0)] [] I L := by
          intro n16
          induction n16 with
          | zero =>
            intro n v h9
            obtain ⟨u16_1, u16_2, u16_3, hm16⟩ := h9
            omega
          | succ n16 ih16 =>
            intro n v h9
            obtain ⟨u16_1, u16_2, u16_3, hm16⟩ := h9
            refine f_wp_ok C f_cl flX12_ok fiX12_ok fjX12_ok (sn := none) (fun j h => by cases h) (cs := (fun _ => none)) (cz := (fun _ => none)) (fun j S h => by cases h) (fun j S h => by cases h) tX12_pairs_ok (cut := (f_cnl [(4, (fun (ls' : fLs) (st' : List Value) (I' : fM) (L' : fN) => ∃ n : Int32, ∃ u : Int32, (∀ q ∈ ([(2, .int u), (1, .int n), (0, .ref 0)] : fLs), q ∈ ls') ∧ st' = [] ∧ I' = I ∧ L' = L ∧ ((0 ≤ u.toInt) ∧ (u.toInt ≤ (I 0 30).toInt) ∧ ((I 0 30).toInt - u.toInt) < n4))), (16, (fun (ls' : fLs) (st' : List Value) (I' : fM) (L' : fN) => ∃ n : Int32, ∃ v : Int32, (∀ q ∈ ([(3, .int v), (2, .int u), (1, .int n), (0, .ref 0)] : fLs), q ∈ ls') ∧ st' = [] ∧ I' = I ∧ L' = L ∧ ((u.toInt < (I 0 30).toInt) ∧ (u.toInt < v.toInt) ∧ (v.toInt ≤ (I 0 30).toInt) ∧ ((I 0 30).toInt - v.toInt) < n16)))])) (f_cnl_of (P := fun (tQ : Nat) (P : fLs → List Value → fM → fN → Prop) => ∀ ls' st' I' L', P ls' st' I' L' → f_W pP l eP (f_rm 0) sP mP aP bP hP9 cP mY 71 a cy dC dI 4 (f_K 1 (qX12_pairs [.ref 0] I L)) tQ ls' st' I' L') (List.forall_mem_cons.mpr ⟨(fun ls' st' I' L' h => by obtain ⟨n, u, hs, e1, e2, e3, h9⟩ := h; rw [e1, e2, e3]; exact f_W_sub hs (ih4 n u h9)), List.forall_mem_cons.mpr ⟨(fun ls' st' I' L' h => by obtain ⟨n, v, hs, e1, e2, e3, h9⟩ := h; rw [e1, e2, e3]; exact f_W_sub hs (ih16 n v h9)), fun _ h => absurd h List.not_mem_nil⟩⟩)) 23 16 (f_seek 16 0 tX12_pairs) (f_seek_ok 16 0 tX12_pairs tX12_pairs_ok) _ _ _ _ ?_
            have r18_1 : 0 ≤ (I 0 30).toInt ∧ (I 0 30).toInt ≤ 8 := hR 0 30
            apply And.intro
            · intro h21
              have h21 : (I 0 30).toInt ≤ v.toInt := h21
              intro z53 q53 _ hq53 hl53 hu53
              have hq53 : z53.toInt = u.toInt + 1 + 4294967296 * q53 := hq53
              try have hz53 : z53.toInt = u.toInt + 1 := by omega
              exact ⟨n, z53, (by intro q9 h9; simp only [List.mem_cons, List.not_mem_nil, or_false] at h9; rcases h9 with h9 | h9 | h9 <;> subst h9 <;> repeat (first | exact List.mem_cons_self | apply List.mem_cons_of_mem)), rfl, rfl, rfl, (show 0 ≤ z53.toInt from by first | assumption | omega), (show z53.toInt ≤ (I 0 30).toInt from by first | assumption | omega), (show ((I 0 30).toInt - z53.toInt) < n4 from by omega)⟩
            · intro h21
              have h21 : v.toInt < (I 0 30).toInt := h21
              refine And.intro (show f_in u 8 from ⟨show 0 ≤ u.toInt from by omega, show u.toInt < 8 from by omega⟩) ?_
              have r30_2 : 0 ≤ (I 53 (u.toInt.toNat)).toInt ∧ (I 53 (u.toInt.toNat)).toInt ≤ 7 := hR 53 (u.toInt.toNat)
              refine And.intro (show f_in v 8 from ⟨show 0 ≤ v.toInt from by omega, show v.toInt < 8 from by omega⟩) ?_
              have r36_3 : 0 ≤ (I 53 (v.toInt.toNat)).toInt ∧ (I 53 (v.toInt.toNat)).toInt ≤ 7 := hR 53 (v.toInt.toNat)
              apply And.intro
              · intro h37
                have h37 : (I 53 (u.toInt.toNat)).toInt ≤ (I 53 (v.toInt.toNat)).toInt := h37
                intro z45 q45 _ hq45 hl45 hu45
                have hq45 : z45.toInt = n.toInt + 0 + 4294967296 * q45 := hq45
                try have hz45 : z45.toInt = n.toInt + 0 := by omega
                intro z47 q47 _ hq47 hl47 hu47
                have hq47 : z47.toInt = v.toInt + 1 + 4294967296 * q47 := hq47
                try have hz47 : z47.toInt = v.toInt + 1 := by omega
                exact ⟨z45, z47, (by intro q9 h9; simp only [List.mem_cons, List.not_mem_nil, or_false] at h9; rcases h9 with h9 | h9 | h9 | h9 <;> subst h9 <;> repeat (first | exact List.mem_cons_self | apply List.mem_cons_of_mem)), rfl, rfl, rfl, (show u.toInt < (I 0 30).toInt from by first | assumption | omega), (show u.toInt < z47.toInt from by first | assumption | omega), (show z47.toInt ≤ (I 0 30).toInt from by first | assumption | omega), (show ((I 0 30).toInt - z47.toInt) < n16 from by omega)⟩
              · intro h37
                have h37 : (I 53 (v.toInt.toNat)).toInt < (I 53 (u.toInt.toNat)).toInt := h37
                intro z45 q45 _ hq45 hl45 hu45
                have hq45 : z45.toInt = n.toInt + 1 + 4294967296 * q45 := hq45
                try have hz45 : z45.toInt = n.toInt + 1 := by omega
                intro z47 q47 _ hq47 hl47 hu47
                have hq47 : z47.toInt = v.toInt + 1 + 4294967296 * q47 := hq47
                try have hz47 : z47.toInt = v.toInt + 1 := by omega
                exact ⟨z45, z47, (by intro q9 h9; simp only [List.mem_cons, List.not_mem_nil, or_false] at h9; rcases h9 with h9 | h9 | h9 | h9 <;> subst h9 <;> repeat (first | exact List.mem_cons_self | apply List.mem_cons_of_mem)), rfl, rfl, rfl, (show u.toInt < (I 0 30).toInt from by first | assumption | omega), (show u.toInt < z47.toInt from by first | assumption | omega), (show z47.toInt ≤ (I 0 30).toInt from by first | assumption | omega), (show ((I 0 30).toInt - z47.toInt) < n16 from by omega)⟩
        refine f_wp_ok C f_cl flX12_ok fiX12_ok fjX12_ok (sn := none) (fun j h => by cases h) (cs := (fun _ => none)) (cz := (fun _ => none)) (fun j S h => by cases h) (fun j S h => by cases h) tX12_pairs_ok (cut := (f_cnl [(16, (fun (ls' : fLs) (st' : List Value) (I' : fM) (L' : fN) => ∃ n : Int32, ∃ v : Int32, (∀ q ∈ ([(3, .int v), (2, .int u), (1, .int n), (0, .ref 0)] : fLs), q ∈ ls') ∧ st' = [] ∧ I' = I ∧ L' = L ∧ ((u.toInt < (I 0 30).toInt) ∧ (u.toInt < v.toInt) ∧ (v.toInt ≤ (I 0 30).toInt) ∧ ((I 0 30).toInt - v.toInt) < 9)))])) (f_cnl_of (P := fun (tQ : Nat) (P : fLs → List Value → fM → fN → Prop) => ∀ ls' st' I' L', P ls' st' I' L' → f_W pP l eP (f_rm 0) sP mP aP bP hP9 cP mY 71 a cy dC dI 4 (f_K 1 (qX12_pairs [.ref 0] I L)) tQ ls' st' I' L') (List.forall_mem_cons.mpr ⟨(fun ls' st' I' L' h => by obtain ⟨n, v, hs, e1, e2, e3, h9⟩ := h; rw [e1, e2, e3]; exact f_W_sub hs (lp16 9 n v h9)), fun _ h => absurd h List.not_mem_nil⟩)) 11 4 (f_seek 4 0 tX12_pairs) (f_seek_ok 4 0 tX12_pairs tX12_pairs_ok) _ _ _ _ ?_
        have r6_1 : 0 ≤ (I 0 30).toInt ∧ (I 0 30).toInt ≤ 8 := hR 0 30
        apply And.intro
        · intro h9
          have h9 : (I 0 30).toInt ≤ u.toInt := h9
          exact ⟨rfl, rfl⟩
        · intro h9
          have h9 : u.toInt < (I 0 30).toInt := h9
          intro z14 q14 _ hq14 hl14 hu14
          have hq14 : z14.toInt = u.toInt + 1 + 4294967296 * q14 := hq14
          try have hz14 : z14.toInt = u.toInt + 1 := by omega
          exact ⟨n, z14, (by intro q9 h9; simp only [List.mem_cons, List.not_mem_nil, or_false] at h9; rcases h9 with h9 | h9 | h9 | h9 <;> subst h9 <;> repeat (first | exact List.mem_cons_self | apply List.mem_cons_of_mem)), rfl, rfl, rfl, (show u.toInt < (I 0 30).toInt from by first | assumption | omega), (show u.toInt < z14.toInt from by first | assumption | omega), (show z14.toInt ≤ (I 0 30).toInt from by first | assumption | omega), (show ((I 0 30).toInt - z14.toInt) < 9 from by omega)⟩
    refine f_wp_ok C f_cl flX12_ok fiX12_ok fjX12_ok (sn := none) (fun j h => by cases h) (cs := (fun _ => none)) (cz := (fun _ => none)) (fun j S h => by cases h) (fun j S h => by cases h) tX12_pairs_ok (cut := (f_cnl [(4, (fun (ls' : fLs) (st' : List Value) (I' : fM) (L' : fN) => ∃ n : Int32, ∃ u : Int32, (∀ q ∈ ([(2, .int u), (1, .int n), (0, .ref 0)] : fLs), q ∈ ls') ∧ st' = [] ∧ I' = I ∧ L' = L ∧ ((0 ≤ u.toInt) ∧ (u.toInt ≤ (I 0 30).toInt) ∧ ((I 0 30).toInt - u.toInt) < 9)))])) (f_cnl_of (P := fun (tQ : Nat) (P : fLs → List Value → fM → fN → Prop) => ∀ ls' st' I' L', P ls' st' I' L' → f_W pP l eP (f_rm 0) sP mP aP bP hP9 cP mY 71 a cy dC dI 4 (f_K 1 (qX12_pairs [.ref 0] I L)) tQ ls' st' I' L') (List.forall_mem_cons.mpr ⟨(fun ls' st' I' L' h => by obtain ⟨n, u, hs, e1, e2, e3, h9⟩ := h; rw [e1, e2, e3]; exact f_W_sub hs (lp4 9 n u h9)), fun _ h => absurd h List.not_mem_nil⟩)) 7 0 tX12_pairs tX12_pairs_ok _ _ _ _ ?_
    have r4_1 : 0 ≤ (I 0 30).toInt ∧ (I 0 30).toInt ≤ 8 := hR 0 30
    exact ⟨Int32.ofInt 0, Int32.ofInt 0, (by intro q9 h9; simp only [List.mem_cons, List.not_mem_nil, or_false] at h9; rcases h9 with h9 | h9 | h9 <;> subst h9 <;> repeat (first | exact List.mem_cons_self | apply List.mem_cons_of_mem)), rfl, rfl, rfl, (show 0 ≤ (0 : Int) from by first | assumption | omega), (show (0 : Int) ≤ (I 0 30).toInt from by first | assumption | omega), (show ((I 0 30).toInt - (0 : Int)) < 9 from by omega)⟩
def tX12_putIn : List (Instr × Nat) := [(.iload_n 1, 1), (.istore 4, 2), (.iload 4, 2), (.iload_n 2, 1), (.if_icmp .le 25, 3), (.aload_n 0, 1), (.getfield 176, 3), (.iload 4, 2), (.aload_n 0, 1), (.getfield 176, 3), (.iload 4, 2), (.iconst 1, 1), (.isub, 1), (.iaload, 1), (.iastore, 1), (.iinc 4 (-1), 3), (.goto (-25), 3), (.aload_n 0, 1), (.getfield 176, 3), (.iload_n 2, 1), (.iload_n 3, 1), (.iastore, 1), (.return_, 1)]
theorem tX12_putIn_ok : f_chk cX12_putIn 0 tX12_putIn = true := by decide +kernel
def pX12_putIn (av : List Value) (I : fM) (L : fN) : Prop := match av with
  | [.ref 0, .int m, .int p, .int w] => mR I ∧ 0 ≤ p.toInt ∧ p.toInt ≤ m.toInt ∧ m.toInt ≤ 9 ∧ 0 ≤ w.toInt ∧ w.toInt ≤ 11
  | _ => False
def qX12_putIn (av : List Value) (I : fM) (L : fN) (r : Value) (I' : fM) (L' : fN) : Prop := match av, r with
  | [.ref 0, .int m, .int p, .int w], .null => mR I' ∧ f_fr [54] I I' ∧ L' = L
  | _, _ => False
set_option maxHeartbeats 4000000 in
set_option maxRecDepth 100000 in
theorem mX12_putIn {l : Launch} {a : Nat → Nat} {cy dC : Nat → ClassId} {dI : Nat → Nat → Nat} (hinj : ∀ i j, i < 71 → j < 71 → a i = a j → i = j) : f_Met (fun _ => True) l mY 71 a cy dC dI yX12_putIn cX12_putIn 5 0 0 pX12_putIn qX12_putIn := by
  refine f_met_of (f_Ec_T 71 a) hinj mY_hi (by decide) (fun av I L h => by unfold pX12_putIn at h; split at h <;> first | exact Nat.le_of_ble_eq_true rfl | exact h.elim) ?_
  intro pP eP sP mP aP bP hP9 cP C av I L hp
  unfold pX12_putIn at hp
  split at hp
  case h_2 => exact hp.elim
  case h_1 m p w =>
    obtain ⟨hR, p1, p2, p3, p4, p5⟩ := hp
    have hF0 : f_fr [54] I I := f_fr_rf
    have lp3 : ∀ (n3 : Nat), ∀ (i : Int32) (J3 : fM), mR J3 ∧ f_fr [54] I J3 ∧ (p.toInt ≤ i.toInt) ∧ (i.toInt ≤ 9) ∧ (i.toInt - p.toInt) < n3 → f_W pP l eP (f_rm 0) sP mP aP bP hP9 cP mY 71 a cy dC dI 5 (f_K 0 (qX12_putIn [.ref 0, .int m, .int p, .int w] I L)) 3 [(4, .int i), (3, .int w), (2, .int p), (1, .int m), (0, .ref 0)] [] J3 L := by
      intro n3
      induction n3 with
      | zero =>
        intro i J3 h9
        obtain ⟨hR3c, hF3c, u3_1, u3_2, hm3⟩ := h9
        omega
      | succ n3 ih3 =>
        intro i J3 h9
        obtain ⟨hR3c, hF3c, u3_1, u3_2, hm3⟩ := h9
        refine f_wp_ok C f_cl flX12_ok fiX12_ok fjX12_ok (sn := none) (fun j h => by cases h) (cs := (fun _ => none)) (cz := (fun _ => none)) (fun j S h => by cases h) (fun j S h => by cases h) tX12_putIn_ok (cut := (f_cnl [(3, (fun (ls' : fLs) (st' : List Value) (I' : fM) (L' : fN) => ∃ i : Int32, (∀ q ∈ ([(4, .int i), (3, .int w), (2, .int p), (1, .int m), (0, .ref 0)] : fLs), q ∈ ls') ∧ st' = [] ∧ L' = L ∧ (mR I' ∧ f_fr [54] I I' ∧ (p.toInt ≤ i.toInt) ∧ (i.toInt ≤ 9) ∧ (i.toInt - p.toInt) < n3)))])) (f_cnl_of (P := fun (tQ : Nat) (P : fLs → List Value → fM → fN → Prop) => ∀ ls' st' I' L', P ls' st' I' L' → f_W pP l eP (f_rm 0) sP mP aP bP hP9 cP mY 71 a cy dC dI 5 (f_K 0 (qX12_putIn [.ref 0, .int m, .int p, .int w] I L)) tQ ls' st' I' L') (List.forall_mem_cons.mpr ⟨(fun ls' st' I' L' h => by obtain ⟨i, hs, e1, e3, h9⟩ := h; rw [e1, e3]; exact f_W_sub hs (ih3 i I' h9)), fun _ h => absurd h List.not_mem_nil⟩)) 18 3 (f_seek 3 0 tX12_putIn) (f_seek_ok 3 0 tX12_putIn tX12_putIn_ok) _ _ _ _ ?_
        apply And.intro
        · intro h6
          have h6 : i.toInt ≤ p.toInt := h6
          refine And.intro (show f_in p 10 from ⟨show 0 ≤ p.toInt from by omega, show p.toInt < 10 from by omega⟩) ?_
          have hR37 := mR_a (k := 54) (j := p.toInt.toNat) (x := w) hR3c (show 0 ≤ w.toInt ∧ w.toInt ≤ 11 from ⟨by omega, by omega⟩)
          have hF37 := f_fr_up (k := 54) (r := upd (J3 54) (p.toInt.toNat) w) hF3c rfl
          exact ⟨hR37, hF37, rfl⟩
        · intro h6
          have h6 : p.toInt < i.toInt := h6
          intro z22 q22 _ hq22 hl22 hu22
          have hq22 : z22.toInt = i.toInt - 1 + 4294967296 * q22 := hq22
          try have hz22 : z22.toInt = i.toInt - 1 := by omega
          refine And.intro (show f_in z22 10 from ⟨show 0 ≤ z22.toInt from by omega, show z22.toInt < 10 from by omega⟩) ?_
          have r23_1 : 0 ≤ (J3 54 (z22.toInt.toNat)).toInt ∧ (J3 54 (z22.toInt.toNat)).toInt ≤ 11 := hR3c 54 (z22.toInt.toNat)
          refine And.intro (show f_in i 10 from ⟨show 0 ≤ i.toInt from by omega, show i.toInt < 10 from by omega⟩) ?_
          have hR24 := mR_a (k := 54) (j := i.toInt.toNat) (x := J3 54 (z22.toInt.toNat)) hR3c (show 0 ≤ (J3 54 (z22.toInt.toNat)).toInt ∧ (J3 54 (z22.toInt.toNat)).toInt ≤ 11 from ⟨by omega, by omega⟩)
          have hF24 := f_fr_up (k := 54) (r := upd (J3 54) (i.toInt.toNat) (J3 54 (z22.toInt.toNat))) hF3c rfl
          intro z25 q25 _ hq25 hl25 hu25
          have hq25 : z25.toInt = i.toInt + (-1) + 4294967296 * q25 := hq25
          try have hz25 : z25.toInt = i.toInt + (-1) := by omega
          exact ⟨z25, (by intro q9 h9; simp only [List.mem_cons, List.not_mem_nil, or_false] at h9; rcases h9 with h9 | h9 | h9 | h9 | h9 <;> subst h9 <;> repeat (first | exact List.mem_cons_self | apply List.mem_cons_of_mem)), rfl, rfl, hR24, hF24, (show p.toInt ≤ z25.toInt from by first | assumption | omega), (show z25.toInt ≤ 9 from by first | assumption | omega), (show (z25.toInt - p.toInt) < n3 from by omega)⟩
    refine f_wp_ok C f_cl flX12_ok fiX12_ok fjX12_ok (sn := none) (fun j h => by cases h) (cs := (fun _ => none)) (cz := (fun _ => none)) (fun j S h => by cases h) (fun j S h => by cases h) tX12_putIn_ok (cut := (f_cnl [(3, (fun (ls' : fLs) (st' : List Value) (I' : fM) (L' : fN) => ∃ i : Int32, (∀ q ∈ ([(4, .int i), (3, .int w), (2, .int p), (1, .int m), (0, .ref 0)] : fLs), q ∈ ls') ∧ st' = [] ∧ L' = L ∧ (mR I' ∧ f_fr [54] I I' ∧ (p.toInt ≤ i.toInt) ∧ (i.toInt ≤ 9) ∧ (i.toInt - p.toInt) < 10)))])) (f_cnl_of (P := fun (tQ : Nat) (P : fLs → List Value → fM → fN → Prop) => ∀ ls' st' I' L', P ls' st' I' L' → f_W pP l eP (f_rm 0) sP mP aP bP hP9 cP mY 71 a cy dC dI 5 (f_K 0 (qX12_putIn [.ref 0, .int m, .int p, .int w] I L)) tQ ls' st' I' L') (List.forall_mem_cons.mpr ⟨(fun ls' st' I' L' h => by obtain ⟨i, hs, e1, e3, h9⟩ := h; rw [e1, e3]; exact f_W_sub hs (lp3 10 i I' h9)), fun _ h => absurd h List.not_mem_nil⟩)) 5 0 tX12_putIn tX12_putIn_ok _ _ _ _ ?_
    exact ⟨m, (by intro q9 h9; simp only [List.mem_cons, List.not_mem_nil, or_false] at h9; rcases h9 with h9 | h9 | h9 | h9 | h9 <;> subst h9 <;> repeat (first | exact List.mem_cons_self | apply List.mem_cons_of_mem)), rfl, rfl, hR, hF0, (show p.toInt ≤ m.toInt from by first | assumption | omega), (show m.toInt ≤ 9 from by first | assumption | omega), (show (m.toInt - p.toInt) < 10 from by omega)⟩
def tX12_takeOut : List (Instr × Nat) := [(.iload_n 2, 1), (.istore_n 3, 1), (.iload_n 3, 1), (.iload_n 1, 1), (.if_icmp .ge 23, 3), (.aload_n 0, 1), (.getfield 176, 3), (.iload_n 3, 1), (.aload_n 0, 1), (.getfield 176, 3), (.iload_n 3, 1), (.iconst 1, 1), (.iadd, 1), (.iaload, 1), (.iastore, 1), (.iinc 3 1, 3), (.goto (-22), 3), (.return_, 1)]
theorem tX12_takeOut_ok : f_chk cX12_takeOut 0 tX12_takeOut = true := by decide +kernel
def pX12_takeOut (av : List Value) (I : fM) (L : fN) : Prop := match av with
  | [.ref 0, .int m, .int p] => mR I ∧ 0 ≤ p.toInt ∧ p.toInt ≤ m.toInt ∧ m.toInt ≤ 9
  | _ => False
def qX12_takeOut (av : List Value) (I : fM) (L : fN) (r : Value) (I' : fM) (L' : fN) : Prop := match av, r with
  | [.ref 0, .int m, .int p], .null => mR I' ∧ f_fr [54] I I' ∧ L' = L
  | _, _ => False
set_option maxHeartbeats 4000000 in
set_option maxRecDepth 100000 in
theorem mX12_takeOut {l : Launch} {a : Nat → Nat} {cy dC : Nat → ClassId} {dI : Nat → Nat → Nat} (hinj : ∀ i j, i < 71 → j < 71 → a i = a j → i = j) : f_Met (fun _ => True) l mY 71 a cy dC dI yX12_takeOut cX12_takeOut 4 0 0 pX12_takeOut qX12_takeOut := by
  refine f_met_of (f_Ec_T 71 a) hinj mY_hi (by decide) (fun av I L h => by unfold pX12_takeOut at h; split at h <;> first | exact Nat.le_of_ble_eq_true rfl | exact h.elim) ?_
  intro pP eP sP mP aP bP hP9 cP C av I L hp
  unfold pX12_takeOut at hp
  split at hp
  case h_2 => exact hp.elim
  case h_1 m p =>
    obtain ⟨hR, p1, p2, p3⟩ := hp
    have hF0 : f_fr [54] I I := f_fr_rf
    have lp2 : ∀ (n2 : Nat), ∀ (i : Int32) (J2 : fM), mR J2 ∧ f_fr [54] I J2 ∧ (p.toInt ≤ i.toInt) ∧ (i.toInt ≤ m.toInt) ∧ (m.toInt - i.toInt) < n2 → f_W pP l eP (f_rm 0) sP mP aP bP hP9 cP mY 71 a cy dC dI 4 (f_K 0 (qX12_takeOut [.ref 0, .int m, .int p] I L)) 2 [(3, .int i), (2, .int p), (1, .int m), (0, .ref 0)] [] J2 L := by
      intro n2
      induction n2 with
      | zero =>
        intro i J2 h9
        obtain ⟨hR2c, hF2c, u2_1, u2_2, hm2⟩ := h9
        omega
      | succ n2 ih2 =>
        intro i J2 h9
        obtain ⟨hR2c, hF2c, u2_1, u2_2, hm2⟩ := h9
        refine f_wp_ok C f_cl flX12_ok fiX12_ok fjX12_ok (sn := none) (fun j h => by cases h) (cs := (fun _ => none)) (cz := (fun _ => none)) (fun j S h => by cases h) (fun j S h => by cases h) tX12_takeOut_ok (cut := (f_cnl [(2, (fun (ls' : fLs) (st' : List Value) (I' : fM) (L' : fN) => ∃ i : Int32, (∀ q ∈ ([(3, .int i), (2, .int p), (1, .int m), (0, .ref 0)] : fLs), q ∈ ls') ∧ st' = [] ∧ L' = L ∧ (mR I' ∧ f_fr [54] I I' ∧ (p.toInt ≤ i.toInt) ∧ (i.toInt ≤ m.toInt) ∧ (m.toInt - i.toInt) < n2)))])) (f_cnl_of (P := fun (tQ : Nat) (P : fLs → List Value → fM → fN → Prop) => ∀ ls' st' I' L', P ls' st' I' L' → f_W pP l eP (f_rm 0) sP mP aP bP hP9 cP mY 71 a cy dC dI 4 (f_K 0 (qX12_takeOut [.ref 0, .int m, .int p] I L)) tQ ls' st' I' L') (List.forall_mem_cons.mpr ⟨(fun ls' st' I' L' h => by obtain ⟨i, hs, e1, e3, h9⟩ := h; rw [e1, e3]; exact f_W_sub hs (ih2 i I' h9)), fun _ h => absurd h List.not_mem_nil⟩)) 18 2 (f_seek 2 0 tX12_takeOut) (f_seek_ok 2 0 tX12_takeOut tX12_takeOut_ok) _ _ _ _ ?_
        apply And.intro
        · intro h4
          have h4 : m.toInt ≤ i.toInt := h4
          exact ⟨hR2c, hF2c, rfl⟩
        · intro h4
          have h4 : i.toInt < m.toInt := h4
          intro z18 q18 _ hq18 hl18 hu18
          have hq18 : z18.toInt = i.toInt + 1 + 4294967296 * q18 := hq18
          try have hz18 : z18.toInt = i.toInt + 1 := by omega
          refine And.intro (show f_in z18 10 from ⟨show 0 ≤ z18.toInt from by omega, show z18.toInt < 10 from by omega⟩) ?_
          have r19_1 : 0 ≤ (J2 54 (z18.toInt.toNat)).toInt ∧ (J2 54 (z18.toInt.toNat)).toInt ≤ 11 := hR2c 54 (z18.toInt.toNat)
          refine And.intro (show f_in i 10 from ⟨show 0 ≤ i.toInt from by omega, show i.toInt < 10 from by omega⟩) ?_
          have hR20 := mR_a (k := 54) (j := i.toInt.toNat) (x := J2 54 (z18.toInt.toNat)) hR2c (show 0 ≤ (J2 54 (z18.toInt.toNat)).toInt ∧ (J2 54 (z18.toInt.toNat)).toInt ≤ 11 from ⟨by omega, by omega⟩)
          have hF20 := f_fr_up (k := 54) (r := upd (J2 54) (i.toInt.toNat) (J2 54 (z18.toInt.toNat))) hF2c rfl
          intro z21 q21 _ hq21 hl21 hu21
          have hq21 : z21.toInt = i.toInt + 1 + 4294967296 * q21 := hq21
          try have hz21 : z21.toInt = i.toInt + 1 := by omega
          exact ⟨z21, (by intro q9 h9; simp only [List.mem_cons, List.not_mem_nil, or_false] at h9; rcases h9 with h9 | h9 | h9 | h9 <;> subst h9 <;> repeat (first | exact List.mem_cons_self | apply List.mem_cons_of_mem)), rfl, rfl, hR20, hF20, (show p.toInt ≤ z21.toInt from by first | assumption | omega), (show z21.toInt ≤ m.toInt from by first | assumption | omega), (show (m.toInt - z21.toInt) < n2 from by omega)⟩
    refine f_wp_ok C f_cl flX12_ok fiX12_ok fjX12_ok (sn := none) (fun j h => by cases h) (cs := (fun _ => none)) (cz := (fun _ => none)) (fun j S h => by cases h) (fun j S h => by cases h) tX12_takeOut_ok (cut := (f_cnl [(2, (fun (ls' : fLs) (st' : List Value) (I' : fM) (L' : fN) => ∃ i : Int32, (∀ q ∈ ([(3, .int i), (2, .int p), (1, .int m), (0, .ref 0)] : fLs), q ∈ ls') ∧ st' = [] ∧ L' = L ∧ (mR I' ∧ f_fr [54] I I' ∧ (p.toInt ≤ i.toInt) ∧ (i.toInt ≤ m.toInt) ∧ (m.toInt - i.toInt) < 10)))])) (f_cnl_of (P := fun (tQ : Nat) (P : fLs → List Value → fM → fN → Prop) => ∀ ls' st' I' L', P ls' st' I' L' → f_W pP l eP (f_rm 0) sP mP aP bP hP9 cP mY 71 a cy dC dI 4 (f_K 0 (qX12_takeOut [.ref 0, .int m, .int p] I L)) tQ ls' st' I' L') (List.forall_mem_cons.mpr ⟨(fun ls' st' I' L' h => by obtain ⟨i, hs, e1, e3, h9⟩ := h; rw [e1, e3]; exact f_W_sub hs (lp2 10 i I' h9)), fun _ h => absurd h List.not_mem_nil⟩)) 5 0 tX12_takeOut tX12_takeOut_ok _ _ _ _ ?_
    exact ⟨p, (by intro q9 h9; simp only [List.mem_cons, List.not_mem_nil, or_false] at h9; rcases h9 with h9 | h9 | h9 | h9 <;> subst h9 <;> repeat (first | exact List.mem_cons_self | apply List.mem_cons_of_mem)), rfl, rfl, hR, hF0, (show p.toInt ≤ p.toInt from by first | assumption | omega), (show p.toInt ≤ m.toInt from by first | assumption | omega), (show (m.toInt - p.toInt) < 10 from by omega)⟩
def tX12_isReading : List (Instr × Nat) := [(.iload_n 1, 1), (.iconst 0, 1), (.aload_n 0, 1), (.getfield 463, 3), (.iconst 1, 1), (.isub, 1), (.invokestatic 366, 3), (.ireturn, 1)]
theorem tX12_isReading_ok : f_chk cX12_isReading 0 tX12_isReading = true := by decide +kernel
def pX12_isReading (av : List Value) (I : fM) (L : fN) : Prop := match av with
  | [.ref 0, .int r] => mR I
  | _ => False
def qX12_isReading (av : List Value) (I : fM) (L : fN) (r : Value) (I' : fM) (L' : fN) : Prop := match av, r with
  | [.ref 0, .int r], .int x => I' = I ∧ L' = L ∧ (x.toInt = 0 ∨ x.toInt = 1 ∧ 0 ≤ r.toInt ∧ r.toInt < (I 0 69).toInt)
  | _, _ => False
set_option maxHeartbeats 4000000 in
set_option maxRecDepth 100000 in
theorem mX12_isReading {l : Launch} {a : Nat → Nat} {cy dC : Nat → ClassId} {dI : Nat → Nat → Nat} (hinj : ∀ i j, i < 71 → j < 71 → a i = a j → i = j) : f_Met (fun _ => True) l mY 71 a cy dC dI yX12_isReading cX12_isReading 2 3 1 pX12_isReading qX12_isReading := by
  refine f_met_of (f_Ec_T 71 a) hinj mY_hi (by decide) (fun av I L h => by unfold pX12_isReading at h; split at h <;> first | exact Nat.le_of_ble_eq_true rfl | exact h.elim) ?_
  intro pP eP sP mP aP bP hP9 cP C av I L hp
  unfold pX12_isReading at hp
  split at hp
  case h_2 => exact hp.elim
  case h_1 r =>
    have hR := hp
    refine f_wp_ok C f_cl flX12_ok fiX12_ok fjX12_ok (sn := none) (fun j h => by cases h) (cs := (fun _ => none)) (cz := (f_cnl [(366, (3, 3, 11, pX12_isIn, qX12_isIn))])) (fun j S h => by cases h) (f_cnl_of (P := fun j S => f_cok pP l eP (f_rm 1) sP mP aP bP hP9 cP mY 71 a cy dC dI 2 _ _ (.invokestatic j) false S) (List.forall_mem_cons.mpr ⟨f_cokS C (mX12_isIn hinj) (List.forall_mem_cons.mpr ⟨(mlX12_ok _ (List.mem_of_getElem? (i := 27) rfl)), kc_X12_isIn⟩) (by decide +kernel) ⟨Nat.le_of_ble_eq_true rfl, Nat.le_of_ble_eq_true rfl⟩, fun _ h => absurd h List.not_mem_nil⟩)) tX12_isReading_ok (cut := (fun _ => none)) (fun t P h => by cases h) 11 0 tX12_isReading tX12_isReading_ok _ _ _ _ ?_
    have r3_1 : 0 ≤ (I 0 69).toInt ∧ (I 0 69).toInt ≤ 300 := hR 0 69
    intro z7 q7 _ hq7 hl7 hu7
    have hq7 : z7.toInt = (I 0 69).toInt - 1 + 4294967296 * q7 := hq7
    try have hz7 : z7.toInt = (I 0 69).toInt - 1 := by omega
    refine And.intro trivial ?_
    intro x8 I8 L8 hq8
    have hq8 : I8 = I ∧ L8 = L ∧ ((x8.toInt = 1 ∧ (0 : Int) ≤ r.toInt ∧ r.toInt ≤ z7.toInt ∨ x8.toInt = 0 ∧ (r.toInt < (0 : Int) ∨ z7.toInt < r.toInt))) := hq8
    obtain ⟨eI8, eL8, c8_2⟩ := hq8
    replace eI8 := eI8.symm
    subst eI8
    replace eL8 := eL8.symm
    subst eL8
    exact ⟨(f_b01 (show x8.toInt = 0 ∨ x8.toInt = 1 from by omega)), rfl, rfl, (show (x8.toInt = 0 ∨ x8.toInt = 1 ∧ 0 ≤ r.toInt ∧ r.toInt < (I 0 69).toInt) from by first | assumption | omega | rfl)⟩
def tX12_areAlike : List (Instr × Nat) := [(.aload_n 0, 1), (.getfield 158, 3), (.iload_n 1, 1), (.iaload, 1), (.aload_n 0, 1), (.getfield 158, 3), (.iload_n 2, 1), (.iaload, 1), (.if_icmp .eq 5, 3), (.iconst 0, 1), (.ireturn, 1), (.iconst 0, 1), (.istore_n 3, 1), (.iload_n 3, 1), (.aload_n 0, 1), (.getfield 158, 3), (.iload_n 1, 1), (.iaload, 1), (.if_icmp .ge 36, 3), (.aload_n 0, 1), (.getfield 161, 3), (.bipush 30, 2), (.iload_n 1, 1), (.imul, 1), (.iload_n 3, 1), (.iadd, 1), (.iaload, 1), (.aload_n 0, 1), (.getfield 161, 3), (.bipush 30, 2), (.iload_n 2, 1), (.imul, 1), (.iload_n 3, 1), (.iadd, 1), (.iaload, 1), (.if_icmp .eq 5, 3), (.iconst 0, 1), (.ireturn, 1), (.iinc 3 1, 3), (.goto (-40), 3), (.iconst 1, 1), (.ireturn, 1)]
theorem tX12_areAlike_ok : f_chk cX12_areAlike 0 tX12_areAlike = true := by decide +kernel
def pX12_areAlike (av : List Value) (I : fM) (L : fN) : Prop := match av with
  | [.ref 0, .int u, .int v] => mR I ∧ 0 ≤ u.toInt ∧ u.toInt < 300 ∧ 0 ≤ v.toInt ∧ v.toInt < 300
  | _ => False
def qX12_areAlike (av : List Value) (I : fM) (L : fN) (r : Value) (I' : fM) (L' : fN) : Prop := match av, r with
  | [.ref 0, .int u, .int v], .int x => I' = I ∧ L' = L ∧ (x.toInt = 0 ∨ x.toInt = 1) ∧ (u = v → x.toInt = 1)
  | _, _ => False
set_option maxHeartbeats 4000000 in
set_option maxRecDepth 100000 in
theorem mX12_areAlike {l : Launch} {a : Nat → Nat} {cy dC : Nat → ClassId} {dI : Nat → Nat → Nat} (hinj : ∀ i j, i < 71 → j < 71 → a i = a j → i = j) : f_Met (fun _ => True) l mY 71 a cy dC dI yX12_areAlike cX12_areAlike 4 3 0 pX12_areAlike qX12_areAlike := by
  refine f_met_of (f_Ec_T 71 a) hinj mY_hi (by decide) (fun av I L h => by unfold pX12_areAlike at h; split at h <;> first | exact Nat.le_of_ble_eq_true rfl | exact h.elim) ?_
  intro pP eP sP mP aP bP hP9 cP C av I L hp
  unfold pX12_areAlike at hp
  split at hp
  case h_2 => exact hp.elim
  case h_1 u v =>
    obtain ⟨hR, p1, p2, p3, p4⟩ := hp
    have hm : 0 ≤ (I 48 u.toInt.toNat).toInt ∧ (I 48 u.toInt.toNat).toInt ≤ 30 := hR 48 _
    have lp19 : ∀ (n19 : Nat), ∀ (i : Int32), (0 ≤ i.toInt) ∧ (i.toInt ≤ (I 48 u.toInt.toNat).toInt) ∧ ((I 48 u.toInt.toNat).toInt - i.toInt) < n19 → f_W pP l eP (f_rm 0) sP mP aP bP hP9 cP mY 71 a cy dC dI 4 (f_K 3 (qX12_areAlike [.ref 0, .int u, .int v] I L)) 19 [(3, .int i), (2, .int v), (1, .int u), (0, .ref 0)] [] I L := by
      intro n19
      induction n19 with
      | zero =>
        intro i h9
        obtain ⟨u19_1, u19_2, hm19⟩ := h9
        omega
      | succ n19 ih19 =>
        intro i h9
        obtain ⟨u19_1, u19_2, hm19⟩ := h9
        refine f_wp_ok C f_cl flX12_ok fiX12_ok fjX12_ok (sn := none) (fun j h => by cases h) (cs := (fun _ => none)) (cz := (fun _ => none)) (fun j S h => by cases h) (fun j S h => by cases h) tX12_areAlike_ok (cut := (f_cnl [(19, (fun (ls' : fLs) (st' : List Value) (I' : fM) (L' : fN) => ∃ i : Int32, (∀ q ∈ ([(3, .int i), (2, .int v), (1, .int u), (0, .ref 0)] : fLs), q ∈ ls') ∧ st' = [] ∧ I' = I ∧ L' = L ∧ ((0 ≤ i.toInt) ∧ (i.toInt ≤ (I 48 u.toInt.toNat).toInt) ∧ ((I 48 u.toInt.toNat).toInt - i.toInt) < n19)))])) (f_cnl_of (P := fun (tQ : Nat) (P : fLs → List Value → fM → fN → Prop) => ∀ ls' st' I' L', P ls' st' I' L' → f_W pP l eP (f_rm 0) sP mP aP bP hP9 cP mY 71 a cy dC dI 4 (f_K 3 (qX12_areAlike [.ref 0, .int u, .int v] I L)) tQ ls' st' I' L') (List.forall_mem_cons.mpr ⟨(fun ls' st' I' L' h => by obtain ⟨i, hs, e1, e2, e3, h9⟩ := h; rw [e1, e2, e3]; exact f_W_sub hs (ih19 i h9)), fun _ h => absurd h List.not_mem_nil⟩)) 28 19 (f_seek 19 0 tX12_areAlike) (f_seek_ok 19 0 tX12_areAlike tX12_areAlike_ok) _ _ _ _ ?_
        refine And.intro (show f_in u 300 from ⟨show 0 ≤ u.toInt from by omega, show u.toInt < 300 from by omega⟩) ?_
        have r25_1 : 0 ≤ (I 48 (u.toInt.toNat)).toInt ∧ (I 48 (u.toInt.toNat)).toInt ≤ 30 := hR 48 (u.toInt.toNat)
        apply And.intro
        · intro h26
          have h26 : (I 48 (u.toInt.toNat)).toInt ≤ i.toInt := h26
          exact ⟨Or.inr rfl, rfl, rfl, (show ((1 : Int) = 0 ∨ (1 : Int) = 1) from by first | assumption | omega | rfl), (show (u = v → (1 : Int) = 1) from by first | assumption | omega | rfl)⟩
        · intro h26
          have h26 : i.toInt < (I 48 (u.toInt.toNat)).toInt := h26
          intro z36 q36 _ hq36 hl36 hu36
          have hq36 : z36.toInt = 30 * u.toInt + 4294967296 * q36 := hq36
          try have hz36 : z36.toInt = 30 * u.toInt := by omega
          intro z38 q38 _ hq38 hl38 hu38
          have hq38 : z38.toInt = z36.toInt + i.toInt + 4294967296 * q38 := hq38
          try have hz38 : z38.toInt = z36.toInt + i.toInt := by omega
          refine And.intro (show f_in z38 9000 from ⟨show 0 ≤ z38.toInt from by omega, show z38.toInt < 9000 from by omega⟩) ?_
          intro z47 q47 _ hq47 hl47 hu47
          have hq47 : z47.toInt = 30 * v.toInt + 4294967296 * q47 := hq47
          try have hz47 : z47.toInt = 30 * v.toInt := by omega
          intro z49 q49 _ hq49 hl49 hu49
          have hq49 : z49.toInt = z47.toInt + i.toInt + 4294967296 * q49 := hq49
          try have hz49 : z49.toInt = z47.toInt + i.toInt := by omega
          refine And.intro (show f_in z49 9000 from ⟨show 0 ≤ z49.toInt from by omega, show z49.toInt < 9000 from by omega⟩) ?_
          apply And.intro
          · intro h51
            have h51 : (I 49 (z38.toInt.toNat)).toInt = (I 49 (z49.toInt.toNat)).toInt := h51
            intro z56 q56 _ hq56 hl56 hu56
            have hq56 : z56.toInt = i.toInt + 1 + 4294967296 * q56 := hq56
            try have hz56 : z56.toInt = i.toInt + 1 := by omega
            exact ⟨z56, (by intro q9 h9; simp only [List.mem_cons, List.not_mem_nil, or_false] at h9; rcases h9 with h9 | h9 | h9 | h9 <;> subst h9 <;> repeat (first | exact List.mem_cons_self | apply List.mem_cons_of_mem)), rfl, rfl, rfl, (show 0 ≤ z56.toInt from by first | assumption | omega), (show z56.toInt ≤ (I 48 u.toInt.toNat).toInt from by first | assumption | omega), (show ((I 48 u.toInt.toNat).toInt - z56.toInt) < n19 from by omega)⟩
          · intro h51
            have h51 : ¬ (I 49 (z38.toInt.toNat)).toInt = (I 49 (z49.toInt.toNat)).toInt := h51
            exact ⟨Or.inl rfl, rfl, rfl, (show ((0 : Int) = 0 ∨ (0 : Int) = 1) from by first | assumption | omega | rfl), (fun h => by subst h; rw [show z49 = z38 from Int32.toInt_inj.mp (by omega)] at h51; exact absurd rfl h51)⟩
    refine f_wp_ok C f_cl flX12_ok fiX12_ok fjX12_ok (sn := none) (fun j h => by cases h) (cs := (fun _ => none)) (cz := (fun _ => none)) (fun j S h => by cases h) (fun j S h => by cases h) tX12_areAlike_ok (cut := (f_cnl [(19, (fun (ls' : fLs) (st' : List Value) (I' : fM) (L' : fN) => ∃ i : Int32, (∀ q ∈ ([(3, .int i), (2, .int v), (1, .int u), (0, .ref 0)] : fLs), q ∈ ls') ∧ st' = [] ∧ I' = I ∧ L' = L ∧ ((0 ≤ i.toInt) ∧ (i.toInt ≤ (I 48 u.toInt.toNat).toInt) ∧ ((I 48 u.toInt.toNat).toInt - i.toInt) < 31)))])) (f_cnl_of (P := fun (tQ : Nat) (P : fLs → List Value → fM → fN → Prop) => ∀ ls' st' I' L', P ls' st' I' L' → f_W pP l eP (f_rm 0) sP mP aP bP hP9 cP mY 71 a cy dC dI 4 (f_K 3 (qX12_areAlike [.ref 0, .int u, .int v] I L)) tQ ls' st' I' L') (List.forall_mem_cons.mpr ⟨(fun ls' st' I' L' h => by obtain ⟨i, hs, e1, e2, e3, h9⟩ := h; rw [e1, e2, e3]; exact f_W_sub hs (lp19 31 i h9)), fun _ h => absurd h List.not_mem_nil⟩)) 14 0 tX12_areAlike tX12_areAlike_ok _ _ _ _ ?_
    refine And.intro (show f_in u 300 from ⟨show 0 ≤ u.toInt from by omega, show u.toInt < 300 from by omega⟩) ?_
    have r5_1 : 0 ≤ (I 48 (u.toInt.toNat)).toInt ∧ (I 48 (u.toInt.toNat)).toInt ≤ 30 := hR 48 (u.toInt.toNat)
    refine And.intro (show f_in v 300 from ⟨show 0 ≤ v.toInt from by omega, show v.toInt < 300 from by omega⟩) ?_
    have r11_2 : 0 ≤ (I 48 (v.toInt.toNat)).toInt ∧ (I 48 (v.toInt.toNat)).toInt ≤ 30 := hR 48 (v.toInt.toNat)
    apply And.intro
    · intro h12
      have h12 : (I 48 (u.toInt.toNat)).toInt = (I 48 (v.toInt.toNat)).toInt := h12
      exact ⟨Int32.ofInt 0, (by intro q9 h9; simp only [List.mem_cons, List.not_mem_nil, or_false] at h9; rcases h9 with h9 | h9 | h9 | h9 <;> subst h9 <;> repeat (first | exact List.mem_cons_self | apply List.mem_cons_of_mem)), rfl, rfl, rfl, (show 0 ≤ (0 : Int) from by first | assumption | omega), (show (0 : Int) ≤ (I 48 u.toInt.toNat).toInt from by first | assumption | omega), (show ((I 48 u.toInt.toNat).toInt - (0 : Int)) < 31 from by omega)⟩
    · intro h12
      have h12 : ¬ (I 48 (u.toInt.toNat)).toInt = (I 48 (v.toInt.toNat)).toInt := h12
      exact ⟨Or.inl rfl, rfl, rfl, (show ((0 : Int) = 0 ∨ (0 : Int) = 1) from by first | assumption | omega | rfl), (fun h => by subst h; omega)⟩
def tX12_isEven : List (Instr × Nat) := [(.iconst 0, 1), (.istore_n 1, 1), (.iload_n 1, 1), (.iconst 5, 1), (.if_icmp .ge 27, 3), (.aload_n 0, 1), (.getfield 128, 3), (.iconst 5, 1), (.aload_n 0, 1), (.getfield 407, 3), (.imul, 1), (.iload_n 1, 1), (.iadd, 1), (.iaload, 1), (.ifCond .eq 5, 3), (.iconst 0, 1), (.ireturn, 1), (.iinc 1 1, 3), (.goto (-26), 3), (.iconst 1, 1), (.ireturn, 1)]
theorem tX12_isEven_ok : f_chk cX12_isEven 0 tX12_isEven = true := by decide +kernel
def pX12_isEven (av : List Value) (I : fM) (L : fN) : Prop := match av with
  | [.ref 0] => mR I
  | _ => False
def qX12_isEven (av : List Value) (I : fM) (L : fN) (r : Value) (I' : fM) (L' : fN) : Prop := match av, r with
  | [.ref 0], .int x => I' = I ∧ L' = L ∧ (x.toInt = 0 ∨ x.toInt = 1)
  | _, _ => False
set_option maxHeartbeats 4000000 in
set_option maxRecDepth 100000 in
theorem mX12_isEven {l : Launch} {a : Nat → Nat} {cy dC : Nat → ClassId} {dI : Nat → Nat → Nat} (hinj : ∀ i j, i < 71 → j < 71 → a i = a j → i = j) : f_Met (fun _ => True) l mY 71 a cy dC dI yX12_isEven cX12_isEven 2 3 0 pX12_isEven qX12_isEven := by
  refine f_met_of (f_Ec_T 71 a) hinj mY_hi (by decide) (fun av I L h => by unfold pX12_isEven at h; split at h <;> first | exact Nat.le_of_ble_eq_true rfl | exact h.elim) ?_
  intro pP eP sP mP aP bP hP9 cP C av I L hp
  unfold pX12_isEven at hp
  split at hp
  case h_2 => exact hp.elim
  case h_1 =>
    have hR := hp
    have hn : 0 ≤ (I 0 53).toInt ∧ (I 0 53).toInt ≤ 10 := hR 0 53
    have lp2 : ∀ (n2 : Nat), ∀ (k : Int32), (0 ≤ k.toInt) ∧ (k.toInt ≤ 5) ∧ (5 - k.toInt) < n2 → f_W pP l eP (f_rm 0) sP mP aP bP hP9 cP mY 71 a cy dC dI 2 (f_K 3 (qX12_isEven [.ref 0] I L)) 2 [(1, .int k), (0, .ref 0)] [] I L := by
      intro n2
      induction n2 with
      | zero =>
        intro k h9
        obtain ⟨u2_1, u2_2, hm2⟩ := h9
        omega
      | succ n2 ih2 =>
        intro k h9
        obtain ⟨u2_1, u2_2, hm2⟩ := h9
        refine f_wp_ok C f_cl flX12_ok fiX12_ok fjX12_ok (sn := none) (fun j h => by cases h) (cs := (fun _ => none)) (cz := (fun _ => none)) (fun j S h => by cases h) (fun j S h => by cases h) tX12_isEven_ok (cut := (f_cnl [(2, (fun (ls' : fLs) (st' : List Value) (I' : fM) (L' : fN) => ∃ k : Int32, (∀ q ∈ ([(1, .int k), (0, .ref 0)] : fLs), q ∈ ls') ∧ st' = [] ∧ I' = I ∧ L' = L ∧ ((0 ≤ k.toInt) ∧ (k.toInt ≤ 5) ∧ (5 - k.toInt) < n2)))])) (f_cnl_of (P := fun (tQ : Nat) (P : fLs → List Value → fM → fN → Prop) => ∀ ls' st' I' L', P ls' st' I' L' → f_W pP l eP (f_rm 0) sP mP aP bP hP9 cP mY 71 a cy dC dI 2 (f_K 3 (qX12_isEven [.ref 0] I L)) tQ ls' st' I' L') (List.forall_mem_cons.mpr ⟨(fun ls' st' I' L' h => by obtain ⟨k, hs, e1, e2, e3, h9⟩ := h; rw [e1, e2, e3]; exact f_W_sub hs (ih2 k h9)), fun _ h => absurd h List.not_mem_nil⟩)) 18 2 (f_seek 2 0 tX12_isEven) (f_seek_ok 2 0 tX12_isEven tX12_isEven_ok) _ _ _ _ ?_
        apply And.intro
        · intro h4
          have h4 : 5 ≤ k.toInt := h4
          exact ⟨Or.inr rfl, rfl, rfl, (show ((1 : Int) = 0 ∨ (1 : Int) = 1) from by first | assumption | omega | rfl)⟩
        · intro h4
          have h4 : k.toInt < 5 := h4
          have r13_1 : 0 ≤ (I 0 53).toInt ∧ (I 0 53).toInt ≤ 10 := hR 0 53
          intro z16 q16 _ hq16 hl16 hu16
          have hq16 : z16.toInt = 5 * (I 0 53).toInt + 4294967296 * q16 := hq16
          try have hz16 : z16.toInt = 5 * (I 0 53).toInt := by omega
          intro z18 q18 _ hq18 hl18 hu18
          have hq18 : z18.toInt = z16.toInt + k.toInt + 4294967296 * q18 := hq18
          try have hz18 : z18.toInt = z16.toInt + k.toInt := by omega
          refine And.intro (show f_in z18 55 from ⟨show 0 ≤ z18.toInt from by omega, show z18.toInt < 55 from by omega⟩) ?_
          apply And.intro
          · intro h20
            have h20 : (I 38 (z18.toInt.toNat)).toInt = 0 := h20
            intro z25 q25 _ hq25 hl25 hu25
            have hq25 : z25.toInt = k.toInt + 1 + 4294967296 * q25 := hq25
            try have hz25 : z25.toInt = k.toInt + 1 := by omega
            exact ⟨z25, (by intro q9 h9; simp only [List.mem_cons, List.not_mem_nil, or_false] at h9; rcases h9 with h9 | h9 <;> subst h9 <;> repeat (first | exact List.mem_cons_self | apply List.mem_cons_of_mem)), rfl, rfl, rfl, (show 0 ≤ z25.toInt from by first | assumption | omega), (show z25.toInt ≤ 5 from by first | assumption | omega), (show (5 - z25.toInt) < n2 from by omega)⟩
          · intro h20
            have h20 : ¬ (I 38 (z18.toInt.toNat)).toInt = 0 := h20
            exact ⟨Or.inl rfl, rfl, rfl, (show ((0 : Int) = 0 ∨ (0 : Int) = 1) from by first | assumption | omega | rfl)⟩
    refine f_wp_ok C f_cl flX12_ok fiX12_ok fjX12_ok (sn := none) (fun j h => by cases h) (cs := (fun _ => none)) (cz := (fun _ => none)) (fun j S h => by cases h) (fun j S h => by cases h) tX12_isEven_ok (cut := (f_cnl [(2, (fun (ls' : fLs) (st' : List Value) (I' : fM) (L' : fN) => ∃ k : Int32, (∀ q ∈ ([(1, .int k), (0, .ref 0)] : fLs), q ∈ ls') ∧ st' = [] ∧ I' = I ∧ L' = L ∧ ((0 ≤ k.toInt) ∧ (k.toInt ≤ 5) ∧ (5 - k.toInt) < 6)))])) (f_cnl_of (P := fun (tQ : Nat) (P : fLs → List Value → fM → fN → Prop) => ∀ ls' st' I' L', P ls' st' I' L' → f_W pP l eP (f_rm 0) sP mP aP bP hP9 cP mY 71 a cy dC dI 2 (f_K 3 (qX12_isEven [.ref 0] I L)) tQ ls' st' I' L') (List.forall_mem_cons.mpr ⟨(fun ls' st' I' L' h => by obtain ⟨k, hs, e1, e2, e3, h9⟩ := h; rw [e1, e2, e3]; exact f_W_sub hs (lp2 6 k h9)), fun _ h => absurd h List.not_mem_nil⟩)) 5 0 tX12_isEven tX12_isEven_ok _ _ _ _ ?_
    exact ⟨Int32.ofInt 0, (by intro q9 h9; simp only [List.mem_cons, List.not_mem_nil, or_false] at h9; rcases h9 with h9 | h9 <;> subst h9 <;> repeat (first | exact List.mem_cons_self | apply List.mem_cons_of_mem)), rfl, rfl, rfl, (show 0 ≤ (0 : Int) from by first | assumption | omega), (show (0 : Int) ≤ 5 from by first | assumption | omega), (show (5 - (0 : Int)) < 6 from by omega)⟩
def tX12_beginTying : List (Instr × Nat) := [(.iconst 0, 1), (.istore_n 1, 1), (.iload_n 1, 1), (.aload_n 0, 1), (.getfield 385, 3), (.if_icmp .ge 16, 3), (.aload_n 0, 1), (.getfield 83, 3), (.iload_n 1, 1), (.iconst (-1), 1), (.iastore, 1), (.iinc 1 1, 3), (.goto (-18), 3), (.aload_n 0, 1), (.iconst 0, 1), (.putfield 426, 3), (.aload_n 0, 1), (.getfield 134, 3), (.iconst 0, 1), (.iconst 0, 1), (.iastore, 1), (.aload_n 0, 1), (.getfield 137, 3), (.iconst 0, 1), (.iconst 0, 1), (.iastore, 1), (.return_, 1)]
theorem tX12_beginTying_ok : f_chk cX12_beginTying 0 tX12_beginTying = true := by decide +kernel
def pX12_beginTying (av : List Value) (I : fM) (L : fN) : Prop := match av with
  | [.ref 0] => mR I
  | _ => False
def qX12_beginTying (av : List Value) (I : fM) (L : fN) (r : Value) (I' : fM) (L' : fN) : Prop := match av, r with
  | [.ref 0], .null => mR I' ∧ f_fo [59] I I' ∧ f_fr [0, 23, 40, 41] I I' ∧ L' = L ∧ (∀ e : Nat, (e : Int) < (I 0 45).toInt → (I' 23 e).toInt = -1) ∧ (I' 0 59).toInt = 0 ∧ (I' 40 0).toInt = 0 ∧ (I' 41 0).toInt = 0
  | _, _ => False
set_option maxHeartbeats 4000000 in
set_option maxRecDepth 100000 in
theorem mX12_beginTying {l : Launch} {a : Nat → Nat} {cy dC : Nat → ClassId} {dI : Nat → Nat → Nat} (hinj : ∀ i j, i < 71 → j < 71 → a i = a j → i = j) : f_Met (fun _ => True) l mY 71 a cy dC dI yX12_beginTying cX12_beginTying 2 0 0 pX12_beginTying qX12_beginTying := by
  refine f_met_of (f_Ec_T 71 a) hinj mY_hi (by decide) (fun av I L h => by unfold pX12_beginTying at h; split at h <;> first | exact Nat.le_of_ble_eq_true rfl | exact h.elim) ?_
  intro pP eP sP mP aP bP hP9 cP C av I L hp
  unfold pX12_beginTying at hp
  split at hp
  case h_2 => exact hp.elim
  case h_1 =>
    have hR := hp
    have hn : 0 ≤ (I 0 45).toInt ∧ (I 0 45).toInt ≤ 20 := hR 0 45
    have hF0 : f_fr [0, 23, 40, 41] I I := f_fr_rf
    have hO0 : f_fo [59] I I := f_fo_rf
    have lp2 : ∀ (n2 : Nat), ∀ (e : Int32) (J2 : fM), mR J2 ∧ f_fr [0, 23, 40, 41] I J2 ∧ f_fo [59] I J2 ∧ (0 ≤ e.toInt) ∧ (e.toInt ≤ (I 0 45).toInt) ∧ ((∀ j : Nat, (j : Int) < e.toInt → (J2 23 j).toInt = -1)) ∧ ((I 0 45).toInt - e.toInt) < n2 → f_W pP l eP (f_rm 0) sP mP aP bP hP9 cP mY 71 a cy dC dI 2 (f_K 0 (qX12_beginTying [.ref 0] I L)) 2 [(1, .int e), (0, .ref 0)] [] J2 L := by
      intro n2
      induction n2 with
      | zero =>
        intro e J2 h9
        obtain ⟨hR2c, hF2c, hO2c, u2_1, u2_2, u2_3, hm2⟩ := h9
        omega
      | succ n2 ih2 =>
        intro e J2 h9
        obtain ⟨hR2c, hF2c, hO2c, u2_1, u2_2, u2_3, hm2⟩ := h9
        refine f_wp_ok C f_cl flX12_ok fiX12_ok fjX12_ok (sn := none) (fun j h => by cases h) (cs := (fun _ => none)) (cz := (fun _ => none)) (fun j S h => by cases h) (fun j S h => by cases h) tX12_beginTying_ok (cut := (f_cnl [(2, (fun (ls' : fLs) (st' : List Value) (I' : fM) (L' : fN) => ∃ e : Int32, (∀ q ∈ ([(1, .int e), (0, .ref 0)] : fLs), q ∈ ls') ∧ st' = [] ∧ L' = L ∧ (mR I' ∧ f_fr [0, 23, 40, 41] I I' ∧ f_fo [59] I I' ∧ (0 ≤ e.toInt) ∧ (e.toInt ≤ (I 0 45).toInt) ∧ ((∀ j : Nat, (j : Int) < e.toInt → (I' 23 j).toInt = -1)) ∧ ((I 0 45).toInt - e.toInt) < n2)))])) (f_cnl_of (P := fun (tQ : Nat) (P : fLs → List Value → fM → fN → Prop) => ∀ ls' st' I' L', P ls' st' I' L' → f_W pP l eP (f_rm 0) sP mP aP bP hP9 cP mY 71 a cy dC dI 2 (f_K 0 (qX12_beginTying [.ref 0] I L)) tQ ls' st' I' L') (List.forall_mem_cons.mpr ⟨(fun ls' st' I' L' h => by obtain ⟨e, hs, e1, e3, h9⟩ := h; rw [e1, e3]; exact f_W_sub hs (ih2 e I' h9)), fun _ h => absurd h List.not_mem_nil⟩)) 21 2 (f_seek 2 0 tX12_beginTying) (f_seek_ok 2 0 tX12_beginTying tX12_beginTying_ok) _ _ _ _ ?_
        have r4_1 : 0 ≤ (J2 0 45).toInt ∧ (J2 0 45).toInt ≤ 20 := hR2c 0 45
        have e4_2 : (J2 0 45).toInt = (I 0 45).toInt := congrArg Int32.toInt (hO2c 45 rfl)
        apply And.intro
        · intro h7
          have h7 : (J2 0 45).toInt ≤ e.toInt := h7
          have hR25 := mR_f (k := 0) (j := 59) (x := Int32.ofInt 0) hR2c (show -1 ≤ 0 ∧ 0 ≤ 10 from ⟨by omega, by omega⟩)
          have hF25 := f_fr_up (k := 0) (r := va_up (J2 0) 59 (Int32.ofInt 0)) hF2c rfl
          have hO25 := f_fo_up (j := 59) (x := Int32.ofInt 0) hO2c rfl
          refine And.intro (show f_in (Int32.ofInt 0) 11 from ⟨show 0 ≤ 0 from by omega, show 0 < 11 from by omega⟩) ?_
          have hR34 := mR_a (k := 40) (j := 0) (x := Int32.ofInt 0) hR25 (show 0 ≤ 0 ∧ 0 ≤ 19 from ⟨by omega, by omega⟩)
          have hF34 := f_fr_up (k := 40) (r := upd (J2 40) 0 (Int32.ofInt 0)) hF25 rfl
          have hO34 := f_fo_ne (k := 40) (r := upd (J2 40) 0 (Int32.ofInt 0)) hO25 (by decide)
          refine And.intro (show f_in (Int32.ofInt 0) 11 from ⟨show 0 ≤ 0 from by omega, show 0 < 11 from by omega⟩) ?_
          have hR41 := mR_a (k := 41) (j := 0) (x := Int32.ofInt 0) hR34 (show 0 ≤ 0 ∧ 0 ≤ 19 from ⟨by omega, by omega⟩)
          have hF41 := f_fr_up (k := 41) (r := upd (J2 41) 0 (Int32.ofInt 0)) hF34 rfl
          have hO41 := f_fo_ne (k := 41) (r := upd (J2 41) 0 (Int32.ofInt 0)) hO34 (by decide)
          exact ⟨hR41, hO41, hF41, rfl, (fun j hj => u2_3 j (by omega)), (show (0 : Int) = 0 from by first | assumption | omega | rfl), (show (0 : Int) = 0 from by first | assumption | omega | rfl), (show (0 : Int) = 0 from by first | assumption | omega | rfl)⟩
        · intro h7
          have h7 : e.toInt < (J2 0 45).toInt := h7
          refine And.intro (show f_in e 20 from ⟨show 0 ≤ e.toInt from by omega, show e.toInt < 20 from by omega⟩) ?_
          have hR16 := mR_a (k := 23) (j := e.toInt.toNat) (x := Int32.ofInt (-1)) hR2c (show (-1 : Int) ≤ (Int32.ofInt (-1)).toInt ∧ (Int32.ofInt (-1)).toInt ≤ (19 : Int) from ⟨by decide, by decide⟩)
          have hF16 := f_fr_up (k := 23) (r := upd (J2 23) (e.toInt.toNat) (Int32.ofInt (-1))) hF2c rfl
          have hO16 := f_fo_ne (k := 23) (r := upd (J2 23) (e.toInt.toNat) (Int32.ofInt (-1))) hO2c (by decide)
          intro z17 q17 _ hq17 hl17 hu17
          have hq17 : z17.toInt = e.toInt + 1 + 4294967296 * q17 := hq17
          try have hz17 : z17.toInt = e.toInt + 1 := by omega
          have q17 : ∀ j : Nat, (j : Int) < z17.toInt → ((upd (J2 23) e.toInt.toNat (Int32.ofInt (-1))) j).toInt = -1 := fun j hj => by
            by_cases q : j = e.toInt.toNat
            · rw [q, pk_us]; rfl
            · rw [pk_un q]; exact u2_3 j (by omega)
          exact ⟨z17, (by intro q9 h9; simp only [List.mem_cons, List.not_mem_nil, or_false] at h9; rcases h9 with h9 | h9 <;> subst h9 <;> repeat (first | exact List.mem_cons_self | apply List.mem_cons_of_mem)), rfl, rfl, hR16, hF16, hO16, (show 0 ≤ z17.toInt from by first | assumption | omega), (show z17.toInt ≤ (I 0 45).toInt from by first | assumption | omega), (show (∀ j : Nat, (j : Int) < z17.toInt → ((upd (J2 23) (e.toInt.toNat) (Int32.ofInt (-1))) j).toInt = -1) from by first | assumption | omega | exact fun _ _ => rfl | exact fun _ _ => ⟨rfl, rfl⟩ | exact fun _ _ => ⟨rfl, rfl, rfl⟩ | (intro j9 hj9; omega)), (show ((I 0 45).toInt - z17.toInt) < n2 from by omega)⟩
    refine f_wp_ok C f_cl flX12_ok fiX12_ok fjX12_ok (sn := none) (fun j h => by cases h) (cs := (fun _ => none)) (cz := (fun _ => none)) (fun j S h => by cases h) (fun j S h => by cases h) tX12_beginTying_ok (cut := (f_cnl [(2, (fun (ls' : fLs) (st' : List Value) (I' : fM) (L' : fN) => ∃ e : Int32, (∀ q ∈ ([(1, .int e), (0, .ref 0)] : fLs), q ∈ ls') ∧ st' = [] ∧ L' = L ∧ (mR I' ∧ f_fr [0, 23, 40, 41] I I' ∧ f_fo [59] I I' ∧ (0 ≤ e.toInt) ∧ (e.toInt ≤ (I 0 45).toInt) ∧ ((∀ j : Nat, (j : Int) < e.toInt → (I' 23 j).toInt = -1)) ∧ ((I 0 45).toInt - e.toInt) < 21)))])) (f_cnl_of (P := fun (tQ : Nat) (P : fLs → List Value → fM → fN → Prop) => ∀ ls' st' I' L', P ls' st' I' L' → f_W pP l eP (f_rm 0) sP mP aP bP hP9 cP mY 71 a cy dC dI 2 (f_K 0 (qX12_beginTying [.ref 0] I L)) tQ ls' st' I' L') (List.forall_mem_cons.mpr ⟨(fun ls' st' I' L' h => by obtain ⟨e, hs, e1, e3, h9⟩ := h; rw [e1, e3]; exact f_W_sub hs (lp2 21 e I' h9)), fun _ h => absurd h List.not_mem_nil⟩)) 5 0 tX12_beginTying tX12_beginTying_ok _ _ _ _ ?_
    have r2_1 : 0 ≤ (I 0 45).toInt ∧ (I 0 45).toInt ≤ 20 := hR 0 45
    exact ⟨Int32.ofInt 0, (by intro q9 h9; simp only [List.mem_cons, List.not_mem_nil, or_false] at h9; rcases h9 with h9 | h9 <;> subst h9 <;> repeat (first | exact List.mem_cons_self | apply List.mem_cons_of_mem)), rfl, rfl, hR, hF0, hO0, (show 0 ≤ (0 : Int) from by first | assumption | omega), (show (0 : Int) ≤ (I 0 45).toInt from by first | assumption | omega), (show (∀ j : Nat, (j : Int) < (0 : Int) → (I 23 j).toInt = -1) from by first | assumption | omega | exact fun _ _ => rfl | exact fun _ _ => ⟨rfl, rfl⟩ | exact fun _ _ => ⟨rfl, rfl, rfl⟩ | (intro j9 hj9; omega)), (show ((I 0 45).toInt - (0 : Int)) < 21 from by omega)⟩
def tX12_partner : List (Instr × Nat) := [(.aload_n 0, 1), (.getfield 385, 3), (.istore_n 3, 1), (.iconst 0, 1), (.istore 4, 2), (.iload 4, 2), (.iload_n 1, 1), (.if_icmp .ge 39, 3), (.aload_n 0, 1), (.getfield 83, 3), (.iload 4, 2), (.iaload, 1), (.iload_n 1, 1), (.if_icmp .le 22, 3), (.aload_n 0, 1), (.getfield 83, 3), (.iload 4, 2), (.iaload, 1), (.iload_n 3, 1), (.if_icmp .ge 11, 3), (.aload_n 0, 1), (.getfield 83, 3), (.iload 4, 2), (.iaload, 1), (.istore_n 3, 1), (.iinc 4 1, 3), (.goto (-39), 3), (.iload_n 2, 1), (.iconst 1, 1), (.iadd, 1), (.istore 4, 2), (.iload 4, 2), (.iload_n 3, 1), (.if_icmp .ge 64, 3), (.iload 4, 2), (.iload_n 1, 1), (.isub, 1), (.iconst 2, 1), (.irem, 1), (.iconst 1, 1), (.if_icmp .ne 48, 3), (.aload_n 0, 1), (.getfield 83, 3), (.iload 4, 2), (.iaload, 1), (.ifCond .ge 38, 3), (.aload_n 0, 1), (.getfield 77, 3), (.iload 4, 2), (.iaload, 1), (.aload_n 0, 1), (.getfield 77, 3), (.iload_n 1, 1), (.iaload, 1), (.if_icmp .ne 22, 3), (.aload_n 0, 1), (.getfield 113, 3), (.iload 4, 2), (.baload, 1), (.aload_n 0, 1), (.getfield 113, 3), (.iload_n 1, 1), (.baload, 1), (.if_icmp .eq 6, 3), (.iload 4, 2), (.ireturn, 1), (.iinc 4 1, 3), (.goto (-64), 3), (.iconst (-1), 1), (.ireturn, 1)]
theorem tX12_partner_ok : f_chk cX12_partner 0 tX12_partner = true := by decide +kernel
def pX12_partner (av : List Value) (I : fM) (L : fN) : Prop := match av with
  | [.ref 0, .int i, .int f] => mR I ∧ 0 ≤ i.toInt ∧ i.toInt ≤ 19 ∧ 0 ≤ f.toInt ∧ f.toInt ≤ 19
  | _ => False
def qX12_partner (av : List Value) (I : fM) (L : fN) (r : Value) (I' : fM) (L' : fN) : Prop := match av, r with
  | [.ref 0, .int i, .int f], .int x => I' = I ∧ L' = L ∧ (x.toInt = -1 ∨ f.toInt < x.toInt ∧ x.toInt < (I 0 45).toInt ∧ (I 23 x.toInt.toNat).toInt = -1)
  | _, _ => False
set_option maxHeartbeats 4000000 in
set_option maxRecDepth 100000 in
theorem mX12_partner {l : Launch} {a : Nat → Nat} {cy dC : Nat → ClassId} {dI : Nat → Nat → Nat} (hinj : ∀ i j, i < 71 → j < 71 → a i = a j → i = j) : f_Met (fun _ => True) l mY 71 a cy dC dI yX12_partner cX12_partner 5 1 0 pX12_partner qX12_partner := by
  refine f_met_of (f_Ec_T 71 a) hinj mY_hi (by decide) (fun av I L h => by unfold pX12_partner at h; split at h <;> first | exact Nat.le_of_ble_eq_true rfl | exact h.elim) ?_
  intro pP eP sP mP aP bP hP9 cP C av I L hp
  unfold pX12_partner at hp
  split at hp
  case h_2 => exact hp.elim
  case h_1 i f =>
    obtain ⟨hR, p1, p2, p3, p4⟩ := hp
    have hn : 0 ≤ (I 0 45).toInt ∧ (I 0 45).toInt ≤ 20 := hR 0 45
    have lp55 : ∀ (n55 : Nat), ∀ (b : Int32) (j : Int32), (b.toInt ≤ (I 0 45).toInt) ∧ (f.toInt < j.toInt) ∧ (j.toInt ≤ 20) ∧ (20 - j.toInt) < n55 → f_W pP l eP (f_rm 0) sP mP aP bP hP9 cP mY 71 a cy dC dI 5 (f_K 1 (qX12_partner [.ref 0, .int i, .int f] I L)) 55 [(4, .int j), (3, .int b), (2, .int f), (1, .int i), (0, .ref 0)] [] I L := by
      intro n55
      induction n55 with
      | zero =>
        intro b j h9
        obtain ⟨u55_1, u55_2, u55_3, hm55⟩ := h9
        omega
      | succ n55 ih55 =>
        intro b j h9
        obtain ⟨u55_1, u55_2, u55_3, hm55⟩ := h9
        refine f_wp_ok C f_cl flX12_ok fiX12_ok fjX12_ok (sn := none) (fun j h => by cases h) (cs := (fun _ => none)) (cz := (fun _ => none)) (fun j S h => by cases h) (fun j S h => by cases h) tX12_partner_ok (cut := (f_cnl [(55, (fun (ls' : fLs) (st' : List Value) (I' : fM) (L' : fN) => ∃ b : Int32, ∃ j : Int32, (∀ q ∈ ([(4, .int j), (3, .int b), (2, .int f), (1, .int i), (0, .ref 0)] : fLs), q ∈ ls') ∧ st' = [] ∧ I' = I ∧ L' = L ∧ ((b.toInt ≤ (I 0 45).toInt) ∧ (f.toInt < j.toInt) ∧ (j.toInt ≤ 20) ∧ (20 - j.toInt) < n55)))])) (f_cnl_of (P := fun (tQ : Nat) (P : fLs → List Value → fM → fN → Prop) => ∀ ls' st' I' L', P ls' st' I' L' → f_W pP l eP (f_rm 0) sP mP aP bP hP9 cP mY 71 a cy dC dI 5 (f_K 1 (qX12_partner [.ref 0, .int i, .int f] I L)) tQ ls' st' I' L') (List.forall_mem_cons.mpr ⟨(fun ls' st' I' L' h => by obtain ⟨b, j, hs, e1, e2, e3, h9⟩ := h; rw [e1, e2, e3]; exact f_W_sub hs (ih55 b j h9)), fun _ h => absurd h List.not_mem_nil⟩)) 38 55 (f_seek 55 0 tX12_partner) (f_seek_ok 55 0 tX12_partner tX12_partner_ok) _ _ _ _ ?_
        apply And.intro
        · intro h58
          have h58 : b.toInt ≤ j.toInt := h58
          have r123_1 : 0 ≤ (I 0 45).toInt ∧ (I 0 45).toInt ≤ 20 := hR 0 45
          have r123_2 : -1 ≤ (I 23 0).toInt ∧ (I 23 0).toInt ≤ 19 := hR 23 0
          exact ⟨rfl, rfl, (show ((-1 : Int) = -1 ∨ f.toInt < (-1 : Int) ∧ (-1 : Int) < (I 0 45).toInt ∧ (I 23 0).toInt = -1) from by first | assumption | omega | rfl)⟩
        · intro h58
          have h58 : j.toInt < b.toInt := h58
          intro z64 q64 _ hq64 hl64 hu64
          have hq64 : z64.toInt = j.toInt - i.toInt + 4294967296 * q64 := hq64
          try have hz64 : z64.toInt = j.toInt - i.toInt := by omega
          refine And.intro (by decide) ?_
          try have d66 : (z64 - z64 / (Int32.ofInt 2) * (Int32.ofInt 2)).toInt = z64.toInt % 2 := t_rem (show 0 ≤ z64.toInt from by omega) (show 0 < 2 from by omega)
          apply And.intro
          · intro h68
            have h68 : ¬ (z64 - z64 / (Int32.ofInt 2) * (Int32.ofInt 2)).toInt = 1 := h68
            intro z116 q116 _ hq116 hl116 hu116
            have hq116 : z116.toInt = j.toInt + 1 + 4294967296 * q116 := hq116
            try have hz116 : z116.toInt = j.toInt + 1 := by omega
            have r55_1 : 0 ≤ (I 0 45).toInt ∧ (I 0 45).toInt ≤ 20 := hR 0 45
            exact ⟨b, z116, (by intro q9 h9; simp only [List.mem_cons, List.not_mem_nil, or_false] at h9; rcases h9 with h9 | h9 | h9 | h9 | h9 <;> subst h9 <;> repeat (first | exact List.mem_cons_self | apply List.mem_cons_of_mem)), rfl, rfl, rfl, (show b.toInt ≤ (I 0 45).toInt from by first | assumption | omega), (show f.toInt < z116.toInt from by first | assumption | omega), (show z116.toInt ≤ 20 from by first | assumption | omega), (show (20 - z116.toInt) < n55 from by omega)⟩
          · intro h68
            have h68 : (z64 - z64 / (Int32.ofInt 2) * (Int32.ofInt 2)).toInt = 1 := h68
            refine And.intro (show f_in j 20 from ⟨show 0 ≤ j.toInt from by omega, show j.toInt < 20 from by omega⟩) ?_
            have r77_1 : -1 ≤ (I 23 (j.toInt.toNat)).toInt ∧ (I 23 (j.toInt.toNat)).toInt ≤ 19 := hR 23 (j.toInt.toNat)
            apply And.intro
            · intro h78
              have h78 : 0 ≤ (I 23 (j.toInt.toNat)).toInt := h78
              intro z116 q116 _ hq116 hl116 hu116
              have hq116 : z116.toInt = j.toInt + 1 + 4294967296 * q116 := hq116
              try have hz116 : z116.toInt = j.toInt + 1 := by omega
              have r55_2 : 0 ≤ (I 0 45).toInt ∧ (I 0 45).toInt ≤ 20 := hR 0 45
              exact ⟨b, z116, (by intro q9 h9; simp only [List.mem_cons, List.not_mem_nil, or_false] at h9; rcases h9 with h9 | h9 | h9 | h9 | h9 <;> subst h9 <;> repeat (first | exact List.mem_cons_self | apply List.mem_cons_of_mem)), rfl, rfl, rfl, (show b.toInt ≤ (I 0 45).toInt from by first | assumption | omega), (show f.toInt < z116.toInt from by first | assumption | omega), (show z116.toInt ≤ 20 from by first | assumption | omega), (show (20 - z116.toInt) < n55 from by omega)⟩
            · intro h78
              have h78 : (I 23 (j.toInt.toNat)).toInt < 0 := h78
              refine And.intro (show f_in j 20 from ⟨show 0 ≤ j.toInt from by omega, show j.toInt < 20 from by omega⟩) ?_
              refine And.intro (show f_in i 20 from ⟨show 0 ≤ i.toInt from by omega, show i.toInt < 20 from by omega⟩) ?_
              apply And.intro
              · intro h94
                have h94 : ¬ (I 21 (j.toInt.toNat)).toInt = (I 21 (i.toInt.toNat)).toInt := h94
                intro z116 q116 _ hq116 hl116 hu116
                have hq116 : z116.toInt = j.toInt + 1 + 4294967296 * q116 := hq116
                try have hz116 : z116.toInt = j.toInt + 1 := by omega
                have r55_4 : 0 ≤ (I 0 45).toInt ∧ (I 0 45).toInt ≤ 20 := hR 0 45
                exact ⟨b, z116, (by intro q9 h9; simp only [List.mem_cons, List.not_mem_nil, or_false] at h9; rcases h9 with h9 | h9 | h9 | h9 | h9 <;> subst h9 <;> repeat (first | exact List.mem_cons_self | apply List.mem_cons_of_mem)), rfl, rfl, rfl, (show b.toInt ≤ (I 0 45).toInt from by first | assumption | omega), (show f.toInt < z116.toInt from by first | assumption | omega), (show z116.toInt ≤ 20 from by first | assumption | omega), (show (20 - z116.toInt) < n55 from by omega)⟩
              · intro h94
                have h94 : (I 21 (j.toInt.toNat)).toInt = (I 21 (i.toInt.toNat)).toInt := h94
                refine And.intro (show f_in j 20 from ⟨show 0 ≤ j.toInt from by omega, show j.toInt < 20 from by omega⟩) ?_
                refine And.intro (show f_in i 20 from ⟨show 0 ≤ i.toInt from by omega, show i.toInt < 20 from by omega⟩) ?_
                apply And.intro
                · intro h110
                  have h110 : (I 33 (j.toInt.toNat)).toInt = (I 33 (i.toInt.toNat)).toInt := h110
                  intro z116 q116 _ hq116 hl116 hu116
                  have hq116 : z116.toInt = j.toInt + 1 + 4294967296 * q116 := hq116
                  try have hz116 : z116.toInt = j.toInt + 1 := by omega
                  have r55_6 : 0 ≤ (I 0 45).toInt ∧ (I 0 45).toInt ≤ 20 := hR 0 45
                  exact ⟨b, z116, (by intro q9 h9; simp only [List.mem_cons, List.not_mem_nil, or_false] at h9; rcases h9 with h9 | h9 | h9 | h9 | h9 <;> subst h9 <;> repeat (first | exact List.mem_cons_self | apply List.mem_cons_of_mem)), rfl, rfl, rfl, (show b.toInt ≤ (I 0 45).toInt from by first | assumption | omega), (show f.toInt < z116.toInt from by first | assumption | omega), (show z116.toInt ≤ 20 from by first | assumption | omega), (show (20 - z116.toInt) < n55 from by omega)⟩
                · intro h110
                  have h110 : ¬ (I 33 (j.toInt.toNat)).toInt = (I 33 (i.toInt.toNat)).toInt := h110
                  have r115_6 : 0 ≤ (I 0 45).toInt ∧ (I 0 45).toInt ≤ 20 := hR 0 45
                  exact ⟨rfl, rfl, (show (j.toInt = -1 ∨ f.toInt < j.toInt ∧ j.toInt < (I 0 45).toInt ∧ (I 23 j.toInt.toNat).toInt = -1) from by first | assumption | omega | rfl)⟩
    have lp8 : ∀ (n8 : Nat), ∀ (b : Int32) (k : Int32), (b.toInt ≤ (I 0 45).toInt) ∧ (0 ≤ k.toInt) ∧ (k.toInt ≤ i.toInt) ∧ (i.toInt - k.toInt) < n8 → f_W pP l eP (f_rm 0) sP mP aP bP hP9 cP mY 71 a cy dC dI 5 (f_K 1 (qX12_partner [.ref 0, .int i, .int f] I L)) 8 [(4, .int k), (3, .int b), (2, .int f), (1, .int i), (0, .ref 0)] [] I L := by
      intro n8
      induction n8 with
      | zero =>
        intro b k h9
        obtain ⟨u8_1, u8_2, u8_3, hm8⟩ := h9
        omega
      | succ n8 ih8 =>
        intro b k h9
        obtain ⟨u8_1, u8_2, u8_3, hm8⟩ := h9
        refine f_wp_ok C f_cl flX12_ok fiX12_ok fjX12_ok (sn := none) (fun j h => by cases h) (cs := (fun _ => none)) (cz := (fun _ => none)) (fun j S h => by cases h) (fun j S h => by cases h) tX12_partner_ok (cut := (f_cnl [(8, (fun (ls' : fLs) (st' : List Value) (I' : fM) (L' : fN) => ∃ b : Int32, ∃ k : Int32, (∀ q ∈ ([(4, .int k), (3, .int b), (2, .int f), (1, .int i), (0, .ref 0)] : fLs), q ∈ ls') ∧ st' = [] ∧ I' = I ∧ L' = L ∧ ((b.toInt ≤ (I 0 45).toInt) ∧ (0 ≤ k.toInt) ∧ (k.toInt ≤ i.toInt) ∧ (i.toInt - k.toInt) < n8))), (55, (fun (ls' : fLs) (st' : List Value) (I' : fM) (L' : fN) => ∃ b : Int32, ∃ j : Int32, (∀ q ∈ ([(4, .int j), (3, .int b), (2, .int f), (1, .int i), (0, .ref 0)] : fLs), q ∈ ls') ∧ st' = [] ∧ I' = I ∧ L' = L ∧ ((b.toInt ≤ (I 0 45).toInt) ∧ (f.toInt < j.toInt) ∧ (j.toInt ≤ 20) ∧ (20 - j.toInt) < 21)))])) (f_cnl_of (P := fun (tQ : Nat) (P : fLs → List Value → fM → fN → Prop) => ∀ ls' st' I' L', P ls' st' I' L' → f_W pP l eP (f_rm 0) sP mP aP bP hP9 cP mY 71 a cy dC dI 5 (f_K 1 (qX12_partner [.ref 0, .int i, .int f] I L)) tQ ls' st' I' L') (List.forall_mem_cons.mpr ⟨(fun ls' st' I' L' h => by obtain ⟨b, k, hs, e1, e2, e3, h9⟩ := h; rw [e1, e2, e3]; exact f_W_sub hs (ih8 b k h9)), List.forall_mem_cons.mpr ⟨(fun ls' st' I' L' h => by obtain ⟨b, j, hs, e1, e2, e3, h9⟩ := h; rw [e1, e2, e3]; exact f_W_sub hs (lp55 21 b j h9)), fun _ h => absurd h List.not_mem_nil⟩⟩)) 25 8 (f_seek 8 0 tX12_partner) (f_seek_ok 8 0 tX12_partner tX12_partner_ok) _ _ _ _ ?_
        apply And.intro
        · intro h11
          have h11 : i.toInt ≤ k.toInt := h11
          intro z52 q52 _ hq52 hl52 hu52
          have hq52 : z52.toInt = f.toInt + 1 + 4294967296 * q52 := hq52
          try have hz52 : z52.toInt = f.toInt + 1 := by omega
          have r55_1 : 0 ≤ (I 0 45).toInt ∧ (I 0 45).toInt ≤ 20 := hR 0 45
          exact ⟨b, z52, (by intro q9 h9; simp only [List.mem_cons, List.not_mem_nil, or_false] at h9; rcases h9 with h9 | h9 | h9 | h9 | h9 <;> subst h9 <;> repeat (first | exact List.mem_cons_self | apply List.mem_cons_of_mem)), rfl, rfl, rfl, (show b.toInt ≤ (I 0 45).toInt from by first | assumption | omega), (show f.toInt < z52.toInt from by first | assumption | omega), (show z52.toInt ≤ 20 from by first | assumption | omega), (show (20 - z52.toInt) < 21 from by omega)⟩
        · intro h11
          have h11 : k.toInt < i.toInt := h11
          refine And.intro (show f_in k 20 from ⟨show 0 ≤ k.toInt from by omega, show k.toInt < 20 from by omega⟩) ?_
          have r20_1 : -1 ≤ (I 23 (k.toInt.toNat)).toInt ∧ (I 23 (k.toInt.toNat)).toInt ≤ 19 := hR 23 (k.toInt.toNat)
          apply And.intro
          · intro h22
            have h22 : (I 23 (k.toInt.toNat)).toInt ≤ i.toInt := h22
            intro z44 q44 _ hq44 hl44 hu44
            have hq44 : z44.toInt = k.toInt + 1 + 4294967296 * q44 := hq44
            try have hz44 : z44.toInt = k.toInt + 1 := by omega
            have r8_2 : 0 ≤ (I 0 45).toInt ∧ (I 0 45).toInt ≤ 20 := hR 0 45
            exact ⟨b, z44, (by intro q9 h9; simp only [List.mem_cons, List.not_mem_nil, or_false] at h9; rcases h9 with h9 | h9 | h9 | h9 | h9 <;> subst h9 <;> repeat (first | exact List.mem_cons_self | apply List.mem_cons_of_mem)), rfl, rfl, rfl, (show b.toInt ≤ (I 0 45).toInt from by first | assumption | omega), (show 0 ≤ z44.toInt from by first | assumption | omega), (show z44.toInt ≤ i.toInt from by first | assumption | omega), (show (i.toInt - z44.toInt) < n8 from by omega)⟩
          · intro h22
            have h22 : i.toInt < (I 23 (k.toInt.toNat)).toInt := h22
            refine And.intro (show f_in k 20 from ⟨show 0 ≤ k.toInt from by omega, show k.toInt < 20 from by omega⟩) ?_
            apply And.intro
            · intro h33
              have h33 : b.toInt ≤ (I 23 (k.toInt.toNat)).toInt := h33
              intro z44 q44 _ hq44 hl44 hu44
              have hq44 : z44.toInt = k.toInt + 1 + 4294967296 * q44 := hq44
              try have hz44 : z44.toInt = k.toInt + 1 := by omega
              have r8_2 : 0 ≤ (I 0 45).toInt ∧ (I 0 45).toInt ≤ 20 := hR 0 45
              exact ⟨b, z44, (by intro q9 h9; simp only [List.mem_cons, List.not_mem_nil, or_false] at h9; rcases h9 with h9 | h9 | h9 | h9 | h9 <;> subst h9 <;> repeat (first | exact List.mem_cons_self | apply List.mem_cons_of_mem)), rfl, rfl, rfl, (show b.toInt ≤ (I 0 45).toInt from by first | assumption | omega), (show 0 ≤ z44.toInt from by first | assumption | omega), (show z44.toInt ≤ i.toInt from by first | assumption | omega), (show (i.toInt - z44.toInt) < n8 from by omega)⟩
            · intro h33
              have h33 : (I 23 (k.toInt.toNat)).toInt < b.toInt := h33
              refine And.intro (show f_in k 20 from ⟨show 0 ≤ k.toInt from by omega, show k.toInt < 20 from by omega⟩) ?_
              intro z44 q44 _ hq44 hl44 hu44
              have hq44 : z44.toInt = k.toInt + 1 + 4294967296 * q44 := hq44
              try have hz44 : z44.toInt = k.toInt + 1 := by omega
              have r8_2 : 0 ≤ (I 0 45).toInt ∧ (I 0 45).toInt ≤ 20 := hR 0 45
              exact ⟨I 23 (k.toInt.toNat), z44, (by intro q9 h9; simp only [List.mem_cons, List.not_mem_nil, or_false] at h9; rcases h9 with h9 | h9 | h9 | h9 | h9 <;> subst h9 <;> repeat (first | exact List.mem_cons_self | apply List.mem_cons_of_mem)), rfl, rfl, rfl, (show (I 23 (k.toInt.toNat)).toInt ≤ (I 0 45).toInt from by first | assumption | omega), (show 0 ≤ z44.toInt from by first | assumption | omega), (show z44.toInt ≤ i.toInt from by first | assumption | omega), (show (i.toInt - z44.toInt) < n8 from by omega)⟩
    refine f_wp_ok C f_cl flX12_ok fiX12_ok fjX12_ok (sn := none) (fun j h => by cases h) (cs := (fun _ => none)) (cz := (fun _ => none)) (fun j S h => by cases h) (fun j S h => by cases h) tX12_partner_ok (cut := (f_cnl [(8, (fun (ls' : fLs) (st' : List Value) (I' : fM) (L' : fN) => ∃ b : Int32, ∃ k : Int32, (∀ q ∈ ([(4, .int k), (3, .int b), (2, .int f), (1, .int i), (0, .ref 0)] : fLs), q ∈ ls') ∧ st' = [] ∧ I' = I ∧ L' = L ∧ ((b.toInt ≤ (I 0 45).toInt) ∧ (0 ≤ k.toInt) ∧ (k.toInt ≤ i.toInt) ∧ (i.toInt - k.toInt) < 20)))])) (f_cnl_of (P := fun (tQ : Nat) (P : fLs → List Value → fM → fN → Prop) => ∀ ls' st' I' L', P ls' st' I' L' → f_W pP l eP (f_rm 0) sP mP aP bP hP9 cP mY 71 a cy dC dI 5 (f_K 1 (qX12_partner [.ref 0, .int i, .int f] I L)) tQ ls' st' I' L') (List.forall_mem_cons.mpr ⟨(fun ls' st' I' L' h => by obtain ⟨b, k, hs, e1, e2, e3, h9⟩ := h; rw [e1, e2, e3]; exact f_W_sub hs (lp8 20 b k h9)), fun _ h => absurd h List.not_mem_nil⟩)) 8 0 tX12_partner tX12_partner_ok _ _ _ _ ?_
    have r1_1 : 0 ≤ (I 0 45).toInt ∧ (I 0 45).toInt ≤ 20 := hR 0 45
    exact ⟨I 0 45, Int32.ofInt 0, (by intro q9 h9; simp only [List.mem_cons, List.not_mem_nil, or_false] at h9; rcases h9 with h9 | h9 | h9 | h9 | h9 <;> subst h9 <;> repeat (first | exact List.mem_cons_self | apply List.mem_cons_of_mem)), rfl, rfl, rfl, (show (I 0 45).toInt ≤ (I 0 45).toInt from by first | assumption | omega), (show 0 ≤ (0 : Int) from by first | assumption | omega), (show (0 : Int) ≤ i.toInt from by first | assumption | omega), (show (i.toInt - (0 : Int)) < 20 from by omega)⟩
