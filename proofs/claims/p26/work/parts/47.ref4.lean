/-- the leaves of a node are put down as s -/
def lvs (I I' : fM) (n : Nat) (s : Int) : Prop := ∃ z : Int32, z.toInt = s ∧ I' 6 = upd (I 6) n z
def tX12_layKind : List (Instr × Nat) := [(.aload_n 0, 1), (.getfield 20, 3), (.iload_n 1, 1), (.iconst 0, 1), (.iastore, 1), (.aload_n 0, 1), (.getfield 24, 3), (.iload_n 1, 1), (.iload_n 2, 1), (.iastore, 1), (.aload_n 0, 1), (.getfield 27, 3), (.iload_n 1, 1), (.iconst (-1), 1), (.iastore, 1), (.aload_n 0, 1), (.getfield 30, 3), (.iload_n 1, 1), (.iconst 1, 1), (.iastore, 1), (.iconst 0, 1), (.istore_n 3, 1), (.iload_n 3, 1), (.iconst 5, 1), (.if_icmp .ge 29, 3), (.aload_n 0, 1), (.getfield 33, 3), (.iconst 5, 1), (.iload_n 1, 1), (.imul, 1), (.iload_n 3, 1), (.iadd, 1), (.iload_n 3, 1), (.iload_n 2, 1), (.if_icmp .ne 7, 3), (.iconst 1, 1), (.goto 4, 3), (.iconst 0, 1), (.iastore, 1), (.iinc 3 1, 3), (.goto (-28), 3), (.return_, 1)]
theorem tX12_layKind_ok : f_chk cX12_layKind 0 tX12_layKind = true := by decide +kernel
def pX12_layKind (av : List Value) (I : fM) (L : fN) : Prop := match av with
  | [.ref 0, .int n, .int k] => mR I ∧ 0 ≤ n.toInt ∧ n.toInt ≤ 1599 ∧ 0 ≤ k.toInt ∧ k.toInt ≤ 4
  | _ => False
def qX12_layKind (av : List Value) (I : fM) (L : fN) (r : Value) (I' : fM) (L' : fN) : Prop := match av, r with
  | [.ref 0, .int n, .int k], .null => mR I' ∧ f_fr [3, 4, 5, 6, 7] I I' ∧ L' = L ∧ I' 3 = upd (I 3) n.toInt.toNat (Int32.ofInt 0) ∧ I' 4 = upd (I 4) n.toInt.toNat k ∧ I' 5 = upd (I 5) n.toInt.toNat (Int32.ofInt (-1)) ∧ lvs I I' n.toInt.toNat 1
  | _, _ => False
set_option maxHeartbeats 4000000 in
set_option maxRecDepth 100000 in
theorem mX12_layKind {l : Launch} {a : Nat → Nat} {cy dC : Nat → ClassId} {dI : Nat → Nat → Nat} (hinj : ∀ i j, i < 71 → j < 71 → a i = a j → i = j) : f_Met (fun _ => True) l mY 71 a cy dC dI yX12_layKind cX12_layKind 4 0 0 pX12_layKind qX12_layKind := by
  refine f_met_of (f_Ec_T 71 a) hinj mY_hi (by decide) (fun av I L h => by unfold pX12_layKind at h; split at h <;> first | exact Nat.le_of_ble_eq_true rfl | exact h.elim) ?_
  intro pP eP sP mP aP bP hP9 cP C av I L hp
  unfold pX12_layKind at hp
  split at hp
  case h_2 => exact hp.elim
  case h_1 n k =>
    obtain ⟨hR, p1, p2, p3, p4⟩ := hp
    have hF0 : f_fr [3, 4, 5, 6, 7] I I := f_fr_rf
    have lp30 : ∀ (n30 : Nat), ∀ (i : Int32) (J30 : fM), mR J30 ∧ f_fr [3, 4, 5, 6, 7] I J30 ∧ (0 ≤ i.toInt) ∧ (i.toInt ≤ 5) ∧ (J30 3 = upd (I 3) n.toInt.toNat (Int32.ofInt 0)) ∧ (J30 4 = upd (I 4) n.toInt.toNat k) ∧ (J30 5 = upd (I 5) n.toInt.toNat (Int32.ofInt (-1))) ∧ (J30 6 = upd (I 6) n.toInt.toNat (Int32.ofInt 1)) ∧ (5 - i.toInt) < n30 → f_W pP l eP (f_rm 0) sP mP aP bP hP9 cP mY 71 a cy dC dI 4 (f_K 0 (qX12_layKind [.ref 0, .int n, .int k] I L)) 30 [(3, .int i), (2, .int k), (1, .int n), (0, .ref 0)] [] J30 L := by
      intro n30
      induction n30 with
      | zero =>
        intro i J30 h9
        obtain ⟨hR30c, hF30c, u30_1, u30_2, u30_3, u30_4, u30_5, u30_6, hm30⟩ := h9
        omega
      | succ n30 ih30 =>
        intro i J30 h9
        obtain ⟨hR30c, hF30c, u30_1, u30_2, u30_3, u30_4, u30_5, u30_6, hm30⟩ := h9
        refine f_wp_ok C f_cl flX12_ok fiX12_ok fjX12_ok (sn := none) (fun j h => by cases h) (cs := (fun _ => none)) (cz := (fun _ => none)) (fun j S h => by cases h) (fun j S h => by cases h) tX12_layKind_ok (cut := (f_cnl [(30, (fun (ls' : fLs) (st' : List Value) (I' : fM) (L' : fN) => ∃ i : Int32, (∀ q ∈ ([(3, .int i), (2, .int k), (1, .int n), (0, .ref 0)] : fLs), q ∈ ls') ∧ st' = [] ∧ L' = L ∧ (mR I' ∧ f_fr [3, 4, 5, 6, 7] I I' ∧ (0 ≤ i.toInt) ∧ (i.toInt ≤ 5) ∧ (I' 3 = upd (I 3) n.toInt.toNat (Int32.ofInt 0)) ∧ (I' 4 = upd (I 4) n.toInt.toNat k) ∧ (I' 5 = upd (I 5) n.toInt.toNat (Int32.ofInt (-1))) ∧ (I' 6 = upd (I 6) n.toInt.toNat (Int32.ofInt 1)) ∧ (5 - i.toInt) < n30)))])) (f_cnl_of (P := fun (tQ : Nat) (P : fLs → List Value → fM → fN → Prop) => ∀ ls' st' I' L', P ls' st' I' L' → f_W pP l eP (f_rm 0) sP mP aP bP hP9 cP mY 71 a cy dC dI 4 (f_K 0 (qX12_layKind [.ref 0, .int n, .int k] I L)) tQ ls' st' I' L') (List.forall_mem_cons.mpr ⟨(fun ls' st' I' L' h => by obtain ⟨i, hs, e1, e3, h9⟩ := h; rw [e1, e3]; exact f_W_sub hs (ih30 i I' h9)), fun _ h => absurd h List.not_mem_nil⟩)) 21 30 (f_seek 30 0 tX12_layKind) (f_seek_ok 30 0 tX12_layKind tX12_layKind_ok) _ _ _ _ ?_
        apply And.intro
        · intro h32
          have h32 : 5 ≤ i.toInt := h32
          exact ⟨hR30c, hF30c, rfl, (show J30 3 = upd (I 3) n.toInt.toNat (Int32.ofInt 0) from by first | assumption | omega | rfl), (show J30 4 = upd (I 4) n.toInt.toNat k from by first | assumption | omega | rfl), (show J30 5 = upd (I 5) n.toInt.toNat (Int32.ofInt (-1)) from by first | assumption | omega | rfl), ⟨Int32.ofInt 1, rfl, u30_6⟩⟩
        · intro h32
          have h32 : i.toInt < 5 := h32
          intro z41 q41 _ hq41 hl41 hu41
          have hq41 : z41.toInt = 5 * n.toInt + 4294967296 * q41 := hq41
          try have hz41 : z41.toInt = 5 * n.toInt := by omega
          intro z43 q43 _ hq43 hl43 hu43
          have hq43 : z43.toInt = z41.toInt + i.toInt + 4294967296 * q43 := hq43
          try have hz43 : z43.toInt = z41.toInt + i.toInt := by omega
          apply And.intro
          · intro h46
            have h46 : ¬ i.toInt = k.toInt := h46
            refine And.intro (show f_in z43 8000 from ⟨show 0 ≤ z43.toInt from by omega, show z43.toInt < 8000 from by omega⟩) ?_
            have hR54 := mR_a (k := 7) (j := z43.toInt.toNat) (x := Int32.ofInt 0) hR30c (by exact f_rng _)
            have hF54 := f_fr_up (k := 7) (r := upd (J30 7) (z43.toInt.toNat) (Int32.ofInt 0)) hF30c rfl
            intro z55 q55 _ hq55 hl55 hu55
            have hq55 : z55.toInt = i.toInt + 1 + 4294967296 * q55 := hq55
            try have hz55 : z55.toInt = i.toInt + 1 := by omega
            exact ⟨z55, (by intro q9 h9; simp only [List.mem_cons, List.not_mem_nil, or_false] at h9; rcases h9 with h9 | h9 | h9 | h9 <;> subst h9 <;> repeat (first | exact List.mem_cons_self | apply List.mem_cons_of_mem)), rfl, rfl, hR54, hF54, (show 0 ≤ z55.toInt from by first | assumption | omega), (show z55.toInt ≤ 5 from by first | assumption | omega), (show (J30 3) = upd (I 3) n.toInt.toNat (Int32.ofInt 0) from by first | assumption | omega | rfl), (show (J30 4) = upd (I 4) n.toInt.toNat k from by first | assumption | omega | rfl), (show (J30 5) = upd (I 5) n.toInt.toNat (Int32.ofInt (-1)) from by first | assumption | omega | rfl), (show (J30 6) = upd (I 6) n.toInt.toNat (Int32.ofInt 1) from by first | assumption | omega | rfl), (show (5 - z55.toInt) < n30 from by omega)⟩
          · intro h46
            have h46 : i.toInt = k.toInt := h46
            refine And.intro (show f_in z43 8000 from ⟨show 0 ≤ z43.toInt from by omega, show z43.toInt < 8000 from by omega⟩) ?_
            have hR54 := mR_a (k := 7) (j := z43.toInt.toNat) (x := Int32.ofInt 1) hR30c (by exact f_rng _)
            have hF54 := f_fr_up (k := 7) (r := upd (J30 7) (z43.toInt.toNat) (Int32.ofInt 1)) hF30c rfl
            intro z55 q55 _ hq55 hl55 hu55
            have hq55 : z55.toInt = i.toInt + 1 + 4294967296 * q55 := hq55
            try have hz55 : z55.toInt = i.toInt + 1 := by omega
            exact ⟨z55, (by intro q9 h9; simp only [List.mem_cons, List.not_mem_nil, or_false] at h9; rcases h9 with h9 | h9 | h9 | h9 <;> subst h9 <;> repeat (first | exact List.mem_cons_self | apply List.mem_cons_of_mem)), rfl, rfl, hR54, hF54, (show 0 ≤ z55.toInt from by first | assumption | omega), (show z55.toInt ≤ 5 from by first | assumption | omega), (show (J30 3) = upd (I 3) n.toInt.toNat (Int32.ofInt 0) from by first | assumption | omega | rfl), (show (J30 4) = upd (I 4) n.toInt.toNat k from by first | assumption | omega | rfl), (show (J30 5) = upd (I 5) n.toInt.toNat (Int32.ofInt (-1)) from by first | assumption | omega | rfl), (show (J30 6) = upd (I 6) n.toInt.toNat (Int32.ofInt 1) from by first | assumption | omega | rfl), (show (5 - z55.toInt) < n30 from by omega)⟩
    refine f_wp_ok C f_cl flX12_ok fiX12_ok fjX12_ok (sn := none) (fun j h => by cases h) (cs := (fun _ => none)) (cz := (fun _ => none)) (fun j S h => by cases h) (fun j S h => by cases h) tX12_layKind_ok (cut := (f_cnl [(30, (fun (ls' : fLs) (st' : List Value) (I' : fM) (L' : fN) => ∃ i : Int32, (∀ q ∈ ([(3, .int i), (2, .int k), (1, .int n), (0, .ref 0)] : fLs), q ∈ ls') ∧ st' = [] ∧ L' = L ∧ (mR I' ∧ f_fr [3, 4, 5, 6, 7] I I' ∧ (0 ≤ i.toInt) ∧ (i.toInt ≤ 5) ∧ (I' 3 = upd (I 3) n.toInt.toNat (Int32.ofInt 0)) ∧ (I' 4 = upd (I 4) n.toInt.toNat k) ∧ (I' 5 = upd (I 5) n.toInt.toNat (Int32.ofInt (-1))) ∧ (I' 6 = upd (I 6) n.toInt.toNat (Int32.ofInt 1)) ∧ (5 - i.toInt) < 6)))])) (f_cnl_of (P := fun (tQ : Nat) (P : fLs → List Value → fM → fN → Prop) => ∀ ls' st' I' L', P ls' st' I' L' → f_W pP l eP (f_rm 0) sP mP aP bP hP9 cP mY 71 a cy dC dI 4 (f_K 0 (qX12_layKind [.ref 0, .int n, .int k] I L)) tQ ls' st' I' L') (List.forall_mem_cons.mpr ⟨(fun ls' st' I' L' h => by obtain ⟨i, hs, e1, e3, h9⟩ := h; rw [e1, e3]; exact f_W_sub hs (lp30 6 i I' h9)), fun _ h => absurd h List.not_mem_nil⟩)) 25 0 tX12_layKind tX12_layKind_ok _ _ _ _ ?_
    refine And.intro (show f_in n 1600 from ⟨show 0 ≤ n.toInt from by omega, show n.toInt < 1600 from by omega⟩) ?_
    have hR6 := mR_a (k := 3) (j := n.toInt.toNat) (x := Int32.ofInt 0) hR (show 0 ≤ 0 ∧ 0 ≤ 2 from ⟨by omega, by omega⟩)
    have hF6 := f_fr_up (k := 3) (r := upd (I 3) (n.toInt.toNat) (Int32.ofInt 0)) hF0 rfl
    refine And.intro (show f_in n 1600 from ⟨show 0 ≤ n.toInt from by omega, show n.toInt < 1600 from by omega⟩) ?_
    have hR13 := mR_a (k := 4) (j := n.toInt.toNat) (x := k) hR6 (show 0 ≤ k.toInt ∧ k.toInt ≤ 1599 from ⟨by omega, by omega⟩)
    have hF13 := f_fr_up (k := 4) (r := upd (I 4) (n.toInt.toNat) k) hF6 rfl
    refine And.intro (show f_in n 1600 from ⟨show 0 ≤ n.toInt from by omega, show n.toInt < 1600 from by omega⟩) ?_
    have hR20 := mR_a (k := 5) (j := n.toInt.toNat) (x := Int32.ofInt (-1)) hR13 (show (-1 : Int) ≤ (Int32.ofInt (-1)).toInt ∧ (Int32.ofInt (-1)).toInt ≤ (1599 : Int) from ⟨by decide, by decide⟩)
    have hF20 := f_fr_up (k := 5) (r := upd (I 5) (n.toInt.toNat) (Int32.ofInt (-1))) hF13 rfl
    refine And.intro (show f_in n 1600 from ⟨show 0 ≤ n.toInt from by omega, show n.toInt < 1600 from by omega⟩) ?_
    have hR27 := mR_a (k := 6) (j := n.toInt.toNat) (x := Int32.ofInt 1) hR20 (by exact f_rng _)
    have hF27 := f_fr_up (k := 6) (r := upd (I 6) (n.toInt.toNat) (Int32.ofInt 1)) hF20 rfl
    exact ⟨Int32.ofInt 0, (by intro q9 h9; simp only [List.mem_cons, List.not_mem_nil, or_false] at h9; rcases h9 with h9 | h9 | h9 | h9 <;> subst h9 <;> repeat (first | exact List.mem_cons_self | apply List.mem_cons_of_mem)), rfl, rfl, hR27, hF27, (show 0 ≤ (0 : Int) from by first | assumption | omega), (show (0 : Int) ≤ 5 from by first | assumption | omega), (show (upd (I 3) (n.toInt.toNat) (Int32.ofInt 0)) = upd (I 3) n.toInt.toNat (Int32.ofInt 0) from by first | assumption | omega | rfl), (show (upd (I 4) (n.toInt.toNat) k) = upd (I 4) n.toInt.toNat k from by first | assumption | omega | rfl), (show (upd (I 5) (n.toInt.toNat) (Int32.ofInt (-1))) = upd (I 5) n.toInt.toNat (Int32.ofInt (-1)) from by first | assumption | omega | rfl), (show (upd (I 6) (n.toInt.toNat) (Int32.ofInt 1)) = upd (I 6) n.toInt.toNat (Int32.ofInt 1) from by first | assumption | omega | rfl), (show (5 - (0 : Int)) < 6 from by omega)⟩
def tX12_laySlash : List (Instr × Nat) := [(.aload_n 0, 1), (.getfield 20, 3), (.iload_n 1, 1), (.iload_n 2, 1), (.iastore, 1), (.aload_n 0, 1), (.getfield 24, 3), (.iload_n 1, 1), (.iload_n 3, 1), (.iastore, 1), (.aload_n 0, 1), (.getfield 27, 3), (.iload_n 1, 1), (.iload 4, 2), (.iastore, 1), (.aload_n 0, 1), (.getfield 30, 3), (.iload_n 1, 1), (.aload_n 0, 1), (.getfield 30, 3), (.iload_n 3, 1), (.iaload, 1), (.aload_n 0, 1), (.getfield 30, 3), (.iload 4, 2), (.iaload, 1), (.iadd, 1), (.iastore, 1), (.iconst 0, 1), (.istore 5, 2), (.iload 5, 2), (.iconst 5, 1), (.if_icmp .ge 76, 3), (.aload_n 0, 1), (.getfield 33, 3), (.iconst 5, 1), (.iload_n 1, 1), (.imul, 1), (.iload 5, 2), (.iadd, 1), (.iload_n 2, 1), (.iconst 1, 1), (.if_icmp .ne 30, 3), (.aload_n 0, 1), (.getfield 33, 3), (.iconst 5, 1), (.iload_n 3, 1), (.imul, 1), (.iload 5, 2), (.iadd, 1), (.iaload, 1), (.aload_n 0, 1), (.getfield 33, 3), (.iconst 5, 1), (.iload 4, 2), (.imul, 1), (.iload 5, 2), (.iadd, 1), (.iaload, 1), (.isub, 1), (.goto 27, 3), (.aload_n 0, 1), (.getfield 33, 3), (.iconst 5, 1), (.iload 4, 2), (.imul, 1), (.iload 5, 2), (.iadd, 1), (.iaload, 1), (.aload_n 0, 1), (.getfield 33, 3), (.iconst 5, 1), (.iload_n 3, 1), (.imul, 1), (.iload 5, 2), (.iadd, 1), (.iaload, 1), (.isub, 1), (.iastore, 1), (.iinc 5 1, 3), (.goto (-76), 3), (.return_, 1)]
theorem tX12_laySlash_ok : f_chk cX12_laySlash 0 tX12_laySlash = true := by decide +kernel
def pX12_laySlash (av : List Value) (I : fM) (L : fN) : Prop := match av with
  | [.ref 0, .int n, .int g, .int u, .int v] => mR I ∧ 0 ≤ n.toInt ∧ n.toInt ≤ 1599 ∧ 1 ≤ g.toInt ∧ g.toInt ≤ 2 ∧ 0 ≤ u.toInt ∧ u.toInt ≤ 1599 ∧ 0 ≤ v.toInt ∧ v.toInt ≤ 1599 ∧ 0 ≤ (I 6 u.toInt.toNat).toInt ∧ (I 6 u.toInt.toNat).toInt ≤ 1000 ∧ 0 ≤ (I 6 v.toInt.toNat).toInt ∧ (I 6 v.toInt.toNat).toInt ≤ 1000
  | _ => False
def qX12_laySlash (av : List Value) (I : fM) (L : fN) (r : Value) (I' : fM) (L' : fN) : Prop := match av, r with
  | [.ref 0, .int n, .int g, .int u, .int v], .null => mR I' ∧ f_fr [3, 4, 5, 6, 7] I I' ∧ L' = L ∧ I' 3 = upd (I 3) n.toInt.toNat g ∧ I' 4 = upd (I 4) n.toInt.toNat u ∧ I' 5 = upd (I 5) n.toInt.toNat v ∧ lvs I I' n.toInt.toNat ((I 6 u.toInt.toNat).toInt + (I 6 v.toInt.toNat).toInt)
  | _, _ => False
set_option maxHeartbeats 4000000 in
set_option maxRecDepth 100000 in
theorem mX12_laySlash {l : Launch} {a : Nat → Nat} {cy dC : Nat → ClassId} {dI : Nat → Nat → Nat} (hinj : ∀ i j, i < 71 → j < 71 → a i = a j → i = j) : f_Met (fun _ => True) l mY 71 a cy dC dI yX12_laySlash cX12_laySlash 6 0 0 pX12_laySlash qX12_laySlash := by
  refine f_met_of (f_Ec_T 71 a) hinj mY_hi (by decide) (fun av I L h => by unfold pX12_laySlash at h; split at h <;> first | exact Nat.le_of_ble_eq_true rfl | exact h.elim) ?_
  intro pP eP sP mP aP bP hP9 cP C av I L hp
  unfold pX12_laySlash at hp
  split at hp
  case h_2 => exact hp.elim
  case h_1 n g u v =>
    obtain ⟨hR, p1, p2, p3, p4, p5, p6, p7, p8, p9, p10, p11, p12⟩ := hp
    have hF0 : f_fr [3, 4, 5, 6, 7] I I := f_fr_rf
    have lp45 : ∀ (n45 : Nat), ∀ (i : Int32) (J45 : fM), mR J45 ∧ f_fr [3, 4, 5, 6, 7] I J45 ∧ (0 ≤ i.toInt) ∧ (i.toInt ≤ 5) ∧ (J45 3 = upd (I 3) n.toInt.toNat g) ∧ (J45 4 = upd (I 4) n.toInt.toNat u) ∧ (J45 5 = upd (I 5) n.toInt.toNat v) ∧ (lvs I J45 n.toInt.toNat ((I 6 u.toInt.toNat).toInt + (I 6 v.toInt.toNat).toInt)) ∧ (5 - i.toInt) < n45 → f_W pP l eP (f_rm 0) sP mP aP bP hP9 cP mY 71 a cy dC dI 6 (f_K 0 (qX12_laySlash [.ref 0, .int n, .int g, .int u, .int v] I L)) 45 [(5, .int i), (4, .int v), (3, .int u), (2, .int g), (1, .int n), (0, .ref 0)] [] J45 L := by
      intro n45
      induction n45 with
      | zero =>
        intro i J45 h9
        obtain ⟨hR45c, hF45c, u45_1, u45_2, u45_3, u45_4, u45_5, u45_6, hm45⟩ := h9
        omega
      | succ n45 ih45 =>
        intro i J45 h9
        obtain ⟨hR45c, hF45c, u45_1, u45_2, u45_3, u45_4, u45_5, u45_6, hm45⟩ := h9
        refine f_wp_ok C f_cl flX12_ok fiX12_ok fjX12_ok (sn := none) (fun j h => by cases h) (cs := (fun _ => none)) (cz := (fun _ => none)) (fun j S h => by cases h) (fun j S h => by cases h) tX12_laySlash_ok (cut := (f_cnl [(45, (fun (ls' : fLs) (st' : List Value) (I' : fM) (L' : fN) => ∃ i : Int32, (∀ q ∈ ([(5, .int i), (4, .int v), (3, .int u), (2, .int g), (1, .int n), (0, .ref 0)] : fLs), q ∈ ls') ∧ st' = [] ∧ L' = L ∧ (mR I' ∧ f_fr [3, 4, 5, 6, 7] I I' ∧ (0 ≤ i.toInt) ∧ (i.toInt ≤ 5) ∧ (I' 3 = upd (I 3) n.toInt.toNat g) ∧ (I' 4 = upd (I 4) n.toInt.toNat u) ∧ (I' 5 = upd (I 5) n.toInt.toNat v) ∧ (lvs I I' n.toInt.toNat ((I 6 u.toInt.toNat).toInt + (I 6 v.toInt.toNat).toInt)) ∧ (5 - i.toInt) < n45)))])) (f_cnl_of (P := fun (tQ : Nat) (P : fLs → List Value → fM → fN → Prop) => ∀ ls' st' I' L', P ls' st' I' L' → f_W pP l eP (f_rm 0) sP mP aP bP hP9 cP mY 71 a cy dC dI 6 (f_K 0 (qX12_laySlash [.ref 0, .int n, .int g, .int u, .int v] I L)) tQ ls' st' I' L') (List.forall_mem_cons.mpr ⟨(fun ls' st' I' L' h => by obtain ⟨i, hs, e1, e3, h9⟩ := h; rw [e1, e3]; exact f_W_sub hs (ih45 i I' h9)), fun _ h => absurd h List.not_mem_nil⟩)) 37 45 (f_seek 45 0 tX12_laySlash) (f_seek_ok 45 0 tX12_laySlash tX12_laySlash_ok) _ _ _ _ ?_
        apply And.intro
        · intro h48
          have h48 : 5 ≤ i.toInt := h48
          exact ⟨hR45c, hF45c, rfl, (show J45 3 = upd (I 3) n.toInt.toNat g from by first | assumption | omega | rfl), (show J45 4 = upd (I 4) n.toInt.toNat u from by first | assumption | omega | rfl), (show J45 5 = upd (I 5) n.toInt.toNat v from by first | assumption | omega | rfl), (show lvs I J45 n.toInt.toNat ((I 6 u.toInt.toNat).toInt + (I 6 v.toInt.toNat).toInt) from by first | assumption | omega | rfl)⟩
        · intro h48
          have h48 : i.toInt < 5 := h48
          intro z57 q57 _ hq57 hl57 hu57
          have hq57 : z57.toInt = 5 * n.toInt + 4294967296 * q57 := hq57
          try have hz57 : z57.toInt = 5 * n.toInt := by omega
          intro z60 q60 _ hq60 hl60 hu60
          have hq60 : z60.toInt = z57.toInt + i.toInt + 4294967296 * q60 := hq60
          try have hz60 : z60.toInt = z57.toInt + i.toInt := by omega
          apply And.intro
          · intro h63
            have h63 : ¬ g.toInt = 1 := h63
            intro z100 q100 _ hq100 hl100 hu100
            have hq100 : z100.toInt = 5 * v.toInt + 4294967296 * q100 := hq100
            try have hz100 : z100.toInt = 5 * v.toInt := by omega
            intro z103 q103 _ hq103 hl103 hu103
            have hq103 : z103.toInt = z100.toInt + i.toInt + 4294967296 * q103 := hq103
            try have hz103 : z103.toInt = z100.toInt + i.toInt := by omega
            refine And.intro (show f_in z103 8000 from ⟨show 0 ≤ z103.toInt from by omega, show z103.toInt < 8000 from by omega⟩) ?_
            intro z111 q111 _ hq111 hl111 hu111
            have hq111 : z111.toInt = 5 * u.toInt + 4294967296 * q111 := hq111
            try have hz111 : z111.toInt = 5 * u.toInt := by omega
            intro z114 q114 _ hq114 hl114 hu114
            have hq114 : z114.toInt = z111.toInt + i.toInt + 4294967296 * q114 := hq114
            try have hz114 : z114.toInt = z111.toInt + i.toInt := by omega
            refine And.intro (show f_in z114 8000 from ⟨show 0 ≤ z114.toInt from by omega, show z114.toInt < 8000 from by omega⟩) ?_
            intro z116 q116 _ hq116 hl116 hu116
            have hq116 : z116.toInt = (J45 7 (z103.toInt.toNat)).toInt - (J45 7 (z114.toInt.toNat)).toInt + 4294967296 * q116 := hq116
            try have hz116 : z116.toInt = (J45 7 (z103.toInt.toNat)).toInt - (J45 7 (z114.toInt.toNat)).toInt := by omega
            refine And.intro (show f_in z60 8000 from ⟨show 0 ≤ z60.toInt from by omega, show z60.toInt < 8000 from by omega⟩) ?_
            have hR117 := mR_a (k := 7) (j := z60.toInt.toNat) (x := z116) hR45c (by exact f_rng _)
            have hF117 := f_fr_up (k := 7) (r := upd (J45 7) (z60.toInt.toNat) z116) hF45c rfl
            have q117 : lvs I (va_up J45 7 (upd (J45 7) (z60.toInt.toNat) z116)) n.toInt.toNat ((I 6 u.toInt.toNat).toInt + (I 6 v.toInt.toNat).toInt) := u45_6
            intro z118 q118 _ hq118 hl118 hu118
            have hq118 : z118.toInt = i.toInt + 1 + 4294967296 * q118 := hq118
            try have hz118 : z118.toInt = i.toInt + 1 := by omega
            exact ⟨z118, (by intro q9 h9; simp only [List.mem_cons, List.not_mem_nil, or_false] at h9; rcases h9 with h9 | h9 | h9 | h9 | h9 | h9 <;> subst h9 <;> repeat (first | exact List.mem_cons_self | apply List.mem_cons_of_mem)), rfl, rfl, hR117, hF117, (show 0 ≤ z118.toInt from by first | assumption | omega), (show z118.toInt ≤ 5 from by first | assumption | omega), (show (J45 3) = upd (I 3) n.toInt.toNat g from by first | assumption | omega | rfl), (show (J45 4) = upd (I 4) n.toInt.toNat u from by first | assumption | omega | rfl), (show (J45 5) = upd (I 5) n.toInt.toNat v from by first | assumption | omega | rfl), (show lvs I (va_up J45 7 (upd (J45 7) (z60.toInt.toNat) z116)) n.toInt.toNat ((I 6 u.toInt.toNat).toInt + (I 6 v.toInt.toNat).toInt) from by first | assumption | omega), (show (5 - z118.toInt) < n45 from by omega)⟩
          · intro h63
            have h63 : g.toInt = 1 := h63
            intro z72 q72 _ hq72 hl72 hu72
            have hq72 : z72.toInt = 5 * u.toInt + 4294967296 * q72 := hq72
            try have hz72 : z72.toInt = 5 * u.toInt := by omega
            intro z75 q75 _ hq75 hl75 hu75
            have hq75 : z75.toInt = z72.toInt + i.toInt + 4294967296 * q75 := hq75
            try have hz75 : z75.toInt = z72.toInt + i.toInt := by omega
            refine And.intro (show f_in z75 8000 from ⟨show 0 ≤ z75.toInt from by omega, show z75.toInt < 8000 from by omega⟩) ?_
            intro z84 q84 _ hq84 hl84 hu84
            have hq84 : z84.toInt = 5 * v.toInt + 4294967296 * q84 := hq84
            try have hz84 : z84.toInt = 5 * v.toInt := by omega
            intro z87 q87 _ hq87 hl87 hu87
            have hq87 : z87.toInt = z84.toInt + i.toInt + 4294967296 * q87 := hq87
            try have hz87 : z87.toInt = z84.toInt + i.toInt := by omega
            refine And.intro (show f_in z87 8000 from ⟨show 0 ≤ z87.toInt from by omega, show z87.toInt < 8000 from by omega⟩) ?_
            intro z89 q89 _ hq89 hl89 hu89
            have hq89 : z89.toInt = (J45 7 (z75.toInt.toNat)).toInt - (J45 7 (z87.toInt.toNat)).toInt + 4294967296 * q89 := hq89
            try have hz89 : z89.toInt = (J45 7 (z75.toInt.toNat)).toInt - (J45 7 (z87.toInt.toNat)).toInt := by omega
            refine And.intro (show f_in z60 8000 from ⟨show 0 ≤ z60.toInt from by omega, show z60.toInt < 8000 from by omega⟩) ?_
            have hR117 := mR_a (k := 7) (j := z60.toInt.toNat) (x := z89) hR45c (by exact f_rng _)
            have hF117 := f_fr_up (k := 7) (r := upd (J45 7) (z60.toInt.toNat) z89) hF45c rfl
            have q117 : lvs I (va_up J45 7 (upd (J45 7) (z60.toInt.toNat) z89)) n.toInt.toNat ((I 6 u.toInt.toNat).toInt + (I 6 v.toInt.toNat).toInt) := u45_6
            intro z118 q118 _ hq118 hl118 hu118
            have hq118 : z118.toInt = i.toInt + 1 + 4294967296 * q118 := hq118
            try have hz118 : z118.toInt = i.toInt + 1 := by omega
            exact ⟨z118, (by intro q9 h9; simp only [List.mem_cons, List.not_mem_nil, or_false] at h9; rcases h9 with h9 | h9 | h9 | h9 | h9 | h9 <;> subst h9 <;> repeat (first | exact List.mem_cons_self | apply List.mem_cons_of_mem)), rfl, rfl, hR117, hF117, (show 0 ≤ z118.toInt from by first | assumption | omega), (show z118.toInt ≤ 5 from by first | assumption | omega), (show (J45 3) = upd (I 3) n.toInt.toNat g from by first | assumption | omega | rfl), (show (J45 4) = upd (I 4) n.toInt.toNat u from by first | assumption | omega | rfl), (show (J45 5) = upd (I 5) n.toInt.toNat v from by first | assumption | omega | rfl), (show lvs I (va_up J45 7 (upd (J45 7) (z60.toInt.toNat) z89)) n.toInt.toNat ((I 6 u.toInt.toNat).toInt + (I 6 v.toInt.toNat).toInt) from by first | assumption | omega), (show (5 - z118.toInt) < n45 from by omega)⟩
    refine f_wp_ok C f_cl flX12_ok fiX12_ok fjX12_ok (sn := none) (fun j h => by cases h) (cs := (fun _ => none)) (cz := (fun _ => none)) (fun j S h => by cases h) (fun j S h => by cases h) tX12_laySlash_ok (cut := (f_cnl [(45, (fun (ls' : fLs) (st' : List Value) (I' : fM) (L' : fN) => ∃ i : Int32, (∀ q ∈ ([(5, .int i), (4, .int v), (3, .int u), (2, .int g), (1, .int n), (0, .ref 0)] : fLs), q ∈ ls') ∧ st' = [] ∧ L' = L ∧ (mR I' ∧ f_fr [3, 4, 5, 6, 7] I I' ∧ (0 ≤ i.toInt) ∧ (i.toInt ≤ 5) ∧ (I' 3 = upd (I 3) n.toInt.toNat g) ∧ (I' 4 = upd (I 4) n.toInt.toNat u) ∧ (I' 5 = upd (I 5) n.toInt.toNat v) ∧ (lvs I I' n.toInt.toNat ((I 6 u.toInt.toNat).toInt + (I 6 v.toInt.toNat).toInt)) ∧ (5 - i.toInt) < 6)))])) (f_cnl_of (P := fun (tQ : Nat) (P : fLs → List Value → fM → fN → Prop) => ∀ ls' st' I' L', P ls' st' I' L' → f_W pP l eP (f_rm 0) sP mP aP bP hP9 cP mY 71 a cy dC dI 6 (f_K 0 (qX12_laySlash [.ref 0, .int n, .int g, .int u, .int v] I L)) tQ ls' st' I' L') (List.forall_mem_cons.mpr ⟨(fun ls' st' I' L' h => by obtain ⟨i, hs, e1, e3, h9⟩ := h; rw [e1, e3]; exact f_W_sub hs (lp45 6 i I' h9)), fun _ h => absurd h List.not_mem_nil⟩)) 33 0 tX12_laySlash tX12_laySlash_ok _ _ _ _ ?_
    refine And.intro (show f_in n 1600 from ⟨show 0 ≤ n.toInt from by omega, show n.toInt < 1600 from by omega⟩) ?_
    have hR6 := mR_a (k := 3) (j := n.toInt.toNat) (x := g) hR (show 0 ≤ g.toInt ∧ g.toInt ≤ 2 from ⟨by omega, by omega⟩)
    have hF6 := f_fr_up (k := 3) (r := upd (I 3) (n.toInt.toNat) g) hF0 rfl
    refine And.intro (show f_in n 1600 from ⟨show 0 ≤ n.toInt from by omega, show n.toInt < 1600 from by omega⟩) ?_
    have hR13 := mR_a (k := 4) (j := n.toInt.toNat) (x := u) hR6 (show 0 ≤ u.toInt ∧ u.toInt ≤ 1599 from ⟨by omega, by omega⟩)
    have hF13 := f_fr_up (k := 4) (r := upd (I 4) (n.toInt.toNat) u) hF6 rfl
    refine And.intro (show f_in n 1600 from ⟨show 0 ≤ n.toInt from by omega, show n.toInt < 1600 from by omega⟩) ?_
    have hR21 := mR_a (k := 5) (j := n.toInt.toNat) (x := v) hR13 (show -1 ≤ v.toInt ∧ v.toInt ≤ 1599 from ⟨by omega, by omega⟩)
    have hF21 := f_fr_up (k := 5) (r := upd (I 5) (n.toInt.toNat) v) hF13 rfl
    refine And.intro (show f_in u 1600 from ⟨show 0 ≤ u.toInt from by omega, show u.toInt < 1600 from by omega⟩) ?_
    refine And.intro (show f_in v 1600 from ⟨show 0 ≤ v.toInt from by omega, show v.toInt < 1600 from by omega⟩) ?_
    intro z40 q40 _ hq40 hl40 hu40
    have hq40 : z40.toInt = (I 6 (u.toInt.toNat)).toInt + (I 6 (v.toInt.toNat)).toInt + 4294967296 * q40 := hq40
    try have hz40 : z40.toInt = (I 6 (u.toInt.toNat)).toInt + (I 6 (v.toInt.toNat)).toInt := by omega
    refine And.intro (show f_in n 1600 from ⟨show 0 ≤ n.toInt from by omega, show n.toInt < 1600 from by omega⟩) ?_
    have hR41 := mR_a (k := 6) (j := n.toInt.toNat) (x := z40) hR21 (by exact f_rng _)
    have hF41 := f_fr_up (k := 6) (r := upd (I 6) (n.toInt.toNat) z40) hF21 rfl
    have q41 : lvs I (va_up (va_up (va_up (va_up I 3 (upd (I 3) (n.toInt.toNat) g)) 4 (upd (I 4) (n.toInt.toNat) u)) 5 (upd (I 5) (n.toInt.toNat) v)) 6 (upd (I 6) (n.toInt.toNat) z40)) n.toInt.toNat ((I 6 u.toInt.toNat).toInt + (I 6 v.toInt.toNat).toInt) := ⟨z40, by omega, rfl⟩
    exact ⟨Int32.ofInt 0, (by intro q9 h9; simp only [List.mem_cons, List.not_mem_nil, or_false] at h9; rcases h9 with h9 | h9 | h9 | h9 | h9 | h9 <;> subst h9 <;> repeat (first | exact List.mem_cons_self | apply List.mem_cons_of_mem)), rfl, rfl, hR41, hF41, (show 0 ≤ (0 : Int) from by first | assumption | omega), (show (0 : Int) ≤ 5 from by first | assumption | omega), (show (upd (I 3) (n.toInt.toNat) g) = upd (I 3) n.toInt.toNat g from by first | assumption | omega | rfl), (show (upd (I 4) (n.toInt.toNat) u) = upd (I 4) n.toInt.toNat u from by first | assumption | omega | rfl), (show (upd (I 5) (n.toInt.toNat) v) = upd (I 5) n.toInt.toNat v from by first | assumption | omega | rfl), (show lvs I (va_up (va_up (va_up (va_up I 3 (upd (I 3) (n.toInt.toNat) g)) 4 (upd (I 4) (n.toInt.toNat) u)) 5 (upd (I 5) (n.toInt.toNat) v)) 6 (upd (I 6) (n.toInt.toNat) z40)) n.toInt.toNat ((I 6 u.toInt.toNat).toInt + (I 6 v.toInt.toNat).toInt) from by first | assumption | omega), (show (5 - (0 : Int)) < 6 from by omega)⟩
def tX12_putEnd : List (Instr × Nat) := [(.aload_n 0, 1), (.getfield 77, 3), (.aload_n 0, 1), (.getfield 385, 3), (.iload_n 1, 1), (.iastore, 1), (.aload_n 0, 1), (.getfield 113, 3), (.aload_n 0, 1), (.getfield 385, 3), (.iload_n 2, 1), (.bastore, 1), (.aload_n 0, 1), (.getfield 80, 3), (.aload_n 0, 1), (.getfield 385, 3), (.iload_n 3, 1), (.iastore, 1), (.iload_n 2, 1), (.ifCond .eq 16, 3), (.aload_n 0, 1), (.getfield 86, 3), (.iload_n 3, 1), (.aload_n 0, 1), (.getfield 385, 3), (.iastore, 1), (.goto 13, 3), (.aload_n 0, 1), (.getfield 89, 3), (.iload_n 3, 1), (.aload_n 0, 1), (.getfield 385, 3), (.iastore, 1), (.aload_n 0, 1), (.dup, 1), (.getfield 385, 3), (.iconst 1, 1), (.iadd, 1), (.putfield 385, 3), (.return_, 1)]
theorem tX12_putEnd_ok : f_chk cX12_putEnd 0 tX12_putEnd = true := by decide +kernel
def pX12_putEnd (av : List Value) (I : fM) (L : fN) : Prop := match av with
  | [.ref 0, .int k, .int g, .int t] => mR I ∧ (I 0 45).toInt ≤ 19 ∧ 0 ≤ t.toInt ∧ t.toInt ≤ 39
  | _ => False
def qX12_putEnd (av : List Value) (I : fM) (L : fN) (r : Value) (I' : fM) (L' : fN) : Prop := match av, r with
  | [.ref 0, .int k, .int g, .int t], .null => mR I' ∧ f_fo [45] I I' ∧ f_fr [0, 21, 22, 24, 25, 33] I I' ∧ L' = L ∧ (I' 0 45).toInt = (I 0 45).toInt + 1 ∧ I' 22 = upd (I 22) (I 0 45).toInt.toNat t ∧ I' 33 = upd (I 33) (I 0 45).toInt.toNat (vp_nar .boolean g) ∧ (g.toInt = 0 → I' 24 = I 24 ∧ I' 25 = upd (I 25) t.toInt.toNat (I 0 45)) ∧ (¬ g.toInt = 0 → I' 25 = I 25 ∧ I' 24 = upd (I 24) t.toInt.toNat (I 0 45))
  | _, _ => False
set_option maxHeartbeats 4000000 in
set_option maxRecDepth 100000 in
theorem mX12_putEnd {l : Launch} {a : Nat → Nat} {cy dC : Nat → ClassId} {dI : Nat → Nat → Nat} (hinj : ∀ i j, i < 71 → j < 71 → a i = a j → i = j) : f_Met (fun _ => True) l mY 71 a cy dC dI yX12_putEnd cX12_putEnd 4 0 0 pX12_putEnd qX12_putEnd := by
  refine f_met_of (f_Ec_T 71 a) hinj mY_hi (by decide) (fun av I L h => by unfold pX12_putEnd at h; split at h <;> first | exact Nat.le_of_ble_eq_true rfl | exact h.elim) ?_
  intro pP eP sP mP aP bP hP9 cP C av I L hp
  unfold pX12_putEnd at hp
  split at hp
  case h_2 => exact hp.elim
  case h_1 k g t =>
    obtain ⟨hR, p1, p2, p3⟩ := hp
    have hF0 : f_fr [0, 21, 22, 24, 25, 33] I I := f_fr_rf
    have hO0 : f_fo [45] I I := f_fo_rf
    refine f_wp_ok C f_cl flX12_ok fiX12_ok fjX12_ok (sn := none) (fun j h => by cases h) (cs := (fun _ => none)) (cz := (fun _ => none)) (fun j S h => by cases h) (fun j S h => by cases h) tX12_putEnd_ok (cut := (fun _ => none)) (fun t P h => by cases h) 37 0 tX12_putEnd tX12_putEnd_ok _ _ _ _ ?_
    have r5_1 : 0 ≤ (I 0 45).toInt ∧ (I 0 45).toInt ≤ 20 := hR 0 45
    refine And.intro (show f_in (I 0 45) 20 from ⟨show 0 ≤ (I 0 45).toInt from by omega, show (I 0 45).toInt < 20 from by omega⟩) ?_
    have hR9 := mR_a (k := 21) (j := (I 0 45).toInt.toNat) (x := k) hR (by exact f_rng _)
    have hF9 := f_fr_up (k := 21) (r := upd (I 21) ((I 0 45).toInt.toNat) k) hF0 rfl
    have hO9 := f_fo_ne (k := 21) (r := upd (I 21) ((I 0 45).toInt.toNat) k) hO0 (by decide)
    refine And.intro (show f_in (I 0 45) 20 from ⟨show 0 ≤ (I 0 45).toInt from by omega, show (I 0 45).toInt < 20 from by omega⟩) ?_
    have nb19 : 0 ≤ (vp_nar .boolean g).toInt ∧ (vp_nar .boolean g).toInt ≤ 1 := f_narb _
    have hR19 := mR_a (k := 33) (j := (I 0 45).toInt.toNat) (x := vp_nar .boolean g) hR9 (by exact f_rng _)
    have hF19 := f_fr_up (k := 33) (r := upd (I 33) ((I 0 45).toInt.toNat) (vp_nar .boolean g)) hF9 rfl
    have hO19 := f_fo_ne (k := 33) (r := upd (I 33) ((I 0 45).toInt.toNat) (vp_nar .boolean g)) hO9 (by decide)
    refine And.intro (show f_in (I 0 45) 20 from ⟨show 0 ≤ (I 0 45).toInt from by omega, show (I 0 45).toInt < 20 from by omega⟩) ?_
    have hR29 := mR_a (k := 22) (j := (I 0 45).toInt.toNat) (x := t) hR19 (show 0 ≤ t.toInt ∧ t.toInt ≤ 39 from ⟨by omega, by omega⟩)
    have hF29 := f_fr_up (k := 22) (r := upd (I 22) ((I 0 45).toInt.toNat) t) hF19 rfl
    have hO29 := f_fo_ne (k := 22) (r := upd (I 22) ((I 0 45).toInt.toNat) t) hO19 (by decide)
    apply And.intro
    · intro h31
      have h31 : g.toInt = 0 := h31
      refine And.intro (show f_in t 40 from ⟨show 0 ≤ t.toInt from by omega, show t.toInt < 40 from by omega⟩) ?_
      have hR56 := mR_a (k := 25) (j := t.toInt.toNat) (x := I 0 45) hR29 (show 0 ≤ (I 0 45).toInt ∧ (I 0 45).toInt ≤ 19 from ⟨by omega, by omega⟩)
      have hF56 := f_fr_up (k := 25) (r := upd (I 25) (t.toInt.toNat) (I 0 45)) hF29 rfl
      have hO56 := f_fo_ne (k := 25) (r := upd (I 25) (t.toInt.toNat) (I 0 45)) hO29 (by decide)
      intro z63 q63 _ hq63 hl63 hu63
      have hq63 : z63.toInt = (I 0 45).toInt + 1 + 4294967296 * q63 := hq63
      try have hz63 : z63.toInt = (I 0 45).toInt + 1 := by omega
      have hR64 := mR_f (k := 0) (j := 45) (x := z63) hR56 (show 0 ≤ z63.toInt ∧ z63.toInt ≤ 20 from ⟨by omega, by omega⟩)
      have hF64 := f_fr_up (k := 0) (r := va_up (I 0) 45 z63) hF56 rfl
      have hO64 := f_fo_up (j := 45) (x := z63) hO56 rfl
      exact ⟨hR64, hO64, hF64, rfl, (show z63.toInt = (I 0 45).toInt + 1 from by first | assumption | omega | rfl), (show (upd (I 22) ((I 0 45).toInt.toNat) t) = upd (I 22) (I 0 45).toInt.toNat t from by first | assumption | omega | rfl), (show (upd (I 33) ((I 0 45).toInt.toNat) (vp_nar .boolean g)) = upd (I 33) (I 0 45).toInt.toNat (vp_nar .boolean g) from by first | assumption | omega | rfl), (show (g.toInt = 0 → (I 24) = I 24 ∧ (upd (I 25) (t.toInt.toNat) (I 0 45)) = upd (I 25) t.toInt.toNat (I 0 45)) from fun h => by first | exact ⟨rfl, rfl⟩ | (exfalso; omega)), (show (¬ g.toInt = 0 → (upd (I 25) (t.toInt.toNat) (I 0 45)) = I 25 ∧ (I 24) = upd (I 24) t.toInt.toNat (I 0 45)) from fun h => by first | exact ⟨rfl, rfl⟩ | (exfalso; omega))⟩
    · intro h31
      have h31 : ¬ g.toInt = 0 := h31
      refine And.intro (show f_in t 40 from ⟨show 0 ≤ t.toInt from by omega, show t.toInt < 40 from by omega⟩) ?_
      have hR43 := mR_a (k := 24) (j := t.toInt.toNat) (x := I 0 45) hR29 (show 0 ≤ (I 0 45).toInt ∧ (I 0 45).toInt ≤ 19 from ⟨by omega, by omega⟩)
      have hF43 := f_fr_up (k := 24) (r := upd (I 24) (t.toInt.toNat) (I 0 45)) hF29 rfl
      have hO43 := f_fo_ne (k := 24) (r := upd (I 24) (t.toInt.toNat) (I 0 45)) hO29 (by decide)
      intro z63 q63 _ hq63 hl63 hu63
      have hq63 : z63.toInt = (I 0 45).toInt + 1 + 4294967296 * q63 := hq63
      try have hz63 : z63.toInt = (I 0 45).toInt + 1 := by omega
      have hR64 := mR_f (k := 0) (j := 45) (x := z63) hR43 (show 0 ≤ z63.toInt ∧ z63.toInt ≤ 20 from ⟨by omega, by omega⟩)
      have hF64 := f_fr_up (k := 0) (r := va_up (I 0) 45 z63) hF43 rfl
      have hO64 := f_fo_up (j := 45) (x := z63) hO43 rfl
      exact ⟨hR64, hO64, hF64, rfl, (show z63.toInt = (I 0 45).toInt + 1 from by first | assumption | omega | rfl), (show (upd (I 22) ((I 0 45).toInt.toNat) t) = upd (I 22) (I 0 45).toInt.toNat t from by first | assumption | omega | rfl), (show (upd (I 33) ((I 0 45).toInt.toNat) (vp_nar .boolean g)) = upd (I 33) (I 0 45).toInt.toNat (vp_nar .boolean g) from by first | assumption | omega | rfl), (show (g.toInt = 0 → (upd (I 24) (t.toInt.toNat) (I 0 45)) = I 24 ∧ (I 25) = upd (I 25) t.toInt.toNat (I 0 45)) from fun h => by first | exact ⟨rfl, rfl⟩ | (exfalso; omega)), (show (¬ g.toInt = 0 → (I 25) = I 25 ∧ (upd (I 24) (t.toInt.toNat) (I 0 45)) = upd (I 24) t.toInt.toNat (I 0 45)) from fun h => by first | exact ⟨rfl, rfl⟩ | (exfalso; omega))⟩
def tX12_isOf : List (Instr × Nat) := [(.aload_n 0, 1), (.getfield 20, 3), (.iload_n 1, 1), (.iaload, 1), (.iconst 1, 1), (.if_icmp .ne 12, 3), (.aload_n 0, 1), (.getfield 24, 3), (.iload_n 1, 1), (.iaload, 1), (.goto 9, 3), (.aload_n 0, 1), (.getfield 27, 3), (.iload_n 1, 1), (.iaload, 1), (.ireturn, 1)]
theorem tX12_isOf_ok : f_chk cX12_isOf 0 tX12_isOf = true := by decide +kernel
def pX12_isOf (av : List Value) (I : fM) (L : fN) : Prop := match av with
  | [.ref 0, .int n] => 0 ≤ n.toInt ∧ n.toInt ≤ 1599
  | _ => False
def qX12_isOf (av : List Value) (I : fM) (L : fN) (r : Value) (I' : fM) (L' : fN) : Prop := match av, r with
  | [.ref 0, .int n], .int x => I' = I ∧ L' = L ∧ ((I 3 n.toInt.toNat).toInt = 1 → x = I 4 n.toInt.toNat) ∧ (¬ (I 3 n.toInt.toNat).toInt = 1 → x = I 5 n.toInt.toNat)
  | _, _ => False
set_option maxHeartbeats 4000000 in
set_option maxRecDepth 100000 in
theorem mX12_isOf {l : Launch} {a : Nat → Nat} {cy dC : Nat → ClassId} {dI : Nat → Nat → Nat} (hinj : ∀ i j, i < 71 → j < 71 → a i = a j → i = j) : f_Met (fun _ => True) l mY 71 a cy dC dI yX12_isOf cX12_isOf 2 1 0 pX12_isOf qX12_isOf := by
  refine f_met_of (f_Ec_T 71 a) hinj mY_hi (by decide) (fun av I L h => by unfold pX12_isOf at h; split at h <;> first | exact Nat.le_of_ble_eq_true rfl | exact h.elim) ?_
  intro pP eP sP mP aP bP hP9 cP C av I L hp
  unfold pX12_isOf at hp
  split at hp
  case h_2 => exact hp.elim
  case h_1 n =>
    obtain ⟨p0, p1⟩ := hp
    refine f_wp_ok C f_cl flX12_ok fiX12_ok fjX12_ok (sn := none) (fun j h => by cases h) (cs := (fun _ => none)) (cz := (fun _ => none)) (fun j S h => by cases h) (fun j S h => by cases h) tX12_isOf_ok (cut := (fun _ => none)) (fun t P h => by cases h) 15 0 tX12_isOf tX12_isOf_ok _ _ _ _ ?_
    refine And.intro (show f_in n 1600 from ⟨show 0 ≤ n.toInt from by omega, show n.toInt < 1600 from by omega⟩) ?_
    apply And.intro
    · intro h7
      have h7 : ¬ (I 3 (n.toInt.toNat)).toInt = 1 := h7
      refine And.intro (show f_in n 1600 from ⟨show 0 ≤ n.toInt from by omega, show n.toInt < 1600 from by omega⟩) ?_
      exact ⟨rfl, rfl, (show ((I 3 n.toInt.toNat).toInt = 1 → (I 5 (n.toInt.toNat)) = I 4 n.toInt.toNat) from fun h => by first | rfl | (exfalso; omega)), (show (¬ (I 3 n.toInt.toNat).toInt = 1 → (I 5 (n.toInt.toNat)) = I 5 n.toInt.toNat) from fun h => by first | rfl | (exfalso; omega))⟩
    · intro h7
      have h7 : (I 3 (n.toInt.toNat)).toInt = 1 := h7
      refine And.intro (show f_in n 1600 from ⟨show 0 ≤ n.toInt from by omega, show n.toInt < 1600 from by omega⟩) ?_
      exact ⟨rfl, rfl, (show ((I 3 n.toInt.toNat).toInt = 1 → (I 4 (n.toInt.toNat)) = I 4 n.toInt.toNat) from fun h => by first | rfl | (exfalso; omega)), (show (¬ (I 3 n.toInt.toNat).toInt = 1 → (I 4 (n.toInt.toNat)) = I 5 n.toInt.toNat) from fun h => by first | rfl | (exfalso; omega))⟩
def tX12_wants : List (Instr × Nat) := [(.aload_n 0, 1), (.getfield 20, 3), (.iload_n 1, 1), (.iaload, 1), (.iconst 1, 1), (.if_icmp .ne 12, 3), (.aload_n 0, 1), (.getfield 27, 3), (.iload_n 1, 1), (.iaload, 1), (.goto 9, 3), (.aload_n 0, 1), (.getfield 24, 3), (.iload_n 1, 1), (.iaload, 1), (.ireturn, 1)]
theorem tX12_wants_ok : f_chk cX12_wants 0 tX12_wants = true := by decide +kernel
def pX12_wants (av : List Value) (I : fM) (L : fN) : Prop := match av with
  | [.ref 0, .int n] => 0 ≤ n.toInt ∧ n.toInt ≤ 1599
  | _ => False
def qX12_wants (av : List Value) (I : fM) (L : fN) (r : Value) (I' : fM) (L' : fN) : Prop := match av, r with
  | [.ref 0, .int n], .int x => I' = I ∧ L' = L ∧ ((I 3 n.toInt.toNat).toInt = 1 → x = I 5 n.toInt.toNat) ∧ (¬ (I 3 n.toInt.toNat).toInt = 1 → x = I 4 n.toInt.toNat)
  | _, _ => False
set_option maxHeartbeats 4000000 in
set_option maxRecDepth 100000 in
theorem mX12_wants {l : Launch} {a : Nat → Nat} {cy dC : Nat → ClassId} {dI : Nat → Nat → Nat} (hinj : ∀ i j, i < 71 → j < 71 → a i = a j → i = j) : f_Met (fun _ => True) l mY 71 a cy dC dI yX12_wants cX12_wants 2 1 0 pX12_wants qX12_wants := by
  refine f_met_of (f_Ec_T 71 a) hinj mY_hi (by decide) (fun av I L h => by unfold pX12_wants at h; split at h <;> first | exact Nat.le_of_ble_eq_true rfl | exact h.elim) ?_
  intro pP eP sP mP aP bP hP9 cP C av I L hp
  unfold pX12_wants at hp
  split at hp
  case h_2 => exact hp.elim
  case h_1 n =>
    obtain ⟨p0, p1⟩ := hp
    refine f_wp_ok C f_cl flX12_ok fiX12_ok fjX12_ok (sn := none) (fun j h => by cases h) (cs := (fun _ => none)) (cz := (fun _ => none)) (fun j S h => by cases h) (fun j S h => by cases h) tX12_wants_ok (cut := (fun _ => none)) (fun t P h => by cases h) 15 0 tX12_wants tX12_wants_ok _ _ _ _ ?_
    refine And.intro (show f_in n 1600 from ⟨show 0 ≤ n.toInt from by omega, show n.toInt < 1600 from by omega⟩) ?_
    apply And.intro
    · intro h7
      have h7 : ¬ (I 3 (n.toInt.toNat)).toInt = 1 := h7
      refine And.intro (show f_in n 1600 from ⟨show 0 ≤ n.toInt from by omega, show n.toInt < 1600 from by omega⟩) ?_
      exact ⟨rfl, rfl, (show ((I 3 n.toInt.toNat).toInt = 1 → (I 4 (n.toInt.toNat)) = I 5 n.toInt.toNat) from fun h => by first | rfl | (exfalso; omega)), (show (¬ (I 3 n.toInt.toNat).toInt = 1 → (I 4 (n.toInt.toNat)) = I 4 n.toInt.toNat) from fun h => by first | rfl | (exfalso; omega))⟩
    · intro h7
      have h7 : (I 3 (n.toInt.toNat)).toInt = 1 := h7
      refine And.intro (show f_in n 1600 from ⟨show 0 ≤ n.toInt from by omega, show n.toInt < 1600 from by omega⟩) ?_
      exact ⟨rfl, rfl, (show ((I 3 n.toInt.toNat).toInt = 1 → (I 5 (n.toInt.toNat)) = I 5 n.toInt.toNat) from fun h => by first | rfl | (exfalso; omega)), (show (¬ (I 3 n.toInt.toNat).toInt = 1 → (I 5 (n.toInt.toNat)) = I 4 n.toInt.toNat) from fun h => by first | rfl | (exfalso; omega))⟩
def tX12_freshNode : List (Instr × Nat) := [(.aload_n 0, 1), (.getfield 45, 3), (.aload_n 0, 1), (.getfield 294, 3), (.dup2, 1), (.iaload, 1), (.iconst 1, 1), (.iadd, 1), (.iastore, 1), (.sipush 260, 3), (.aload_n 0, 1), (.getfield 294, 3), (.imul, 1), (.aload_n 0, 1), (.getfield 45, 3), (.aload_n 0, 1), (.getfield 294, 3), (.iaload, 1), (.iadd, 1), (.iconst 1, 1), (.isub, 1), (.ireturn, 1)]
theorem tX12_freshNode_ok : f_chk cX12_freshNode 0 tX12_freshNode = true := by decide +kernel
def pX12_freshNode (av : List Value) (I : fM) (L : fN) : Prop := match av with
  | [.ref 0] => mR I ∧ (I 11 (I 0 25).toInt.toNat).toInt ≤ 259
  | _ => False
def qX12_freshNode (av : List Value) (I : fM) (L : fN) (r : Value) (I' : fM) (L' : fN) : Prop := match av, r with
  | [.ref 0], .int x => mR I' ∧ f_fr [11] I I' ∧ L' = L ∧ x.toInt = 260 * (I 0 25).toInt + (I 11 (I 0 25).toInt.toNat).toInt ∧ (I' 11 (I 0 25).toInt.toNat).toInt = (I 11 (I 0 25).toInt.toNat).toInt + 1 ∧ (∀ j : Nat, j ≠ (I 0 25).toInt.toNat → I' 11 j = I 11 j)
  | _, _ => False
set_option maxHeartbeats 4000000 in
set_option maxRecDepth 100000 in
theorem mX12_freshNode {l : Launch} {a : Nat → Nat} {cy dC : Nat → ClassId} {dI : Nat → Nat → Nat} (hinj : ∀ i j, i < 71 → j < 71 → a i = a j → i = j) : f_Met (fun _ => True) l mY 71 a cy dC dI yX12_freshNode cX12_freshNode 1 1 0 pX12_freshNode qX12_freshNode := by
  refine f_met_of (f_Ec_T 71 a) hinj mY_hi (by decide) (fun av I L h => by unfold pX12_freshNode at h; split at h <;> first | exact Nat.le_of_ble_eq_true rfl | exact h.elim) ?_
  intro pP eP sP mP aP bP hP9 cP C av I L hp
  unfold pX12_freshNode at hp
  split at hp
  case h_2 => exact hp.elim
  case h_1 =>
    obtain ⟨hR, p1⟩ := hp
    have hF0 : f_fr [11] I I := f_fr_rf
    refine f_wp_ok C f_cl flX12_ok fiX12_ok fjX12_ok (sn := none) (fun j h => by cases h) (cs := (fun _ => none)) (cz := (fun _ => none)) (fun j S h => by cases h) (fun j S h => by cases h) tX12_freshNode_ok (cut := (fun _ => none)) (fun t P h => by cases h) 25 0 tX12_freshNode tX12_freshNode_ok _ _ _ _ ?_
    have r5_1 : 0 ≤ (I 0 25).toInt ∧ (I 0 25).toInt ≤ 1 := hR 0 25
    refine And.intro (show f_in (I 0 25) 2 from ⟨show 0 ≤ (I 0 25).toInt from by omega, show (I 0 25).toInt < 2 from by omega⟩) ?_
    have r9_2 : 0 ≤ (I 11 ((I 0 25).toInt.toNat)).toInt ∧ (I 11 ((I 0 25).toInt.toNat)).toInt ≤ 260 := hR 11 ((I 0 25).toInt.toNat)
    intro z11 q11 _ hq11 hl11 hu11
    have hq11 : z11.toInt = (I 11 ((I 0 25).toInt.toNat)).toInt + 1 + 4294967296 * q11 := hq11
    try have hz11 : z11.toInt = (I 11 ((I 0 25).toInt.toNat)).toInt + 1 := by omega
    refine And.intro (show f_in (I 0 25) 2 from ⟨show 0 ≤ (I 0 25).toInt from by omega, show (I 0 25).toInt < 2 from by omega⟩) ?_
    have hR12 := mR_a (k := 11) (j := (I 0 25).toInt.toNat) (x := z11) hR (show 0 ≤ z11.toInt ∧ z11.toInt ≤ 260 from ⟨by omega, by omega⟩)
    have hF12 := f_fr_up (k := 11) (r := upd (I 11) ((I 0 25).toInt.toNat) z11) hF0 rfl
    have e13 : (upd (I 11) (I 0 25).toInt.toNat z11 (I 0 25).toInt.toNat).toInt = z11.toInt := by rw [pk_us]
    intro z20 q20 _ hq20 hl20 hu20
    have hq20 : z20.toInt = 260 * (I 0 25).toInt + 4294967296 * q20 := hq20
    try have hz20 : z20.toInt = 260 * (I 0 25).toInt := by omega
    refine And.intro (show f_in (I 0 25) 2 from ⟨show 0 ≤ (I 0 25).toInt from by omega, show (I 0 25).toInt < 2 from by omega⟩) ?_
    have r29_3 : 0 ≤ ((upd (I 11) ((I 0 25).toInt.toNat) z11) ((I 0 25).toInt.toNat)).toInt ∧ ((upd (I 11) ((I 0 25).toInt.toNat) z11) ((I 0 25).toInt.toNat)).toInt ≤ 260 := hR12 11 ((I 0 25).toInt.toNat)
    intro z30 q30 _ hq30 hl30 hu30
    have hq30 : z30.toInt = z20.toInt + ((upd (I 11) ((I 0 25).toInt.toNat) z11) ((I 0 25).toInt.toNat)).toInt + 4294967296 * q30 := hq30
    try have hz30 : z30.toInt = z20.toInt + ((upd (I 11) ((I 0 25).toInt.toNat) z11) ((I 0 25).toInt.toNat)).toInt := by omega
    intro z32 q32 _ hq32 hl32 hu32
    have hq32 : z32.toInt = z30.toInt - 1 + 4294967296 * q32 := hq32
    try have hz32 : z32.toInt = z30.toInt - 1 := by omega
    exact ⟨hR12, hF12, rfl, (show z32.toInt = 260 * (I 0 25).toInt + (I 11 (I 0 25).toInt.toNat).toInt from by first | assumption | omega | rfl), (show ((upd (I 11) ((I 0 25).toInt.toNat) z11) (I 0 25).toInt.toNat).toInt = (I 11 (I 0 25).toInt.toNat).toInt + 1 from by first | assumption | omega | rfl), (show (∀ j : Nat, j ≠ (I 0 25).toInt.toNat → (upd (I 11) ((I 0 25).toInt.toNat) z11) j = I 11 j) from fun j hj => by rw [pk_un hj])⟩
