def tX6_findTags : List (Instr × Nat) := [(.iload_n 1, 1), (.iconst 3, 1), (.imul, 1), (.iload_n 2, 1), (.iadd, 1), (.istore_n 3, 1), (.aload_n 0, 1), (.getfield 25, 3), (.iload_n 3, 1), (.iaload, 1), (.bipush (-2), 2), (.if_icmp .eq 4, 3), (.return_, 1), (.iload_n 2, 1), (.ifCond .ne 7, 3), (.iconst 0, 1), (.goto 16, 3), (.iload_n 2, 1), (.iconst 1, 1), (.isub, 1), (.aload_n 0, 1), (.getfield 31, 3), (.getfield 153, 3), (.invokestatic 156, 3), (.istore 4, 2), (.iload_n 2, 1), (.aload_n 0, 1), (.getfield 31, 3), (.getfield 153, 3), (.invokestatic 156, 3), (.istore 5, 2), (.iconst 0, 1), (.istore 6, 2), (.iload 4, 2), (.istore 7, 2), (.iload 7, 2), (.iload 5, 2), (.if_icmp .ge 67, 3), (.aload_n 0, 1), (.getfield 31, 3), (.bipush 42, 2), (.iload 7, 2), (.aload_n 0, 1), (.getfield 31, 3), (.getfield 153, 3), (.invokestatic 161, 3), (.iconst 0, 1), (.invokevirtual 164, 3), (.aload_n 0, 1), (.iload_n 1, 1), (.bipush 42, 2), (.iconst 1, 1), (.invokevirtual 168, 3), (.ifCond .eq 28, 3), (.aload_n 0, 1), (.getfield 28, 3), (.iload_n 3, 1), (.iload 6, 2), (.ifCond .ne 8, 3), (.iload 7, 2), (.goto 9, 3), (.aload_n 0, 1), (.getfield 28, 3), (.iload_n 3, 1), (.iaload, 1), (.iastore, 1), (.iinc 6 1, 3), (.iinc 7 1, 3), (.goto (-68), 3), (.aload_n 0, 1), (.getfield 25, 3), (.iload_n 3, 1), (.iload 6, 2), (.iastore, 1), (.return_, 1)]
theorem tX6_findTags_ok : f_chk cX6_findTags 0 tX6_findTags = true := by decide +kernel
def pX6_findTags (av : List Value) (I : fM) (L : fN) : Prop := match av with
  | [.ref 72, .int p, .int s] => xR I ∧ xO I ∧ xT I ∧ xS I ∧ 0 ≤ p.toInt ∧ p.toInt ≤ 7 ∧ 0 ≤ s.toInt ∧ s.toInt ≤ 2
  | _ => False
def qX6_findTags (av : List Value) (I : fM) (L : fN) (r : Value) (I' : fM) (L' : fN) : Prop := match av, r with
  | [.ref 72, .int p, .int s], .null => xR I' ∧ xO I' ∧ xT I' ∧ xS I' ∧ f_fr [25, 26, 27, 28, 31, 32, 33, 34, 35, 36, 37, 38, 39, 69, 16, 20, 21, 22, 23, 76, 77] I I' ∧ f_fr [17, 18, 19, 29, 30, 70] L L'
  | _, _ => False
set_option maxHeartbeats 4000000 in
set_option maxRecDepth 100000 in
theorem mX6_findTags {l : Launch} {a : Nat → Nat} {cy dC : Nat → ClassId} {dI : Nat → Nat → Nat} (hinj : ∀ i j, i < 80 → j < 80 → a i = a j → i = j) : f_Met (xE a) l xY 80 a cy dC dI yX6_findTags cX6_findTags 8 0 37 pX6_findTags qX6_findTags := by
  refine f_met_of (xE_c a) hinj xY_hi (by decide) (fun av I L h => by unfold pX6_findTags at h; split at h <;> first | exact Nat.le_of_ble_eq_true rfl | exact h.elim) ?_
  intro pP eP sP mP aP bP hP9 cP C av I L hp
  unfold pX6_findTags at hp
  split at hp
  case h_2 => exact hp.elim
  case h_1 p s =>
    obtain ⟨hR, hxO, hxT, hxS, p4, p5, p6, p7⟩ := hp
    have hK : 0 ≤ (I 15 9).toInt ∧ (I 15 9).toInt ≤ 5 := hR 15 9
    have hkk : 0 ≤ (I 15 9).toInt * (I 15 9).toInt := Int.mul_nonneg hK.1 hK.1
    have hkkk : 0 ≤ (I 15 9).toInt * (I 15 9).toInt * (I 15 9).toInt := Int.mul_nonneg hkk hK.1
    have hF0 : f_fr [25, 26, 27, 28, 31, 32, 33, 34, 35, 36, 37, 38, 39, 69, 16, 20, 21, 22, 23, 76, 77] I I := f_fr_rf
    have hG0 : f_fr [17, 18, 19, 29, 30, 70] L L := f_fr_rf
    have lp61 : ∀ (n61 : Nat), ∀ (i : Int32) (fr : Int32) (t : Int32) (fd : Int32) (n : Int32) (J61 : fM) (M61 : fN), xR J61 ∧ f_fr [25, 26, 27, 28, 31, 32, 33, 34, 35, 36, 37, 38, 39, 69, 16, 20, 21, 22, 23, 76, 77] I J61 ∧ f_fr [17, 18, 19, 29, 30, 70] L M61 ∧ xO J61 ∧ xT J61 ∧ xS J61 ∧ (0 ≤ i.toInt) ∧ (i.toInt ≤ 23) ∧ (t.toInt ≤ (I 15 9).toInt + 2 * ((I 15 9).toInt * (I 15 9).toInt) + 8 * ((I 15 9).toInt * (I 15 9).toInt * (I 15 9).toInt)) ∧ (1 ≤ (I 15 9).toInt ∨ t.toInt ≤ 0) ∧ (0 ≤ n.toInt) ∧ (n.toInt ≤ 2147483647) ∧ (t.toInt ≤ 2147483647) ∧ (2147483647 - n.toInt) < n61 → f_W pP l eP (f_rm 37) sP mP aP bP hP9 cP xY 80 a cy dC dI 8 (f_K 0 (qX6_findTags [.ref 72, .int p, .int s] I L)) 61 [(7, .int n), (6, .int fd), (5, .int t), (4, .int fr), (3, .int i), (2, .int s), (1, .int p), (0, .ref 72)] [] J61 M61 := by
      intro n61
      induction n61 with
      | zero =>
        intro i fr t fd n J61 M61 h9
        obtain ⟨hR61c, hF61c, hG61c, hxO61c, hxT61c, hxS61c, u61_1, u61_2, u61_3, u61_4, u61_5, u61_6, u61_7, hm61⟩ := h9
        omega
      | succ n61 ih61 =>
        intro i fr t fd n J61 M61 h9
        obtain ⟨hR61c, hF61c, hG61c, hxO61c, hxT61c, hxS61c, u61_1, u61_2, u61_3, u61_4, u61_5, u61_6, u61_7, hm61⟩ := h9
        refine f_wp_ok C f_cl flX6_ok fiX6_ok fjX6_ok (sn := none) (fun j h => by cases h) (cs := (f_cnl [(164, (4, 0, 3, pX3_open, qX3_open)), (168, (4, 3, 6, pX6_isSentenceIf, qX6_isSentenceIf))])) (cz := (f_cnl [(156, (2, 1, 0, pX8_howMany, qX8_howMany)), (161, (2, 1, 0, pX8_ofNumber, qX8_ofNumber))])) (f_cnl_of (P := fun j S => f_cok pP l eP (f_rm 37) sP mP aP bP hP9 cP xY 80 a cy dC dI 8 _ _ (.invokevirtual j) true S) (List.forall_mem_cons.mpr ⟨f_cokV C (mX3_open hinj) (ci := 3) rfl (List.forall_mem_cons.mpr ⟨(mlX6_ok _ (List.mem_of_getElem? (i := 25) rfl)), kc_X3_open⟩) (by decide +kernel) ⟨Nat.le_of_ble_eq_true rfl, Nat.le_of_ble_eq_true rfl⟩, List.forall_mem_cons.mpr ⟨f_cokV C (mX6_isSentenceIf hinj) (ci := 6) rfl (List.forall_mem_cons.mpr ⟨(mlX6_ok _ (List.mem_of_getElem? (i := 26) rfl)), kc_X6_isSentenceIf⟩) (by decide +kernel) ⟨Nat.le_of_ble_eq_true rfl, Nat.le_of_ble_eq_true rfl⟩, fun _ h => absurd h List.not_mem_nil⟩⟩)) (f_cnl_of (P := fun j S => f_cok pP l eP (f_rm 37) sP mP aP bP hP9 cP xY 80 a cy dC dI 8 _ _ (.invokestatic j) false S) (List.forall_mem_cons.mpr ⟨f_cokS C (mX8_howMany hinj) (List.forall_mem_cons.mpr ⟨(mlX6_ok _ (List.mem_of_getElem? (i := 23) rfl)), kc_X8_howMany⟩) (by decide +kernel) ⟨Nat.le_of_ble_eq_true rfl, Nat.le_of_ble_eq_true rfl⟩, List.forall_mem_cons.mpr ⟨f_cokS C (mX8_ofNumber hinj) (List.forall_mem_cons.mpr ⟨(mlX6_ok _ (List.mem_of_getElem? (i := 24) rfl)), kc_X8_ofNumber⟩) (by decide +kernel) ⟨Nat.le_of_ble_eq_true rfl, Nat.le_of_ble_eq_true rfl⟩, fun _ h => absurd h List.not_mem_nil⟩⟩)) tX6_findTags_ok (cut := (f_cnl [(61, (fun (ls' : fLs) (st' : List Value) (I' : fM) (L' : fN) => ∃ i : Int32, ∃ fr : Int32, ∃ t : Int32, ∃ fd : Int32, ∃ n : Int32, (∀ q ∈ ([(7, .int n), (6, .int fd), (5, .int t), (4, .int fr), (3, .int i), (2, .int s), (1, .int p), (0, .ref 72)] : fLs), q ∈ ls') ∧ st' = [] ∧ (xR I' ∧ f_fr [25, 26, 27, 28, 31, 32, 33, 34, 35, 36, 37, 38, 39, 69, 16, 20, 21, 22, 23, 76, 77] I I' ∧ f_fr [17, 18, 19, 29, 30, 70] L L' ∧ xO I' ∧ xT I' ∧ xS I' ∧ (0 ≤ i.toInt) ∧ (i.toInt ≤ 23) ∧ (t.toInt ≤ (I 15 9).toInt + 2 * ((I 15 9).toInt * (I 15 9).toInt) + 8 * ((I 15 9).toInt * (I 15 9).toInt * (I 15 9).toInt)) ∧ (1 ≤ (I 15 9).toInt ∨ t.toInt ≤ 0) ∧ (0 ≤ n.toInt) ∧ (n.toInt ≤ 2147483647) ∧ (t.toInt ≤ 2147483647) ∧ (2147483647 - n.toInt) < n61)))])) (f_cnl_of (P := fun (tQ : Nat) (P : fLs → List Value → fM → fN → Prop) => ∀ ls' st' I' L', P ls' st' I' L' → f_W pP l eP (f_rm 37) sP mP aP bP hP9 cP xY 80 a cy dC dI 8 (f_K 0 (qX6_findTags [.ref 72, .int p, .int s] I L)) tQ ls' st' I' L') (List.forall_mem_cons.mpr ⟨(fun ls' st' I' L' h => by obtain ⟨i, fr, t, fd, n, hs, e1, h9⟩ := h; rw [e1]; exact f_W_sub hs (ih61 i fr t fd n I' L' h9)), fun _ h => absurd h List.not_mem_nil⟩)) 35 61 (f_seek 61 0 tX6_findTags) (f_seek_ok 61 0 tX6_findTags tX6_findTags_ok) _ _ _ _ ?_
        apply And.intro
        · intro h65
          have h65 : t.toInt ≤ n.toInt := h65
          refine And.intro (show f_in i 24 from ⟨show 0 ≤ i.toInt from by omega, show i.toInt < 24 from by omega⟩) ?_
          have hR139 := xR_a (k := 76) (j := i.toInt.toNat) (x := fd) hR61c (by exact f_rng _)
          have hF139 := f_fr_up (k := 76) (r := upd (J61 76) (i.toInt.toNat) fd) hF61c rfl
          have hxO139 := f_dep_up xO_dep (k := 76) (r := upd (J61 76) (i.toInt.toNat) fd) hxO61c rfl
          have hxT139 := f_dep_up xT_dep (k := 76) (r := upd (J61 76) (i.toInt.toNat) fd) hxT61c rfl
          have hxS139 := f_dep_up xS_dep (k := 76) (r := upd (J61 76) (i.toInt.toNat) fd) hxS61c rfl
          exact ⟨hR139, hxO139, hxT139, hxS139, hF139, hG61c⟩
        · intro h65
          have h65 : n.toInt < t.toInt := h65
          have e68 : (J61 15 9).toInt = (I 15 9).toInt := congrArg Int32.toInt (congrFun (hF61c 15 rfl) 9)
          have r80_1 : 0 ≤ (J61 15 9).toInt ∧ (J61 15 9).toInt ≤ 5 := hR61c 15 9
          have e80_2 : (J61 15 9).toInt = (I 15 9).toInt := congrArg Int32.toInt (congrFun (hF61c 15 rfl) 9)
          refine And.intro ⟨(show 1 ≤ (J61 15 9).toInt from by first | assumption | omega), (show (J61 15 9).toInt ≤ 5 from by first | assumption | omega), (show 0 ≤ n.toInt from by first | assumption | omega), (show n.toInt < (J61 15 9).toInt + 2 * ((J61 15 9).toInt * (J61 15 9).toInt) + 8 * ((J61 15 9).toInt * (J61 15 9).toInt * (J61 15 9).toInt) from by rw [e68]; omega)⟩ ?_
          intro x83 I83 L83 hq83
          have hq83 : I83 = J61 ∧ L83 = M61 ∧ (∃ m, m ≤ 5 ∧ wfT x83 m) := hq83
          obtain ⟨eI83, eL83, c83_2⟩ := hq83
          replace eI83 := eI83.symm
          subst eI83
          replace eL83 := eL83.symm
          subst eL83
          refine And.intro ⟨hR61c, hxO61c, (show 0 ≤ (42 : Int) from by first | assumption | omega), (show (42 : Int) ≤ 52 from by first | assumption | omega), (c83_2.imp fun _ q => q.2)⟩ ?_
          intro I87 L87 hq87
          have hq87 : xR I87 ∧ xO I87 ∧ f_fr [16, 20, 21, 22, 23] J61 I87 ∧ f_fr [17, 18, 19] M61 L87 := hq87
          obtain ⟨c87_0, c87_1, c87_2, c87_3⟩ := hq87
          have hxT87 := f_dep_fr xT_dep hxT61c c87_2 rfl
          have hxS87 := f_dep_fr xS_dep hxS61c c87_2 rfl
          have hF87 := f_fr_tr hF61c c87_2 rfl
          have hG87 := f_fr_tr hG61c c87_3 rfl
          refine And.intro ⟨c87_0, c87_1, hxT87, hxS87, (show 0 ≤ (42 : Int) from by first | assumption | omega), (show (42 : Int) ≤ 52 from by first | assumption | omega), (show 0 ≤ (1 : Int) from by first | assumption | omega), (show (1 : Int) ≤ 3 from by first | assumption | omega), (show (42 : Int) + (1 : Int) ≤ 53 from by first | assumption | omega)⟩ ?_
          intro x95 I95 L95 hq95
          have hq95 : xR I95 ∧ xO I95 ∧ xT I95 ∧ xS I95 ∧ f_fr [25, 26, 27, 28, 31, 32, 33, 34, 35, 36, 37, 38, 39, 69] I87 I95 ∧ f_fr [29, 30, 70] L87 L95 ∧ ((x95.toInt = 0 ∨ x95.toInt = 1)) := hq95
          obtain ⟨c95_0, c95_1, c95_2, c95_3, c95_4, c95_5, c95_6⟩ := hq95
          have hF95 := f_fr_tr hF87 c95_4 rfl
          have hG95 := f_fr_tr hG87 c95_5 rfl
          apply And.intro
          · intro h98
            have h98 : x95.toInt = 0 := h98
            intro z126 q126 _ hq126 hl126 hu126
            have hq126 : z126.toInt = n.toInt + 1 + 4294967296 * q126 := hq126
            try have hz126 : z126.toInt = n.toInt + 1 := by omega
            exact ⟨i, fr, t, fd, z126, (by intro q9 h9; simp only [List.mem_cons, List.not_mem_nil, or_false] at h9; rcases h9 with h9 | h9 | h9 | h9 | h9 | h9 | h9 | h9 <;> subst h9 <;> repeat (first | exact List.mem_cons_self | apply List.mem_cons_of_mem)), rfl, c95_0, hF95, hG95, c95_1, c95_2, c95_3, (show 0 ≤ i.toInt from by first | assumption | omega), (show i.toInt ≤ 23 from by first | assumption | omega), (show t.toInt ≤ (I 15 9).toInt + 2 * ((I 15 9).toInt * (I 15 9).toInt) + 8 * ((I 15 9).toInt * (I 15 9).toInt * (I 15 9).toInt) from by first | assumption | omega), (show 1 ≤ (I 15 9).toInt ∨ t.toInt ≤ 0 from by first | assumption | omega), (show 0 ≤ z126.toInt from by first | assumption | omega), (show z126.toInt ≤ 2147483647 from by first | assumption | omega), (show t.toInt ≤ 2147483647 from by first | assumption | omega), (show (2147483647 - z126.toInt) < n61 from by omega)⟩
          · intro h98
            have h98 : ¬ x95.toInt = 0 := h98
            apply And.intro
            · intro h108
              have h108 : ¬ fd.toInt = 0 := h108
              refine And.intro (show f_in i 24 from ⟨show 0 ≤ i.toInt from by omega, show i.toInt < 24 from by omega⟩) ?_
              have e121_4 : (I95 77 (i.toInt.toNat)).toInt = (I87 77 (i.toInt.toNat)).toInt := congrArg Int32.toInt (congrFun (c95_4 77 rfl) (i.toInt.toNat))
              have e121_5 : (I87 77 (i.toInt.toNat)).toInt = (J61 77 (i.toInt.toNat)).toInt := congrArg Int32.toInt (congrFun (c87_2 77 rfl) (i.toInt.toNat))
              refine And.intro (show f_in i 24 from ⟨show 0 ≤ i.toInt from by omega, show i.toInt < 24 from by omega⟩) ?_
              have hR122 := xR_a (k := 77) (j := i.toInt.toNat) (x := I95 77 (i.toInt.toNat)) c95_0 (by exact f_rng _)
              have hF122 := f_fr_up (k := 77) (r := upd (I95 77) (i.toInt.toNat) (I95 77 (i.toInt.toNat))) hF95 rfl
              have hxO122 := f_dep_up xO_dep (k := 77) (r := upd (I95 77) (i.toInt.toNat) (I95 77 (i.toInt.toNat))) c95_1 rfl
              have hxT122 := f_dep_up xT_dep (k := 77) (r := upd (I95 77) (i.toInt.toNat) (I95 77 (i.toInt.toNat))) c95_2 rfl
              have hxS122 := f_dep_up xS_dep (k := 77) (r := upd (I95 77) (i.toInt.toNat) (I95 77 (i.toInt.toNat))) c95_3 rfl
              intro z123 q123 _ hq123 hl123 hu123
              have hq123 : z123.toInt = fd.toInt + 1 + 4294967296 * q123 := hq123
              try have hz123 : z123.toInt = fd.toInt + 1 := by omega
              intro z126 q126 _ hq126 hl126 hu126
              have hq126 : z126.toInt = n.toInt + 1 + 4294967296 * q126 := hq126
              try have hz126 : z126.toInt = n.toInt + 1 := by omega
              exact ⟨i, fr, t, z123, z126, (by intro q9 h9; simp only [List.mem_cons, List.not_mem_nil, or_false] at h9; rcases h9 with h9 | h9 | h9 | h9 | h9 | h9 | h9 | h9 <;> subst h9 <;> repeat (first | exact List.mem_cons_self | apply List.mem_cons_of_mem)), rfl, hR122, hF122, hG95, hxO122, hxT122, hxS122, (show 0 ≤ i.toInt from by first | assumption | omega), (show i.toInt ≤ 23 from by first | assumption | omega), (show t.toInt ≤ (I 15 9).toInt + 2 * ((I 15 9).toInt * (I 15 9).toInt) + 8 * ((I 15 9).toInt * (I 15 9).toInt * (I 15 9).toInt) from by first | assumption | omega), (show 1 ≤ (I 15 9).toInt ∨ t.toInt ≤ 0 from by first | assumption | omega), (show 0 ≤ z126.toInt from by first | assumption | omega), (show z126.toInt ≤ 2147483647 from by first | assumption | omega), (show t.toInt ≤ 2147483647 from by first | assumption | omega), (show (2147483647 - z126.toInt) < n61 from by omega)⟩
            · intro h108
              have h108 : fd.toInt = 0 := h108
              refine And.intro (show f_in i 24 from ⟨show 0 ≤ i.toInt from by omega, show i.toInt < 24 from by omega⟩) ?_
              have hR122 := xR_a (k := 77) (j := i.toInt.toNat) (x := n) c95_0 (by exact f_rng _)
              have hF122 := f_fr_up (k := 77) (r := upd (I95 77) (i.toInt.toNat) n) hF95 rfl
              have hxO122 := f_dep_up xO_dep (k := 77) (r := upd (I95 77) (i.toInt.toNat) n) c95_1 rfl
              have hxT122 := f_dep_up xT_dep (k := 77) (r := upd (I95 77) (i.toInt.toNat) n) c95_2 rfl
              have hxS122 := f_dep_up xS_dep (k := 77) (r := upd (I95 77) (i.toInt.toNat) n) c95_3 rfl
              intro z123 q123 _ hq123 hl123 hu123
              have hq123 : z123.toInt = fd.toInt + 1 + 4294967296 * q123 := hq123
              try have hz123 : z123.toInt = fd.toInt + 1 := by omega
              intro z126 q126 _ hq126 hl126 hu126
              have hq126 : z126.toInt = n.toInt + 1 + 4294967296 * q126 := hq126
              try have hz126 : z126.toInt = n.toInt + 1 := by omega
              exact ⟨i, fr, t, z123, z126, (by intro q9 h9; simp only [List.mem_cons, List.not_mem_nil, or_false] at h9; rcases h9 with h9 | h9 | h9 | h9 | h9 | h9 | h9 | h9 <;> subst h9 <;> repeat (first | exact List.mem_cons_self | apply List.mem_cons_of_mem)), rfl, hR122, hF122, hG95, hxO122, hxT122, hxS122, (show 0 ≤ i.toInt from by first | assumption | omega), (show i.toInt ≤ 23 from by first | assumption | omega), (show t.toInt ≤ (I 15 9).toInt + 2 * ((I 15 9).toInt * (I 15 9).toInt) + 8 * ((I 15 9).toInt * (I 15 9).toInt * (I 15 9).toInt) from by first | assumption | omega), (show 1 ≤ (I 15 9).toInt ∨ t.toInt ≤ 0 from by first | assumption | omega), (show 0 ≤ z126.toInt from by first | assumption | omega), (show z126.toInt ≤ 2147483647 from by first | assumption | omega), (show t.toInt ≤ 2147483647 from by first | assumption | omega), (show (2147483647 - z126.toInt) < n61 from by omega)⟩
    refine f_wp_ok C f_cl flX6_ok fiX6_ok fjX6_ok (sn := none) (fun j h => by cases h) (cs := (f_cnl [(164, (4, 0, 3, pX3_open, qX3_open)), (168, (4, 3, 6, pX6_isSentenceIf, qX6_isSentenceIf))])) (cz := (f_cnl [(156, (2, 1, 0, pX8_howMany, qX8_howMany)), (161, (2, 1, 0, pX8_ofNumber, qX8_ofNumber))])) (f_cnl_of (P := fun j S => f_cok pP l eP (f_rm 37) sP mP aP bP hP9 cP xY 80 a cy dC dI 8 _ _ (.invokevirtual j) true S) (List.forall_mem_cons.mpr ⟨f_cokV C (mX3_open hinj) (ci := 3) rfl (List.forall_mem_cons.mpr ⟨(mlX6_ok _ (List.mem_of_getElem? (i := 25) rfl)), kc_X3_open⟩) (by decide +kernel) ⟨Nat.le_of_ble_eq_true rfl, Nat.le_of_ble_eq_true rfl⟩, List.forall_mem_cons.mpr ⟨f_cokV C (mX6_isSentenceIf hinj) (ci := 6) rfl (List.forall_mem_cons.mpr ⟨(mlX6_ok _ (List.mem_of_getElem? (i := 26) rfl)), kc_X6_isSentenceIf⟩) (by decide +kernel) ⟨Nat.le_of_ble_eq_true rfl, Nat.le_of_ble_eq_true rfl⟩, fun _ h => absurd h List.not_mem_nil⟩⟩)) (f_cnl_of (P := fun j S => f_cok pP l eP (f_rm 37) sP mP aP bP hP9 cP xY 80 a cy dC dI 8 _ _ (.invokestatic j) false S) (List.forall_mem_cons.mpr ⟨f_cokS C (mX8_howMany hinj) (List.forall_mem_cons.mpr ⟨(mlX6_ok _ (List.mem_of_getElem? (i := 23) rfl)), kc_X8_howMany⟩) (by decide +kernel) ⟨Nat.le_of_ble_eq_true rfl, Nat.le_of_ble_eq_true rfl⟩, List.forall_mem_cons.mpr ⟨f_cokS C (mX8_ofNumber hinj) (List.forall_mem_cons.mpr ⟨(mlX6_ok _ (List.mem_of_getElem? (i := 24) rfl)), kc_X8_ofNumber⟩) (by decide +kernel) ⟨Nat.le_of_ble_eq_true rfl, Nat.le_of_ble_eq_true rfl⟩, fun _ h => absurd h List.not_mem_nil⟩⟩)) tX6_findTags_ok (cut := (f_cnl [(61, (fun (ls' : fLs) (st' : List Value) (I' : fM) (L' : fN) => ∃ i : Int32, ∃ fr : Int32, ∃ t : Int32, ∃ fd : Int32, ∃ n : Int32, (∀ q ∈ ([(7, .int n), (6, .int fd), (5, .int t), (4, .int fr), (3, .int i), (2, .int s), (1, .int p), (0, .ref 72)] : fLs), q ∈ ls') ∧ st' = [] ∧ (xR I' ∧ f_fr [25, 26, 27, 28, 31, 32, 33, 34, 35, 36, 37, 38, 39, 69, 16, 20, 21, 22, 23, 76, 77] I I' ∧ f_fr [17, 18, 19, 29, 30, 70] L L' ∧ xO I' ∧ xT I' ∧ xS I' ∧ (0 ≤ i.toInt) ∧ (i.toInt ≤ 23) ∧ (t.toInt ≤ (I 15 9).toInt + 2 * ((I 15 9).toInt * (I 15 9).toInt) + 8 * ((I 15 9).toInt * (I 15 9).toInt * (I 15 9).toInt)) ∧ (1 ≤ (I 15 9).toInt ∨ t.toInt ≤ 0) ∧ (0 ≤ n.toInt) ∧ (n.toInt ≤ 2147483647) ∧ (t.toInt ≤ 2147483647) ∧ (2147483647 - n.toInt) < 2147483648)))])) (f_cnl_of (P := fun (tQ : Nat) (P : fLs → List Value → fM → fN → Prop) => ∀ ls' st' I' L', P ls' st' I' L' → f_W pP l eP (f_rm 37) sP mP aP bP hP9 cP xY 80 a cy dC dI 8 (f_K 0 (qX6_findTags [.ref 72, .int p, .int s] I L)) tQ ls' st' I' L') (List.forall_mem_cons.mpr ⟨(fun ls' st' I' L' h => by obtain ⟨i, fr, t, fd, n, hs, e1, h9⟩ := h; rw [e1]; exact f_W_sub hs (lp61 2147483648 i fr t fd n I' L' h9)), fun _ h => absurd h List.not_mem_nil⟩)) 35 0 tX6_findTags tX6_findTags_ok _ _ _ _ ?_
    intro z2 q2 _ hq2 hl2 hu2
    have hq2 : z2.toInt = p.toInt * 3 + 4294967296 * q2 := hq2
    try have hz2 : z2.toInt = p.toInt * 3 := by omega
    intro z4 q4 _ hq4 hl4 hu4
    have hq4 : z4.toInt = z2.toInt + s.toInt + 4294967296 * q4 := hq4
    try have hz4 : z4.toInt = z2.toInt + s.toInt := by omega
    refine And.intro (show f_in z4 24 from ⟨show 0 ≤ z4.toInt from by omega, show z4.toInt < 24 from by omega⟩) ?_
    apply And.intro
    · intro h14
      have h14 : (I 76 (z4.toInt.toNat)).toInt = (-2) := h14
      apply And.intro
      · intro h19
        have h19 : ¬ s.toInt = 0 := h19
        intro z28 q28 _ hq28 hl28 hu28
        have hq28 : z28.toInt = s.toInt - 1 + 4294967296 * q28 := hq28
        try have hz28 : z28.toInt = s.toInt - 1 := by omega
        have r33_2 : 0 ≤ (I 15 9).toInt ∧ (I 15 9).toInt ≤ 5 := hR 15 9
        refine And.intro ⟨(show 0 ≤ (I 15 9).toInt from by first | assumption | omega), (show (I 15 9).toInt ≤ 5 from by first | assumption | omega)⟩ ?_
        intro x36 I36 L36 hq36
        have hq36 : I36 = I ∧ L36 = L ∧ ((z28.toInt = 0 → x36.toInt = (I 15 9).toInt)) ∧ ((z28.toInt = 1 → x36.toInt = (I 15 9).toInt + 2 * ((I 15 9).toInt * (I 15 9).toInt))) ∧ ((¬ z28.toInt = 0 → ¬ z28.toInt = 1 → x36.toInt = (I 15 9).toInt + 2 * ((I 15 9).toInt * (I 15 9).toInt) + 8 * ((I 15 9).toInt * (I 15 9).toInt * (I 15 9).toInt))) := hq36
        obtain ⟨eI36, eL36, c36_2, c36_3, c36_4⟩ := hq36
        replace eI36 := eI36.symm
        subst eI36
        replace eL36 := eL36.symm
        subst eL36
        have f36 : 0 ≤ x36.toInt := by
          rcases (show z28.toInt = 0 ∨ z28.toInt = 1 by omega) with q | q
          · rw [c36_2 q]; omega
          · rw [c36_3 q]; omega
        have g36 := f_rng x36
        refine And.intro ⟨(show 0 ≤ (I 15 9).toInt from by first | assumption | omega), (show (I 15 9).toInt ≤ 5 from by first | assumption | omega)⟩ ?_
        intro x49 I49 L49 hq49
        have hq49 : I49 = I ∧ L49 = L ∧ ((s.toInt = 0 → x49.toInt = (I 15 9).toInt)) ∧ ((s.toInt = 1 → x49.toInt = (I 15 9).toInt + 2 * ((I 15 9).toInt * (I 15 9).toInt))) ∧ ((¬ s.toInt = 0 → ¬ s.toInt = 1 → x49.toInt = (I 15 9).toInt + 2 * ((I 15 9).toInt * (I 15 9).toInt) + 8 * ((I 15 9).toInt * (I 15 9).toInt * (I 15 9).toInt))) := hq49
        obtain ⟨eI49, eL49, c49_2, c49_3, c49_4⟩ := hq49
        replace eI49 := eI49.symm
        subst eI49
        replace eL49 := eL49.symm
        subst eL49
        have g49 := f_rng x49
        have f49 : x49.toInt ≤ (I 15 9).toInt + 2 * ((I 15 9).toInt * (I 15 9).toInt) + 8 * ((I 15 9).toInt * (I 15 9).toInt * (I 15 9).toInt) := by
          rcases (show s.toInt = 0 ∨ s.toInt = 1 ∨ s.toInt = 2 by omega) with q | q | q
          · rw [c49_2 q]; omega
          · rw [c49_3 q]; omega
          · rw [c49_4 (by omega) (by omega)]; omega
        have e49 : 1 ≤ (I 15 9).toInt ∨ x49.toInt ≤ 0 := by
          rcases Int.lt_or_le (I 15 9).toInt 1 with w | w
          · have e : (I 15 9).toInt = 0 := by omega
            rw [e] at f49
            right; omega
          · exact Or.inl w
        exact ⟨z4, x36, x49, Int32.ofInt 0, x36, (by intro q9 h9; simp only [List.mem_cons, List.not_mem_nil, or_false] at h9; rcases h9 with h9 | h9 | h9 | h9 | h9 | h9 | h9 | h9 <;> subst h9 <;> repeat (first | exact List.mem_cons_self | apply List.mem_cons_of_mem)), rfl, hR, hF0, hG0, hxO, hxT, hxS, (show 0 ≤ z4.toInt from by first | assumption | omega), (show z4.toInt ≤ 23 from by first | assumption | omega), (show x49.toInt ≤ (I 15 9).toInt + 2 * ((I 15 9).toInt * (I 15 9).toInt) + 8 * ((I 15 9).toInt * (I 15 9).toInt * (I 15 9).toInt) from by first | assumption | omega), (show 1 ≤ (I 15 9).toInt ∨ x49.toInt ≤ 0 from by first | assumption | omega), (show 0 ≤ x36.toInt from by first | assumption | omega), (show x36.toInt ≤ 2147483647 from by first | assumption | omega), (show x49.toInt ≤ 2147483647 from by first | assumption | omega), (show (2147483647 - x36.toInt) < 2147483648 from by omega)⟩
      · intro h19
        have h19 : s.toInt = 0 := h19
        have r46_2 : 0 ≤ (I 15 9).toInt ∧ (I 15 9).toInt ≤ 5 := hR 15 9
        refine And.intro ⟨(show 0 ≤ (I 15 9).toInt from by first | assumption | omega), (show (I 15 9).toInt ≤ 5 from by first | assumption | omega)⟩ ?_
        intro x49 I49 L49 hq49
        have hq49 : I49 = I ∧ L49 = L ∧ ((s.toInt = 0 → x49.toInt = (I 15 9).toInt)) ∧ ((s.toInt = 1 → x49.toInt = (I 15 9).toInt + 2 * ((I 15 9).toInt * (I 15 9).toInt))) ∧ ((¬ s.toInt = 0 → ¬ s.toInt = 1 → x49.toInt = (I 15 9).toInt + 2 * ((I 15 9).toInt * (I 15 9).toInt) + 8 * ((I 15 9).toInt * (I 15 9).toInt * (I 15 9).toInt))) := hq49
        obtain ⟨eI49, eL49, c49_2, c49_3, c49_4⟩ := hq49
        replace eI49 := eI49.symm
        subst eI49
        replace eL49 := eL49.symm
        subst eL49
        have g49 := f_rng x49
        have f49 : x49.toInt ≤ (I 15 9).toInt + 2 * ((I 15 9).toInt * (I 15 9).toInt) + 8 * ((I 15 9).toInt * (I 15 9).toInt * (I 15 9).toInt) := by
          rcases (show s.toInt = 0 ∨ s.toInt = 1 ∨ s.toInt = 2 by omega) with q | q | q
          · rw [c49_2 q]; omega
          · rw [c49_3 q]; omega
          · rw [c49_4 (by omega) (by omega)]; omega
        have e49 : 1 ≤ (I 15 9).toInt ∨ x49.toInt ≤ 0 := by
          rcases Int.lt_or_le (I 15 9).toInt 1 with w | w
          · have e : (I 15 9).toInt = 0 := by omega
            rw [e] at f49
            right; omega
          · exact Or.inl w
        exact ⟨z4, Int32.ofInt 0, x49, Int32.ofInt 0, Int32.ofInt 0, (by intro q9 h9; simp only [List.mem_cons, List.not_mem_nil, or_false] at h9; rcases h9 with h9 | h9 | h9 | h9 | h9 | h9 | h9 | h9 <;> subst h9 <;> repeat (first | exact List.mem_cons_self | apply List.mem_cons_of_mem)), rfl, hR, hF0, hG0, hxO, hxT, hxS, (show 0 ≤ z4.toInt from by first | assumption | omega), (show z4.toInt ≤ 23 from by first | assumption | omega), (show x49.toInt ≤ (I 15 9).toInt + 2 * ((I 15 9).toInt * (I 15 9).toInt) + 8 * ((I 15 9).toInt * (I 15 9).toInt * (I 15 9).toInt) from by first | assumption | omega), (show 1 ≤ (I 15 9).toInt ∨ x49.toInt ≤ 0 from by first | assumption | omega), (show 0 ≤ (0 : Int) from by first | assumption | omega), (show (0 : Int) ≤ 2147483647 from by first | assumption | omega), (show x49.toInt ≤ 2147483647 from by first | assumption | omega), (show (2147483647 - (0 : Int)) < 2147483648 from by omega)⟩
    · intro h14
      have h14 : ¬ (I 76 (z4.toInt.toNat)).toInt = (-2) := h14
      exact ⟨hR, hxO, hxT, hxS, hF0, hG0⟩
def tX6_countTags : List (Instr × Nat) := [(.iconst 0, 1), (.istore_n 3, 1), (.iconst 0, 1), (.istore 4, 2), (.iload 4, 2), (.iload_n 2, 1), (.if_icmp .gt 30, 3), (.aload_n 0, 1), (.iload_n 1, 1), (.iload 4, 2), (.invokevirtual 149, 3), (.iload_n 3, 1), (.aload_n 0, 1), (.getfield 25, 3), (.iload_n 1, 1), (.iconst 3, 1), (.imul, 1), (.iload 4, 2), (.iadd, 1), (.iaload, 1), (.iadd, 1), (.istore_n 3, 1), (.iinc 4 1, 3), (.goto (-30), 3), (.iload_n 3, 1), (.ireturn, 1)]
theorem tX6_countTags_ok : f_chk cX6_countTags 0 tX6_countTags = true := by decide +kernel
def pX6_countTags (av : List Value) (I : fM) (L : fN) : Prop := match av with
  | [.ref 72, .int p, .int s] => xR I ∧ xO I ∧ xT I ∧ xS I ∧ 0 ≤ p.toInt ∧ p.toInt ≤ 7 ∧ 0 ≤ s.toInt ∧ s.toInt ≤ 2
  | _ => False
def qX6_countTags (av : List Value) (I : fM) (L : fN) (r : Value) (I' : fM) (L' : fN) : Prop := match av, r with
  | [.ref 72, .int p, .int s], .int x => xR I' ∧ xO I' ∧ xT I' ∧ xS I' ∧ f_fr [25, 26, 27, 28, 31, 32, 33, 34, 35, 36, 37, 38, 39, 69, 16, 20, 21, 22, 23, 76, 77] I I' ∧ f_fr [17, 18, 19, 29, 30, 70] L L'
  | _, _ => False
set_option maxHeartbeats 4000000 in
set_option maxRecDepth 100000 in
theorem mX6_countTags {l : Launch} {a : Nat → Nat} {cy dC : Nat → ClassId} {dI : Nat → Nat → Nat} (hinj : ∀ i j, i < 80 → j < 80 → a i = a j → i = j) : f_Met (xE a) l xY 80 a cy dC dI yX6_countTags cX6_countTags 5 1 38 pX6_countTags qX6_countTags := by
  refine f_met_of (xE_c a) hinj xY_hi (by decide) (fun av I L h => by unfold pX6_countTags at h; split at h <;> first | exact Nat.le_of_ble_eq_true rfl | exact h.elim) ?_
  intro pP eP sP mP aP bP hP9 cP C av I L hp
  unfold pX6_countTags at hp
  split at hp
  case h_2 => exact hp.elim
  case h_1 p s =>
    obtain ⟨hR, hxO, hxT, hxS, p4, p5, p6, p7⟩ := hp
    have hF0 : f_fr [25, 26, 27, 28, 31, 32, 33, 34, 35, 36, 37, 38, 39, 69, 16, 20, 21, 22, 23, 76, 77] I I := f_fr_rf
    have hG0 : f_fr [17, 18, 19, 29, 30, 70] L L := f_fr_rf
    have lp5 : ∀ (n5 : Nat), ∀ (f : Int32) (v : Int32) (J5 : fM) (M5 : fN), xR J5 ∧ f_fr [25, 26, 27, 28, 31, 32, 33, 34, 35, 36, 37, 38, 39, 69, 16, 20, 21, 22, 23, 76, 77] I J5 ∧ f_fr [17, 18, 19, 29, 30, 70] L M5 ∧ xO J5 ∧ xT J5 ∧ xS J5 ∧ (0 ≤ v.toInt) ∧ (v.toInt ≤ 3) ∧ (3 - v.toInt) < n5 → f_W pP l eP (f_rm 38) sP mP aP bP hP9 cP xY 80 a cy dC dI 5 (f_K 1 (qX6_countTags [.ref 72, .int p, .int s] I L)) 5 [(4, .int v), (3, .int f), (2, .int s), (1, .int p), (0, .ref 72)] [] J5 M5 := by
      intro n5
      induction n5 with
      | zero =>
        intro f v J5 M5 h9
        obtain ⟨hR5c, hF5c, hG5c, hxO5c, hxT5c, hxS5c, u5_1, u5_2, hm5⟩ := h9
        omega
      | succ n5 ih5 =>
        intro f v J5 M5 h9
        obtain ⟨hR5c, hF5c, hG5c, hxO5c, hxT5c, hxS5c, u5_1, u5_2, hm5⟩ := h9
        refine f_wp_ok C f_cl flX6_ok fiX6_ok fjX6_ok (sn := none) (fun j h => by cases h) (cs := (f_cnl [(149, (3, 0, 6, pX6_findTags, qX6_findTags))])) (cz := (fun _ => none)) (f_cnl_of (P := fun j S => f_cok pP l eP (f_rm 38) sP mP aP bP hP9 cP xY 80 a cy dC dI 5 _ _ (.invokevirtual j) true S) (List.forall_mem_cons.mpr ⟨f_cokV C (mX6_findTags hinj) (ci := 6) rfl (List.forall_mem_cons.mpr ⟨(mlX6_ok _ (List.mem_of_getElem? (i := 22) rfl)), kc_X6_findTags⟩) (by decide +kernel) ⟨Nat.le_of_ble_eq_true rfl, Nat.le_of_ble_eq_true rfl⟩, fun _ h => absurd h List.not_mem_nil⟩)) (fun j S h => by cases h) tX6_countTags_ok (cut := (f_cnl [(5, (fun (ls' : fLs) (st' : List Value) (I' : fM) (L' : fN) => ∃ f : Int32, ∃ v : Int32, (∀ q ∈ ([(4, .int v), (3, .int f), (2, .int s), (1, .int p), (0, .ref 72)] : fLs), q ∈ ls') ∧ st' = [] ∧ (xR I' ∧ f_fr [25, 26, 27, 28, 31, 32, 33, 34, 35, 36, 37, 38, 39, 69, 16, 20, 21, 22, 23, 76, 77] I I' ∧ f_fr [17, 18, 19, 29, 30, 70] L L' ∧ xO I' ∧ xT I' ∧ xS I' ∧ (0 ≤ v.toInt) ∧ (v.toInt ≤ 3) ∧ (3 - v.toInt) < n5)))])) (f_cnl_of (P := fun (tQ : Nat) (P : fLs → List Value → fM → fN → Prop) => ∀ ls' st' I' L', P ls' st' I' L' → f_W pP l eP (f_rm 38) sP mP aP bP hP9 cP xY 80 a cy dC dI 5 (f_K 1 (qX6_countTags [.ref 72, .int p, .int s] I L)) tQ ls' st' I' L') (List.forall_mem_cons.mpr ⟨(fun ls' st' I' L' h => by obtain ⟨f, v, hs, e1, h9⟩ := h; rw [e1]; exact f_W_sub hs (ih5 f v I' L' h9)), fun _ h => absurd h List.not_mem_nil⟩)) 23 5 (f_seek 5 0 tX6_countTags) (f_seek_ok 5 0 tX6_countTags tX6_countTags_ok) _ _ _ _ ?_
        apply And.intro
        · intro h8
          have h8 : s.toInt < v.toInt := h8
          exact ⟨hR5c, hxO5c, hxT5c, hxS5c, hF5c, hG5c⟩
        · intro h8
          have h8 : v.toInt ≤ s.toInt := h8
          refine And.intro ⟨hR5c, hxO5c, hxT5c, hxS5c, (show 0 ≤ p.toInt from by first | assumption | omega), (show p.toInt ≤ 7 from by first | assumption | omega), (show 0 ≤ v.toInt from by first | assumption | omega), (show v.toInt ≤ 2 from by first | assumption | omega)⟩ ?_
          intro I15 L15 hq15
          have hq15 : xR I15 ∧ xO I15 ∧ xT I15 ∧ xS I15 ∧ f_fr [25, 26, 27, 28, 31, 32, 33, 34, 35, 36, 37, 38, 39, 69, 16, 20, 21, 22, 23, 76, 77] J5 I15 ∧ f_fr [17, 18, 19, 29, 30, 70] M5 L15 := hq15
          obtain ⟨c15_0, c15_1, c15_2, c15_3, c15_4, c15_5⟩ := hq15
          have hF15 := f_fr_tr hF5c c15_4 rfl
          have hG15 := f_fr_tr hG5c c15_5 rfl
          intro z25 q25 _ hq25 hl25 hu25
          have hq25 : z25.toInt = p.toInt * 3 + 4294967296 * q25 := hq25
          try have hz25 : z25.toInt = p.toInt * 3 := by omega
          intro z28 q28 _ hq28 hl28 hu28
          have hq28 : z28.toInt = z25.toInt + v.toInt + 4294967296 * q28 := hq28
          try have hz28 : z28.toInt = z25.toInt + v.toInt := by omega
          refine And.intro (show f_in z28 24 from ⟨show 0 ≤ z28.toInt from by omega, show z28.toInt < 24 from by omega⟩) ?_
          intro z30 q30 _ hq30 hl30 hu30
          have hq30 : z30.toInt = f.toInt + (I15 76 (z28.toInt.toNat)).toInt + 4294967296 * q30 := hq30
          try have hz30 : z30.toInt = f.toInt + (I15 76 (z28.toInt.toNat)).toInt := by omega
          intro z32 q32 _ hq32 hl32 hu32
          have hq32 : z32.toInt = v.toInt + 1 + 4294967296 * q32 := hq32
          try have hz32 : z32.toInt = v.toInt + 1 := by omega
          exact ⟨z30, z32, (by intro q9 h9; simp only [List.mem_cons, List.not_mem_nil, or_false] at h9; rcases h9 with h9 | h9 | h9 | h9 | h9 <;> subst h9 <;> repeat (first | exact List.mem_cons_self | apply List.mem_cons_of_mem)), rfl, c15_0, hF15, hG15, c15_1, c15_2, c15_3, (show 0 ≤ z32.toInt from by first | assumption | omega), (show z32.toInt ≤ 3 from by first | assumption | omega), (show (3 - z32.toInt) < n5 from by omega)⟩
    refine f_wp_ok C f_cl flX6_ok fiX6_ok fjX6_ok (sn := none) (fun j h => by cases h) (cs := (f_cnl [(149, (3, 0, 6, pX6_findTags, qX6_findTags))])) (cz := (fun _ => none)) (f_cnl_of (P := fun j S => f_cok pP l eP (f_rm 38) sP mP aP bP hP9 cP xY 80 a cy dC dI 5 _ _ (.invokevirtual j) true S) (List.forall_mem_cons.mpr ⟨f_cokV C (mX6_findTags hinj) (ci := 6) rfl (List.forall_mem_cons.mpr ⟨(mlX6_ok _ (List.mem_of_getElem? (i := 22) rfl)), kc_X6_findTags⟩) (by decide +kernel) ⟨Nat.le_of_ble_eq_true rfl, Nat.le_of_ble_eq_true rfl⟩, fun _ h => absurd h List.not_mem_nil⟩)) (fun j S h => by cases h) tX6_countTags_ok (cut := (f_cnl [(5, (fun (ls' : fLs) (st' : List Value) (I' : fM) (L' : fN) => ∃ f : Int32, ∃ v : Int32, (∀ q ∈ ([(4, .int v), (3, .int f), (2, .int s), (1, .int p), (0, .ref 72)] : fLs), q ∈ ls') ∧ st' = [] ∧ (xR I' ∧ f_fr [25, 26, 27, 28, 31, 32, 33, 34, 35, 36, 37, 38, 39, 69, 16, 20, 21, 22, 23, 76, 77] I I' ∧ f_fr [17, 18, 19, 29, 30, 70] L L' ∧ xO I' ∧ xT I' ∧ xS I' ∧ (0 ≤ v.toInt) ∧ (v.toInt ≤ 3) ∧ (3 - v.toInt) < 4)))])) (f_cnl_of (P := fun (tQ : Nat) (P : fLs → List Value → fM → fN → Prop) => ∀ ls' st' I' L', P ls' st' I' L' → f_W pP l eP (f_rm 38) sP mP aP bP hP9 cP xY 80 a cy dC dI 5 (f_K 1 (qX6_countTags [.ref 72, .int p, .int s] I L)) tQ ls' st' I' L') (List.forall_mem_cons.mpr ⟨(fun ls' st' I' L' h => by obtain ⟨f, v, hs, e1, h9⟩ := h; rw [e1]; exact f_W_sub hs (lp5 4 f v I' L' h9)), fun _ h => absurd h List.not_mem_nil⟩)) 7 0 tX6_countTags tX6_countTags_ok _ _ _ _ ?_
    exact ⟨Int32.ofInt 0, Int32.ofInt 0, (by intro q9 h9; simp only [List.mem_cons, List.not_mem_nil, or_false] at h9; rcases h9 with h9 | h9 | h9 | h9 | h9 <;> subst h9 <;> repeat (first | exact List.mem_cons_self | apply List.mem_cons_of_mem)), rfl, hR, hF0, hG0, hxO, hxT, hxS, (show 0 ≤ (0 : Int) from by first | assumption | omega), (show (0 : Int) ≤ 3 from by first | assumption | omega), (show (3 - (0 : Int)) < 4 from by omega)⟩
def tX6_leastTag : List (Instr × Nat) := [(.iconst 0, 1), (.istore_n 3, 1), (.iload_n 3, 1), (.iload_n 2, 1), (.if_icmp .gt 39, 3), (.aload_n 0, 1), (.iload_n 1, 1), (.iload_n 3, 1), (.invokevirtual 149, 3), (.aload_n 0, 1), (.getfield 25, 3), (.iload_n 1, 1), (.iconst 3, 1), (.imul, 1), (.iload_n 3, 1), (.iadd, 1), (.iaload, 1), (.ifCond .le 14, 3), (.aload_n 0, 1), (.getfield 28, 3), (.iload_n 1, 1), (.iconst 3, 1), (.imul, 1), (.iload_n 3, 1), (.iadd, 1), (.iaload, 1), (.ireturn, 1), (.iinc 3 1, 3), (.goto (-38), 3), (.iconst (-1), 1), (.ireturn, 1)]
theorem tX6_leastTag_ok : f_chk cX6_leastTag 0 tX6_leastTag = true := by decide +kernel
def pX6_leastTag (av : List Value) (I : fM) (L : fN) : Prop := match av with
  | [.ref 72, .int p, .int s] => xR I ∧ xO I ∧ xT I ∧ xS I ∧ 0 ≤ p.toInt ∧ p.toInt ≤ 7 ∧ 0 ≤ s.toInt ∧ s.toInt ≤ 2
  | _ => False
def qX6_leastTag (av : List Value) (I : fM) (L : fN) (r : Value) (I' : fM) (L' : fN) : Prop := match av, r with
  | [.ref 72, .int p, .int s], .int x => xR I' ∧ xO I' ∧ xT I' ∧ xS I' ∧ f_fr [25, 26, 27, 28, 31, 32, 33, 34, 35, 36, 37, 38, 39, 69, 16, 20, 21, 22, 23, 76, 77] I I' ∧ f_fr [17, 18, 19, 29, 30, 70] L L'
  | _, _ => False
set_option maxHeartbeats 4000000 in
set_option maxRecDepth 100000 in
theorem mX6_leastTag {l : Launch} {a : Nat → Nat} {cy dC : Nat → ClassId} {dI : Nat → Nat → Nat} (hinj : ∀ i j, i < 80 → j < 80 → a i = a j → i = j) : f_Met (xE a) l xY 80 a cy dC dI yX6_leastTag cX6_leastTag 4 1 38 pX6_leastTag qX6_leastTag := by
  refine f_met_of (xE_c a) hinj xY_hi (by decide) (fun av I L h => by unfold pX6_leastTag at h; split at h <;> first | exact Nat.le_of_ble_eq_true rfl | exact h.elim) ?_
  intro pP eP sP mP aP bP hP9 cP C av I L hp
  unfold pX6_leastTag at hp
  split at hp
  case h_2 => exact hp.elim
  case h_1 p s =>
    obtain ⟨hR, hxO, hxT, hxS, p4, p5, p6, p7⟩ := hp
    have hF0 : f_fr [25, 26, 27, 28, 31, 32, 33, 34, 35, 36, 37, 38, 39, 69, 16, 20, 21, 22, 23, 76, 77] I I := f_fr_rf
    have hG0 : f_fr [17, 18, 19, 29, 30, 70] L L := f_fr_rf
    have lp2 : ∀ (n2 : Nat), ∀ (v : Int32) (J2 : fM) (M2 : fN), xR J2 ∧ f_fr [25, 26, 27, 28, 31, 32, 33, 34, 35, 36, 37, 38, 39, 69, 16, 20, 21, 22, 23, 76, 77] I J2 ∧ f_fr [17, 18, 19, 29, 30, 70] L M2 ∧ xO J2 ∧ xT J2 ∧ xS J2 ∧ (0 ≤ v.toInt) ∧ (v.toInt ≤ 3) ∧ (3 - v.toInt) < n2 → f_W pP l eP (f_rm 38) sP mP aP bP hP9 cP xY 80 a cy dC dI 4 (f_K 1 (qX6_leastTag [.ref 72, .int p, .int s] I L)) 2 [(3, .int v), (2, .int s), (1, .int p), (0, .ref 72)] [] J2 M2 := by
      intro n2
      induction n2 with
      | zero =>
        intro v J2 M2 h9
        obtain ⟨hR2c, hF2c, hG2c, hxO2c, hxT2c, hxS2c, u2_1, u2_2, hm2⟩ := h9
        omega
      | succ n2 ih2 =>
        intro v J2 M2 h9
        obtain ⟨hR2c, hF2c, hG2c, hxO2c, hxT2c, hxS2c, u2_1, u2_2, hm2⟩ := h9
        refine f_wp_ok C f_cl flX6_ok fiX6_ok fjX6_ok (sn := none) (fun j h => by cases h) (cs := (f_cnl [(149, (3, 0, 6, pX6_findTags, qX6_findTags))])) (cz := (fun _ => none)) (f_cnl_of (P := fun j S => f_cok pP l eP (f_rm 38) sP mP aP bP hP9 cP xY 80 a cy dC dI 4 _ _ (.invokevirtual j) true S) (List.forall_mem_cons.mpr ⟨f_cokV C (mX6_findTags hinj) (ci := 6) rfl (List.forall_mem_cons.mpr ⟨(mlX6_ok _ (List.mem_of_getElem? (i := 22) rfl)), kc_X6_findTags⟩) (by decide +kernel) ⟨Nat.le_of_ble_eq_true rfl, Nat.le_of_ble_eq_true rfl⟩, fun _ h => absurd h List.not_mem_nil⟩)) (fun j S h => by cases h) tX6_leastTag_ok (cut := (f_cnl [(2, (fun (ls' : fLs) (st' : List Value) (I' : fM) (L' : fN) => ∃ v : Int32, (∀ q ∈ ([(3, .int v), (2, .int s), (1, .int p), (0, .ref 72)] : fLs), q ∈ ls') ∧ st' = [] ∧ (xR I' ∧ f_fr [25, 26, 27, 28, 31, 32, 33, 34, 35, 36, 37, 38, 39, 69, 16, 20, 21, 22, 23, 76, 77] I I' ∧ f_fr [17, 18, 19, 29, 30, 70] L L' ∧ xO I' ∧ xT I' ∧ xS I' ∧ (0 ≤ v.toInt) ∧ (v.toInt ≤ 3) ∧ (3 - v.toInt) < n2)))])) (f_cnl_of (P := fun (tQ : Nat) (P : fLs → List Value → fM → fN → Prop) => ∀ ls' st' I' L', P ls' st' I' L' → f_W pP l eP (f_rm 38) sP mP aP bP hP9 cP xY 80 a cy dC dI 4 (f_K 1 (qX6_leastTag [.ref 72, .int p, .int s] I L)) tQ ls' st' I' L') (List.forall_mem_cons.mpr ⟨(fun ls' st' I' L' h => by obtain ⟨v, hs, e1, h9⟩ := h; rw [e1]; exact f_W_sub hs (ih2 v I' L' h9)), fun _ h => absurd h List.not_mem_nil⟩)) 28 2 (f_seek 2 0 tX6_leastTag) (f_seek_ok 2 0 tX6_leastTag tX6_leastTag_ok) _ _ _ _ ?_
        apply And.intro
        · intro h4
          have h4 : s.toInt < v.toInt := h4
          exact ⟨hR2c, hxO2c, hxT2c, hxS2c, hF2c, hG2c⟩
        · intro h4
          have h4 : v.toInt ≤ s.toInt := h4
          refine And.intro ⟨hR2c, hxO2c, hxT2c, hxS2c, (show 0 ≤ p.toInt from by first | assumption | omega), (show p.toInt ≤ 7 from by first | assumption | omega), (show 0 ≤ v.toInt from by first | assumption | omega), (show v.toInt ≤ 2 from by first | assumption | omega)⟩ ?_
          intro I10 L10 hq10
          have hq10 : xR I10 ∧ xO I10 ∧ xT I10 ∧ xS I10 ∧ f_fr [25, 26, 27, 28, 31, 32, 33, 34, 35, 36, 37, 38, 39, 69, 16, 20, 21, 22, 23, 76, 77] J2 I10 ∧ f_fr [17, 18, 19, 29, 30, 70] M2 L10 := hq10
          obtain ⟨c10_0, c10_1, c10_2, c10_3, c10_4, c10_5⟩ := hq10
          have hF10 := f_fr_tr hF2c c10_4 rfl
          have hG10 := f_fr_tr hG2c c10_5 rfl
          intro z19 q19 _ hq19 hl19 hu19
          have hq19 : z19.toInt = p.toInt * 3 + 4294967296 * q19 := hq19
          try have hz19 : z19.toInt = p.toInt * 3 := by omega
          intro z21 q21 _ hq21 hl21 hu21
          have hq21 : z21.toInt = z19.toInt + v.toInt + 4294967296 * q21 := hq21
          try have hz21 : z21.toInt = z19.toInt + v.toInt := by omega
          refine And.intro (show f_in z21 24 from ⟨show 0 ≤ z21.toInt from by omega, show z21.toInt < 24 from by omega⟩) ?_
          apply And.intro
          · intro h23
            have h23 : (I10 76 (z21.toInt.toNat)).toInt ≤ 0 := h23
            intro z37 q37 _ hq37 hl37 hu37
            have hq37 : z37.toInt = v.toInt + 1 + 4294967296 * q37 := hq37
            try have hz37 : z37.toInt = v.toInt + 1 := by omega
            exact ⟨z37, (by intro q9 h9; simp only [List.mem_cons, List.not_mem_nil, or_false] at h9; rcases h9 with h9 | h9 | h9 | h9 <;> subst h9 <;> repeat (first | exact List.mem_cons_self | apply List.mem_cons_of_mem)), rfl, c10_0, hF10, hG10, c10_1, c10_2, c10_3, (show 0 ≤ z37.toInt from by first | assumption | omega), (show z37.toInt ≤ 3 from by first | assumption | omega), (show (3 - z37.toInt) < n2 from by omega)⟩
          · intro h23
            have h23 : 0 < (I10 76 (z21.toInt.toNat)).toInt := h23
            intro z32 q32 _ hq32 hl32 hu32
            have hq32 : z32.toInt = p.toInt * 3 + 4294967296 * q32 := hq32
            try have hz32 : z32.toInt = p.toInt * 3 := by omega
            intro z34 q34 _ hq34 hl34 hu34
            have hq34 : z34.toInt = z32.toInt + v.toInt + 4294967296 * q34 := hq34
            try have hz34 : z34.toInt = z32.toInt + v.toInt := by omega
            refine And.intro (show f_in z34 24 from ⟨show 0 ≤ z34.toInt from by omega, show z34.toInt < 24 from by omega⟩) ?_
            exact ⟨c10_0, c10_1, c10_2, c10_3, hF10, hG10⟩
    refine f_wp_ok C f_cl flX6_ok fiX6_ok fjX6_ok (sn := none) (fun j h => by cases h) (cs := (f_cnl [(149, (3, 0, 6, pX6_findTags, qX6_findTags))])) (cz := (fun _ => none)) (f_cnl_of (P := fun j S => f_cok pP l eP (f_rm 38) sP mP aP bP hP9 cP xY 80 a cy dC dI 4 _ _ (.invokevirtual j) true S) (List.forall_mem_cons.mpr ⟨f_cokV C (mX6_findTags hinj) (ci := 6) rfl (List.forall_mem_cons.mpr ⟨(mlX6_ok _ (List.mem_of_getElem? (i := 22) rfl)), kc_X6_findTags⟩) (by decide +kernel) ⟨Nat.le_of_ble_eq_true rfl, Nat.le_of_ble_eq_true rfl⟩, fun _ h => absurd h List.not_mem_nil⟩)) (fun j S h => by cases h) tX6_leastTag_ok (cut := (f_cnl [(2, (fun (ls' : fLs) (st' : List Value) (I' : fM) (L' : fN) => ∃ v : Int32, (∀ q ∈ ([(3, .int v), (2, .int s), (1, .int p), (0, .ref 72)] : fLs), q ∈ ls') ∧ st' = [] ∧ (xR I' ∧ f_fr [25, 26, 27, 28, 31, 32, 33, 34, 35, 36, 37, 38, 39, 69, 16, 20, 21, 22, 23, 76, 77] I I' ∧ f_fr [17, 18, 19, 29, 30, 70] L L' ∧ xO I' ∧ xT I' ∧ xS I' ∧ (0 ≤ v.toInt) ∧ (v.toInt ≤ 3) ∧ (3 - v.toInt) < 4)))])) (f_cnl_of (P := fun (tQ : Nat) (P : fLs → List Value → fM → fN → Prop) => ∀ ls' st' I' L', P ls' st' I' L' → f_W pP l eP (f_rm 38) sP mP aP bP hP9 cP xY 80 a cy dC dI 4 (f_K 1 (qX6_leastTag [.ref 72, .int p, .int s] I L)) tQ ls' st' I' L') (List.forall_mem_cons.mpr ⟨(fun ls' st' I' L' h => by obtain ⟨v, hs, e1, h9⟩ := h; rw [e1]; exact f_W_sub hs (lp2 4 v I' L' h9)), fun _ h => absurd h List.not_mem_nil⟩)) 5 0 tX6_leastTag tX6_leastTag_ok _ _ _ _ ?_
    exact ⟨Int32.ofInt 0, (by intro q9 h9; simp only [List.mem_cons, List.not_mem_nil, or_false] at h9; rcases h9 with h9 | h9 | h9 | h9 <;> subst h9 <;> repeat (first | exact List.mem_cons_self | apply List.mem_cons_of_mem)), rfl, hR, hF0, hG0, hxO, hxT, hxS, (show 0 ≤ (0 : Int) from by first | assumption | omega), (show (0 : Int) ≤ 3 from by first | assumption | omega), (show (3 - (0 : Int)) < 4 from by omega)⟩
