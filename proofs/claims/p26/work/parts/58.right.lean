/-! what a tying means: from wanted things to given ones and on to their arguments -/
def uN (J : fM) : Prop := (∀ g : Nat, (g : Int) < (J 0 46).toInt → (J 42 g).toInt < (J 0 47).toInt) ∧ (∀ w : Nat, (w : Int) < (J 0 47).toInt → ¬ (w : Int) = (J 0 55).toInt → 0 ≤ (J 43 w).toInt ∧ (J 43 w).toInt < (J 0 46).toInt)
-- @invo uN [42, 43] [46, 47, 55]
theorem uN_dep : f_depo uN [42, 43] [46, 47, 55] := by
  intro I I' h ho hs
  unfold uN
  rw [h 42 rfl, h 43 rfl, ho 46 rfl, ho 47 rfl, ho 55 rfl]
  exact hs
def tX12_climbs : List (Instr × Nat) := [(.aload_n 0, 1), (.getfield 92, 3), (.iload_n 1, 1), (.iaload, 1), (.iconst (-1), 1), (.if_icmp .ne 7, 3), (.iconst 1, 1), (.goto 4, 3), (.iconst 0, 1), (.istore_n 2, 1), (.iload_n 2, 1), (.istore_n 3, 1), (.iload_n 1, 1), (.istore 4, 2), (.iconst 0, 1), (.istore 5, 2), (.iload 5, 2), (.aload_n 0, 1), (.getfield 379, 3), (.if_icmp .gt 71, 3), (.aload_n 0, 1), (.getfield 140, 3), (.iload 4, 2), (.iaload, 1), (.istore 6, 2), (.iload 6, 2), (.aload_n 0, 1), (.getfield 92, 3), (.iload_n 1, 1), (.iaload, 1), (.if_icmp .ne 9, 3), (.iload_n 3, 1), (.ifCond .ne 5, 3), (.iconst 1, 1), (.istore_n 2, 1), (.iload_n 3, 1), (.ifCond .ne 7, 3), (.iload_n 2, 1), (.ifCond .ne 11, 3), (.aload_n 0, 1), (.getfield 146, 3), (.iload 6, 2), (.iconst 1, 1), (.bastore, 1), (.iload 6, 2), (.aload_n 0, 1), (.getfield 413, 3), (.if_icmp .ne 5, 3), (.iload_n 2, 1), (.ireturn, 1), (.aload_n 0, 1), (.getfield 143, 3), (.iload 6, 2), (.iaload, 1), (.istore 4, 2), (.iinc 5 1, 3), (.goto (-74), 3), (.iconst 0, 1), (.ireturn, 1)]
theorem tX12_climbs_ok : f_chk cX12_climbs 0 tX12_climbs = true := by decide +kernel
def pX12_climbs (av : List Value) (I : fM) (L : fN) : Prop := match av with
  | [.ref 0, .int g] => mR I ∧ uN I ∧ 0 ≤ g.toInt ∧ g.toInt < (I 0 46).toInt
  | _ => False
def qX12_climbs (av : List Value) (I : fM) (L : fN) (r : Value) (I' : fM) (L' : fN) : Prop := match av, r with
  | [.ref 0, .int g], .int x => mR I' ∧ f_fr [44] I I' ∧ L' = L ∧ (x.toInt = 0 ∨ x.toInt = 1)
  | _, _ => False
set_option maxHeartbeats 40000000 in
set_option maxRecDepth 100000 in
theorem mX12_climbs {l : Launch} {a : Nat → Nat} {cy dC : Nat → ClassId} {dI : Nat → Nat → Nat} (hinj : ∀ i j, i < 71 → j < 71 → a i = a j → i = j) : f_Met (fun _ => True) l mY 71 a cy dC dI yX12_climbs cX12_climbs 7 3 0 pX12_climbs qX12_climbs := by
  refine f_met_of (f_Ec_T 71 a) hinj mY_hi (by decide) (fun av I L h => by unfold pX12_climbs at h; split at h <;> first | exact Nat.le_of_ble_eq_true rfl | exact h.elim) ?_
  intro pP eP sP mP aP bP hP9 cP C av I L hp
  unfold pX12_climbs at hp
  split at hp
  case h_2 => exact hp.elim
  case h_1 g =>
    obtain ⟨hR, huN, p2, p3⟩ := hp
    have hG : 0 ≤ (I 0 46).toInt ∧ (I 0 46).toInt ≤ 40 := hR 0 46
    have hF0 : f_fr [44] I I := f_fr_rf
    have lp24 : ∀ (n24 : Nat), ∀ (met : Int32) (word : Int32) (u : Int32) (turn : Int32) (J24 : fM), mR J24 ∧ f_fr [44] I J24 ∧ (met.toInt = 0 ∨ met.toInt = 1) ∧ (0 ≤ u.toInt) ∧ (u.toInt < (I 0 46).toInt) ∧ (0 ≤ turn.toInt) ∧ (turn.toInt ≤ (I 0 46).toInt + 1) ∧ (42 - turn.toInt) < n24 → f_W pP l eP (f_rm 0) sP mP aP bP hP9 cP mY 71 a cy dC dI 7 (f_K 3 (qX12_climbs [.ref 0, .int g] I L)) 24 [(5, .int turn), (4, .int u), (3, .int word), (2, .int met), (1, .int g), (0, .ref 0)] [] J24 L := by
      intro n24
      induction n24 with
      | zero =>
        intro met word u turn J24 h9
        obtain ⟨hR24c, hF24c, u24_1, u24_2, u24_3, u24_4, u24_5, hm24⟩ := h9
        omega
      | succ n24 ih24 =>
        intro met word u turn J24 h9
        obtain ⟨hR24c, hF24c, u24_1, u24_2, u24_3, u24_4, u24_5, hm24⟩ := h9
        refine f_wp_ok C f_cl flX12_ok fiX12_ok fjX12_ok (sn := none) (fun j h => by cases h) (cs := (fun _ => none)) (cz := (fun _ => none)) (fun j S h => by cases h) (fun j S h => by cases h) tX12_climbs_ok (cut := (f_cnl [(24, (fun (ls' : fLs) (st' : List Value) (I' : fM) (L' : fN) => ∃ met : Int32, ∃ word : Int32, ∃ u : Int32, ∃ turn : Int32, (∀ q ∈ ([(5, .int turn), (4, .int u), (3, .int word), (2, .int met), (1, .int g), (0, .ref 0)] : fLs), q ∈ ls') ∧ st' = [] ∧ L' = L ∧ (mR I' ∧ f_fr [44] I I' ∧ (met.toInt = 0 ∨ met.toInt = 1) ∧ (0 ≤ u.toInt) ∧ (u.toInt < (I 0 46).toInt) ∧ (0 ≤ turn.toInt) ∧ (turn.toInt ≤ (I 0 46).toInt + 1) ∧ (42 - turn.toInt) < n24)))])) (f_cnl_of (P := fun (tQ : Nat) (P : fLs → List Value → fM → fN → Prop) => ∀ ls' st' I' L', P ls' st' I' L' → f_W pP l eP (f_rm 0) sP mP aP bP hP9 cP mY 71 a cy dC dI 7 (f_K 3 (qX12_climbs [.ref 0, .int g] I L)) tQ ls' st' I' L') (List.forall_mem_cons.mpr ⟨(fun ls' st' I' L' h => by obtain ⟨met, word, u, turn, hs, e1, e3, h9⟩ := h; rw [e1, e3]; exact f_W_sub hs (ih24 met word u turn I' h9)), fun _ h => absurd h List.not_mem_nil⟩)) 38 24 (f_seek 24 0 tX12_climbs) (f_seek_ok 24 0 tX12_climbs tX12_climbs_ok) _ _ _ _ ?_
        have r27_1 : 0 ≤ (J24 0 46).toInt ∧ (J24 0 46).toInt ≤ 40 := hR24c 0 46
        have e27_2 : (J24 0 46).toInt = (I 0 46).toInt := congrArg Int32.toInt (congrFun (hF24c 0 rfl) 46)
        apply And.intro
        · intro h30
          have h30 : (J24 0 46).toInt < turn.toInt := h30
          exact ⟨Or.inl rfl, hR24c, hF24c, rfl, (show ((0 : Int) = 0 ∨ (0 : Int) = 1) from by first | assumption | omega | rfl)⟩
        · intro h30
          have h30 : turn.toInt ≤ (J24 0 46).toInt := h30
          have a33 : (J24 42 u.toInt.toNat).toInt < (I 0 47).toInt ∧ 0 ≤ (J24 42 u.toInt.toNat).toInt := by rw [hF24c 42 rfl]; exact ⟨huN.1 u.toInt.toNat (by omega), (hR 42 _).1⟩
          refine And.intro (show f_in u 40 from ⟨show 0 ≤ u.toInt from by omega, show u.toInt < 40 from by omega⟩) ?_
          have r39_3 : 0 ≤ (J24 42 (u.toInt.toNat)).toInt ∧ (J24 42 (u.toInt.toNat)).toInt ≤ 39 := hR24c 42 (u.toInt.toNat)
          have e39_4 : (J24 42 (u.toInt.toNat)).toInt = (I 42 (u.toInt.toNat)).toInt := congrArg Int32.toInt (congrFun (hF24c 42 rfl) (u.toInt.toNat))
          refine And.intro (show f_in g 40 from ⟨show 0 ≤ g.toInt from by omega, show g.toInt < 40 from by omega⟩) ?_
          have r49_5 : -1 ≤ (J24 26 (g.toInt.toNat)).toInt ∧ (J24 26 (g.toInt.toNat)).toInt ≤ 39 := hR24c 26 (g.toInt.toNat)
          have e49_6 : (J24 26 (g.toInt.toNat)).toInt = (I 26 (g.toInt.toNat)).toInt := congrArg Int32.toInt (congrFun (hF24c 26 rfl) (g.toInt.toNat))
          apply And.intro
          · intro h50
            have h50 : ¬ (J24 42 (u.toInt.toNat)).toInt = (J24 26 (g.toInt.toNat)).toInt := h50
            apply And.intro
            · intro h60
              have h60 : ¬ word.toInt = 0 := h60
              refine And.intro (show f_in (J24 42 (u.toInt.toNat)) 40 from ⟨show 0 ≤ (J24 42 (u.toInt.toNat)).toInt from by omega, show (J24 42 (u.toInt.toNat)).toInt < 40 from by omega⟩) ?_
              have hR74 := mR_a (k := 44) (j := (J24 42 (u.toInt.toNat)).toInt.toNat) (x := vp_nar .boolean (Int32.ofInt 1)) hR24c (by exact f_rng _)
              have hF74 := f_fr_up (k := 44) (r := upd (J24 44) ((J24 42 (u.toInt.toNat)).toInt.toNat) (vp_nar .boolean (Int32.ofInt 1))) hF24c rfl
              have r78_7 : 0 ≤ (J24 0 55).toInt ∧ (J24 0 55).toInt ≤ 39 := hR74 0 55
              have e78_8 : (J24 0 55).toInt = (I 0 55).toInt := congrArg Int32.toInt (congrFun (hF24c 0 rfl) 55)
              apply And.intro
              · intro h81
                have h81 : ¬ (J24 42 (u.toInt.toNat)).toInt = (J24 0 55).toInt := h81
                have b86 : 0 ≤ (J24 43 (J24 42 u.toInt.toNat).toInt.toNat).toInt ∧ (J24 43 (J24 42 u.toInt.toNat).toInt.toNat).toInt < (I 0 46).toInt := by
                  have e : (J24 0 55).toInt = (I 0 55).toInt := congrArg Int32.toInt (congrFun (hF24c 0 rfl) 55)
                  have q := huN.2 (J24 42 u.toInt.toNat).toInt.toNat (by omega) (by omega)
                  rw [hF24c 43 rfl]; exact q
                refine And.intro (show f_in (J24 42 (u.toInt.toNat)) 40 from ⟨show 0 ≤ (J24 42 (u.toInt.toNat)).toInt from by omega, show (J24 42 (u.toInt.toNat)).toInt < 40 from by omega⟩) ?_
                have r92_9 : -1 ≤ (J24 43 ((J24 42 (u.toInt.toNat)).toInt.toNat)).toInt ∧ (J24 43 ((J24 42 (u.toInt.toNat)).toInt.toNat)).toInt ≤ 39 := hR74 43 ((J24 42 (u.toInt.toNat)).toInt.toNat)
                have e92_10 : (J24 43 ((J24 42 (u.toInt.toNat)).toInt.toNat)).toInt = (I 43 ((J24 42 (u.toInt.toNat)).toInt.toNat)).toInt := congrArg Int32.toInt (congrFun (hF24c 43 rfl) ((J24 42 (u.toInt.toNat)).toInt.toNat))
                intro z95 q95 _ hq95 hl95 hu95
                have hq95 : z95.toInt = turn.toInt + 1 + 4294967296 * q95 := hq95
                try have hz95 : z95.toInt = turn.toInt + 1 := by omega
                exact ⟨met, word, J24 43 ((J24 42 (u.toInt.toNat)).toInt.toNat), z95, (by intro q9 h9; simp only [List.mem_cons, List.not_mem_nil, or_false] at h9; rcases h9 with h9 | h9 | h9 | h9 | h9 | h9 <;> subst h9 <;> repeat (first | exact List.mem_cons_self | apply List.mem_cons_of_mem)), rfl, rfl, hR74, hF74, (show met.toInt = 0 ∨ met.toInt = 1 from by first | assumption | omega | rfl), (show 0 ≤ (J24 43 ((J24 42 (u.toInt.toNat)).toInt.toNat)).toInt from by first | assumption | omega), (show (J24 43 ((J24 42 (u.toInt.toNat)).toInt.toNat)).toInt < (I 0 46).toInt from by first | assumption | omega), (show 0 ≤ z95.toInt from by first | assumption | omega), (show z95.toInt ≤ (I 0 46).toInt + 1 from by first | assumption | omega), (show (42 - z95.toInt) < n24 from by omega)⟩
              · intro h81
                have h81 : (J24 42 (u.toInt.toNat)).toInt = (J24 0 55).toInt := h81
                exact ⟨(f_b01 (show met.toInt = 0 ∨ met.toInt = 1 from by omega)), hR74, hF74, rfl, (show (met.toInt = 0 ∨ met.toInt = 1) from by first | assumption | omega | rfl)⟩
            · intro h60
              have h60 : word.toInt = 0 := h60
              apply And.intro
              · intro h64
                have h64 : ¬ met.toInt = 0 := h64
                have r78_7 : 0 ≤ (J24 0 55).toInt ∧ (J24 0 55).toInt ≤ 39 := hR24c 0 55
                have e78_8 : (J24 0 55).toInt = (I 0 55).toInt := congrArg Int32.toInt (congrFun (hF24c 0 rfl) 55)
                apply And.intro
                · intro h81
                  have h81 : ¬ (J24 42 (u.toInt.toNat)).toInt = (J24 0 55).toInt := h81
                  have b86 : 0 ≤ (J24 43 (J24 42 u.toInt.toNat).toInt.toNat).toInt ∧ (J24 43 (J24 42 u.toInt.toNat).toInt.toNat).toInt < (I 0 46).toInt := by
                    have e : (J24 0 55).toInt = (I 0 55).toInt := congrArg Int32.toInt (congrFun (hF24c 0 rfl) 55)
                    have q := huN.2 (J24 42 u.toInt.toNat).toInt.toNat (by omega) (by omega)
                    rw [hF24c 43 rfl]; exact q
                  refine And.intro (show f_in (J24 42 (u.toInt.toNat)) 40 from ⟨show 0 ≤ (J24 42 (u.toInt.toNat)).toInt from by omega, show (J24 42 (u.toInt.toNat)).toInt < 40 from by omega⟩) ?_
                  have r92_9 : -1 ≤ (J24 43 ((J24 42 (u.toInt.toNat)).toInt.toNat)).toInt ∧ (J24 43 ((J24 42 (u.toInt.toNat)).toInt.toNat)).toInt ≤ 39 := hR24c 43 ((J24 42 (u.toInt.toNat)).toInt.toNat)
                  have e92_10 : (J24 43 ((J24 42 (u.toInt.toNat)).toInt.toNat)).toInt = (I 43 ((J24 42 (u.toInt.toNat)).toInt.toNat)).toInt := congrArg Int32.toInt (congrFun (hF24c 43 rfl) ((J24 42 (u.toInt.toNat)).toInt.toNat))
                  intro z95 q95 _ hq95 hl95 hu95
                  have hq95 : z95.toInt = turn.toInt + 1 + 4294967296 * q95 := hq95
                  try have hz95 : z95.toInt = turn.toInt + 1 := by omega
                  exact ⟨met, word, J24 43 ((J24 42 (u.toInt.toNat)).toInt.toNat), z95, (by intro q9 h9; simp only [List.mem_cons, List.not_mem_nil, or_false] at h9; rcases h9 with h9 | h9 | h9 | h9 | h9 | h9 <;> subst h9 <;> repeat (first | exact List.mem_cons_self | apply List.mem_cons_of_mem)), rfl, rfl, hR24c, hF24c, (show met.toInt = 0 ∨ met.toInt = 1 from by first | assumption | omega | rfl), (show 0 ≤ (J24 43 ((J24 42 (u.toInt.toNat)).toInt.toNat)).toInt from by first | assumption | omega), (show (J24 43 ((J24 42 (u.toInt.toNat)).toInt.toNat)).toInt < (I 0 46).toInt from by first | assumption | omega), (show 0 ≤ z95.toInt from by first | assumption | omega), (show z95.toInt ≤ (I 0 46).toInt + 1 from by first | assumption | omega), (show (42 - z95.toInt) < n24 from by omega)⟩
                · intro h81
                  have h81 : (J24 42 (u.toInt.toNat)).toInt = (J24 0 55).toInt := h81
                  exact ⟨(f_b01 (show met.toInt = 0 ∨ met.toInt = 1 from by omega)), hR24c, hF24c, rfl, (show (met.toInt = 0 ∨ met.toInt = 1) from by first | assumption | omega | rfl)⟩
              · intro h64
                have h64 : met.toInt = 0 := h64
                refine And.intro (show f_in (J24 42 (u.toInt.toNat)) 40 from ⟨show 0 ≤ (J24 42 (u.toInt.toNat)).toInt from by omega, show (J24 42 (u.toInt.toNat)).toInt < 40 from by omega⟩) ?_
                have hR74 := mR_a (k := 44) (j := (J24 42 (u.toInt.toNat)).toInt.toNat) (x := vp_nar .boolean (Int32.ofInt 1)) hR24c (by exact f_rng _)
                have hF74 := f_fr_up (k := 44) (r := upd (J24 44) ((J24 42 (u.toInt.toNat)).toInt.toNat) (vp_nar .boolean (Int32.ofInt 1))) hF24c rfl
                have r78_7 : 0 ≤ (J24 0 55).toInt ∧ (J24 0 55).toInt ≤ 39 := hR74 0 55
                have e78_8 : (J24 0 55).toInt = (I 0 55).toInt := congrArg Int32.toInt (congrFun (hF24c 0 rfl) 55)
                apply And.intro
                · intro h81
                  have h81 : ¬ (J24 42 (u.toInt.toNat)).toInt = (J24 0 55).toInt := h81
                  have b86 : 0 ≤ (J24 43 (J24 42 u.toInt.toNat).toInt.toNat).toInt ∧ (J24 43 (J24 42 u.toInt.toNat).toInt.toNat).toInt < (I 0 46).toInt := by
                    have e : (J24 0 55).toInt = (I 0 55).toInt := congrArg Int32.toInt (congrFun (hF24c 0 rfl) 55)
                    have q := huN.2 (J24 42 u.toInt.toNat).toInt.toNat (by omega) (by omega)
                    rw [hF24c 43 rfl]; exact q
                  refine And.intro (show f_in (J24 42 (u.toInt.toNat)) 40 from ⟨show 0 ≤ (J24 42 (u.toInt.toNat)).toInt from by omega, show (J24 42 (u.toInt.toNat)).toInt < 40 from by omega⟩) ?_
                  have r92_9 : -1 ≤ (J24 43 ((J24 42 (u.toInt.toNat)).toInt.toNat)).toInt ∧ (J24 43 ((J24 42 (u.toInt.toNat)).toInt.toNat)).toInt ≤ 39 := hR74 43 ((J24 42 (u.toInt.toNat)).toInt.toNat)
                  have e92_10 : (J24 43 ((J24 42 (u.toInt.toNat)).toInt.toNat)).toInt = (I 43 ((J24 42 (u.toInt.toNat)).toInt.toNat)).toInt := congrArg Int32.toInt (congrFun (hF24c 43 rfl) ((J24 42 (u.toInt.toNat)).toInt.toNat))
                  intro z95 q95 _ hq95 hl95 hu95
                  have hq95 : z95.toInt = turn.toInt + 1 + 4294967296 * q95 := hq95
                  try have hz95 : z95.toInt = turn.toInt + 1 := by omega
                  exact ⟨met, word, J24 43 ((J24 42 (u.toInt.toNat)).toInt.toNat), z95, (by intro q9 h9; simp only [List.mem_cons, List.not_mem_nil, or_false] at h9; rcases h9 with h9 | h9 | h9 | h9 | h9 | h9 <;> subst h9 <;> repeat (first | exact List.mem_cons_self | apply List.mem_cons_of_mem)), rfl, rfl, hR74, hF74, (show met.toInt = 0 ∨ met.toInt = 1 from by first | assumption | omega | rfl), (show 0 ≤ (J24 43 ((J24 42 (u.toInt.toNat)).toInt.toNat)).toInt from by first | assumption | omega), (show (J24 43 ((J24 42 (u.toInt.toNat)).toInt.toNat)).toInt < (I 0 46).toInt from by first | assumption | omega), (show 0 ≤ z95.toInt from by first | assumption | omega), (show z95.toInt ≤ (I 0 46).toInt + 1 from by first | assumption | omega), (show (42 - z95.toInt) < n24 from by omega)⟩
                · intro h81
                  have h81 : (J24 42 (u.toInt.toNat)).toInt = (J24 0 55).toInt := h81
                  exact ⟨(f_b01 (show met.toInt = 0 ∨ met.toInt = 1 from by omega)), hR74, hF74, rfl, (show (met.toInt = 0 ∨ met.toInt = 1) from by first | assumption | omega | rfl)⟩
          · intro h50
            have h50 : (J24 42 (u.toInt.toNat)).toInt = (J24 26 (g.toInt.toNat)).toInt := h50
            apply And.intro
            · intro h54
              have h54 : ¬ word.toInt = 0 := h54
              apply And.intro
              · intro h60
                have h60 : ¬ word.toInt = 0 := h60
                refine And.intro (show f_in (J24 42 (u.toInt.toNat)) 40 from ⟨show 0 ≤ (J24 42 (u.toInt.toNat)).toInt from by omega, show (J24 42 (u.toInt.toNat)).toInt < 40 from by omega⟩) ?_
                have hR74 := mR_a (k := 44) (j := (J24 42 (u.toInt.toNat)).toInt.toNat) (x := vp_nar .boolean (Int32.ofInt 1)) hR24c (by exact f_rng _)
                have hF74 := f_fr_up (k := 44) (r := upd (J24 44) ((J24 42 (u.toInt.toNat)).toInt.toNat) (vp_nar .boolean (Int32.ofInt 1))) hF24c rfl
                have r78_7 : 0 ≤ (J24 0 55).toInt ∧ (J24 0 55).toInt ≤ 39 := hR74 0 55
                have e78_8 : (J24 0 55).toInt = (I 0 55).toInt := congrArg Int32.toInt (congrFun (hF24c 0 rfl) 55)
                apply And.intro
                · intro h81
                  have h81 : ¬ (J24 42 (u.toInt.toNat)).toInt = (J24 0 55).toInt := h81
                  have b86 : 0 ≤ (J24 43 (J24 42 u.toInt.toNat).toInt.toNat).toInt ∧ (J24 43 (J24 42 u.toInt.toNat).toInt.toNat).toInt < (I 0 46).toInt := by
                    have e : (J24 0 55).toInt = (I 0 55).toInt := congrArg Int32.toInt (congrFun (hF24c 0 rfl) 55)
                    have q := huN.2 (J24 42 u.toInt.toNat).toInt.toNat (by omega) (by omega)
                    rw [hF24c 43 rfl]; exact q
                  refine And.intro (show f_in (J24 42 (u.toInt.toNat)) 40 from ⟨show 0 ≤ (J24 42 (u.toInt.toNat)).toInt from by omega, show (J24 42 (u.toInt.toNat)).toInt < 40 from by omega⟩) ?_
                  have r92_9 : -1 ≤ (J24 43 ((J24 42 (u.toInt.toNat)).toInt.toNat)).toInt ∧ (J24 43 ((J24 42 (u.toInt.toNat)).toInt.toNat)).toInt ≤ 39 := hR74 43 ((J24 42 (u.toInt.toNat)).toInt.toNat)
                  have e92_10 : (J24 43 ((J24 42 (u.toInt.toNat)).toInt.toNat)).toInt = (I 43 ((J24 42 (u.toInt.toNat)).toInt.toNat)).toInt := congrArg Int32.toInt (congrFun (hF24c 43 rfl) ((J24 42 (u.toInt.toNat)).toInt.toNat))
                  intro z95 q95 _ hq95 hl95 hu95
                  have hq95 : z95.toInt = turn.toInt + 1 + 4294967296 * q95 := hq95
                  try have hz95 : z95.toInt = turn.toInt + 1 := by omega
                  exact ⟨met, word, J24 43 ((J24 42 (u.toInt.toNat)).toInt.toNat), z95, (by intro q9 h9; simp only [List.mem_cons, List.not_mem_nil, or_false] at h9; rcases h9 with h9 | h9 | h9 | h9 | h9 | h9 <;> subst h9 <;> repeat (first | exact List.mem_cons_self | apply List.mem_cons_of_mem)), rfl, rfl, hR74, hF74, (show met.toInt = 0 ∨ met.toInt = 1 from by first | assumption | omega | rfl), (show 0 ≤ (J24 43 ((J24 42 (u.toInt.toNat)).toInt.toNat)).toInt from by first | assumption | omega), (show (J24 43 ((J24 42 (u.toInt.toNat)).toInt.toNat)).toInt < (I 0 46).toInt from by first | assumption | omega), (show 0 ≤ z95.toInt from by first | assumption | omega), (show z95.toInt ≤ (I 0 46).toInt + 1 from by first | assumption | omega), (show (42 - z95.toInt) < n24 from by omega)⟩
                · intro h81
                  have h81 : (J24 42 (u.toInt.toNat)).toInt = (J24 0 55).toInt := h81
                  exact ⟨(f_b01 (show met.toInt = 0 ∨ met.toInt = 1 from by omega)), hR74, hF74, rfl, (show (met.toInt = 0 ∨ met.toInt = 1) from by first | assumption | omega | rfl)⟩
              · intro h60
                have h60 : word.toInt = 0 := h60
                exfalso
                omega
            · intro h54
              have h54 : word.toInt = 0 := h54
              apply And.intro
              · intro h60
                have h60 : ¬ word.toInt = 0 := h60
                exfalso
                omega
              · intro h60
                have h60 : word.toInt = 0 := h60
                apply And.intro
                · intro h64
                  have h64 : ¬ (1 : Int) = 0 := h64
                  have r78_7 : 0 ≤ (J24 0 55).toInt ∧ (J24 0 55).toInt ≤ 39 := hR24c 0 55
                  have e78_8 : (J24 0 55).toInt = (I 0 55).toInt := congrArg Int32.toInt (congrFun (hF24c 0 rfl) 55)
                  apply And.intro
                  · intro h81
                    have h81 : ¬ (J24 42 (u.toInt.toNat)).toInt = (J24 0 55).toInt := h81
                    have b86 : 0 ≤ (J24 43 (J24 42 u.toInt.toNat).toInt.toNat).toInt ∧ (J24 43 (J24 42 u.toInt.toNat).toInt.toNat).toInt < (I 0 46).toInt := by
                      have e : (J24 0 55).toInt = (I 0 55).toInt := congrArg Int32.toInt (congrFun (hF24c 0 rfl) 55)
                      have q := huN.2 (J24 42 u.toInt.toNat).toInt.toNat (by omega) (by omega)
                      rw [hF24c 43 rfl]; exact q
                    refine And.intro (show f_in (J24 42 (u.toInt.toNat)) 40 from ⟨show 0 ≤ (J24 42 (u.toInt.toNat)).toInt from by omega, show (J24 42 (u.toInt.toNat)).toInt < 40 from by omega⟩) ?_
                    have r92_9 : -1 ≤ (J24 43 ((J24 42 (u.toInt.toNat)).toInt.toNat)).toInt ∧ (J24 43 ((J24 42 (u.toInt.toNat)).toInt.toNat)).toInt ≤ 39 := hR24c 43 ((J24 42 (u.toInt.toNat)).toInt.toNat)
                    have e92_10 : (J24 43 ((J24 42 (u.toInt.toNat)).toInt.toNat)).toInt = (I 43 ((J24 42 (u.toInt.toNat)).toInt.toNat)).toInt := congrArg Int32.toInt (congrFun (hF24c 43 rfl) ((J24 42 (u.toInt.toNat)).toInt.toNat))
                    intro z95 q95 _ hq95 hl95 hu95
                    have hq95 : z95.toInt = turn.toInt + 1 + 4294967296 * q95 := hq95
                    try have hz95 : z95.toInt = turn.toInt + 1 := by omega
                    exact ⟨Int32.ofInt 1, word, J24 43 ((J24 42 (u.toInt.toNat)).toInt.toNat), z95, (by intro q9 h9; simp only [List.mem_cons, List.not_mem_nil, or_false] at h9; rcases h9 with h9 | h9 | h9 | h9 | h9 | h9 <;> subst h9 <;> repeat (first | exact List.mem_cons_self | apply List.mem_cons_of_mem)), rfl, rfl, hR24c, hF24c, (show (1 : Int) = 0 ∨ (1 : Int) = 1 from by first | assumption | omega | rfl), (show 0 ≤ (J24 43 ((J24 42 (u.toInt.toNat)).toInt.toNat)).toInt from by first | assumption | omega), (show (J24 43 ((J24 42 (u.toInt.toNat)).toInt.toNat)).toInt < (I 0 46).toInt from by first | assumption | omega), (show 0 ≤ z95.toInt from by first | assumption | omega), (show z95.toInt ≤ (I 0 46).toInt + 1 from by first | assumption | omega), (show (42 - z95.toInt) < n24 from by omega)⟩
                  · intro h81
                    have h81 : (J24 42 (u.toInt.toNat)).toInt = (J24 0 55).toInt := h81
                    exact ⟨Or.inr rfl, hR24c, hF24c, rfl, (show ((1 : Int) = 0 ∨ (1 : Int) = 1) from by first | assumption | omega | rfl)⟩
                · intro h64
                  have h64 : (1 : Int) = 0 := h64
                  exfalso
                  omega
    refine f_wp_ok C f_cl flX12_ok fiX12_ok fjX12_ok (sn := none) (fun j h => by cases h) (cs := (fun _ => none)) (cz := (fun _ => none)) (fun j S h => by cases h) (fun j S h => by cases h) tX12_climbs_ok (cut := (f_cnl [(24, (fun (ls' : fLs) (st' : List Value) (I' : fM) (L' : fN) => ∃ met : Int32, ∃ word : Int32, ∃ u : Int32, ∃ turn : Int32, (∀ q ∈ ([(5, .int turn), (4, .int u), (3, .int word), (2, .int met), (1, .int g), (0, .ref 0)] : fLs), q ∈ ls') ∧ st' = [] ∧ L' = L ∧ (mR I' ∧ f_fr [44] I I' ∧ (met.toInt = 0 ∨ met.toInt = 1) ∧ (0 ≤ u.toInt) ∧ (u.toInt < (I 0 46).toInt) ∧ (0 ≤ turn.toInt) ∧ (turn.toInt ≤ (I 0 46).toInt + 1) ∧ (42 - turn.toInt) < 43)))])) (f_cnl_of (P := fun (tQ : Nat) (P : fLs → List Value → fM → fN → Prop) => ∀ ls' st' I' L', P ls' st' I' L' → f_W pP l eP (f_rm 0) sP mP aP bP hP9 cP mY 71 a cy dC dI 7 (f_K 3 (qX12_climbs [.ref 0, .int g] I L)) tQ ls' st' I' L') (List.forall_mem_cons.mpr ⟨(fun ls' st' I' L' h => by obtain ⟨met, word, u, turn, hs, e1, e3, h9⟩ := h; rw [e1, e3]; exact f_W_sub hs (lp24 43 met word u turn I' h9)), fun _ h => absurd h List.not_mem_nil⟩)) 18 0 tX12_climbs tX12_climbs_ok _ _ _ _ ?_
    refine And.intro (show f_in g 40 from ⟨show 0 ≤ g.toInt from by omega, show g.toInt < 40 from by omega⟩) ?_
    have r5_1 : -1 ≤ (I 26 (g.toInt.toNat)).toInt ∧ (I 26 (g.toInt.toNat)).toInt ≤ 39 := hR 26 (g.toInt.toNat)
    apply And.intro
    · intro h7
      have h7 : ¬ (I 26 (g.toInt.toNat)).toInt = (-1) := h7
      have r24_2 : 0 ≤ (I 0 46).toInt ∧ (I 0 46).toInt ≤ 40 := hR 0 46
      exact ⟨Int32.ofInt 0, Int32.ofInt 0, g, Int32.ofInt 0, (by intro q9 h9; simp only [List.mem_cons, List.not_mem_nil, or_false] at h9; rcases h9 with h9 | h9 | h9 | h9 | h9 | h9 <;> subst h9 <;> repeat (first | exact List.mem_cons_self | apply List.mem_cons_of_mem)), rfl, rfl, hR, hF0, (show (0 : Int) = 0 ∨ (0 : Int) = 1 from by first | assumption | omega | rfl), (show 0 ≤ g.toInt from by first | assumption | omega), (show g.toInt < (I 0 46).toInt from by first | assumption | omega), (show 0 ≤ (0 : Int) from by first | assumption | omega), (show (0 : Int) ≤ (I 0 46).toInt + 1 from by first | assumption | omega), (show (42 - (0 : Int)) < 43 from by omega)⟩
    · intro h7
      have h7 : (I 26 (g.toInt.toNat)).toInt = (-1) := h7
      have r24_2 : 0 ≤ (I 0 46).toInt ∧ (I 0 46).toInt ≤ 40 := hR 0 46
      exact ⟨Int32.ofInt 1, Int32.ofInt 1, g, Int32.ofInt 0, (by intro q9 h9; simp only [List.mem_cons, List.not_mem_nil, or_false] at h9; rcases h9 with h9 | h9 | h9 | h9 | h9 | h9 <;> subst h9 <;> repeat (first | exact List.mem_cons_self | apply List.mem_cons_of_mem)), rfl, rfl, hR, hF0, (show (1 : Int) = 0 ∨ (1 : Int) = 1 from by first | assumption | omega | rfl), (show 0 ≤ g.toInt from by first | assumption | omega), (show g.toInt < (I 0 46).toInt from by first | assumption | omega), (show 0 ≤ (0 : Int) from by first | assumption | omega), (show (0 : Int) ≤ (I 0 46).toInt + 1 from by first | assumption | omega), (show (42 - (0 : Int)) < 43 from by omega)⟩
/-- the given thing that a wanted one is tied to -/
def pg (I : fM) (w : Nat) : Nat := (I 22 (I 23 (I 25 w).toInt.toNat).toInt.toNat).toInt.toNat
theorem pg_lt {I : fM} (hR : mR I) (hs : sS I) (ht : tA I) {w : Nat} (hw : (w : Int) < (I 0 47).toInt) : 0 ≤ (I 23 (I 25 w).toInt.toNat).toInt ∧ (pg I w : Int) < (I 0 46).toInt ∧ (I 25 w).toInt < (I 0 45).toInt ∧ (I 33 (I 23 (I 25 w).toInt.toNat).toInt.toNat).toInt = 1 ∧ (I 24 (pg I w)).toInt = (I 23 (I 25 w).toInt.toNat).toInt := by
  obtain ⟨s0, s1, s2, s3, s4, s5, s6⟩ := hs
  obtain ⟨a1, a2, a3⟩ := s3 w hw
  have p25 : 0 ≤ (I 25 w).toInt := (hR 25 w).1
  obtain ⟨t1, t2, t3, t4⟩ := ht (I 25 w).toInt.toNat (by omega)
  obtain ⟨o1, o2, o3⟩ := s1 (I 23 (I 25 w).toInt.toNat).toInt.toNat (by omega)
  have v := s2 (I 23 (I 25 w).toInt.toNat).toInt.toNat (by omega)
  have p22' : 0 ≤ (I 22 (I 23 (I 25 w).toInt.toNat).toInt.toNat).toInt := (hR 22 _).1
  have g1 : (I 33 (I 23 (I 25 w).toInt.toNat).toInt.toNat).toInt = 1 := by omega
  unfold vc ecd at v
  have v1 := v.2.1 (by omega)
  refine ⟨t1, by unfold pg; omega, a1, g1, ?_⟩
  unfold pg
  have := o2 g1
  omega
theorem pg_inj {I : fM} (hR : mR I) (hs : sS I) (ht : tA I) {w v : Nat} (hw : (w : Int) < (I 0 47).toInt) (hv : (v : Int) < (I 0 47).toInt) (h : pg I w = pg I v) : w = v := by
  obtain ⟨a1, a2, a3, a4, a5⟩ := pg_lt hR hs ht hw
  obtain ⟨b1, b2, b3, b4, b5⟩ := pg_lt hR hs ht hv
  rw [h, b5] at a5
  have p1 : 0 ≤ (I 25 w).toInt := (hR 25 w).1
  have p2 : 0 ≤ (I 25 v).toInt := (hR 25 v).1
  obtain ⟨t1, t2, t3, t4⟩ := ht (I 25 w).toInt.toNat (by omega)
  obtain ⟨r1, r2, r3, r4⟩ := ht (I 25 v).toInt.toNat (by omega)
  rw [← a5, r3] at t3
  have e : (I 25 v).toInt.toNat = (I 25 w).toInt.toNat := by omega
  have c1 := (hs.2.2.2.1 w hw).2.2
  have c2 := (hs.2.2.2.1 v hv).2.2
  rw [e] at c2
  omega
theorem pg_onto {I : fM} (hR : mR I) (hs : sS I) (ht : tA I) {g : Nat} (hg : (g : Int) < (I 0 46).toInt) : ∃ w : Nat, (w : Int) < (I 0 47).toInt ∧ pg I w = g := by
  obtain ⟨s0, s1, s2, s3, s4, s5, s6⟩ := hs
  obtain ⟨a1, a2, a3⟩ := s4 g hg
  have p24 : 0 ≤ (I 24 g).toInt := (hR 24 g).1
  obtain ⟨t1, t2, t3, t4⟩ := ht (I 24 g).toInt.toNat (by omega)
  obtain ⟨o1, o2, o3⟩ := s1 (I 23 (I 24 g).toInt.toNat).toInt.toNat (by omega)
  have v := s2 (I 23 (I 24 g).toInt.toNat).toInt.toNat (by omega)
  have p22' : 0 ≤ (I 22 (I 23 (I 24 g).toInt.toNat).toInt.toNat).toInt := (hR 22 _).1
  have g0 : (I 33 (I 23 (I 24 g).toInt.toNat).toInt.toNat).toInt = 0 := by omega
  unfold vc ecd at v
  have v1 := v.2.2 (by omega)
  refine ⟨(I 22 (I 23 (I 24 g).toInt.toNat).toInt.toNat).toInt.toNat, by omega, ?_⟩
  have q := o3 g0
  unfold pg
  rw [show (I 25 (I 22 (I 23 (I 24 g).toInt.toNat).toInt.toNat).toInt.toNat).toInt.toNat = (I 23 (I 24 g).toInt.toNat).toInt.toNat by omega, show (I 23 (I 23 (I 24 g).toInt.toNat).toInt.toNat).toInt.toNat = (I 24 g).toInt.toNat by omega]
  omega
def tX12_isRight : List (Instr × Nat) := [(.iconst 0, 1), (.istore_n 1, 1), (.iload_n 1, 1), (.aload_n 0, 1), (.getfield 382, 3), (.if_icmp .ge 40, 3), (.aload_n 0, 1), (.getfield 80, 3), (.aload_n 0, 1), (.getfield 83, 3), (.aload_n 0, 1), (.getfield 89, 3), (.iload_n 1, 1), (.iaload, 1), (.iaload, 1), (.iaload, 1), (.istore_n 2, 1), (.aload_n 0, 1), (.getfield 140, 3), (.iload_n 2, 1), (.iload_n 1, 1), (.iastore, 1), (.aload_n 0, 1), (.getfield 146, 3), (.iload_n 1, 1), (.iconst 0, 1), (.bastore, 1), (.iinc 1 1, 3), (.goto (-42), 3), (.aload_n 0, 1), (.getfield 143, 3), (.aload_n 0, 1), (.getfield 413, 3), (.iconst (-1), 1), (.iastore, 1), (.iconst 0, 1), (.istore_n 1, 1), (.iload_n 1, 1), (.aload_n 0, 1), (.getfield 379, 3), (.if_icmp .ge 43, 3), (.iconst 0, 1), (.istore_n 2, 1), (.iload_n 2, 1), (.aload_n 0, 1), (.getfield 95, 3), (.iload_n 1, 1), (.iaload, 1), (.if_icmp .ge 25, 3), (.aload_n 0, 1), (.getfield 143, 3), (.aload_n 0, 1), (.getfield 98, 3), (.iconst 4, 1), (.iload_n 1, 1), (.imul, 1), (.iload_n 2, 1), (.iadd, 1), (.iaload, 1), (.iload_n 1, 1), (.iastore, 1), (.iinc 2 1, 3), (.goto (-29), 3), (.iinc 1 1, 3), (.goto (-45), 3), (.iconst 0, 1), (.istore_n 1, 1), (.iload_n 1, 1), (.aload_n 0, 1), (.getfield 379, 3), (.if_icmp .ge 19, 3), (.aload_n 0, 1), (.iload_n 1, 1), (.invokevirtual 433, 3), (.ifCond .ne 5, 3), (.iconst 0, 1), (.ireturn, 1), (.iinc 1 1, 3), (.goto (-21), 3), (.iconst 0, 1), (.istore_n 1, 1), (.iload_n 1, 1), (.aload_n 0, 1), (.getfield 382, 3), (.if_icmp .ge 20, 3), (.aload_n 0, 1), (.getfield 146, 3), (.iload_n 1, 1), (.baload, 1), (.ifCond .ne 5, 3), (.iconst 0, 1), (.ireturn, 1), (.iinc 1 1, 3), (.goto (-22), 3), (.iconst 1, 1), (.ireturn, 1)]
theorem tX12_isRight_ok : f_chk cX12_isRight 0 tX12_isRight = true := by decide +kernel
def pX12_isRight (av : List Value) (I : fM) (L : fN) : Prop := match av with
  | [.ref 0] => mR I ∧ sS I ∧ tA I
  | _ => False
def qX12_isRight (av : List Value) (I : fM) (L : fN) (r : Value) (I' : fM) (L' : fN) : Prop := match av, r with
  | [.ref 0], .int x => mR I' ∧ sS I' ∧ tA I' ∧ f_fr [42, 43, 44] I I' ∧ L' = L ∧ (x.toInt = 0 ∨ x.toInt = 1) ∧ (x.toInt = 1 → uN I')
  | _, _ => False
set_option maxHeartbeats 40000000 in
set_option maxRecDepth 100000 in
theorem mX12_isRight {l : Launch} {a : Nat → Nat} {cy dC : Nat → ClassId} {dI : Nat → Nat → Nat} (hinj : ∀ i j, i < 71 → j < 71 → a i = a j → i = j) : f_Met (fun _ => True) l mY 71 a cy dC dI yX12_isRight cX12_isRight 3 3 1 pX12_isRight qX12_isRight := by
  refine f_met_of (f_Ec_T 71 a) hinj mY_hi (by decide) (fun av I L h => by unfold pX12_isRight at h; split at h <;> first | exact Nat.le_of_ble_eq_true rfl | exact h.elim) ?_
  intro pP eP sP mP aP bP hP9 cP C av I L hp
  unfold pX12_isRight at hp
  split at hp
  case h_2 => exact hp.elim
  case h_1 =>
    obtain ⟨hR, hsS, htA⟩ := hp
    have hW : 0 ≤ (I 0 47).toInt ∧ (I 0 47).toInt ≤ 40 := hR 0 47
    have hG : 0 ≤ (I 0 46).toInt ∧ (I 0 46).toInt ≤ 40 := hR 0 46
    have hF0 : f_fr [42, 43, 44] I I := f_fr_rf
    have lp135 : ∀ (n135 : Nat), ∀ (w : Int32) (J135 : fM), mR J135 ∧ f_fr [42, 43, 44] I J135 ∧ sS J135 ∧ tA J135 ∧ (0 ≤ w.toInt) ∧ (w.toInt ≤ (I 0 47).toInt) ∧ (uN J135) ∧ ((I 0 47).toInt - w.toInt) < n135 → f_W pP l eP (f_rm 1) sP mP aP bP hP9 cP mY 71 a cy dC dI 3 (f_K 3 (qX12_isRight [.ref 0] I L)) 135 [(1, .int w), (0, .ref 0)] [] J135 L := by
      intro n135
      induction n135 with
      | zero =>
        intro w J135 h9
        obtain ⟨hR135c, hF135c, hsS135c, htA135c, u135_1, u135_2, u135_3, hm135⟩ := h9
        omega
      | succ n135 ih135 =>
        intro w J135 h9
        obtain ⟨hR135c, hF135c, hsS135c, htA135c, u135_1, u135_2, u135_3, hm135⟩ := h9
        refine f_wp_ok C f_cl flX12_ok fiX12_ok fjX12_ok (sn := none) (fun j h => by cases h) (cs := (f_cnl [(433, (2, 3, 11, pX12_climbs, qX12_climbs))])) (cz := (fun _ => none)) (f_cnl_of (P := fun j S => f_cok pP l eP (f_rm 1) sP mP aP bP hP9 cP mY 71 a cy dC dI 3 _ _ (.invokevirtual j) true S) (List.forall_mem_cons.mpr ⟨f_cokV C (mX12_climbs hinj) (ci := 11) rfl (List.forall_mem_cons.mpr ⟨(mlX12_ok _ (List.mem_of_getElem? (i := 40) rfl)), kc_X12_climbs⟩) (by decide +kernel) ⟨Nat.le_of_ble_eq_true rfl, Nat.le_of_ble_eq_true rfl⟩, fun _ h => absurd h List.not_mem_nil⟩)) (fun j S h => by cases h) tX12_isRight_ok (cut := (f_cnl [(135, (fun (ls' : fLs) (st' : List Value) (I' : fM) (L' : fN) => ∃ w : Int32, (∀ q ∈ ([(1, .int w), (0, .ref 0)] : fLs), q ∈ ls') ∧ st' = [] ∧ L' = L ∧ (mR I' ∧ f_fr [42, 43, 44] I I' ∧ sS I' ∧ tA I' ∧ (0 ≤ w.toInt) ∧ (w.toInt ≤ (I 0 47).toInt) ∧ (uN I') ∧ ((I 0 47).toInt - w.toInt) < n135)))])) (f_cnl_of (P := fun (tQ : Nat) (P : fLs → List Value → fM → fN → Prop) => ∀ ls' st' I' L', P ls' st' I' L' → f_W pP l eP (f_rm 1) sP mP aP bP hP9 cP mY 71 a cy dC dI 3 (f_K 3 (qX12_isRight [.ref 0] I L)) tQ ls' st' I' L') (List.forall_mem_cons.mpr ⟨(fun ls' st' I' L' h => by obtain ⟨w, hs, e1, e3, h9⟩ := h; rw [e1, e3]; exact f_W_sub hs (ih135 w I' h9)), fun _ h => absurd h List.not_mem_nil⟩)) 14 135 (f_seek 135 0 tX12_isRight) (f_seek_ok 135 0 tX12_isRight tX12_isRight_ok) _ _ _ _ ?_
        have r137_1 : 0 ≤ (J135 0 47).toInt ∧ (J135 0 47).toInt ≤ 40 := hR135c 0 47
        have e137_2 : (J135 0 47).toInt = (I 0 47).toInt := congrArg Int32.toInt (congrFun (hF135c 0 rfl) 47)
        apply And.intro
        · intro h140
          have h140 : (J135 0 47).toInt ≤ w.toInt := h140
          exact ⟨Or.inr rfl, hR135c, hsS135c, htA135c, hF135c, rfl, (show ((1 : Int) = 0 ∨ (1 : Int) = 1) from by first | assumption | omega | rfl), (show ((1 : Int) = 1 → uN J135) from fun _ => u135_3)⟩
        · intro h140
          have h140 : w.toInt < (J135 0 47).toInt := h140
          refine And.intro (show f_in w 40 from ⟨show 0 ≤ w.toInt from by omega, show w.toInt < 40 from by omega⟩) ?_
          apply And.intro
          · intro h149
            have h149 : ¬ (J135 44 (w.toInt.toNat)).toInt = 0 := h149
            intro z154 q154 _ hq154 hl154 hu154
            have hq154 : z154.toInt = w.toInt + 1 + 4294967296 * q154 := hq154
            try have hz154 : z154.toInt = w.toInt + 1 := by omega
            exact ⟨z154, (by intro q9 h9; simp only [List.mem_cons, List.not_mem_nil, or_false] at h9; rcases h9 with h9 | h9 <;> subst h9 <;> repeat (first | exact List.mem_cons_self | apply List.mem_cons_of_mem)), rfl, rfl, hR135c, hF135c, hsS135c, htA135c, (show 0 ≤ z154.toInt from by first | assumption | omega), (show z154.toInt ≤ (I 0 47).toInt from by first | assumption | omega), (show uN J135 from by first | assumption | omega), (show ((I 0 47).toInt - z154.toInt) < n135 from by omega)⟩
          · intro h149
            have h149 : (J135 44 (w.toInt.toNat)).toInt = 0 := h149
            exact ⟨Or.inl rfl, hR135c, hsS135c, htA135c, hF135c, rfl, (show ((0 : Int) = 0 ∨ (0 : Int) = 1) from by first | assumption | omega | rfl), (show ((0 : Int) = 1 → uN J135) from fun h => absurd h (by decide))⟩
    have lp109 : ∀ (n109 : Nat), ∀ (g : Int32) (J109 : fM), mR J109 ∧ f_fr [42, 43, 44] I J109 ∧ sS J109 ∧ tA J109 ∧ (0 ≤ g.toInt) ∧ (g.toInt ≤ (I 0 46).toInt) ∧ (uN J109) ∧ ((I 0 46).toInt - g.toInt) < n109 → f_W pP l eP (f_rm 1) sP mP aP bP hP9 cP mY 71 a cy dC dI 3 (f_K 3 (qX12_isRight [.ref 0] I L)) 109 [(1, .int g), (0, .ref 0)] [] J109 L := by
      intro n109
      induction n109 with
      | zero =>
        intro g J109 h9
        obtain ⟨hR109c, hF109c, hsS109c, htA109c, u109_1, u109_2, u109_3, hm109⟩ := h9
        omega
      | succ n109 ih109 =>
        intro g J109 h9
        obtain ⟨hR109c, hF109c, hsS109c, htA109c, u109_1, u109_2, u109_3, hm109⟩ := h9
        refine f_wp_ok C f_cl flX12_ok fiX12_ok fjX12_ok (sn := none) (fun j h => by cases h) (cs := (f_cnl [(433, (2, 3, 11, pX12_climbs, qX12_climbs))])) (cz := (fun _ => none)) (f_cnl_of (P := fun j S => f_cok pP l eP (f_rm 1) sP mP aP bP hP9 cP mY 71 a cy dC dI 3 _ _ (.invokevirtual j) true S) (List.forall_mem_cons.mpr ⟨f_cokV C (mX12_climbs hinj) (ci := 11) rfl (List.forall_mem_cons.mpr ⟨(mlX12_ok _ (List.mem_of_getElem? (i := 40) rfl)), kc_X12_climbs⟩) (by decide +kernel) ⟨Nat.le_of_ble_eq_true rfl, Nat.le_of_ble_eq_true rfl⟩, fun _ h => absurd h List.not_mem_nil⟩)) (fun j S h => by cases h) tX12_isRight_ok (cut := (f_cnl [(109, (fun (ls' : fLs) (st' : List Value) (I' : fM) (L' : fN) => ∃ g : Int32, (∀ q ∈ ([(1, .int g), (0, .ref 0)] : fLs), q ∈ ls') ∧ st' = [] ∧ L' = L ∧ (mR I' ∧ f_fr [42, 43, 44] I I' ∧ sS I' ∧ tA I' ∧ (0 ≤ g.toInt) ∧ (g.toInt ≤ (I 0 46).toInt) ∧ (uN I') ∧ ((I 0 46).toInt - g.toInt) < n109))), (135, (fun (ls' : fLs) (st' : List Value) (I' : fM) (L' : fN) => ∃ w : Int32, (∀ q ∈ ([(1, .int w), (0, .ref 0)] : fLs), q ∈ ls') ∧ st' = [] ∧ L' = L ∧ (mR I' ∧ f_fr [42, 43, 44] I I' ∧ sS I' ∧ tA I' ∧ (0 ≤ w.toInt) ∧ (w.toInt ≤ (I 0 47).toInt) ∧ (uN I') ∧ ((I 0 47).toInt - w.toInt) < 41)))])) (f_cnl_of (P := fun (tQ : Nat) (P : fLs → List Value → fM → fN → Prop) => ∀ ls' st' I' L', P ls' st' I' L' → f_W pP l eP (f_rm 1) sP mP aP bP hP9 cP mY 71 a cy dC dI 3 (f_K 3 (qX12_isRight [.ref 0] I L)) tQ ls' st' I' L') (List.forall_mem_cons.mpr ⟨(fun ls' st' I' L' h => by obtain ⟨g, hs, e1, e3, h9⟩ := h; rw [e1, e3]; exact f_W_sub hs (ih109 g I' h9)), List.forall_mem_cons.mpr ⟨(fun ls' st' I' L' h => by obtain ⟨w, hs, e1, e3, h9⟩ := h; rw [e1, e3]; exact f_W_sub hs (lp135 41 w I' h9)), fun _ h => absurd h List.not_mem_nil⟩⟩)) 13 109 (f_seek 109 0 tX12_isRight) (f_seek_ok 109 0 tX12_isRight tX12_isRight_ok) _ _ _ _ ?_
        have r111_1 : 0 ≤ (J109 0 46).toInt ∧ (J109 0 46).toInt ≤ 40 := hR109c 0 46
        have e111_2 : (J109 0 46).toInt = (I 0 46).toInt := congrArg Int32.toInt (congrFun (hF109c 0 rfl) 46)
        apply And.intro
        · intro h114
          have h114 : (J109 0 46).toInt ≤ g.toInt := h114
          exact ⟨Int32.ofInt 0, (by intro q9 h9; simp only [List.mem_cons, List.not_mem_nil, or_false] at h9; rcases h9 with h9 | h9 <;> subst h9 <;> repeat (first | exact List.mem_cons_self | apply List.mem_cons_of_mem)), rfl, rfl, hR109c, hF109c, hsS109c, htA109c, (show 0 ≤ (0 : Int) from by first | assumption | omega), (show (0 : Int) ≤ (I 0 47).toInt from by first | assumption | omega), (show uN J109 from by first | assumption | omega), (show ((I 0 47).toInt - (0 : Int)) < 41 from by omega)⟩
        · intro h114
          have h114 : g.toInt < (J109 0 46).toInt := h114
          refine And.intro ⟨hR109c, (by assumption), (show 0 ≤ g.toInt from by first | assumption | omega), (show g.toInt < (J109 0 46).toInt from by first | assumption | omega)⟩ ?_
          intro x119 I119 L119 hq119
          have hq119 : mR I119 ∧ f_fr [44] J109 I119 ∧ L119 = L ∧ ((x119.toInt = 0 ∨ x119.toInt = 1)) := hq119
          obtain ⟨c119_0, c119_1, eL119, c119_3⟩ := hq119
          replace eL119 := eL119.symm
          subst eL119
          have hsS119 := f_depo_fr sS_dep hsS109c c119_1 rfl rfl
          have htA119 := f_depo_fr tA_dep htA109c c119_1 rfl rfl
          have hF119 := f_fr_tr hF109c c119_1 rfl
          have huN119 : uN I119 := f_depo_fr uN_dep u109_3 c119_1 rfl rfl
          apply And.intro
          · intro h122
            have h122 : ¬ x119.toInt = 0 := h122
            intro z127 q127 _ hq127 hl127 hu127
            have hq127 : z127.toInt = g.toInt + 1 + 4294967296 * q127 := hq127
            try have hz127 : z127.toInt = g.toInt + 1 := by omega
            exact ⟨z127, (by intro q9 h9; simp only [List.mem_cons, List.not_mem_nil, or_false] at h9; rcases h9 with h9 | h9 <;> subst h9 <;> repeat (first | exact List.mem_cons_self | apply List.mem_cons_of_mem)), rfl, rfl, c119_0, hF119, hsS119, htA119, (show 0 ≤ z127.toInt from by first | assumption | omega), (show z127.toInt ≤ (I 0 46).toInt from by first | assumption | omega), huN119, (show ((I 0 46).toInt - z127.toInt) < n109 from by omega)⟩
          · intro h122
            have h122 : x119.toInt = 0 := h122
            exact ⟨Or.inl rfl, c119_0, hsS119, htA119, hF119, rfl, (show ((0 : Int) = 0 ∨ (0 : Int) = 1) from by first | assumption | omega | rfl), (show ((0 : Int) = 1 → uN I119) from fun h => absurd h (by decide))⟩
    have lp59 : ∀ (n59 : Nat), ∀ (g : Int32) (J59 : fM), mR J59 ∧ f_fr [42, 43, 44] I J59 ∧ sS J59 ∧ tA J59 ∧ (0 ≤ g.toInt) ∧ (g.toInt ≤ (I 0 46).toInt) ∧ ((∀ h : Nat, (h : Int) < (I 0 46).toInt → (J59 42 h).toInt < (I 0 47).toInt)) ∧ ((∀ h k : Nat, (h : Int) < g.toInt → 4 * h ≤ k → (k : Int) < 4 * h + (I 27 h).toInt → 0 ≤ (J59 43 (I 28 k).toInt.toNat).toInt ∧ (J59 43 (I 28 k).toInt.toNat).toInt < (I 0 46).toInt)) ∧ ((I 0 46).toInt - g.toInt) < n59 → f_W pP l eP (f_rm 1) sP mP aP bP hP9 cP mY 71 a cy dC dI 3 (f_K 3 (qX12_isRight [.ref 0] I L)) 59 [(1, .int g), (0, .ref 0)] [] J59 L := by
      intro n59
      induction n59 with
      | zero =>
        intro g J59 h9
        obtain ⟨hR59c, hF59c, hsS59c, htA59c, u59_1, u59_2, u59_3, u59_4, hm59⟩ := h9
        omega
      | succ n59 ih59 =>
        intro g J59 h9
        obtain ⟨hR59c, hF59c, hsS59c, htA59c, u59_1, u59_2, u59_3, u59_4, hm59⟩ := h9
        have lp69 : ∀ (n69 : Nat), ∀ (b : Int32) (J69 : fM), mR J69 ∧ f_fr [42, 43, 44] I J69 ∧ sS J69 ∧ tA J69 ∧ (g.toInt < (I 0 46).toInt) ∧ (0 ≤ b.toInt) ∧ (b.toInt ≤ 4) ∧ ((∀ h : Nat, (h : Int) < (I 0 46).toInt → (J69 42 h).toInt < (I 0 47).toInt)) ∧ ((∀ h k : Nat, (h : Int) < g.toInt → 4 * h ≤ k → (k : Int) < 4 * h + (I 27 h).toInt → 0 ≤ (J69 43 (I 28 k).toInt.toNat).toInt ∧ (J69 43 (I 28 k).toInt.toNat).toInt < (I 0 46).toInt)) ∧ ((∀ k : Nat, 4 * g.toInt ≤ k → (k : Int) < 4 * g.toInt + b.toInt → 0 ≤ (J69 43 (I 28 k).toInt.toNat).toInt ∧ (J69 43 (I 28 k).toInt.toNat).toInt < (I 0 46).toInt)) ∧ (4 - b.toInt) < n69 → f_W pP l eP (f_rm 1) sP mP aP bP hP9 cP mY 71 a cy dC dI 3 (f_K 3 (qX12_isRight [.ref 0] I L)) 69 [(2, .int b), (1, .int g), (0, .ref 0)] [] J69 L := by
          intro n69
          induction n69 with
          | zero =>
            intro b J69 h9
            obtain ⟨hR69c, hF69c, hsS69c, htA69c, u69_1, u69_2, u69_3, u69_4, u69_5, u69_6, hm69⟩ := h9
            omega
          | succ n69 ih69 =>
            intro b J69 h9
            obtain ⟨hR69c, hF69c, hsS69c, htA69c, u69_1, u69_2, u69_3, u69_4, u69_5, u69_6, hm69⟩ := h9
            have m69 : 0 ≤ (I 27 g.toInt.toNat).toInt ∧ (I 27 g.toInt.toNat).toInt ≤ 4 := hR 27 _
            have r69 : J69 27 = I 27 ∧ J69 28 = I 28 := ⟨hF69c 27 rfl, hF69c 28 rfl⟩
            have num69 : (J69 27 g.toInt.toNat).toInt = (I 27 g.toInt.toNat).toInt := by rw [r69.1]
            refine f_wp_ok C f_cl flX12_ok fiX12_ok fjX12_ok (sn := none) (fun j h => by cases h) (cs := (f_cnl [(433, (2, 3, 11, pX12_climbs, qX12_climbs))])) (cz := (fun _ => none)) (f_cnl_of (P := fun j S => f_cok pP l eP (f_rm 1) sP mP aP bP hP9 cP mY 71 a cy dC dI 3 _ _ (.invokevirtual j) true S) (List.forall_mem_cons.mpr ⟨f_cokV C (mX12_climbs hinj) (ci := 11) rfl (List.forall_mem_cons.mpr ⟨(mlX12_ok _ (List.mem_of_getElem? (i := 40) rfl)), kc_X12_climbs⟩) (by decide +kernel) ⟨Nat.le_of_ble_eq_true rfl, Nat.le_of_ble_eq_true rfl⟩, fun _ h => absurd h List.not_mem_nil⟩)) (fun j S h => by cases h) tX12_isRight_ok (cut := (f_cnl [(59, (fun (ls' : fLs) (st' : List Value) (I' : fM) (L' : fN) => ∃ g : Int32, (∀ q ∈ ([(1, .int g), (0, .ref 0)] : fLs), q ∈ ls') ∧ st' = [] ∧ L' = L ∧ (mR I' ∧ f_fr [42, 43, 44] I I' ∧ sS I' ∧ tA I' ∧ (0 ≤ g.toInt) ∧ (g.toInt ≤ (I 0 46).toInt) ∧ ((∀ h : Nat, (h : Int) < (I 0 46).toInt → (I' 42 h).toInt < (I 0 47).toInt)) ∧ ((∀ h k : Nat, (h : Int) < g.toInt → 4 * h ≤ k → (k : Int) < 4 * h + (I 27 h).toInt → 0 ≤ (I' 43 (I 28 k).toInt.toNat).toInt ∧ (I' 43 (I 28 k).toInt.toNat).toInt < (I 0 46).toInt)) ∧ ((I 0 46).toInt - g.toInt) < n59))), (69, (fun (ls' : fLs) (st' : List Value) (I' : fM) (L' : fN) => ∃ b : Int32, (∀ q ∈ ([(2, .int b), (1, .int g), (0, .ref 0)] : fLs), q ∈ ls') ∧ st' = [] ∧ L' = L ∧ (mR I' ∧ f_fr [42, 43, 44] I I' ∧ sS I' ∧ tA I' ∧ (g.toInt < (I 0 46).toInt) ∧ (0 ≤ b.toInt) ∧ (b.toInt ≤ 4) ∧ ((∀ h : Nat, (h : Int) < (I 0 46).toInt → (I' 42 h).toInt < (I 0 47).toInt)) ∧ ((∀ h k : Nat, (h : Int) < g.toInt → 4 * h ≤ k → (k : Int) < 4 * h + (I 27 h).toInt → 0 ≤ (I' 43 (I 28 k).toInt.toNat).toInt ∧ (I' 43 (I 28 k).toInt.toNat).toInt < (I 0 46).toInt)) ∧ ((∀ k : Nat, 4 * g.toInt ≤ k → (k : Int) < 4 * g.toInt + b.toInt → 0 ≤ (I' 43 (I 28 k).toInt.toNat).toInt ∧ (I' 43 (I 28 k).toInt.toNat).toInt < (I 0 46).toInt)) ∧ (4 - b.toInt) < n69)))])) (f_cnl_of (P := fun (tQ : Nat) (P : fLs → List Value → fM → fN → Prop) => ∀ ls' st' I' L', P ls' st' I' L' → f_W pP l eP (f_rm 1) sP mP aP bP hP9 cP mY 71 a cy dC dI 3 (f_K 3 (qX12_isRight [.ref 0] I L)) tQ ls' st' I' L') (List.forall_mem_cons.mpr ⟨(fun ls' st' I' L' h => by obtain ⟨g, hs, e1, e3, h9⟩ := h; rw [e1, e3]; exact f_W_sub hs (ih59 g I' h9)), List.forall_mem_cons.mpr ⟨(fun ls' st' I' L' h => by obtain ⟨b, hs, e1, e3, h9⟩ := h; rw [e1, e3]; exact f_W_sub hs (ih69 b I' h9)), fun _ h => absurd h List.not_mem_nil⟩⟩)) 23 69 (f_seek 69 0 tX12_isRight) (f_seek_ok 69 0 tX12_isRight tX12_isRight_ok) _ _ _ _ ?_
            refine And.intro (show f_in g 40 from ⟨show 0 ≤ g.toInt from by omega, show g.toInt < 40 from by omega⟩) ?_
            have r75_1 : 0 ≤ (J69 27 (g.toInt.toNat)).toInt ∧ (J69 27 (g.toInt.toNat)).toInt ≤ 4 := hR69c 27 (g.toInt.toNat)
            have e75_2 : (J69 27 (g.toInt.toNat)).toInt = (I 27 (g.toInt.toNat)).toInt := congrArg Int32.toInt (congrFun (hF69c 27 rfl) (g.toInt.toNat))
            apply And.intro
            · intro h76
              have h76 : (J69 27 (g.toInt.toNat)).toInt ≤ b.toInt := h76
              intro z101 q101 _ hq101 hl101 hu101
              have hq101 : z101.toInt = g.toInt + 1 + 4294967296 * q101 := hq101
              try have hz101 : z101.toInt = g.toInt + 1 := by omega
              have q101 : ∀ h k : Nat, (h : Int) < z101.toInt → 4 * h ≤ k → (k : Int) < 4 * h + (I 27 h).toInt → 0 ≤ (J69 43 (I 28 k).toInt.toNat).toInt ∧ (J69 43 (I 28 k).toInt.toNat).toInt < (I 0 46).toInt := fun h k a1 a2 a3 => by
                by_cases q : (h : Int) = g.toInt
                · rw [show h = g.toInt.toNat by omega] at a3
                  exact u69_6 k (by omega) (by omega)
                · exact u69_5 h k (by omega) a2 a3
              exact ⟨z101, (by intro q9 h9; simp only [List.mem_cons, List.not_mem_nil, or_false] at h9; rcases h9 with h9 | h9 <;> subst h9 <;> repeat (first | exact List.mem_cons_self | apply List.mem_cons_of_mem)), rfl, rfl, hR69c, hF69c, hsS69c, htA69c, (show 0 ≤ z101.toInt from by first | assumption | omega), (show z101.toInt ≤ (I 0 46).toInt from by first | assumption | omega), (show (∀ h : Nat, (h : Int) < (I 0 46).toInt → (J69 42 h).toInt < (I 0 47).toInt) from by first | assumption | omega | exact fun _ _ => rfl | exact fun _ _ => ⟨rfl, rfl⟩ | exact fun _ _ => ⟨rfl, rfl, rfl⟩ | (intro j9 hj9; omega)), (show (∀ h k : Nat, (h : Int) < z101.toInt → 4 * h ≤ k → (k : Int) < 4 * h + (I 27 h).toInt → 0 ≤ (J69 43 (I 28 k).toInt.toNat).toInt ∧ (J69 43 (I 28 k).toInt.toNat).toInt < (I 0 46).toInt) from by first | assumption | omega | exact fun _ _ => rfl | exact fun _ _ => ⟨rfl, rfl⟩ | exact fun _ _ => ⟨rfl, rfl, rfl⟩ | (intro j9 hj9; omega)), (show ((I 0 46).toInt - z101.toInt) < n59 from by omega)⟩
            · intro h76
              have h76 : b.toInt < (J69 27 (g.toInt.toNat)).toInt := h76
              intro z89 q89 _ hq89 hl89 hu89
              have hq89 : z89.toInt = 4 * g.toInt + 4294967296 * q89 := hq89
              try have hz89 : z89.toInt = 4 * g.toInt := by omega
              intro z91 q91 _ hq91 hl91 hu91
              have hq91 : z91.toInt = z89.toInt + b.toInt + 4294967296 * q91 := hq91
              try have hz91 : z91.toInt = z89.toInt + b.toInt := by omega
              refine And.intro (show f_in z91 160 from ⟨show 0 ≤ z91.toInt from by omega, show z91.toInt < 160 from by omega⟩) ?_
              have r92_3 : 0 ≤ (J69 28 (z91.toInt.toNat)).toInt ∧ (J69 28 (z91.toInt.toNat)).toInt ≤ 39 := hR69c 28 (z91.toInt.toNat)
              have e92_4 : (J69 28 (z91.toInt.toNat)).toInt = (I 28 (z91.toInt.toNat)).toInt := congrArg Int32.toInt (congrFun (hF69c 28 rfl) (z91.toInt.toNat))
              refine And.intro (show f_in (J69 28 (z91.toInt.toNat)) 40 from ⟨show 0 ≤ (J69 28 (z91.toInt.toNat)).toInt from by omega, show (J69 28 (z91.toInt.toNat)).toInt < 40 from by omega⟩) ?_
              have hR94 := mR_a (k := 43) (j := (J69 28 (z91.toInt.toNat)).toInt.toNat) (x := g) hR69c (show -1 ≤ g.toInt ∧ g.toInt ≤ 39 from ⟨by omega, by omega⟩)
              have hF94 := f_fr_up (k := 43) (r := upd (J69 43) ((J69 28 (z91.toInt.toNat)).toInt.toNat) g) hF69c rfl
              have hsS94 := f_depo_up sS_dep (k := 43) (r := upd (J69 43) ((J69 28 (z91.toInt.toNat)).toInt.toNat) g) hsS69c rfl (by decide)
              have htA94 := f_depo_up tA_dep (k := 43) (r := upd (J69 43) ((J69 28 (z91.toInt.toNat)).toInt.toNat) g) htA69c rfl (by decide)
              have w94 : ∀ y : Nat, 0 ≤ (J69 43 y).toInt ∧ (J69 43 y).toInt < (I 0 46).toInt → 0 ≤ ((upd (J69 43) (J69 28 z91.toInt.toNat).toInt.toNat g) y).toInt ∧ ((upd (J69 43) (J69 28 z91.toInt.toNat).toInt.toNat g) y).toInt < (I 0 46).toInt := fun y hy => by
                by_cases q : y = (J69 28 z91.toInt.toNat).toInt.toNat
                · rw [q, pk_us]; omega
                · rw [pk_un q]; exact hy
              intro z95 q95 _ hq95 hl95 hu95
              have hq95 : z95.toInt = b.toInt + 1 + 4294967296 * q95 := hq95
              try have hz95 : z95.toInt = b.toInt + 1 := by omega
              have q95 : ∀ h k : Nat, (h : Int) < g.toInt → 4 * h ≤ k → (k : Int) < 4 * h + (I 27 h).toInt → 0 ≤ ((upd (J69 43) (J69 28 z91.toInt.toNat).toInt.toNat g) (I 28 k).toInt.toNat).toInt ∧ ((upd (J69 43) (J69 28 z91.toInt.toNat).toInt.toNat g) (I 28 k).toInt.toNat).toInt < (I 0 46).toInt := fun h k a1 a2 a3 => w94 _ (u69_5 h k a1 a2 a3)
              have r95 : ∀ k : Nat, 4 * g.toInt ≤ k → (k : Int) < 4 * g.toInt + z95.toInt → 0 ≤ ((upd (J69 43) (J69 28 z91.toInt.toNat).toInt.toNat g) (I 28 k).toInt.toNat).toInt ∧ ((upd (J69 43) (J69 28 z91.toInt.toNat).toInt.toNat g) (I 28 k).toInt.toNat).toInt < (I 0 46).toInt := fun k a1 a2 => by
                by_cases q : k = z91.toInt.toNat
                · rw [q, r69.2, pk_us]; omega
                · exact w94 _ (u69_6 k a1 (by omega))
              exact ⟨z95, (by intro q9 h9; simp only [List.mem_cons, List.not_mem_nil, or_false] at h9; rcases h9 with h9 | h9 | h9 <;> subst h9 <;> repeat (first | exact List.mem_cons_self | apply List.mem_cons_of_mem)), rfl, rfl, hR94, hF94, hsS94, htA94, (show g.toInt < (I 0 46).toInt from by first | assumption | omega), (show 0 ≤ z95.toInt from by first | assumption | omega), (show z95.toInt ≤ 4 from by first | assumption | omega), (show (∀ h : Nat, (h : Int) < (I 0 46).toInt → (J69 42 h).toInt < (I 0 47).toInt) from by first | assumption | omega | exact fun _ _ => rfl | exact fun _ _ => ⟨rfl, rfl⟩ | exact fun _ _ => ⟨rfl, rfl, rfl⟩ | (intro j9 hj9; omega)), (show (∀ h k : Nat, (h : Int) < g.toInt → 4 * h ≤ k → (k : Int) < 4 * h + (I 27 h).toInt → 0 ≤ ((upd (J69 43) ((J69 28 (z91.toInt.toNat)).toInt.toNat) g) (I 28 k).toInt.toNat).toInt ∧ ((upd (J69 43) ((J69 28 (z91.toInt.toNat)).toInt.toNat) g) (I 28 k).toInt.toNat).toInt < (I 0 46).toInt) from by first | assumption | omega | exact fun _ _ => rfl | exact fun _ _ => ⟨rfl, rfl⟩ | exact fun _ _ => ⟨rfl, rfl, rfl⟩ | (intro j9 hj9; omega)), (show (∀ k : Nat, 4 * g.toInt ≤ k → (k : Int) < 4 * g.toInt + z95.toInt → 0 ≤ ((upd (J69 43) ((J69 28 (z91.toInt.toNat)).toInt.toNat) g) (I 28 k).toInt.toNat).toInt ∧ ((upd (J69 43) ((J69 28 (z91.toInt.toNat)).toInt.toNat) g) (I 28 k).toInt.toNat).toInt < (I 0 46).toInt) from by first | assumption | omega | exact fun _ _ => rfl | exact fun _ _ => ⟨rfl, rfl⟩ | exact fun _ _ => ⟨rfl, rfl, rfl⟩ | (intro j9 hj9; omega)), (show (4 - z95.toInt) < n69 from by omega)⟩
        refine f_wp_ok C f_cl flX12_ok fiX12_ok fjX12_ok (sn := none) (fun j h => by cases h) (cs := (f_cnl [(433, (2, 3, 11, pX12_climbs, qX12_climbs))])) (cz := (fun _ => none)) (f_cnl_of (P := fun j S => f_cok pP l eP (f_rm 1) sP mP aP bP hP9 cP mY 71 a cy dC dI 3 _ _ (.invokevirtual j) true S) (List.forall_mem_cons.mpr ⟨f_cokV C (mX12_climbs hinj) (ci := 11) rfl (List.forall_mem_cons.mpr ⟨(mlX12_ok _ (List.mem_of_getElem? (i := 40) rfl)), kc_X12_climbs⟩) (by decide +kernel) ⟨Nat.le_of_ble_eq_true rfl, Nat.le_of_ble_eq_true rfl⟩, fun _ h => absurd h List.not_mem_nil⟩)) (fun j S h => by cases h) tX12_isRight_ok (cut := (f_cnl [(69, (fun (ls' : fLs) (st' : List Value) (I' : fM) (L' : fN) => ∃ b : Int32, (∀ q ∈ ([(2, .int b), (1, .int g), (0, .ref 0)] : fLs), q ∈ ls') ∧ st' = [] ∧ L' = L ∧ (mR I' ∧ f_fr [42, 43, 44] I I' ∧ sS I' ∧ tA I' ∧ (g.toInt < (I 0 46).toInt) ∧ (0 ≤ b.toInt) ∧ (b.toInt ≤ 4) ∧ ((∀ h : Nat, (h : Int) < (I 0 46).toInt → (I' 42 h).toInt < (I 0 47).toInt)) ∧ ((∀ h k : Nat, (h : Int) < g.toInt → 4 * h ≤ k → (k : Int) < 4 * h + (I 27 h).toInt → 0 ≤ (I' 43 (I 28 k).toInt.toNat).toInt ∧ (I' 43 (I 28 k).toInt.toNat).toInt < (I 0 46).toInt)) ∧ ((∀ k : Nat, 4 * g.toInt ≤ k → (k : Int) < 4 * g.toInt + b.toInt → 0 ≤ (I' 43 (I 28 k).toInt.toNat).toInt ∧ (I' 43 (I 28 k).toInt.toNat).toInt < (I 0 46).toInt)) ∧ (4 - b.toInt) < 5))), (109, (fun (ls' : fLs) (st' : List Value) (I' : fM) (L' : fN) => ∃ g : Int32, (∀ q ∈ ([(1, .int g), (0, .ref 0)] : fLs), q ∈ ls') ∧ st' = [] ∧ L' = L ∧ (mR I' ∧ f_fr [42, 43, 44] I I' ∧ sS I' ∧ tA I' ∧ (0 ≤ g.toInt) ∧ (g.toInt ≤ (I 0 46).toInt) ∧ (uN I') ∧ ((I 0 46).toInt - g.toInt) < 41)))])) (f_cnl_of (P := fun (tQ : Nat) (P : fLs → List Value → fM → fN → Prop) => ∀ ls' st' I' L', P ls' st' I' L' → f_W pP l eP (f_rm 1) sP mP aP bP hP9 cP mY 71 a cy dC dI 3 (f_K 3 (qX12_isRight [.ref 0] I L)) tQ ls' st' I' L') (List.forall_mem_cons.mpr ⟨(fun ls' st' I' L' h => by obtain ⟨b, hs, e1, e3, h9⟩ := h; rw [e1, e3]; exact f_W_sub hs (lp69 5 b I' h9)), List.forall_mem_cons.mpr ⟨(fun ls' st' I' L' h => by obtain ⟨g, hs, e1, e3, h9⟩ := h; rw [e1, e3]; exact f_W_sub hs (lp109 41 g I' h9)), fun _ h => absurd h List.not_mem_nil⟩⟩)) 9 59 (f_seek 59 0 tX12_isRight) (f_seek_ok 59 0 tX12_isRight tX12_isRight_ok) _ _ _ _ ?_
        have r61_1 : 0 ≤ (J59 0 46).toInt ∧ (J59 0 46).toInt ≤ 40 := hR59c 0 46
        have e61_2 : (J59 0 46).toInt = (I 0 46).toInt := congrArg Int32.toInt (congrFun (hF59c 0 rfl) 46)
        apply And.intro
        · intro h64
          have h64 : (J59 0 46).toInt ≤ g.toInt := h64
          have q107 : uN J59 := by
            refine ⟨?_, fun w w1 w2 => ?_⟩
            · rw [congrFun (hF59c 0 rfl) 46, congrFun (hF59c 0 rfl) 47]; exact u59_3
            · rw [congrFun (hF59c 0 rfl) 47] at w1
              rw [congrFun (hF59c 0 rfl) 55] at w2
              rw [congrFun (hF59c 0 rfl) 46]
              obtain ⟨h, k, c1, c2, c3, c4⟩ := hsS.2.2.2.2.2.1.2.2 w w1 w2
              have q := u59_4 h k (by omega) c2 c3
              rw [c4, Int.toNat_natCast] at q
              exact q
          exact ⟨Int32.ofInt 0, (by intro q9 h9; simp only [List.mem_cons, List.not_mem_nil, or_false] at h9; rcases h9 with h9 | h9 <;> subst h9 <;> repeat (first | exact List.mem_cons_self | apply List.mem_cons_of_mem)), rfl, rfl, hR59c, hF59c, hsS59c, htA59c, (show 0 ≤ (0 : Int) from by first | assumption | omega), (show (0 : Int) ≤ (I 0 46).toInt from by first | assumption | omega), (show uN J59 from by first | assumption | omega), (show ((I 0 46).toInt - (0 : Int)) < 41 from by omega)⟩
        · intro h64
          have h64 : g.toInt < (J59 0 46).toInt := h64
          exact ⟨Int32.ofInt 0, (by intro q9 h9; simp only [List.mem_cons, List.not_mem_nil, or_false] at h9; rcases h9 with h9 | h9 | h9 <;> subst h9 <;> repeat (first | exact List.mem_cons_self | apply List.mem_cons_of_mem)), rfl, rfl, hR59c, hF59c, hsS59c, htA59c, (show g.toInt < (I 0 46).toInt from by first | assumption | omega), (show 0 ≤ (0 : Int) from by first | assumption | omega), (show (0 : Int) ≤ 4 from by first | assumption | omega), (show (∀ h : Nat, (h : Int) < (I 0 46).toInt → (J59 42 h).toInt < (I 0 47).toInt) from by first | assumption | omega | exact fun _ _ => rfl | exact fun _ _ => ⟨rfl, rfl⟩ | exact fun _ _ => ⟨rfl, rfl, rfl⟩ | (intro j9 hj9; omega)), (show (∀ h k : Nat, (h : Int) < g.toInt → 4 * h ≤ k → (k : Int) < 4 * h + (I 27 h).toInt → 0 ≤ (J59 43 (I 28 k).toInt.toNat).toInt ∧ (J59 43 (I 28 k).toInt.toNat).toInt < (I 0 46).toInt) from by first | assumption | omega | exact fun _ _ => rfl | exact fun _ _ => ⟨rfl, rfl⟩ | exact fun _ _ => ⟨rfl, rfl, rfl⟩ | (intro j9 hj9; omega)), (show (∀ k : Nat, 4 * g.toInt ≤ k → (k : Int) < 4 * g.toInt + (0 : Int) → 0 ≤ (J59 43 (I 28 k).toInt.toNat).toInt ∧ (J59 43 (I 28 k).toInt.toNat).toInt < (I 0 46).toInt) from by first | assumption | omega | exact fun _ _ => rfl | exact fun _ _ => ⟨rfl, rfl⟩ | exact fun _ _ => ⟨rfl, rfl, rfl⟩ | (intro j9 hj9; omega)), (show (4 - (0 : Int)) < 5 from by omega)⟩
    have lp2 : ∀ (n2 : Nat), ∀ (w : Int32) (J2 : fM), mR J2 ∧ f_fr [42, 43, 44] I J2 ∧ sS J2 ∧ tA J2 ∧ (0 ≤ w.toInt) ∧ (w.toInt ≤ (I 0 47).toInt) ∧ ((∀ v : Nat, (v : Int) < w.toInt → (J2 42 (pg I v)).toInt < (I 0 47).toInt)) ∧ ((I 0 47).toInt - w.toInt) < n2 → f_W pP l eP (f_rm 1) sP mP aP bP hP9 cP mY 71 a cy dC dI 3 (f_K 3 (qX12_isRight [.ref 0] I L)) 2 [(1, .int w), (0, .ref 0)] [] J2 L := by
      intro n2
      induction n2 with
      | zero =>
        intro w J2 h9
        obtain ⟨hR2c, hF2c, hsS2c, htA2c, u2_1, u2_2, u2_3, hm2⟩ := h9
        omega
      | succ n2 ih2 =>
        intro w J2 h9
        obtain ⟨hR2c, hF2c, hsS2c, htA2c, u2_1, u2_2, u2_3, hm2⟩ := h9
        have e2 : (J2 0 47).toInt = (I 0 47).toInt := congrArg Int32.toInt (congrFun (hF2c 0 rfl) 47)
        refine f_wp_ok C f_cl flX12_ok fiX12_ok fjX12_ok (sn := none) (fun j h => by cases h) (cs := (f_cnl [(433, (2, 3, 11, pX12_climbs, qX12_climbs))])) (cz := (fun _ => none)) (f_cnl_of (P := fun j S => f_cok pP l eP (f_rm 1) sP mP aP bP hP9 cP mY 71 a cy dC dI 3 _ _ (.invokevirtual j) true S) (List.forall_mem_cons.mpr ⟨f_cokV C (mX12_climbs hinj) (ci := 11) rfl (List.forall_mem_cons.mpr ⟨(mlX12_ok _ (List.mem_of_getElem? (i := 40) rfl)), kc_X12_climbs⟩) (by decide +kernel) ⟨Nat.le_of_ble_eq_true rfl, Nat.le_of_ble_eq_true rfl⟩, fun _ h => absurd h List.not_mem_nil⟩)) (fun j S h => by cases h) tX12_isRight_ok (cut := (f_cnl [(2, (fun (ls' : fLs) (st' : List Value) (I' : fM) (L' : fN) => ∃ w : Int32, (∀ q ∈ ([(1, .int w), (0, .ref 0)] : fLs), q ∈ ls') ∧ st' = [] ∧ L' = L ∧ (mR I' ∧ f_fr [42, 43, 44] I I' ∧ sS I' ∧ tA I' ∧ (0 ≤ w.toInt) ∧ (w.toInt ≤ (I 0 47).toInt) ∧ ((∀ v : Nat, (v : Int) < w.toInt → (I' 42 (pg I v)).toInt < (I 0 47).toInt)) ∧ ((I 0 47).toInt - w.toInt) < n2))), (59, (fun (ls' : fLs) (st' : List Value) (I' : fM) (L' : fN) => ∃ g : Int32, (∀ q ∈ ([(1, .int g), (0, .ref 0)] : fLs), q ∈ ls') ∧ st' = [] ∧ L' = L ∧ (mR I' ∧ f_fr [42, 43, 44] I I' ∧ sS I' ∧ tA I' ∧ (0 ≤ g.toInt) ∧ (g.toInt ≤ (I 0 46).toInt) ∧ ((∀ h : Nat, (h : Int) < (I 0 46).toInt → (I' 42 h).toInt < (I 0 47).toInt)) ∧ ((∀ h k : Nat, (h : Int) < g.toInt → 4 * h ≤ k → (k : Int) < 4 * h + (I 27 h).toInt → 0 ≤ (I' 43 (I 28 k).toInt.toNat).toInt ∧ (I' 43 (I 28 k).toInt.toNat).toInt < (I 0 46).toInt)) ∧ ((I 0 46).toInt - g.toInt) < 41)))])) (f_cnl_of (P := fun (tQ : Nat) (P : fLs → List Value → fM → fN → Prop) => ∀ ls' st' I' L', P ls' st' I' L' → f_W pP l eP (f_rm 1) sP mP aP bP hP9 cP mY 71 a cy dC dI 3 (f_K 3 (qX12_isRight [.ref 0] I L)) tQ ls' st' I' L') (List.forall_mem_cons.mpr ⟨(fun ls' st' I' L' h => by obtain ⟨w, hs, e1, e3, h9⟩ := h; rw [e1, e3]; exact f_W_sub hs (ih2 w I' h9)), List.forall_mem_cons.mpr ⟨(fun ls' st' I' L' h => by obtain ⟨g, hs, e1, e3, h9⟩ := h; rw [e1, e3]; exact f_W_sub hs (lp59 41 g I' h9)), fun _ h => absurd h List.not_mem_nil⟩⟩)) 30 2 (f_seek 2 0 tX12_isRight) (f_seek_ok 2 0 tX12_isRight tX12_isRight_ok) _ _ _ _ ?_
        have r4_1 : 0 ≤ (J2 0 47).toInt ∧ (J2 0 47).toInt ≤ 40 := hR2c 0 47
        have e4_2 : (J2 0 47).toInt = (I 0 47).toInt := congrArg Int32.toInt (congrFun (hF2c 0 rfl) 47)
        apply And.intro
        · intro h7
          have h7 : (J2 0 47).toInt ≤ w.toInt := h7
          have a47 : ∀ h : Nat, (h : Int) < (I 0 46).toInt → (J2 42 h).toInt < (I 0 47).toInt := fun h hh => by
            obtain ⟨v, v1, v2⟩ := pg_onto hR hsS htA hh
            rw [← v2]; exact u2_3 v (by omega)
          have r52_3 : 0 ≤ (J2 0 55).toInt ∧ (J2 0 55).toInt ≤ 39 := hR2c 0 55
          have e52_4 : (J2 0 55).toInt = (I 0 55).toInt := congrArg Int32.toInt (congrFun (hF2c 0 rfl) 55)
          refine And.intro (show f_in (J2 0 55) 40 from ⟨show 0 ≤ (J2 0 55).toInt from by omega, show (J2 0 55).toInt < 40 from by omega⟩) ?_
          have hR56 := mR_a (k := 43) (j := (J2 0 55).toInt.toNat) (x := Int32.ofInt (-1)) hR2c (show (-1 : Int) ≤ (Int32.ofInt (-1)).toInt ∧ (Int32.ofInt (-1)).toInt ≤ (39 : Int) from ⟨by decide, by decide⟩)
          have hF56 := f_fr_up (k := 43) (r := upd (J2 43) ((J2 0 55).toInt.toNat) (Int32.ofInt (-1))) hF2c rfl
          have hsS56 := f_depo_up sS_dep (k := 43) (r := upd (J2 43) ((J2 0 55).toInt.toNat) (Int32.ofInt (-1))) hsS2c rfl (by decide)
          have htA56 := f_depo_up tA_dep (k := 43) (r := upd (J2 43) ((J2 0 55).toInt.toNat) (Int32.ofInt (-1))) htA2c rfl (by decide)
          exact ⟨Int32.ofInt 0, (by intro q9 h9; simp only [List.mem_cons, List.not_mem_nil, or_false] at h9; rcases h9 with h9 | h9 <;> subst h9 <;> repeat (first | exact List.mem_cons_self | apply List.mem_cons_of_mem)), rfl, rfl, hR56, hF56, hsS56, htA56, (show 0 ≤ (0 : Int) from by first | assumption | omega), (show (0 : Int) ≤ (I 0 46).toInt from by first | assumption | omega), (show (∀ h : Nat, (h : Int) < (I 0 46).toInt → (J2 42 h).toInt < (I 0 47).toInt) from by first | assumption | omega | exact fun _ _ => rfl | exact fun _ _ => ⟨rfl, rfl⟩ | exact fun _ _ => ⟨rfl, rfl, rfl⟩ | (intro j9 hj9; omega)), (show (∀ h k : Nat, (h : Int) < (0 : Int) → 4 * h ≤ k → (k : Int) < 4 * h + (I 27 h).toInt → 0 ≤ ((upd (J2 43) ((J2 0 55).toInt.toNat) (Int32.ofInt (-1))) (I 28 k).toInt.toNat).toInt ∧ ((upd (J2 43) ((J2 0 55).toInt.toNat) (Int32.ofInt (-1))) (I 28 k).toInt.toNat).toInt < (I 0 46).toInt) from by first | assumption | omega | exact fun _ _ => rfl | exact fun _ _ => ⟨rfl, rfl⟩ | exact fun _ _ => ⟨rfl, rfl, rfl⟩ | (intro j9 hj9; omega)), (show ((I 0 46).toInt - (0 : Int)) < 41 from by omega)⟩
        · intro h7
          have h7 : w.toInt < (J2 0 47).toInt := h7
          have s10 := pg_lt hR hsS htA (w := w.toInt.toNat) (by omega)
          have r10 : J2 22 = I 22 ∧ J2 23 = I 23 ∧ J2 25 = I 25 := ⟨hF2c 22 rfl, hF2c 23 rfl, hF2c 25 rfl⟩
          have t10 : 0 ≤ (J2 23 (J2 25 w.toInt.toNat).toInt.toNat).toInt := by rw [r10.2.1, r10.2.2]; exact s10.1
          have x10 : pg I w.toInt.toNat = (J2 22 (J2 23 (J2 25 w.toInt.toNat).toInt.toNat).toInt.toNat).toInt.toNat := by unfold pg; rw [r10.1, r10.2.1, r10.2.2]
          refine And.intro (show f_in w 40 from ⟨show 0 ≤ w.toInt from by omega, show w.toInt < 40 from by omega⟩) ?_
          have r23_3 : 0 ≤ (J2 25 (w.toInt.toNat)).toInt ∧ (J2 25 (w.toInt.toNat)).toInt ≤ 19 := hR2c 25 (w.toInt.toNat)
          have e23_4 : (J2 25 (w.toInt.toNat)).toInt = (I 25 (w.toInt.toNat)).toInt := congrArg Int32.toInt (congrFun (hF2c 25 rfl) (w.toInt.toNat))
          refine And.intro (show f_in (J2 25 (w.toInt.toNat)) 20 from ⟨show 0 ≤ (J2 25 (w.toInt.toNat)).toInt from by omega, show (J2 25 (w.toInt.toNat)).toInt < 20 from by omega⟩) ?_
          have r24_5 : -1 ≤ (J2 23 ((J2 25 (w.toInt.toNat)).toInt.toNat)).toInt ∧ (J2 23 ((J2 25 (w.toInt.toNat)).toInt.toNat)).toInt ≤ 19 := hR2c 23 ((J2 25 (w.toInt.toNat)).toInt.toNat)
          have e24_6 : (J2 23 ((J2 25 (w.toInt.toNat)).toInt.toNat)).toInt = (I 23 ((J2 25 (w.toInt.toNat)).toInt.toNat)).toInt := congrArg Int32.toInt (congrFun (hF2c 23 rfl) ((J2 25 (w.toInt.toNat)).toInt.toNat))
          refine And.intro (show f_in (J2 23 ((J2 25 (w.toInt.toNat)).toInt.toNat)) 20 from ⟨show 0 ≤ (J2 23 ((J2 25 (w.toInt.toNat)).toInt.toNat)).toInt from by omega, show (J2 23 ((J2 25 (w.toInt.toNat)).toInt.toNat)).toInt < 20 from by omega⟩) ?_
          have r25_7 : 0 ≤ (J2 22 ((J2 23 ((J2 25 (w.toInt.toNat)).toInt.toNat)).toInt.toNat)).toInt ∧ (J2 22 ((J2 23 ((J2 25 (w.toInt.toNat)).toInt.toNat)).toInt.toNat)).toInt ≤ 39 := hR2c 22 ((J2 23 ((J2 25 (w.toInt.toNat)).toInt.toNat)).toInt.toNat)
          have e25_8 : (J2 22 ((J2 23 ((J2 25 (w.toInt.toNat)).toInt.toNat)).toInt.toNat)).toInt = (I 22 ((J2 23 ((J2 25 (w.toInt.toNat)).toInt.toNat)).toInt.toNat)).toInt := congrArg Int32.toInt (congrFun (hF2c 22 rfl) ((J2 23 ((J2 25 (w.toInt.toNat)).toInt.toNat)).toInt.toNat))
          refine And.intro (show f_in (J2 22 ((J2 23 ((J2 25 (w.toInt.toNat)).toInt.toNat)).toInt.toNat)) 40 from ⟨show 0 ≤ (J2 22 ((J2 23 ((J2 25 (w.toInt.toNat)).toInt.toNat)).toInt.toNat)).toInt from by omega, show (J2 22 ((J2 23 ((J2 25 (w.toInt.toNat)).toInt.toNat)).toInt.toNat)).toInt < 40 from by omega⟩) ?_
          have hR33 := mR_a (k := 42) (j := (J2 22 ((J2 23 ((J2 25 (w.toInt.toNat)).toInt.toNat)).toInt.toNat)).toInt.toNat) (x := w) hR2c (show 0 ≤ w.toInt ∧ w.toInt ≤ 39 from ⟨by omega, by omega⟩)
          have hF33 := f_fr_up (k := 42) (r := upd (J2 42) ((J2 22 ((J2 23 ((J2 25 (w.toInt.toNat)).toInt.toNat)).toInt.toNat)).toInt.toNat) w) hF2c rfl
          have hsS33 := f_depo_up sS_dep (k := 42) (r := upd (J2 42) ((J2 22 ((J2 23 ((J2 25 (w.toInt.toNat)).toInt.toNat)).toInt.toNat)).toInt.toNat) w) hsS2c rfl (by decide)
          have htA33 := f_depo_up tA_dep (k := 42) (r := upd (J2 42) ((J2 22 ((J2 23 ((J2 25 (w.toInt.toNat)).toInt.toNat)).toInt.toNat)).toInt.toNat) w) htA2c rfl (by decide)
          refine And.intro (show f_in w 40 from ⟨show 0 ≤ w.toInt from by omega, show w.toInt < 40 from by omega⟩) ?_
          have hR40 := mR_a (k := 44) (j := w.toInt.toNat) (x := vp_nar .boolean (Int32.ofInt 0)) hR33 (by exact f_rng _)
          have hF40 := f_fr_up (k := 44) (r := upd (J2 44) (w.toInt.toNat) (vp_nar .boolean (Int32.ofInt 0))) hF33 rfl
          have hsS40 := f_depo_up sS_dep (k := 44) (r := upd (J2 44) (w.toInt.toNat) (vp_nar .boolean (Int32.ofInt 0))) hsS33 rfl (by decide)
          have htA40 := f_depo_up tA_dep (k := 44) (r := upd (J2 44) (w.toInt.toNat) (vp_nar .boolean (Int32.ofInt 0))) htA33 rfl (by decide)
          intro z41 q41 _ hq41 hl41 hu41
          have hq41 : z41.toInt = w.toInt + 1 + 4294967296 * q41 := hq41
          try have hz41 : z41.toInt = w.toInt + 1 := by omega
          have q41 : ∀ v : Nat, (v : Int) < z41.toInt → ((upd (J2 42) (J2 22 (J2 23 (J2 25 w.toInt.toNat).toInt.toNat).toInt.toNat).toInt.toNat w) (pg I v)).toInt < (I 0 47).toInt := fun v hv => by
            by_cases q : pg I v = (J2 22 (J2 23 (J2 25 w.toInt.toNat).toInt.toNat).toInt.toNat).toInt.toNat
            · rw [q, pk_us]; omega
            · rw [pk_un q]
              have : ¬ v = w.toInt.toNat := fun e => q (by rw [e]; exact x10)
              exact u2_3 v (by omega)
          exact ⟨z41, (by intro q9 h9; simp only [List.mem_cons, List.not_mem_nil, or_false] at h9; rcases h9 with h9 | h9 <;> subst h9 <;> repeat (first | exact List.mem_cons_self | apply List.mem_cons_of_mem)), rfl, rfl, hR40, hF40, hsS40, htA40, (show 0 ≤ z41.toInt from by first | assumption | omega), (show z41.toInt ≤ (I 0 47).toInt from by first | assumption | omega), (show (∀ v : Nat, (v : Int) < z41.toInt → ((upd (J2 42) ((J2 22 ((J2 23 ((J2 25 (w.toInt.toNat)).toInt.toNat)).toInt.toNat)).toInt.toNat) w) (pg I v)).toInt < (I 0 47).toInt) from by first | assumption | omega | exact fun _ _ => rfl | exact fun _ _ => ⟨rfl, rfl⟩ | exact fun _ _ => ⟨rfl, rfl, rfl⟩ | (intro j9 hj9; omega)), (show ((I 0 47).toInt - z41.toInt) < n2 from by omega)⟩
    refine f_wp_ok C f_cl flX12_ok fiX12_ok fjX12_ok (sn := none) (fun j h => by cases h) (cs := (f_cnl [(433, (2, 3, 11, pX12_climbs, qX12_climbs))])) (cz := (fun _ => none)) (f_cnl_of (P := fun j S => f_cok pP l eP (f_rm 1) sP mP aP bP hP9 cP mY 71 a cy dC dI 3 _ _ (.invokevirtual j) true S) (List.forall_mem_cons.mpr ⟨f_cokV C (mX12_climbs hinj) (ci := 11) rfl (List.forall_mem_cons.mpr ⟨(mlX12_ok _ (List.mem_of_getElem? (i := 40) rfl)), kc_X12_climbs⟩) (by decide +kernel) ⟨Nat.le_of_ble_eq_true rfl, Nat.le_of_ble_eq_true rfl⟩, fun _ h => absurd h List.not_mem_nil⟩)) (fun j S h => by cases h) tX12_isRight_ok (cut := (f_cnl [(2, (fun (ls' : fLs) (st' : List Value) (I' : fM) (L' : fN) => ∃ w : Int32, (∀ q ∈ ([(1, .int w), (0, .ref 0)] : fLs), q ∈ ls') ∧ st' = [] ∧ L' = L ∧ (mR I' ∧ f_fr [42, 43, 44] I I' ∧ sS I' ∧ tA I' ∧ (0 ≤ w.toInt) ∧ (w.toInt ≤ (I 0 47).toInt) ∧ ((∀ v : Nat, (v : Int) < w.toInt → (I' 42 (pg I v)).toInt < (I 0 47).toInt)) ∧ ((I 0 47).toInt - w.toInt) < 41)))])) (f_cnl_of (P := fun (tQ : Nat) (P : fLs → List Value → fM → fN → Prop) => ∀ ls' st' I' L', P ls' st' I' L' → f_W pP l eP (f_rm 1) sP mP aP bP hP9 cP mY 71 a cy dC dI 3 (f_K 3 (qX12_isRight [.ref 0] I L)) tQ ls' st' I' L') (List.forall_mem_cons.mpr ⟨(fun ls' st' I' L' h => by obtain ⟨w, hs, e1, e3, h9⟩ := h; rw [e1, e3]; exact f_W_sub hs (lp2 41 w I' h9)), fun _ h => absurd h List.not_mem_nil⟩)) 5 0 tX12_isRight tX12_isRight_ok _ _ _ _ ?_
    have r2_1 : 0 ≤ (I 0 47).toInt ∧ (I 0 47).toInt ≤ 40 := hR 0 47
    exact ⟨Int32.ofInt 0, (by intro q9 h9; simp only [List.mem_cons, List.not_mem_nil, or_false] at h9; rcases h9 with h9 | h9 <;> subst h9 <;> repeat (first | exact List.mem_cons_self | apply List.mem_cons_of_mem)), rfl, rfl, hR, hF0, hsS, htA, (show 0 ≤ (0 : Int) from by first | assumption | omega), (show (0 : Int) ≤ (I 0 47).toInt from by first | assumption | omega), (show (∀ v : Nat, (v : Int) < (0 : Int) → (I 42 (pg I v)).toInt < (I 0 47).toInt) from by first | assumption | omega | exact fun _ _ => rfl | exact fun _ _ => ⟨rfl, rfl⟩ | exact fun _ _ => ⟨rfl, rfl, rfl⟩ | (intro j9 hj9; omega)), (show ((I 0 47).toInt - (0 : Int)) < 41 from by omega)⟩
