def tyV (J : fM) : Int := tyM (J 41) ((J 0 59).toInt + 1).toNat
theorem tyV_rng {J : fM} (hR : mR J) : 0 ≤ tyV J ∧ tyV J < 600000000000000 := by
  have hd : -1 ≤ (J 0 59).toInt ∧ (J 0 59).toInt ≤ 10 := hR 0 59
  have q := tyM_rng (R := J 41) (fun j => hR 41 j) (n := ((J 0 59).toInt + 1).toNat) (by omega)
  have p := p22 (11 - ((J 0 59).toInt + 1).toNat)
  have e : (22 : Int) ^ 11 = 584318301411328 := by decide
  unfold tyV
  omega
theorem tyV_eq {J : fM} {d : Nat} (hd : (J 0 59).toInt = d) : tyV J = tyM (J 41) (d + 1) := by
  unfold tyV
  rw [show ((J 0 59).toInt + 1).toNat = d + 1 by omega]
theorem tA_of {J : fM} (h : syT (J 23) (J 33) (J 0 45).toInt) (h2 : ∀ e : Nat, (e : Int) < (J 0 45).toInt → 0 ≤ (J 23 e).toInt) : tA J := by
  intro e he
  rcases h e he with q | q
  · have := h2 e he; omega
  · exact q
def tX12_nextTying : List (Instr × Nat) := [(.aload_n 0, 1), (.getfield 426, 3), (.ifCond .lt 167, 3), (.aload_n 0, 1), (.getfield 134, 3), (.aload_n 0, 1), (.getfield 426, 3), (.iaload, 1), (.istore_n 1, 1), (.aload_n 0, 1), (.getfield 83, 3), (.iload_n 1, 1), (.iaload, 1), (.ifCond .lt 22, 3), (.aload_n 0, 1), (.getfield 83, 3), (.aload_n 0, 1), (.getfield 83, 3), (.iload_n 1, 1), (.iaload, 1), (.iconst (-1), 1), (.iastore, 1), (.aload_n 0, 1), (.getfield 83, 3), (.iload_n 1, 1), (.iconst (-1), 1), (.iastore, 1), (.aload_n 0, 1), (.iload_n 1, 1), (.aload_n 0, 1), (.getfield 137, 3), (.aload_n 0, 1), (.getfield 426, 3), (.iaload, 1), (.invokevirtual 429, 3), (.istore_n 2, 1), (.iload_n 2, 1), (.ifCond .ge 16, 3), (.aload_n 0, 1), (.dup, 1), (.getfield 426, 3), (.iconst 1, 1), (.isub, 1), (.putfield 426, 3), (.goto (-74), 3), (.aload_n 0, 1), (.getfield 83, 3), (.iload_n 1, 1), (.iload_n 2, 1), (.iastore, 1), (.aload_n 0, 1), (.getfield 83, 3), (.iload_n 2, 1), (.iload_n 1, 1), (.iastore, 1), (.aload_n 0, 1), (.getfield 137, 3), (.aload_n 0, 1), (.getfield 426, 3), (.iload_n 2, 1), (.iastore, 1), (.iload_n 1, 1), (.iconst 1, 1), (.iadd, 1), (.istore_n 3, 1), (.iload_n 3, 1), (.aload_n 0, 1), (.getfield 385, 3), (.if_icmp .ge 18, 3), (.aload_n 0, 1), (.getfield 83, 3), (.iload_n 3, 1), (.iaload, 1), (.ifCond .lt 9, 3), (.iinc 3 1, 3), (.goto (-20), 3), (.iload_n 3, 1), (.aload_n 0, 1), (.getfield 385, 3), (.if_icmp .ne 5, 3), (.iconst 1, 1), (.ireturn, 1), (.aload_n 0, 1), (.dup, 1), (.getfield 426, 3), (.iconst 1, 1), (.iadd, 1), (.putfield 426, 3), (.aload_n 0, 1), (.getfield 134, 3), (.aload_n 0, 1), (.getfield 426, 3), (.iload_n 3, 1), (.iastore, 1), (.aload_n 0, 1), (.getfield 137, 3), (.aload_n 0, 1), (.getfield 426, 3), (.iload_n 3, 1), (.iastore, 1), (.goto (-168), 3), (.iconst 0, 1), (.ireturn, 1)]
theorem tX12_nextTying_ok : f_chk cX12_nextTying 0 tX12_nextTying = true := by decide +kernel
def pX12_nextTying (av : List Value) (I : fM) (L : fN) : Prop := match av with
  | [.ref 0] => mR I ∧ 1 ≤ (I 0 45).toInt ∧ (I 0 59).toInt ≤ 9 ∧ tY I (I 0 59).toInt
  | _ => False
def qX12_nextTying (av : List Value) (I : fM) (L : fN) (r : Value) (I' : fM) (L' : fN) : Prop := match av, r with
  | [.ref 0], .int x => mR I' ∧ f_fo [59] I I' ∧ f_fr [0, 23, 40, 41] I I' ∧ L' = L ∧ (x.toInt = 0 ∨ x.toInt = 1) ∧ (x.toInt = 1 → tA I' ∧ tY I' (I' 0 59).toInt ∧ (I' 0 59).toInt ≤ 9 ∧ tyV I' < tyV I)
  | _, _ => False
set_option maxHeartbeats 40000000 in
set_option maxRecDepth 100000 in
theorem mX12_nextTying {l : Launch} {a : Nat → Nat} {cy dC : Nat → ClassId} {dI : Nat → Nat → Nat} (hinj : ∀ i j, i < 71 → j < 71 → a i = a j → i = j) : f_Met (fun _ => True) l mY 71 a cy dC dI yX12_nextTying cX12_nextTying 4 3 1 pX12_nextTying qX12_nextTying := by
  refine f_met_of (f_Ec_T 71 a) hinj mY_hi (by decide) (fun av I L h => by unfold pX12_nextTying at h; split at h <;> first | exact Nat.le_of_ble_eq_true rfl | exact h.elim) ?_
  intro pP eP sP mP aP bP hP9 cP C av I L hp
  unfold pX12_nextTying at hp
  split at hp
  case h_2 => exact hp.elim
  case h_1 =>
    obtain ⟨hR, p1, p2, p3⟩ := hp
    have hE : (I 0 45).toInt ≤ 20 := (hR 0 45).2
    have v0 := tyV_rng hR
    have hF0 : f_fr [0, 23, 40, 41] I I := f_fr_rf
    have hO0 : f_fo [59] I I := f_fo_rf
    have lp0 : ∀ (n0 : Nat), ∀ (J0 : fM), mR J0 ∧ f_fr [0, 23, 40, 41] I J0 ∧ f_fo [59] I J0 ∧ ((J0 0 59).toInt ≤ 9) ∧ (tY J0 (J0 0 59).toInt) ∧ (tyV J0 ≤ tyV I) ∧ (0 ≤ tyV J0) ∧ (tyV J0) < n0 → f_W pP l eP (f_rm 1) sP mP aP bP hP9 cP mY 71 a cy dC dI 4 (f_K 3 (qX12_nextTying [.ref 0] I L)) 0 [(0, .ref 0)] [] J0 L := by
      intro n0
      induction n0 with
      | zero =>
        intro J0 h9
        obtain ⟨hR0c, hF0c, hO0c, u0_1, u0_2, u0_3, u0_4, hm0⟩ := h9
        omega
      | succ n0 ih0 =>
        intro J0 h9
        obtain ⟨hR0c, hF0c, hO0c, u0_1, u0_2, u0_3, u0_4, hm0⟩ := h9
        have e0 : J0 0 45 = I 0 45 := hO0c 45 rfl
        have lp45 : ∀ (i : Int32) (J45 : fM), mR J45 ∧ f_fr [0, 23, 40, 41] I J45 ∧ f_fo [59] I J45 ∧ (0 ≤ (J45 0 59).toInt) ∧ ((J45 0 59).toInt ≤ 9) ∧ (i = J45 40 (J45 0 59).toInt.toNat) ∧ (tY J45 (J45 0 59).toInt) ∧ ((J45 23 i.toInt.toNat).toInt = -1) ∧ (tyV J45 ≤ tyV J0) → f_W pP l eP (f_rm 1) sP mP aP bP hP9 cP mY 71 a cy dC dI 4 (f_K 3 (qX12_nextTying [.ref 0] I L)) 45 [(1, .int i), (0, .ref 0)] [] J45 L := by
          intro i J45 h9
          obtain ⟨hR45c, hF45c, hO45c, u45_1, u45_2, u45_3, u45_4, u45_5, u45_6⟩ := h9
          have e45 : J45 0 45 = I 0 45 := hO45c 45 rfl
          have ee45 : (J45 0 45).toInt = (I 0 45).toInt := by rw [e45]
          have i45 : 0 ≤ i.toInt ∧ i.toInt ≤ 19 := by rw [u45_3]; exact hR45c 40 _
          have lp105 : ∀ (n105 : Nat), ∀ (j : Int32) (next : Int32) (J105 : fM), mR J105 ∧ f_fr [0, 23, 40, 41] I J105 ∧ f_fo [59] I J105 ∧ (0 ≤ (J105 0 59).toInt) ∧ ((J105 0 59).toInt ≤ 9) ∧ (i = J105 40 (J105 0 59).toInt.toNat) ∧ (tY J105 (J105 0 59).toInt) ∧ ((J105 23 i.toInt.toNat).toInt = (J105 41 (J105 0 59).toInt.toNat).toInt) ∧ (i.toInt < (J105 41 (J105 0 59).toInt.toNat).toInt) ∧ (ct (J105 23) (I 0 45).toInt.toNat = 2 * (J105 0 59).toInt + 2) ∧ (i.toInt < next.toInt) ∧ (next.toInt ≤ (I 0 45).toInt) ∧ ((∀ e : Nat, (e : Int) < next.toInt → 0 ≤ (J105 23 e).toInt)) ∧ (tyV J105 + 22 ^ (10 - (J105 0 59).toInt.toNat) ≤ tyV J0) ∧ (20 - next.toInt) < n105 → f_W pP l eP (f_rm 1) sP mP aP bP hP9 cP mY 71 a cy dC dI 4 (f_K 3 (qX12_nextTying [.ref 0] I L)) 105 [(3, .int next), (2, .int j), (1, .int i), (0, .ref 0)] [] J105 L := by
            intro n105
            induction n105 with
            | zero =>
              intro j next J105 h9
              obtain ⟨hR105c, hF105c, hO105c, u105_1, u105_2, u105_3, u105_4, u105_5, u105_6, u105_7, u105_8, u105_9, u105_10, u105_11, hm105⟩ := h9
              omega
            | succ n105 ih105 =>
              intro j next J105 h9
              obtain ⟨hR105c, hF105c, hO105c, u105_1, u105_2, u105_3, u105_4, u105_5, u105_6, u105_7, u105_8, u105_9, u105_10, u105_11, hm105⟩ := h9
              have e105 : J105 0 45 = I 0 45 := hO105c 45 rfl
              refine f_wp_ok C f_cl flX12_ok fiX12_ok fjX12_ok (sn := none) (fun j h => by cases h) (cs := (f_cnl [(429, (3, 1, 11, pX12_partnerb, qX12_partnerb))])) (cz := (fun _ => none)) (f_cnl_of (P := fun j S => f_cok pP l eP (f_rm 1) sP mP aP bP hP9 cP mY 71 a cy dC dI 4 _ _ (.invokevirtual j) true S) (List.forall_mem_cons.mpr ⟨f_cokV C (mX12_partnerb hinj) (ci := 11) rfl (List.forall_mem_cons.mpr ⟨(mlX12_ok _ (List.mem_of_getElem? (i := 39) rfl)), kc_X12_partner⟩) (by decide +kernel) ⟨Nat.le_of_ble_eq_true rfl, Nat.le_of_ble_eq_true rfl⟩, fun _ h => absurd h List.not_mem_nil⟩)) (fun j S h => by cases h) tX12_nextTying_ok (cut := (f_cnl [(0, (fun (ls' : fLs) (st' : List Value) (I' : fM) (L' : fN) => (∀ q ∈ ([(0, .ref 0)] : fLs), q ∈ ls') ∧ st' = [] ∧ L' = L ∧ (mR I' ∧ f_fr [0, 23, 40, 41] I I' ∧ f_fo [59] I I' ∧ ((I' 0 59).toInt ≤ 9) ∧ (tY I' (I' 0 59).toInt) ∧ (tyV I' ≤ tyV I) ∧ (0 ≤ tyV I') ∧ (tyV I') < n0))), (105, (fun (ls' : fLs) (st' : List Value) (I' : fM) (L' : fN) => ∃ j : Int32, ∃ next : Int32, (∀ q ∈ ([(3, .int next), (2, .int j), (1, .int i), (0, .ref 0)] : fLs), q ∈ ls') ∧ st' = [] ∧ L' = L ∧ (mR I' ∧ f_fr [0, 23, 40, 41] I I' ∧ f_fo [59] I I' ∧ (0 ≤ (I' 0 59).toInt) ∧ ((I' 0 59).toInt ≤ 9) ∧ (i = I' 40 (I' 0 59).toInt.toNat) ∧ (tY I' (I' 0 59).toInt) ∧ ((I' 23 i.toInt.toNat).toInt = (I' 41 (I' 0 59).toInt.toNat).toInt) ∧ (i.toInt < (I' 41 (I' 0 59).toInt.toNat).toInt) ∧ (ct (I' 23) (I 0 45).toInt.toNat = 2 * (I' 0 59).toInt + 2) ∧ (i.toInt < next.toInt) ∧ (next.toInt ≤ (I 0 45).toInt) ∧ ((∀ e : Nat, (e : Int) < next.toInt → 0 ≤ (I' 23 e).toInt)) ∧ (tyV I' + 22 ^ (10 - (I' 0 59).toInt.toNat) ≤ tyV J0) ∧ (20 - next.toInt) < n105)))])) (f_cnl_of (P := fun (tQ : Nat) (P : fLs → List Value → fM → fN → Prop) => ∀ ls' st' I' L', P ls' st' I' L' → f_W pP l eP (f_rm 1) sP mP aP bP hP9 cP mY 71 a cy dC dI 4 (f_K 3 (qX12_nextTying [.ref 0] I L)) tQ ls' st' I' L') (List.forall_mem_cons.mpr ⟨(fun ls' st' I' L' h => by obtain ⟨hs, e1, e3, h9⟩ := h; rw [e1, e3]; exact f_W_sub hs (ih0  I' h9)), List.forall_mem_cons.mpr ⟨(fun ls' st' I' L' h => by obtain ⟨j, next, hs, e1, e3, h9⟩ := h; rw [e1, e3]; exact f_W_sub hs (ih105 j next I' h9)), fun _ h => absurd h List.not_mem_nil⟩⟩)) 35 105 (f_seek 105 0 tX12_nextTying) (f_seek_ok 105 0 tX12_nextTying tX12_nextTying_ok) _ _ _ _ ?_
              have r107_1 : 0 ≤ (J105 0 45).toInt ∧ (J105 0 45).toInt ≤ 20 := hR105c 0 45
              have e107_2 : (J105 0 45).toInt = (I 0 45).toInt := congrArg Int32.toInt (hO105c 45 rfl)
              apply And.intro
              · intro h110
                have h110 : (J105 0 45).toInt ≤ next.toInt := h110
                have d128 : (((J105 0 59).toInt.toNat : Nat) : Int) = (J105 0 59).toInt := by omega
                have t128 : tY J105 (((J105 0 59).toInt.toNat : Nat) : Int) := by rw [d128]; exact u105_4
                have p128 := p22 (10 - (J105 0 59).toInt.toNat)
                apply And.intro
                · intro h133
                  have h133 : ¬ next.toInt = (J105 0 45).toInt := h133
                  have f138 : next.toInt < (I 0 45).toInt ∧ (J105 23 next.toInt.toNat).toInt < 0 := by omega
                  have c138 := ct_free f138.2 (n := (I 0 45).toInt.toNat) (by omega)
                  have r140_3 : -1 ≤ (J105 0 59).toInt ∧ (J105 0 59).toInt ≤ 10 := hR105c 0 59
                  intro z144 q144 _ hq144 hl144 hu144
                  have hq144 : z144.toInt = (J105 0 59).toInt + 1 + 4294967296 * q144 := hq144
                  try have hz144 : z144.toInt = (J105 0 59).toInt + 1 := by omega
                  have hR145 := mR_f (k := 0) (j := 59) (x := z144) hR105c (show -1 ≤ z144.toInt ∧ z144.toInt ≤ 10 from ⟨by omega, by omega⟩)
                  have hF145 := f_fr_up (k := 0) (r := va_up (J105 0) 59 z144) hF105c rfl
                  have hO145 := f_fo_up (j := 59) (x := z144) hO105c rfl
                  refine And.intro (show f_in z144 11 from ⟨show 0 ≤ z144.toInt from by omega, show z144.toInt < 11 from by omega⟩) ?_
                  have hR157 := mR_a (k := 40) (j := z144.toInt.toNat) (x := next) hR145 (show 0 ≤ next.toInt ∧ next.toInt ≤ 19 from ⟨by omega, by omega⟩)
                  have hF157 := f_fr_up (k := 40) (r := upd (J105 40) (z144.toInt.toNat) next) hF145 rfl
                  have hO157 := f_fo_ne (k := 40) (r := upd (J105 40) (z144.toInt.toNat) next) hO145 (by decide)
                  refine And.intro (show f_in z144 11 from ⟨show 0 ≤ z144.toInt from by omega, show z144.toInt < 11 from by omega⟩) ?_
                  have hR167 := mR_a (k := 41) (j := z144.toInt.toNat) (x := next) hR157 (show 0 ≤ next.toInt ∧ next.toInt ≤ 19 from ⟨by omega, by omega⟩)
                  have hF167 := f_fr_up (k := 41) (r := upd (J105 41) (z144.toInt.toNat) next) hF157 rfl
                  have hO167 := f_fo_ne (k := 41) (r := upd (J105 41) (z144.toInt.toNat) next) hO157 (by decide)
                  have q167 : tY (va_up (va_up (va_up J105 0 (va_up (J105 0) 59 z144)) 40 (upd (J105 40) (z144.toInt.toNat) next)) 41 (upd (J105 41) (z144.toInt.toNat) next)) z144.toInt := tY_next (K := (va_up (va_up (va_up J105 0 (va_up (J105 0) 59 z144)) 40 (upd (J105 40) (z144.toInt.toNat) next)) 41 (upd (J105 41) (z144.toInt.toNat) next))) (d := (J105 0 59).toInt.toNat) (y := next) hR105c t128 ⟨by rw [← u105_3]; omega, by rw [e105]; omega⟩ f138.2 u105_10 ⟨by rw [← u105_3]; exact u105_5, by rw [← u105_3]; exact u105_6⟩ (by rw [e105, u105_7]; omega) rfl rfl rfl (by show upd (J105 40) z144.toInt.toNat next = _; rw [show z144.toInt.toNat = (J105 0 59).toInt.toNat + 1 by omega]) (by show upd (J105 41) z144.toInt.toNat next = _; rw [show z144.toInt.toNat = (J105 0 59).toInt.toNat + 1 by omega]) (by omega)
                  have v167 : 0 ≤ tyV (va_up (va_up (va_up J105 0 (va_up (J105 0) 59 z144)) 40 (upd (J105 40) (z144.toInt.toNat) next)) 41 (upd (J105 41) (z144.toInt.toNat) next)) ∧ tyV (va_up (va_up (va_up J105 0 (va_up (J105 0) 59 z144)) 40 (upd (J105 40) (z144.toInt.toNat) next)) 41 (upd (J105 41) (z144.toInt.toNat) next)) < tyV J0 := by
                    have b := tyV_rng hR167
                    have a := tyM_push (R := J105 41) (n := (J105 0 59).toInt.toNat) (y := next) (by omega) (by omega)
                    have w := tyV_eq (J := J105) d128.symm
                    refine ⟨b.1, ?_⟩
                    show tyM (upd (J105 41) z144.toInt.toNat next) (z144.toInt + 1).toNat < _
                    rw [show (z144.toInt + 1).toNat = (J105 0 59).toInt.toNat + 2 by omega, show z144.toInt.toNat = (J105 0 59).toInt.toNat + 1 by omega]
                    omega
                  exact ⟨(by intro q9 h9; simp only [List.mem_cons, List.not_mem_nil, or_false] at h9; subst h9 <;> repeat (first | exact List.mem_cons_self | apply List.mem_cons_of_mem)), rfl, rfl, hR167, hF167, hO167, (show z144.toInt ≤ 9 from by first | assumption | omega), (show tY (va_up (va_up (va_up J105 0 (va_up (J105 0) 59 z144)) 40 (upd (J105 40) (z144.toInt.toNat) next)) 41 (upd (J105 41) (z144.toInt.toNat) next)) z144.toInt from by first | assumption | omega), (show tyV (va_up (va_up (va_up J105 0 (va_up (J105 0) 59 z144)) 40 (upd (J105 40) (z144.toInt.toNat) next)) 41 (upd (J105 41) (z144.toInt.toNat) next)) ≤ tyV I from by first | assumption | omega), (show 0 ≤ tyV (va_up (va_up (va_up J105 0 (va_up (J105 0) 59 z144)) 40 (upd (J105 40) (z144.toInt.toNat) next)) 41 (upd (J105 41) (z144.toInt.toNat) next)) from by first | assumption | omega), (show (tyV (va_up (va_up (va_up J105 0 (va_up (J105 0) 59 z144)) 40 (upd (J105 40) (z144.toInt.toNat) next)) 41 (upd (J105 41) (z144.toInt.toNat) next))) < n0 from by omega)⟩
                · intro h133
                  have h133 : next.toInt = (J105 0 45).toInt := h133
                  exact ⟨Or.inr rfl, hR105c, hO105c, hF105c, rfl, (show ((1 : Int) = 0 ∨ (1 : Int) = 1) from by first | assumption | omega | rfl), (show ((1 : Int) = 1 → tA J105 ∧ tY J105 (J105 0 59).toInt ∧ (J105 0 59).toInt ≤ 9 ∧ tyV J105 < tyV I) from fun _ => ⟨tA_of u105_4.1 (fun e he => u105_10 e (by rw [e105] at he; omega)), u105_4, u105_2, by omega⟩)⟩
              · intro h110
                have h110 : next.toInt < (J105 0 45).toInt := h110
                refine And.intro (show f_in next 20 from ⟨show 0 ≤ next.toInt from by omega, show next.toInt < 20 from by omega⟩) ?_
                have r118_3 : -1 ≤ (J105 23 (next.toInt.toNat)).toInt ∧ (J105 23 (next.toInt.toNat)).toInt ≤ 19 := hR105c 23 (next.toInt.toNat)
                apply And.intro
                · intro h119
                  have h119 : (J105 23 (next.toInt.toNat)).toInt < 0 := h119
                  have d128 : (((J105 0 59).toInt.toNat : Nat) : Int) = (J105 0 59).toInt := by omega
                  have t128 : tY J105 (((J105 0 59).toInt.toNat : Nat) : Int) := by rw [d128]; exact u105_4
                  have p128 := p22 (10 - (J105 0 59).toInt.toNat)
                  apply And.intro
                  · intro h133
                    have h133 : ¬ next.toInt = (J105 0 45).toInt := h133
                    have f138 : next.toInt < (I 0 45).toInt ∧ (J105 23 next.toInt.toNat).toInt < 0 := by omega
                    have c138 := ct_free f138.2 (n := (I 0 45).toInt.toNat) (by omega)
                    have r140_4 : -1 ≤ (J105 0 59).toInt ∧ (J105 0 59).toInt ≤ 10 := hR105c 0 59
                    intro z144 q144 _ hq144 hl144 hu144
                    have hq144 : z144.toInt = (J105 0 59).toInt + 1 + 4294967296 * q144 := hq144
                    try have hz144 : z144.toInt = (J105 0 59).toInt + 1 := by omega
                    have hR145 := mR_f (k := 0) (j := 59) (x := z144) hR105c (show -1 ≤ z144.toInt ∧ z144.toInt ≤ 10 from ⟨by omega, by omega⟩)
                    have hF145 := f_fr_up (k := 0) (r := va_up (J105 0) 59 z144) hF105c rfl
                    have hO145 := f_fo_up (j := 59) (x := z144) hO105c rfl
                    refine And.intro (show f_in z144 11 from ⟨show 0 ≤ z144.toInt from by omega, show z144.toInt < 11 from by omega⟩) ?_
                    have hR157 := mR_a (k := 40) (j := z144.toInt.toNat) (x := next) hR145 (show 0 ≤ next.toInt ∧ next.toInt ≤ 19 from ⟨by omega, by omega⟩)
                    have hF157 := f_fr_up (k := 40) (r := upd (J105 40) (z144.toInt.toNat) next) hF145 rfl
                    have hO157 := f_fo_ne (k := 40) (r := upd (J105 40) (z144.toInt.toNat) next) hO145 (by decide)
                    refine And.intro (show f_in z144 11 from ⟨show 0 ≤ z144.toInt from by omega, show z144.toInt < 11 from by omega⟩) ?_
                    have hR167 := mR_a (k := 41) (j := z144.toInt.toNat) (x := next) hR157 (show 0 ≤ next.toInt ∧ next.toInt ≤ 19 from ⟨by omega, by omega⟩)
                    have hF167 := f_fr_up (k := 41) (r := upd (J105 41) (z144.toInt.toNat) next) hF157 rfl
                    have hO167 := f_fo_ne (k := 41) (r := upd (J105 41) (z144.toInt.toNat) next) hO157 (by decide)
                    have q167 : tY (va_up (va_up (va_up J105 0 (va_up (J105 0) 59 z144)) 40 (upd (J105 40) (z144.toInt.toNat) next)) 41 (upd (J105 41) (z144.toInt.toNat) next)) z144.toInt := tY_next (K := (va_up (va_up (va_up J105 0 (va_up (J105 0) 59 z144)) 40 (upd (J105 40) (z144.toInt.toNat) next)) 41 (upd (J105 41) (z144.toInt.toNat) next))) (d := (J105 0 59).toInt.toNat) (y := next) hR105c t128 ⟨by rw [← u105_3]; omega, by rw [e105]; omega⟩ f138.2 u105_10 ⟨by rw [← u105_3]; exact u105_5, by rw [← u105_3]; exact u105_6⟩ (by rw [e105, u105_7]; omega) rfl rfl rfl (by show upd (J105 40) z144.toInt.toNat next = _; rw [show z144.toInt.toNat = (J105 0 59).toInt.toNat + 1 by omega]) (by show upd (J105 41) z144.toInt.toNat next = _; rw [show z144.toInt.toNat = (J105 0 59).toInt.toNat + 1 by omega]) (by omega)
                    have v167 : 0 ≤ tyV (va_up (va_up (va_up J105 0 (va_up (J105 0) 59 z144)) 40 (upd (J105 40) (z144.toInt.toNat) next)) 41 (upd (J105 41) (z144.toInt.toNat) next)) ∧ tyV (va_up (va_up (va_up J105 0 (va_up (J105 0) 59 z144)) 40 (upd (J105 40) (z144.toInt.toNat) next)) 41 (upd (J105 41) (z144.toInt.toNat) next)) < tyV J0 := by
                      have b := tyV_rng hR167
                      have a := tyM_push (R := J105 41) (n := (J105 0 59).toInt.toNat) (y := next) (by omega) (by omega)
                      have w := tyV_eq (J := J105) d128.symm
                      refine ⟨b.1, ?_⟩
                      show tyM (upd (J105 41) z144.toInt.toNat next) (z144.toInt + 1).toNat < _
                      rw [show (z144.toInt + 1).toNat = (J105 0 59).toInt.toNat + 2 by omega, show z144.toInt.toNat = (J105 0 59).toInt.toNat + 1 by omega]
                      omega
                    exact ⟨(by intro q9 h9; simp only [List.mem_cons, List.not_mem_nil, or_false] at h9; subst h9 <;> repeat (first | exact List.mem_cons_self | apply List.mem_cons_of_mem)), rfl, rfl, hR167, hF167, hO167, (show z144.toInt ≤ 9 from by first | assumption | omega), (show tY (va_up (va_up (va_up J105 0 (va_up (J105 0) 59 z144)) 40 (upd (J105 40) (z144.toInt.toNat) next)) 41 (upd (J105 41) (z144.toInt.toNat) next)) z144.toInt from by first | assumption | omega), (show tyV (va_up (va_up (va_up J105 0 (va_up (J105 0) 59 z144)) 40 (upd (J105 40) (z144.toInt.toNat) next)) 41 (upd (J105 41) (z144.toInt.toNat) next)) ≤ tyV I from by first | assumption | omega), (show 0 ≤ tyV (va_up (va_up (va_up J105 0 (va_up (J105 0) 59 z144)) 40 (upd (J105 40) (z144.toInt.toNat) next)) 41 (upd (J105 41) (z144.toInt.toNat) next)) from by first | assumption | omega), (show (tyV (va_up (va_up (va_up J105 0 (va_up (J105 0) 59 z144)) 40 (upd (J105 40) (z144.toInt.toNat) next)) 41 (upd (J105 41) (z144.toInt.toNat) next))) < n0 from by omega)⟩
                  · intro h133
                    have h133 : next.toInt = (J105 0 45).toInt := h133
                    exact ⟨Or.inr rfl, hR105c, hO105c, hF105c, rfl, (show ((1 : Int) = 0 ∨ (1 : Int) = 1) from by first | assumption | omega | rfl), (show ((1 : Int) = 1 → tA J105 ∧ tY J105 (J105 0 59).toInt ∧ (J105 0 59).toInt ≤ 9 ∧ tyV J105 < tyV I) from fun _ => ⟨tA_of u105_4.1 (fun e he => u105_10 e (by rw [e105] at he; omega)), u105_4, u105_2, by omega⟩)⟩
                · intro h119
                  have h119 : 0 ≤ (J105 23 (next.toInt.toNat)).toInt := h119
                  intro z122 q122 _ hq122 hl122 hu122
                  have hq122 : z122.toInt = next.toInt + 1 + 4294967296 * q122 := hq122
                  try have hz122 : z122.toInt = next.toInt + 1 := by omega
                  have l122 : ∀ e : Nat, (e : Int) < z122.toInt → 0 ≤ (J105 23 e).toInt := fun e he => by
                    by_cases q : (e : Int) = next.toInt
                    · rw [show e = next.toInt.toNat by omega]; omega
                    · exact u105_10 e (by omega)
                  have r105_4 : -1 ≤ (J105 0 59).toInt ∧ (J105 0 59).toInt ≤ 10 := hR105c 0 59
                  have r105_5 : -1 ≤ (J105 23 (i.toInt.toNat)).toInt ∧ (J105 23 (i.toInt.toNat)).toInt ≤ 19 := hR105c 23 (i.toInt.toNat)
                  have r105_6 : 0 ≤ (J105 41 ((J105 0 59).toInt.toNat)).toInt ∧ (J105 41 ((J105 0 59).toInt.toNat)).toInt ≤ 19 := hR105c 41 ((J105 0 59).toInt.toNat)
                  exact ⟨j, z122, (by intro q9 h9; simp only [List.mem_cons, List.not_mem_nil, or_false] at h9; rcases h9 with h9 | h9 | h9 | h9 <;> subst h9 <;> repeat (first | exact List.mem_cons_self | apply List.mem_cons_of_mem)), rfl, rfl, hR105c, hF105c, hO105c, (show 0 ≤ (J105 0 59).toInt from by first | assumption | omega), (show (J105 0 59).toInt ≤ 9 from by first | assumption | omega), (show i = J105 40 (J105 0 59).toInt.toNat from by first | assumption | omega | rfl), (show tY J105 (J105 0 59).toInt from by first | assumption | omega), (show (J105 23 i.toInt.toNat).toInt = (J105 41 (J105 0 59).toInt.toNat).toInt from by first | assumption | omega | rfl), (show i.toInt < (J105 41 (J105 0 59).toInt.toNat).toInt from by first | assumption | omega), (show ct (J105 23) (I 0 45).toInt.toNat = 2 * (J105 0 59).toInt + 2 from by first | assumption | omega | rfl), (show i.toInt < z122.toInt from by first | assumption | omega), (show z122.toInt ≤ (I 0 45).toInt from by first | assumption | omega), (show (∀ e : Nat, (e : Int) < z122.toInt → 0 ≤ (J105 23 e).toInt) from by first | assumption | omega | exact fun _ _ => rfl | exact fun _ _ => ⟨rfl, rfl⟩ | exact fun _ _ => ⟨rfl, rfl, rfl⟩ | (intro j9 hj9; omega)), (show tyV J105 + 22 ^ (10 - (J105 0 59).toInt.toNat) ≤ tyV J0 from by first | assumption | omega), (show (20 - z122.toInt) < n105 from by omega)⟩
          refine f_wp_ok C f_cl flX12_ok fiX12_ok fjX12_ok (sn := none) (fun j h => by cases h) (cs := (f_cnl [(429, (3, 1, 11, pX12_partnerb, qX12_partnerb))])) (cz := (fun _ => none)) (f_cnl_of (P := fun j S => f_cok pP l eP (f_rm 1) sP mP aP bP hP9 cP mY 71 a cy dC dI 4 _ _ (.invokevirtual j) true S) (List.forall_mem_cons.mpr ⟨f_cokV C (mX12_partnerb hinj) (ci := 11) rfl (List.forall_mem_cons.mpr ⟨(mlX12_ok _ (List.mem_of_getElem? (i := 39) rfl)), kc_X12_partner⟩) (by decide +kernel) ⟨Nat.le_of_ble_eq_true rfl, Nat.le_of_ble_eq_true rfl⟩, fun _ h => absurd h List.not_mem_nil⟩)) (fun j S h => by cases h) tX12_nextTying_ok (cut := (f_cnl [(0, (fun (ls' : fLs) (st' : List Value) (I' : fM) (L' : fN) => (∀ q ∈ ([(0, .ref 0)] : fLs), q ∈ ls') ∧ st' = [] ∧ L' = L ∧ (mR I' ∧ f_fr [0, 23, 40, 41] I I' ∧ f_fo [59] I I' ∧ ((I' 0 59).toInt ≤ 9) ∧ (tY I' (I' 0 59).toInt) ∧ (tyV I' ≤ tyV I) ∧ (0 ≤ tyV I') ∧ (tyV I') < n0))), (105, (fun (ls' : fLs) (st' : List Value) (I' : fM) (L' : fN) => ∃ j : Int32, ∃ next : Int32, (∀ q ∈ ([(3, .int next), (2, .int j), (1, .int i), (0, .ref 0)] : fLs), q ∈ ls') ∧ st' = [] ∧ L' = L ∧ (mR I' ∧ f_fr [0, 23, 40, 41] I I' ∧ f_fo [59] I I' ∧ (0 ≤ (I' 0 59).toInt) ∧ ((I' 0 59).toInt ≤ 9) ∧ (i = I' 40 (I' 0 59).toInt.toNat) ∧ (tY I' (I' 0 59).toInt) ∧ ((I' 23 i.toInt.toNat).toInt = (I' 41 (I' 0 59).toInt.toNat).toInt) ∧ (i.toInt < (I' 41 (I' 0 59).toInt.toNat).toInt) ∧ (ct (I' 23) (I 0 45).toInt.toNat = 2 * (I' 0 59).toInt + 2) ∧ (i.toInt < next.toInt) ∧ (next.toInt ≤ (I 0 45).toInt) ∧ ((∀ e : Nat, (e : Int) < next.toInt → 0 ≤ (I' 23 e).toInt)) ∧ (tyV I' + 22 ^ (10 - (I' 0 59).toInt.toNat) ≤ tyV J0) ∧ (20 - next.toInt) < 21)))])) (f_cnl_of (P := fun (tQ : Nat) (P : fLs → List Value → fM → fN → Prop) => ∀ ls' st' I' L', P ls' st' I' L' → f_W pP l eP (f_rm 1) sP mP aP bP hP9 cP mY 71 a cy dC dI 4 (f_K 3 (qX12_nextTying [.ref 0] I L)) tQ ls' st' I' L') (List.forall_mem_cons.mpr ⟨(fun ls' st' I' L' h => by obtain ⟨hs, e1, e3, h9⟩ := h; rw [e1, e3]; exact f_W_sub hs (ih0  I' h9)), List.forall_mem_cons.mpr ⟨(fun ls' st' I' L' h => by obtain ⟨j, next, hs, e1, e3, h9⟩ := h; rw [e1, e3]; exact f_W_sub hs (lp105 21 j next I' h9)), fun _ h => absurd h List.not_mem_nil⟩⟩)) 34 45 (f_seek 45 0 tX12_nextTying) (f_seek_ok 45 0 tX12_nextTying tX12_nextTying_ok) _ _ _ _ ?_
          have d45 : (((J45 0 59).toInt.toNat : Nat) : Int) = (J45 0 59).toInt := by omega
          have t45 : tY J45 (((J45 0 59).toInt.toNat : Nat) : Int) := by rw [d45]; exact u45_4
          have w45 : tyV J45 = tyM (J45 41) ((J45 0 59).toInt.toNat + 1) := tyV_eq d45.symm
          have g45 : (J45 23 (J45 40 (J45 0 59).toInt.toNat).toInt.toNat).toInt = -1 := by rw [← u45_3]; exact u45_5
          have r52_1 : -1 ≤ (J45 0 59).toInt ∧ (J45 0 59).toInt ≤ 10 := hR45c 0 59
          refine And.intro (show f_in (J45 0 59) 11 from ⟨show 0 ≤ (J45 0 59).toInt from by omega, show (J45 0 59).toInt < 11 from by omega⟩) ?_
          have r55_2 : 0 ≤ (J45 41 ((J45 0 59).toInt.toNat)).toInt ∧ (J45 41 ((J45 0 59).toInt.toNat)).toInt ≤ 19 := hR45c 41 ((J45 0 59).toInt.toNat)
          refine And.intro ⟨hR45c, (show 0 ≤ i.toInt from by first | assumption | omega), (show i.toInt ≤ 19 from by first | assumption | omega), (show 0 ≤ (J45 41 ((J45 0 59).toInt.toNat)).toInt from by first | assumption | omega), (show (J45 41 ((J45 0 59).toInt.toNat)).toInt ≤ 19 from by first | assumption | omega)⟩ ?_
          intro x56 I56 L56 hq56
          have hq56 : I56 = J45 ∧ L56 = L ∧ ((x56.toInt = -1 ∨ (J45 41 ((J45 0 59).toInt.toNat)).toInt < x56.toInt ∧ x56.toInt < (J45 0 45).toInt ∧ (J45 23 x56.toInt.toNat).toInt = -1 ∧ ¬ (J45 33 x56.toInt.toNat).toInt = (J45 33 i.toInt.toNat).toInt)) := hq56
          obtain ⟨eI56, eL56, c56_2⟩ := hq56
          replace eI56 := eI56.symm
          subst eI56
          replace eL56 := eL56.symm
          subst eL56
          apply And.intro
          · intro h61
            have h61 : 0 ≤ x56.toInt := h61
            refine And.intro (show f_in i 20 from ⟨show 0 ≤ i.toInt from by omega, show i.toInt < 20 from by omega⟩) ?_
            have hR83 := mR_a (k := 23) (j := i.toInt.toNat) (x := x56) hR45c (show -1 ≤ x56.toInt ∧ x56.toInt ≤ 19 from ⟨by omega, by omega⟩)
            have hF83 := f_fr_up (k := 23) (r := upd (J45 23) (i.toInt.toNat) x56) hF45c rfl
            have hO83 := f_fo_ne (k := 23) (r := upd (J45 23) (i.toInt.toNat) x56) hO45c (by decide)
            refine And.intro (show f_in x56 20 from ⟨show 0 ≤ x56.toInt from by omega, show x56.toInt < 20 from by omega⟩) ?_
            have hR90 := mR_a (k := 23) (j := x56.toInt.toNat) (x := i) hR83 (show -1 ≤ i.toInt ∧ i.toInt ≤ 19 from ⟨by omega, by omega⟩)
            have hF90 := f_fr_up (k := 23) (r := upd (upd (J45 23) (i.toInt.toNat) x56) (x56.toInt.toNat) i) hF83 rfl
            have hO90 := f_fo_ne (k := 23) (r := upd (upd (J45 23) (i.toInt.toNat) x56) (x56.toInt.toNat) i) hO83 (by decide)
            refine And.intro (show f_in (J45 0 59) 11 from ⟨show 0 ≤ (J45 0 59).toInt from by omega, show (J45 0 59).toInt < 11 from by omega⟩) ?_
            have hR100 := mR_a (k := 41) (j := (J45 0 59).toInt.toNat) (x := x56) hR90 (show 0 ≤ x56.toInt ∧ x56.toInt ≤ 19 from ⟨by omega, by omega⟩)
            have hF100 := f_fr_up (k := 41) (r := upd (J45 41) ((J45 0 59).toInt.toNat) x56) hF90 rfl
            have hO100 := f_fo_ne (k := 41) (r := upd (J45 41) ((J45 0 59).toInt.toNat) x56) hO90 (by decide)
            intro z103 q103 _ hq103 hl103 hu103
            have hq103 : z103.toInt = i.toInt + 1 + 4294967296 * q103 := hq103
            try have hz103 : z103.toInt = i.toInt + 1 := by omega
            have a103 : (J45 41 (J45 0 59).toInt.toNat).toInt < x56.toInt ∧ x56.toInt < (J45 0 45).toInt ∧ (J45 23 x56.toInt.toNat).toInt = -1 ∧ ¬ (J45 33 x56.toInt.toNat).toInt = (J45 33 i.toInt.toNat).toInt := by
              rcases c56_2 with q | q
              · exfalso; omega
              · exact q
            have q103 := tY_tie (K := (va_up (va_up (va_up J45 23 (upd (J45 23) (i.toInt.toNat) x56)) 23 (upd (upd (J45 23) (i.toInt.toNat) x56) (x56.toInt.toNat) i)) 41 (upd (J45 41) ((J45 0 59).toInt.toNat) x56))) hR45c t45 u45_3 g45 ⟨a103.1, a103.2.1⟩ a103.2.2.1 a103.2.2.2 rfl rfl rfl rfl rfl
            have r103 : tY (va_up (va_up (va_up J45 23 (upd (J45 23) (i.toInt.toNat) x56)) 23 (upd (upd (J45 23) (i.toInt.toNat) x56) (x56.toInt.toNat) i)) 41 (upd (J45 41) ((J45 0 59).toInt.toNat) x56)) (J45 0 59).toInt := by have q := q103.1; rw [d45] at q; exact q
            have i103 : ((upd (upd (J45 23) i.toInt.toNat x56) x56.toInt.toNat i) i.toInt.toNat).toInt = ((upd (J45 41) (J45 0 59).toInt.toNat x56) (J45 0 59).toInt.toNat).toInt := by rw [pk_us]; exact q103.2.1
            have j103 : i.toInt < ((upd (J45 41) (J45 0 59).toInt.toNat x56) (J45 0 59).toInt.toNat).toInt := by
              have b := t45.2.1 (J45 0 59).toInt.toNat (by omega)
              rw [pk_us, u45_3]; omega
            have k103 : ct (upd (upd (J45 23) i.toInt.toNat x56) x56.toInt.toNat i) (I 0 45).toInt.toNat = 2 * (J45 0 59).toInt + 2 := by have q := q103.2.2.2; rw [e45, d45] at q; exact q
            have l103 : ∀ e : Nat, (e : Int) < z103.toInt → 0 ≤ ((upd (upd (J45 23) i.toInt.toNat x56) x56.toInt.toNat i) e).toInt := fun e he => q103.2.2.1 e (by omega)
            have v103 : tyV (va_up (va_up (va_up J45 23 (upd (J45 23) (i.toInt.toNat) x56)) 23 (upd (upd (J45 23) (i.toInt.toNat) x56) (x56.toInt.toNat) i)) 41 (upd (J45 41) ((J45 0 59).toInt.toNat) x56)) + 22 ^ (10 - (J45 0 59).toInt.toNat) ≤ tyV J0 := by
              have a := tyM_on (R := J45 41) (n := (J45 0 59).toInt.toNat) a103.1
              show tyM (upd (J45 41) (J45 0 59).toInt.toNat x56) ((J45 0 59).toInt + 1).toNat + _ ≤ _
              rw [show ((J45 0 59).toInt + 1).toNat = (J45 0 59).toInt.toNat + 1 by omega]
              omega
            have n103 : z103.toInt ≤ (I 0 45).toInt := by
              have b := t45.2.1 (J45 0 59).toInt.toNat (by omega)
              rw [e45] at b
              rw [← u45_3] at b
              omega
            exact ⟨x56, z103, (by intro q9 h9; simp only [List.mem_cons, List.not_mem_nil, or_false] at h9; rcases h9 with h9 | h9 | h9 | h9 <;> subst h9 <;> repeat (first | exact List.mem_cons_self | apply List.mem_cons_of_mem)), rfl, rfl, hR100, hF100, hO100, (show 0 ≤ (J45 0 59).toInt from by first | assumption | omega), (show (J45 0 59).toInt ≤ 9 from by first | assumption | omega), (show i = J45 40 (J45 0 59).toInt.toNat from by first | assumption | omega | rfl), (show tY (va_up (va_up (va_up J45 23 (upd (J45 23) (i.toInt.toNat) x56)) 23 (upd (upd (J45 23) (i.toInt.toNat) x56) (x56.toInt.toNat) i)) 41 (upd (J45 41) ((J45 0 59).toInt.toNat) x56)) (J45 0 59).toInt from by first | assumption | omega), (show ((upd (upd (J45 23) (i.toInt.toNat) x56) (x56.toInt.toNat) i) i.toInt.toNat).toInt = ((upd (J45 41) ((J45 0 59).toInt.toNat) x56) (J45 0 59).toInt.toNat).toInt from by first | assumption | omega | rfl), (show i.toInt < ((upd (J45 41) ((J45 0 59).toInt.toNat) x56) (J45 0 59).toInt.toNat).toInt from by first | assumption | omega), (show ct ((upd (upd (J45 23) (i.toInt.toNat) x56) (x56.toInt.toNat) i)) (I 0 45).toInt.toNat = 2 * (J45 0 59).toInt + 2 from by first | assumption | omega | rfl), (show i.toInt < z103.toInt from by first | assumption | omega), (show z103.toInt ≤ (I 0 45).toInt from by first | assumption | omega), (show (∀ e : Nat, (e : Int) < z103.toInt → 0 ≤ ((upd (upd (J45 23) (i.toInt.toNat) x56) (x56.toInt.toNat) i) e).toInt) from by first | assumption | omega | exact fun _ _ => rfl | exact fun _ _ => ⟨rfl, rfl⟩ | exact fun _ _ => ⟨rfl, rfl, rfl⟩ | (intro j9 hj9; omega)), (show tyV (va_up (va_up (va_up J45 23 (upd (J45 23) (i.toInt.toNat) x56)) 23 (upd (upd (J45 23) (i.toInt.toNat) x56) (x56.toInt.toNat) i)) 41 (upd (J45 41) ((J45 0 59).toInt.toNat) x56)) + 22 ^ (10 - (J45 0 59).toInt.toNat) ≤ tyV J0 from by first | assumption | omega), (show (20 - z103.toInt) < 21 from by omega)⟩
          · intro h61
            have h61 : x56.toInt < 0 := h61
            intro z70 q70 _ hq70 hl70 hu70
            have hq70 : z70.toInt = (J45 0 59).toInt - 1 + 4294967296 * q70 := hq70
            try have hz70 : z70.toInt = (J45 0 59).toInt - 1 := by omega
            have hR71 := mR_f (k := 0) (j := 59) (x := z70) hR45c (show -1 ≤ z70.toInt ∧ z70.toInt ≤ 10 from ⟨by omega, by omega⟩)
            have hF71 := f_fr_up (k := 0) (r := va_up (J45 0) 59 z70) hF45c rfl
            have hO71 := f_fo_up (j := 59) (x := z70) hO45c rfl
            have q71 : tY (va_up J45 0 (va_up (J45 0) 59 z70)) z70.toInt := tY_back (K := (va_up J45 0 (va_up (J45 0) 59 z70))) t45 hR45c g45 rfl rfl rfl rfl rfl (by omega)
            have v71 : 0 ≤ tyV (va_up J45 0 (va_up (J45 0) 59 z70)) ∧ tyV (va_up J45 0 (va_up (J45 0) 59 z70)) < tyV J0 := by
              have a := tyM_back (R := J45 41) (fun j => hR45c 41 j) (J45 0 59).toInt.toNat
              have b := tyV_rng hR71
              refine ⟨b.1, ?_⟩
              show tyM (J45 41) (z70.toInt + 1).toNat < _
              rw [show (z70.toInt + 1).toNat = (J45 0 59).toInt.toNat by omega]
              omega
            exact ⟨(by intro q9 h9; simp only [List.mem_cons, List.not_mem_nil, or_false] at h9; subst h9 <;> repeat (first | exact List.mem_cons_self | apply List.mem_cons_of_mem)), rfl, rfl, hR71, hF71, hO71, (show z70.toInt ≤ 9 from by first | assumption | omega), (show tY (va_up J45 0 (va_up (J45 0) 59 z70)) z70.toInt from by first | assumption | omega), (show tyV (va_up J45 0 (va_up (J45 0) 59 z70)) ≤ tyV I from by first | assumption | omega), (show 0 ≤ tyV (va_up J45 0 (va_up (J45 0) 59 z70)) from by first | assumption | omega), (show (tyV (va_up J45 0 (va_up (J45 0) 59 z70))) < n0 from by omega)⟩
        refine f_wp_ok C f_cl flX12_ok fiX12_ok fjX12_ok (sn := none) (fun j h => by cases h) (cs := (f_cnl [(429, (3, 1, 11, pX12_partnerb, qX12_partnerb))])) (cz := (fun _ => none)) (f_cnl_of (P := fun j S => f_cok pP l eP (f_rm 1) sP mP aP bP hP9 cP mY 71 a cy dC dI 4 _ _ (.invokevirtual j) true S) (List.forall_mem_cons.mpr ⟨f_cokV C (mX12_partnerb hinj) (ci := 11) rfl (List.forall_mem_cons.mpr ⟨(mlX12_ok _ (List.mem_of_getElem? (i := 39) rfl)), kc_X12_partner⟩) (by decide +kernel) ⟨Nat.le_of_ble_eq_true rfl, Nat.le_of_ble_eq_true rfl⟩, fun _ h => absurd h List.not_mem_nil⟩)) (fun j S h => by cases h) tX12_nextTying_ok (cut := (f_cnl [(45, (fun (ls' : fLs) (st' : List Value) (I' : fM) (L' : fN) => ∃ i : Int32, (∀ q ∈ ([(1, .int i), (0, .ref 0)] : fLs), q ∈ ls') ∧ st' = [] ∧ L' = L ∧ (mR I' ∧ f_fr [0, 23, 40, 41] I I' ∧ f_fo [59] I I' ∧ (0 ≤ (I' 0 59).toInt) ∧ ((I' 0 59).toInt ≤ 9) ∧ (i = I' 40 (I' 0 59).toInt.toNat) ∧ (tY I' (I' 0 59).toInt) ∧ ((I' 23 i.toInt.toNat).toInt = -1) ∧ (tyV I' ≤ tyV J0))))])) (f_cnl_of (P := fun (tQ : Nat) (P : fLs → List Value → fM → fN → Prop) => ∀ ls' st' I' L', P ls' st' I' L' → f_W pP l eP (f_rm 1) sP mP aP bP hP9 cP mY 71 a cy dC dI 4 (f_K 3 (qX12_nextTying [.ref 0] I L)) tQ ls' st' I' L') (List.forall_mem_cons.mpr ⟨(fun ls' st' I' L' h => by obtain ⟨i, hs, e1, e3, h9⟩ := h; rw [e1, e3]; exact f_W_sub hs (lp45 i I' h9)), fun _ h => absurd h List.not_mem_nil⟩)) 30 0 tX12_nextTying tX12_nextTying_ok _ _ _ _ ?_
        have r1_1 : -1 ≤ (J0 0 59).toInt ∧ (J0 0 59).toInt ≤ 10 := hR0c 0 59
        apply And.intro
        · intro h4
          have h4 : (J0 0 59).toInt < 0 := h4
          exact ⟨Or.inl rfl, hR0c, hO0c, hF0c, rfl, (show ((0 : Int) = 0 ∨ (0 : Int) = 1) from by first | assumption | omega | rfl), (show ((0 : Int) = 1 → tA J0 ∧ tY J0 (J0 0 59).toInt ∧ (J0 0 59).toInt ≤ 9 ∧ tyV J0 < tyV I) from fun h => absurd h (by decide))⟩
        · intro h4
          have h4 : 0 ≤ (J0 0 59).toInt := h4
          have d7 : (((J0 0 59).toInt.toNat : Nat) : Int) = (J0 0 59).toInt := by omega
          have t7 : tY J0 (((J0 0 59).toInt.toNat : Nat) : Int) := by rw [d7]; exact u0_2
          have l7 := t7.2.1 (J0 0 59).toInt.toNat (by omega)
          have m7 : -1 ≤ (J0 23 (J0 40 (J0 0 59).toInt.toNat).toInt.toNat).toInt := (hR0c 23 _).1
          refine And.intro (show f_in (J0 0 59) 11 from ⟨show 0 ≤ (J0 0 59).toInt from by omega, show (J0 0 59).toInt < 11 from by omega⟩) ?_
          have r15_2 : 0 ≤ (J0 40 ((J0 0 59).toInt.toNat)).toInt ∧ (J0 40 ((J0 0 59).toInt.toNat)).toInt ≤ 19 := hR0c 40 ((J0 0 59).toInt.toNat)
          refine And.intro (show f_in (J0 40 ((J0 0 59).toInt.toNat)) 20 from ⟨show 0 ≤ (J0 40 ((J0 0 59).toInt.toNat)).toInt from by omega, show (J0 40 ((J0 0 59).toInt.toNat)).toInt < 20 from by omega⟩) ?_
          have r22_3 : -1 ≤ (J0 23 ((J0 40 ((J0 0 59).toInt.toNat)).toInt.toNat)).toInt ∧ (J0 23 ((J0 40 ((J0 0 59).toInt.toNat)).toInt.toNat)).toInt ≤ 19 := hR0c 23 ((J0 40 ((J0 0 59).toInt.toNat)).toInt.toNat)
          apply And.intro
          · intro h23
            have h23 : (J0 23 ((J0 40 ((J0 0 59).toInt.toNat)).toInt.toNat)).toInt < 0 := h23
            exact ⟨J0 40 ((J0 0 59).toInt.toNat), (by intro q9 h9; simp only [List.mem_cons, List.not_mem_nil, or_false] at h9; rcases h9 with h9 | h9 <;> subst h9 <;> repeat (first | exact List.mem_cons_self | apply List.mem_cons_of_mem)), rfl, rfl, hR0c, hF0c, hO0c, (show 0 ≤ (J0 0 59).toInt from by first | assumption | omega), (show (J0 0 59).toInt ≤ 9 from by first | assumption | omega), (show (J0 40 ((J0 0 59).toInt.toNat)) = J0 40 (J0 0 59).toInt.toNat from by first | assumption | omega | rfl), (show tY J0 (J0 0 59).toInt from by first | assumption | omega), (show (J0 23 (J0 40 ((J0 0 59).toInt.toNat)).toInt.toNat).toInt = -1 from by first | assumption | omega | rfl), (show tyV J0 ≤ tyV J0 from by first | assumption | omega)⟩
          · intro h23
            have h23 : 0 ≤ (J0 23 ((J0 40 ((J0 0 59).toInt.toNat)).toInt.toNat)).toInt := h23
            refine And.intro (show f_in (J0 40 ((J0 0 59).toInt.toNat)) 20 from ⟨show 0 ≤ (J0 40 ((J0 0 59).toInt.toNat)).toInt from by omega, show (J0 40 ((J0 0 59).toInt.toNat)).toInt < 20 from by omega⟩) ?_
            refine And.intro (show f_in (J0 23 ((J0 40 ((J0 0 59).toInt.toNat)).toInt.toNat)) 20 from ⟨show 0 ≤ (J0 23 ((J0 40 ((J0 0 59).toInt.toNat)).toInt.toNat)).toInt from by omega, show (J0 23 ((J0 40 ((J0 0 59).toInt.toNat)).toInt.toNat)).toInt < 20 from by omega⟩) ?_
            have hR37 := mR_a (k := 23) (j := (J0 23 ((J0 40 ((J0 0 59).toInt.toNat)).toInt.toNat)).toInt.toNat) (x := Int32.ofInt (-1)) hR0c (show (-1 : Int) ≤ (Int32.ofInt (-1)).toInt ∧ (Int32.ofInt (-1)).toInt ≤ (19 : Int) from ⟨by decide, by decide⟩)
            have hF37 := f_fr_up (k := 23) (r := upd (J0 23) ((J0 23 ((J0 40 ((J0 0 59).toInt.toNat)).toInt.toNat)).toInt.toNat) (Int32.ofInt (-1))) hF0c rfl
            have hO37 := f_fo_ne (k := 23) (r := upd (J0 23) ((J0 23 ((J0 40 ((J0 0 59).toInt.toNat)).toInt.toNat)).toInt.toNat) (Int32.ofInt (-1))) hO0c (by decide)
            refine And.intro (show f_in (J0 40 ((J0 0 59).toInt.toNat)) 20 from ⟨show 0 ≤ (J0 40 ((J0 0 59).toInt.toNat)).toInt from by omega, show (J0 40 ((J0 0 59).toInt.toNat)).toInt < 20 from by omega⟩) ?_
            have hR44 := mR_a (k := 23) (j := (J0 40 ((J0 0 59).toInt.toNat)).toInt.toNat) (x := Int32.ofInt (-1)) hR37 (show (-1 : Int) ≤ (Int32.ofInt (-1)).toInt ∧ (Int32.ofInt (-1)).toInt ≤ (19 : Int) from ⟨by decide, by decide⟩)
            have hF44 := f_fr_up (k := 23) (r := upd (upd (J0 23) ((J0 23 ((J0 40 ((J0 0 59).toInt.toNat)).toInt.toNat)).toInt.toNat) (Int32.ofInt (-1))) ((J0 40 ((J0 0 59).toInt.toNat)).toInt.toNat) (Int32.ofInt (-1))) hF37 rfl
            have hO44 := f_fo_ne (k := 23) (r := upd (upd (J0 23) ((J0 23 ((J0 40 ((J0 0 59).toInt.toNat)).toInt.toNat)).toInt.toNat) (Int32.ofInt (-1))) ((J0 40 ((J0 0 59).toInt.toNat)).toInt.toNat) (Int32.ofInt (-1))) hO37 (by decide)
            have q44 := tY_cut (K := (va_up (va_up J0 23 (upd (J0 23) ((J0 23 ((J0 40 ((J0 0 59).toInt.toNat)).toInt.toNat)).toInt.toNat) (Int32.ofInt (-1)))) 23 (upd (upd (J0 23) ((J0 23 ((J0 40 ((J0 0 59).toInt.toNat)).toInt.toNat)).toInt.toNat) (Int32.ofInt (-1))) ((J0 40 ((J0 0 59).toInt.toNat)).toInt.toNat) (Int32.ofInt (-1))))) hR0c t7 (by rw [e0]; omega) h23 rfl rfl rfl rfl rfl rfl rfl
            have r44 : tY (va_up (va_up J0 23 (upd (J0 23) ((J0 23 ((J0 40 ((J0 0 59).toInt.toNat)).toInt.toNat)).toInt.toNat) (Int32.ofInt (-1)))) 23 (upd (upd (J0 23) ((J0 23 ((J0 40 ((J0 0 59).toInt.toNat)).toInt.toNat)).toInt.toNat) (Int32.ofInt (-1))) ((J0 40 ((J0 0 59).toInt.toNat)).toInt.toNat) (Int32.ofInt (-1)))) (J0 0 59).toInt := by have q := q44.1; rw [d7] at q; exact q
            have s44 : ((upd (upd (J0 23) (J0 23 (J0 40 (J0 0 59).toInt.toNat).toInt.toNat).toInt.toNat (Int32.ofInt (-1))) (J0 40 (J0 0 59).toInt.toNat).toInt.toNat (Int32.ofInt (-1))) (J0 40 (J0 0 59).toInt.toNat).toInt.toNat).toInt = -1 := q44.2
            have v44 : tyV (va_up (va_up J0 23 (upd (J0 23) ((J0 23 ((J0 40 ((J0 0 59).toInt.toNat)).toInt.toNat)).toInt.toNat) (Int32.ofInt (-1)))) 23 (upd (upd (J0 23) ((J0 23 ((J0 40 ((J0 0 59).toInt.toNat)).toInt.toNat)).toInt.toNat) (Int32.ofInt (-1))) ((J0 40 ((J0 0 59).toInt.toNat)).toInt.toNat) (Int32.ofInt (-1)))) ≤ tyV J0 := Int.le_refl (tyV J0)
            exact ⟨J0 40 ((J0 0 59).toInt.toNat), (by intro q9 h9; simp only [List.mem_cons, List.not_mem_nil, or_false] at h9; rcases h9 with h9 | h9 <;> subst h9 <;> repeat (first | exact List.mem_cons_self | apply List.mem_cons_of_mem)), rfl, rfl, hR44, hF44, hO44, (show 0 ≤ (J0 0 59).toInt from by first | assumption | omega), (show (J0 0 59).toInt ≤ 9 from by first | assumption | omega), (show (J0 40 ((J0 0 59).toInt.toNat)) = J0 40 (J0 0 59).toInt.toNat from by first | assumption | omega | rfl), (show tY (va_up (va_up J0 23 (upd (J0 23) ((J0 23 ((J0 40 ((J0 0 59).toInt.toNat)).toInt.toNat)).toInt.toNat) (Int32.ofInt (-1)))) 23 (upd (upd (J0 23) ((J0 23 ((J0 40 ((J0 0 59).toInt.toNat)).toInt.toNat)).toInt.toNat) (Int32.ofInt (-1))) ((J0 40 ((J0 0 59).toInt.toNat)).toInt.toNat) (Int32.ofInt (-1)))) (J0 0 59).toInt from by first | assumption | omega), (show ((upd (upd (J0 23) ((J0 23 ((J0 40 ((J0 0 59).toInt.toNat)).toInt.toNat)).toInt.toNat) (Int32.ofInt (-1))) ((J0 40 ((J0 0 59).toInt.toNat)).toInt.toNat) (Int32.ofInt (-1))) (J0 40 ((J0 0 59).toInt.toNat)).toInt.toNat).toInt = -1 from by first | assumption | omega | rfl), (show tyV (va_up (va_up J0 23 (upd (J0 23) ((J0 23 ((J0 40 ((J0 0 59).toInt.toNat)).toInt.toNat)).toInt.toNat) (Int32.ofInt (-1)))) 23 (upd (upd (J0 23) ((J0 23 ((J0 40 ((J0 0 59).toInt.toNat)).toInt.toNat)).toInt.toNat) (Int32.ofInt (-1))) ((J0 40 ((J0 0 59).toInt.toNat)).toInt.toNat) (Int32.ofInt (-1)))) ≤ tyV J0 from by first | assumption | omega)⟩
    have r0_1 : -1 ≤ (I 0 59).toInt ∧ (I 0 59).toInt ≤ 10 := hR 0 59
    exact lp0 600000000000000 I ⟨hR, hF0, hO0, (show (I 0 59).toInt ≤ 9 from by first | assumption | omega), (show tY I (I 0 59).toInt from by first | assumption | omega), (show tyV I ≤ tyV I from by first | assumption | omega), (show 0 ≤ tyV I from by first | assumption | omega), (show (tyV I) < 600000000000000 from by omega)⟩
