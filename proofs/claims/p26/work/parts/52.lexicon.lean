theorem mW_keep {I K : fM} (h : mW I) (h24 : K 0 24 = I 0 24) (h30 : K 0 30 = I 0 30) (h83 : K 0 83 = I 0 83) (e9 : K 9 (I 0 24).toInt.toNat = I 9 (I 0 24).toInt.toNat) (e19 : K 19 = I 19) (e56 : K 56 = I 56) (e57 : K 57 = I 57) (e63 : K 63 = I 63) (e64 : K 64 = I 64) (e65 : K 65 = I 65) (e66 : K 66 = I 66) (e67 : K 67 = I 67) : mW K := by
  unfold mW
  rw [h24, h30, h83, e9, e19, e56, e57, e63, e64, e65, e66, e67]
  exact h
theorem mW_zero {K : fM} (h30 : (K 0 30).toInt = 0) (h83 : (K 0 83).toInt = 0) (h63 : ∀ b : Nat, (b : Int) < 3 → (K 63 b).toInt = -1) : mW K := by
  refine ⟨fun i hi => by omega, fun n i hn => by omega, fun b hb h => ?_⟩
  have := h63 b (by omega)
  omega
theorem mA_of {K : fM} (hB : tB K) (hQ : mQ K) (hg : (K 0 4).toInt = 0) : mA (va_up K 0 (va_up (K 0) 24 (K 0 25))) := by
  obtain ⟨q1, q2, q3⟩ := hQ hg
  unfold mA
  rw [show (va_up K 0 (va_up (K 0) 24 (K 0 25))) 0 24 = K 0 25 from rfl]
  exact ⟨hB, q1, q2, q3⟩
theorem mL_clear {I I' : fM} {r : Nat} {x8 x9 x10 x11 : Int32} (hR : mR I) (hL : mL I) (hf : f_fr [8, 9, 10, 11, 14] I I') (e8 : I' 8 = upd (I 8) r x8) (e9 : I' 9 = upd (I 9) r x9) (e10 : I' 10 = upd (I 10) r x10) (e11 : I' 11 = upd (I 11) r x11) (hb : ¬ (I 0 24).toInt.toNat = r) : mL I' :=
  mL_rgn hR hL (congrFun (hf 0 rfl) 24) (fun m _ => ⟨congrFun (hf 3 rfl) m, congrFun (hf 4 rfl) m, congrFun (hf 5 rfl) m, congrFun (hf 6 rfl) m⟩) (by rw [e8, pk_un hb]) (by rw [e9, pk_un hb]) (by rw [e10, pk_un hb]) (by rw [e11, pk_un hb]) (fun k _ _ => congrFun (hf 12 rfl) k) (fun k _ _ => congrFun (hf 13 rfl) k)
/-- a measure that ends with a fault -/
def gm (g m : Int) : Int := if g = 0 then m + 1 else 0
theorem gm_ok {g m : Int} (h : 0 ≤ m) : 0 ≤ gm g m := by unfold gm; split <;> omega
theorem gm_0 {g m : Int} (h : ¬ g = 0) : gm g m = 0 := by unfold gm; rw [if_neg h]
theorem gm_1 {g m : Int} (h : g = 0) : gm g m = m + 1 := by unfold gm; rw [if_pos h]
/-- how much of a lexicon may still come -/
def lxm (J : fM) : Int := gm (J 0 4).toInt (19 - (J 8 (J 0 25).toInt.toNat).toInt - (J 9 (J 0 25).toInt.toNat).toInt - (J 14 (J 0 25).toInt.toNat).toInt)
def tX12_lexicon : List (Instr × Nat) := [(.aload_n 0, 1), (.invokevirtual 297, 3), (.aload_n 0, 1), (.iconst 1, 1), (.aload_n 0, 1), (.getfield 300, 3), (.isub, 1), (.putfield 294, 3), (.aload_n 0, 1), (.invokevirtual 227, 3), (.aload_n 0, 1), (.invokevirtual 281, 3), (.ifCond .eq 17, 3), (.aload_n 0, 1), (.getfield 259, 3), (.ifCond .eq 10, 3), (.aload_n 0, 1), (.invokevirtual 303, 3), (.goto (-18), 3), (.aload_n 0, 1), (.invokevirtual 281, 3), (.ifCond .ne 5, 3), (.iconst (-1), 1), (.ireturn, 1), (.aload_n 0, 1), (.aload_n 0, 1), (.getfield 294, 3), (.putfield 300, 3), (.aload_n 0, 1), (.iconst 0, 1), (.putfield 306, 3), (.aload_n 0, 1), (.iconst 0, 1), (.putfield 309, 3), (.iconst 0, 1), (.istore_n 1, 1), (.iload_n 1, 1), (.iconst 3, 1), (.if_icmp .ge 16, 3), (.aload_n 0, 1), (.getfield 203, 3), (.iload_n 1, 1), (.iconst (-1), 1), (.iastore, 1), (.iinc 1 1, 3), (.goto (-15), 3), (.aload_n 0, 1), (.invokevirtual 230, 3), (.aload_n 0, 1), (.getfield 39, 3), (.aload_n 0, 1), (.getfield 300, 3), (.iaload, 1), (.ireturn, 1)]
theorem tX12_lexicon_ok : f_chk cX12_lexicon 0 tX12_lexicon = true := by decide +kernel
def pX12_lexicon (av : List Value) (I : fM) (L : fN) : Prop := match av with
  | [.ref 0] => mR I ∧ mL I ∧ mW I
  | _ => False
def qX12_lexicon (av : List Value) (I : fM) (L : fN) (r : Value) (I' : fM) (L' : fN) : Prop := match av, r with
  | [.ref 0], .int x => mR I' ∧ mL I' ∧ mW I' ∧ f_fo [2, 3, 4, 5, 6, 7, 8, 24, 25, 30, 70, 83] I I' ∧ f_fr [0, 2, 3, 4, 5, 6, 7, 8, 9, 10, 11, 12, 13, 14, 17, 18, 63] I I' ∧ f_fr [0, 15, 16] L L' ∧ (I' 0 2).toInt = 0
  | _, _ => False
set_option maxHeartbeats 40000000 in
set_option maxRecDepth 100000 in
theorem mX12_lexicon {l : Launch} {a : Nat → Nat} {cy dC : Nat → ClassId} {dI : Nat → Nat → Nat} (hinj : ∀ i j, i < 71 → j < 71 → a i = a j → i = j) : f_Met (fun _ => True) l mY 71 a cy dC dI yX12_lexicon cX12_lexicon 2 1 6 pX12_lexicon qX12_lexicon := by
  refine f_met_of (f_Ec_T 71 a) hinj mY_hi (by decide) (fun av I L h => by unfold pX12_lexicon at h; split at h <;> first | exact Nat.le_of_ble_eq_true rfl | exact h.elim) ?_
  intro pP eP sP mP aP bP hP9 cP C av I L hp
  unfold pX12_lexicon at hp
  split at hp
  case h_2 => exact hp.elim
  case h_1 =>
    obtain ⟨hR, hmL, hmW⟩ := hp
    have hb : 0 ≤ (I 0 24).toInt ∧ (I 0 24).toInt ≤ 1 := hR 0 24
    have hF0 : f_fr [0, 2, 3, 4, 5, 6, 7, 8, 9, 10, 11, 12, 13, 14, 17, 18, 63] I I := f_fr_rf
    have hG0 : f_fr [0, 15, 16] L L := f_fr_rf
    have hO0 : f_fo [2, 3, 4, 5, 6, 7, 8, 24, 25, 30, 70, 83] I I := f_fo_rf
    have lp68 : ∀ (n68 : Nat), ∀ (b : Int32) (J68 : fM) (M68 : fN), mR J68 ∧ f_fr [0, 2, 3, 4, 5, 6, 7, 8, 9, 10, 11, 12, 13, 14, 17, 18, 63] I J68 ∧ f_fr [0, 15, 16] L M68 ∧ f_fo [2, 3, 4, 5, 6, 7, 8, 24, 25, 30, 70, 83] I J68 ∧ (0 ≤ b.toInt) ∧ (b.toInt ≤ 3) ∧ (mA J68) ∧ ((J68 0 83).toInt = 0) ∧ ((J68 0 30).toInt = 0) ∧ ((J68 0 2).toInt = 0) ∧ ((∀ j : Nat, (j : Int) < b.toInt → (J68 63 j).toInt = -1)) ∧ (3 - b.toInt) < n68 → f_W pP l eP (f_rm 6) sP mP aP bP hP9 cP mY 71 a cy dC dI 2 (f_K 1 (qX12_lexicon [.ref 0] I L)) 68 [(1, .int b), (0, .ref 0)] [] J68 M68 := by
      intro n68
      induction n68 with
      | zero =>
        intro b J68 M68 h9
        obtain ⟨hR68c, hF68c, hG68c, hO68c, u68_1, u68_2, u68_3, u68_4, u68_5, u68_6, u68_7, hm68⟩ := h9
        omega
      | succ n68 ih68 =>
        intro b J68 M68 h9
        obtain ⟨hR68c, hF68c, hG68c, hO68c, u68_1, u68_2, u68_3, u68_4, u68_5, u68_6, u68_7, hm68⟩ := h9
        refine f_wp_ok C f_cl flX12_ok fiX12_ok fjX12_ok (sn := none) (fun j h => by cases h) (cs := (f_cnl [(297, (1, 0, 11, pX12_takeTape, qX12_takeTape)), (227, (1, 0, 11, pX12_clearBankb, qX12_clearBankb)), (281, (1, 3, 11, pX12_isGood, qX12_isGood)), (303, (1, 0, 11, pX12_readLine, qX12_readLine)), (230, (1, 0, 11, pX12_settle, qX12_settle))])) (cz := (fun _ => none)) (f_cnl_of (P := fun j S => f_cok pP l eP (f_rm 6) sP mP aP bP hP9 cP mY 71 a cy dC dI 2 _ _ (.invokevirtual j) true S) (List.forall_mem_cons.mpr ⟨f_cokV C (mX12_takeTape hinj) (ci := 11) rfl (List.forall_mem_cons.mpr ⟨(mlX12_ok _ (List.mem_of_getElem? (i := 10) rfl)), kc_X12_takeTape⟩) (by decide +kernel) ⟨Nat.le_of_ble_eq_true rfl, Nat.le_of_ble_eq_true rfl⟩, List.forall_mem_cons.mpr ⟨f_cokV C (mX12_clearBankb hinj) (ci := 11) rfl (List.forall_mem_cons.mpr ⟨(mlX12_ok _ (List.mem_of_getElem? (i := 0) rfl)), kc_X12_clearBank⟩) (by decide +kernel) ⟨Nat.le_of_ble_eq_true rfl, Nat.le_of_ble_eq_true rfl⟩, List.forall_mem_cons.mpr ⟨f_cokV C (mX12_isGood hinj) (ci := 11) rfl (List.forall_mem_cons.mpr ⟨(mlX12_ok _ (List.mem_of_getElem? (i := 7) rfl)), kc_X12_isGood⟩) (by decide +kernel) ⟨Nat.le_of_ble_eq_true rfl, Nat.le_of_ble_eq_true rfl⟩, List.forall_mem_cons.mpr ⟨f_cokV C (mX12_readLine hinj) (ci := 11) rfl (List.forall_mem_cons.mpr ⟨(mlX12_ok _ (List.mem_of_getElem? (i := 11) rfl)), kc_X12_readLine⟩) (by decide +kernel) ⟨Nat.le_of_ble_eq_true rfl, Nat.le_of_ble_eq_true rfl⟩, List.forall_mem_cons.mpr ⟨f_cokV C (mX12_settle hinj) (ci := 11) rfl (List.forall_mem_cons.mpr ⟨(mlX12_ok _ (List.mem_of_getElem? (i := 1) rfl)), kc_X12_settle⟩) (by decide +kernel) ⟨Nat.le_of_ble_eq_true rfl, Nat.le_of_ble_eq_true rfl⟩, fun _ h => absurd h List.not_mem_nil⟩⟩⟩⟩⟩)) (fun j S h => by cases h) tX12_lexicon_ok (cut := (f_cnl [(68, (fun (ls' : fLs) (st' : List Value) (I' : fM) (L' : fN) => ∃ b : Int32, (∀ q ∈ ([(1, .int b), (0, .ref 0)] : fLs), q ∈ ls') ∧ st' = [] ∧ (mR I' ∧ f_fr [0, 2, 3, 4, 5, 6, 7, 8, 9, 10, 11, 12, 13, 14, 17, 18, 63] I I' ∧ f_fr [0, 15, 16] L L' ∧ f_fo [2, 3, 4, 5, 6, 7, 8, 24, 25, 30, 70, 83] I I' ∧ (0 ≤ b.toInt) ∧ (b.toInt ≤ 3) ∧ (mA I') ∧ ((I' 0 83).toInt = 0) ∧ ((I' 0 30).toInt = 0) ∧ ((I' 0 2).toInt = 0) ∧ ((∀ j : Nat, (j : Int) < b.toInt → (I' 63 j).toInt = -1)) ∧ (3 - b.toInt) < n68)))])) (f_cnl_of (P := fun (tQ : Nat) (P : fLs → List Value → fM → fN → Prop) => ∀ ls' st' I' L', P ls' st' I' L' → f_W pP l eP (f_rm 6) sP mP aP bP hP9 cP mY 71 a cy dC dI 2 (f_K 1 (qX12_lexicon [.ref 0] I L)) tQ ls' st' I' L') (List.forall_mem_cons.mpr ⟨(fun ls' st' I' L' h => by obtain ⟨b, hs, e1, h9⟩ := h; rw [e1]; exact f_W_sub hs (ih68 b I' L' h9)), fun _ h => absurd h List.not_mem_nil⟩)) 14 68 (f_seek 68 0 tX12_lexicon) (f_seek_ok 68 0 tX12_lexicon tX12_lexicon_ok) _ _ _ _ ?_
        apply And.intro
        · intro h70
          have h70 : 3 ≤ b.toInt := h70
          refine And.intro ⟨hR68c, (by assumption)⟩ ?_
          intro I87 L87 hq87
          have hq87 : mR I87 ∧ f_fo [70] J68 I87 ∧ f_fr [0, 3, 4, 5, 6, 7, 10] J68 I87 ∧ L87 = M68 ∧ mL I87 := hq87
          obtain ⟨c87_0, c87_1, c87_2, eL87, c87_4⟩ := hq87
          replace eL87 := eL87.symm
          subst eL87
          have hO87 := f_fo_tr hO68c c87_1 rfl
          have hF87 := f_fr_tr hF68c c87_2 rfl
          have w87 : mW I87 := mW_zero (by have e := congrArg Int32.toInt (c87_1 30 rfl); omega) (by have e := congrArg Int32.toInt (c87_1 83 rfl); omega) (fun j hj => by rw [c87_2 63 rfl]; exact u68_7 j (by omega))
          have r95_1 : 0 ≤ (I87 0 24).toInt ∧ (I87 0 24).toInt ≤ 1 := c87_0 0 24
          have e95_2 : (I87 0 24).toInt = (J68 0 24).toInt := congrArg Int32.toInt (c87_1 24 rfl)
          refine And.intro (show f_in (I87 0 24) 2 from ⟨show 0 ≤ (I87 0 24).toInt from by omega, show (I87 0 24).toInt < 2 from by omega⟩) ?_
          have r98_3 : 0 ≤ (I87 9 ((I87 0 24).toInt.toNat)).toInt ∧ (I87 9 ((I87 0 24).toInt.toNat)).toInt ≤ 12 := c87_0 9 ((I87 0 24).toInt.toNat)
          have e98_4 : (I87 9 ((I87 0 24).toInt.toNat)).toInt = (J68 9 ((I87 0 24).toInt.toNat)).toInt := congrArg Int32.toInt (congrFun (c87_2 9 rfl) ((I87 0 24).toInt.toNat))
          have r99_5 : 0 ≤ (I87 0 2).toInt ∧ (I87 0 2).toInt ≤ 1600 := c87_0 0 2
          have e99_6 : (I87 0 2).toInt = (J68 0 2).toInt := congrArg Int32.toInt (c87_1 2 rfl)
          exact ⟨c87_0, c87_4, (by assumption), hO87, hF87, hG68c, (show (I87 0 2).toInt = 0 from by first | assumption | omega | rfl)⟩
        · intro h70
          have h70 : b.toInt < 3 := h70
          refine And.intro (show f_in b 3 from ⟨show 0 ≤ b.toInt from by omega, show b.toInt < 3 from by omega⟩) ?_
          have hR79 := mR_a (k := 63) (j := b.toInt.toNat) (x := Int32.ofInt (-1)) hR68c (show (-1 : Int) ≤ (Int32.ofInt (-1)).toInt ∧ (Int32.ofInt (-1)).toInt ≤ (12 : Int) from ⟨by decide, by decide⟩)
          have hF79 := f_fr_up (k := 63) (r := upd (J68 63) (b.toInt.toNat) (Int32.ofInt (-1))) hF68c rfl
          have hO79 := f_fo_ne (k := 63) (r := upd (J68 63) (b.toInt.toNat) (Int32.ofInt (-1))) hO68c (by decide)
          have hmA79 : mA (va_up J68 63 (upd (J68 63) (b.toInt.toNat) (Int32.ofInt (-1)))) := f_depo_up mA_dep u68_3 rfl (by decide)
          intro z80 q80 _ hq80 hl80 hu80
          have hq80 : z80.toInt = b.toInt + 1 + 4294967296 * q80 := hq80
          try have hz80 : z80.toInt = b.toInt + 1 := by omega
          have q80 : ∀ j : Nat, (j : Int) < z80.toInt → ((upd (J68 63) b.toInt.toNat (Int32.ofInt (-1))) j).toInt = -1 := fun j hj => by
            by_cases q : j = b.toInt.toNat
            · rw [q, pk_us]; rfl
            · rw [pk_un q]; exact u68_7 j (by omega)
          exact ⟨z80, (by intro q9 h9; simp only [List.mem_cons, List.not_mem_nil, or_false] at h9; rcases h9 with h9 | h9 <;> subst h9 <;> repeat (first | exact List.mem_cons_self | apply List.mem_cons_of_mem)), rfl, hR79, hF79, hG68c, hO79, (show 0 ≤ z80.toInt from by first | assumption | omega), (show z80.toInt ≤ 3 from by first | assumption | omega), hmA79, (show (J68 0 83).toInt = 0 from by first | assumption | omega | rfl), (show (J68 0 30).toInt = 0 from by first | assumption | omega | rfl), (show (J68 0 2).toInt = 0 from by first | assumption | omega | rfl), (show (∀ j : Nat, (j : Int) < z80.toInt → ((upd (J68 63) (b.toInt.toNat) (Int32.ofInt (-1))) j).toInt = -1) from by first | assumption | omega | exact fun _ _ => rfl | exact fun _ _ => ⟨rfl, rfl⟩ | exact fun _ _ => ⟨rfl, rfl, rfl⟩ | (intro j9 hj9; omega)), (show (3 - z80.toInt) < n68 from by omega)⟩
    have lp18 : ∀ (n18 : Nat), ∀ (J18 : fM) (M18 : fN), mR J18 ∧ f_fr [0, 2, 3, 4, 5, 6, 7, 8, 9, 10, 11, 12, 13, 14, 17, 18, 63] I J18 ∧ f_fr [0, 15, 16] L M18 ∧ f_fo [2, 3, 4, 5, 6, 7, 8, 24, 25, 30, 70, 83] I J18 ∧ (mL J18) ∧ (mW J18) ∧ (tB J18) ∧ (mQ J18) ∧ ((J18 0 7).toInt ≤ 1600) ∧ ((J18 0 25).toInt + (J18 0 24).toInt = 1) ∧ (0 ≤ (J18 14 (J18 0 25).toInt.toNat).toInt) ∧ ((J18 14 (J18 0 25).toInt.toNat).toInt ≤ 1) ∧ ((J18 11 (J18 0 25).toInt.toNat).toInt ≤ 21 * (J18 9 (J18 0 25).toInt.toNat).toInt + 7 * (J18 14 (J18 0 25).toInt.toNat).toInt) ∧ ((J18 0 2).toInt = 0) ∧ (0 ≤ lxm J18) ∧ (lxm J18) < n18 → f_W pP l eP (f_rm 6) sP mP aP bP hP9 cP mY 71 a cy dC dI 2 (f_K 1 (qX12_lexicon [.ref 0] I L)) 18 [(0, .ref 0)] [] J18 M18 := by
      intro n18
      induction n18 with
      | zero =>
        intro J18 M18 h9
        obtain ⟨hR18c, hF18c, hG18c, hO18c, u18_1, u18_2, u18_3, u18_4, u18_5, u18_6, u18_7, u18_8, u18_9, u18_10, u18_11, hm18⟩ := h9
        omega
      | succ n18 ih18 =>
        intro J18 M18 h9
        obtain ⟨hR18c, hF18c, hG18c, hO18c, u18_1, u18_2, u18_3, u18_4, u18_5, u18_6, u18_7, u18_8, u18_9, u18_10, u18_11, hm18⟩ := h9
        refine f_wp_ok C f_cl flX12_ok fiX12_ok fjX12_ok (sn := none) (fun j h => by cases h) (cs := (f_cnl [(297, (1, 0, 11, pX12_takeTape, qX12_takeTape)), (227, (1, 0, 11, pX12_clearBankb, qX12_clearBankb)), (281, (1, 3, 11, pX12_isGood, qX12_isGood)), (303, (1, 0, 11, pX12_readLine, qX12_readLine)), (230, (1, 0, 11, pX12_settle, qX12_settle))])) (cz := (fun _ => none)) (f_cnl_of (P := fun j S => f_cok pP l eP (f_rm 6) sP mP aP bP hP9 cP mY 71 a cy dC dI 2 _ _ (.invokevirtual j) true S) (List.forall_mem_cons.mpr ⟨f_cokV C (mX12_takeTape hinj) (ci := 11) rfl (List.forall_mem_cons.mpr ⟨(mlX12_ok _ (List.mem_of_getElem? (i := 10) rfl)), kc_X12_takeTape⟩) (by decide +kernel) ⟨Nat.le_of_ble_eq_true rfl, Nat.le_of_ble_eq_true rfl⟩, List.forall_mem_cons.mpr ⟨f_cokV C (mX12_clearBankb hinj) (ci := 11) rfl (List.forall_mem_cons.mpr ⟨(mlX12_ok _ (List.mem_of_getElem? (i := 0) rfl)), kc_X12_clearBank⟩) (by decide +kernel) ⟨Nat.le_of_ble_eq_true rfl, Nat.le_of_ble_eq_true rfl⟩, List.forall_mem_cons.mpr ⟨f_cokV C (mX12_isGood hinj) (ci := 11) rfl (List.forall_mem_cons.mpr ⟨(mlX12_ok _ (List.mem_of_getElem? (i := 7) rfl)), kc_X12_isGood⟩) (by decide +kernel) ⟨Nat.le_of_ble_eq_true rfl, Nat.le_of_ble_eq_true rfl⟩, List.forall_mem_cons.mpr ⟨f_cokV C (mX12_readLine hinj) (ci := 11) rfl (List.forall_mem_cons.mpr ⟨(mlX12_ok _ (List.mem_of_getElem? (i := 11) rfl)), kc_X12_readLine⟩) (by decide +kernel) ⟨Nat.le_of_ble_eq_true rfl, Nat.le_of_ble_eq_true rfl⟩, List.forall_mem_cons.mpr ⟨f_cokV C (mX12_settle hinj) (ci := 11) rfl (List.forall_mem_cons.mpr ⟨(mlX12_ok _ (List.mem_of_getElem? (i := 1) rfl)), kc_X12_settle⟩) (by decide +kernel) ⟨Nat.le_of_ble_eq_true rfl, Nat.le_of_ble_eq_true rfl⟩, fun _ h => absurd h List.not_mem_nil⟩⟩⟩⟩⟩)) (fun j S h => by cases h) tX12_lexicon_ok (cut := (f_cnl [(18, (fun (ls' : fLs) (st' : List Value) (I' : fM) (L' : fN) => (∀ q ∈ ([(0, .ref 0)] : fLs), q ∈ ls') ∧ st' = [] ∧ (mR I' ∧ f_fr [0, 2, 3, 4, 5, 6, 7, 8, 9, 10, 11, 12, 13, 14, 17, 18, 63] I I' ∧ f_fr [0, 15, 16] L L' ∧ f_fo [2, 3, 4, 5, 6, 7, 8, 24, 25, 30, 70, 83] I I' ∧ (mL I') ∧ (mW I') ∧ (tB I') ∧ (mQ I') ∧ ((I' 0 7).toInt ≤ 1600) ∧ ((I' 0 25).toInt + (I' 0 24).toInt = 1) ∧ (0 ≤ (I' 14 (I' 0 25).toInt.toNat).toInt) ∧ ((I' 14 (I' 0 25).toInt.toNat).toInt ≤ 1) ∧ ((I' 11 (I' 0 25).toInt.toNat).toInt ≤ 21 * (I' 9 (I' 0 25).toInt.toNat).toInt + 7 * (I' 14 (I' 0 25).toInt.toNat).toInt) ∧ ((I' 0 2).toInt = 0) ∧ (0 ≤ lxm I') ∧ (lxm I') < n18))), (68, (fun (ls' : fLs) (st' : List Value) (I' : fM) (L' : fN) => ∃ b : Int32, (∀ q ∈ ([(1, .int b), (0, .ref 0)] : fLs), q ∈ ls') ∧ st' = [] ∧ (mR I' ∧ f_fr [0, 2, 3, 4, 5, 6, 7, 8, 9, 10, 11, 12, 13, 14, 17, 18, 63] I I' ∧ f_fr [0, 15, 16] L L' ∧ f_fo [2, 3, 4, 5, 6, 7, 8, 24, 25, 30, 70, 83] I I' ∧ (0 ≤ b.toInt) ∧ (b.toInt ≤ 3) ∧ (mA I') ∧ ((I' 0 83).toInt = 0) ∧ ((I' 0 30).toInt = 0) ∧ ((I' 0 2).toInt = 0) ∧ ((∀ j : Nat, (j : Int) < b.toInt → (I' 63 j).toInt = -1)) ∧ (3 - b.toInt) < 4)))])) (f_cnl_of (P := fun (tQ : Nat) (P : fLs → List Value → fM → fN → Prop) => ∀ ls' st' I' L', P ls' st' I' L' → f_W pP l eP (f_rm 6) sP mP aP bP hP9 cP mY 71 a cy dC dI 2 (f_K 1 (qX12_lexicon [.ref 0] I L)) tQ ls' st' I' L') (List.forall_mem_cons.mpr ⟨(fun ls' st' I' L' h => by obtain ⟨hs, e1, h9⟩ := h; rw [e1]; exact f_W_sub hs (ih18  I' L' h9)), List.forall_mem_cons.mpr ⟨(fun ls' st' I' L' h => by obtain ⟨b, hs, e1, h9⟩ := h; rw [e1]; exact f_W_sub hs (lp68 4 b I' L' h9)), fun _ h => absurd h List.not_mem_nil⟩⟩)) 24 18 (f_seek 18 0 tX12_lexicon) (f_seek_ok 18 0 tX12_lexicon tX12_lexicon_ok) _ _ _ _ ?_
        refine And.intro trivial ?_
        intro x19 I19 L19 hq19
        have hq19 : I19 = J18 ∧ L19 = M18 ∧ ((x19.toInt = 1 ∧ (J18 0 4).toInt = 0 ∨ x19.toInt = 0 ∧ ¬ (J18 0 4).toInt = 0)) := hq19
        obtain ⟨eI19, eL19, c19_2⟩ := hq19
        replace eI19 := eI19.symm
        subst eI19
        replace eL19 := eL19.symm
        subst eL19
        apply And.intro
        · intro h22
          have h22 : x19.toInt = 0 := h22
          refine And.intro trivial ?_
          intro x40 I40 L40 hq40
          have hq40 : I40 = J18 ∧ L40 = M18 ∧ ((x40.toInt = 1 ∧ (J18 0 4).toInt = 0 ∨ x40.toInt = 0 ∧ ¬ (J18 0 4).toInt = 0)) := hq40
          obtain ⟨eI40, eL40, c40_2⟩ := hq40
          replace eI40 := eI40.symm
          subst eI40
          replace eL40 := eL40.symm
          subst eL40
          apply And.intro
          · intro h43
            have h43 : ¬ x40.toInt = 0 := h43
            have r50_1 : 0 ≤ (J18 0 25).toInt ∧ (J18 0 25).toInt ≤ 1 := hR18c 0 25
            have hR53 := mR_f (k := 0) (j := 24) (x := J18 0 25) hR18c (show 0 ≤ (J18 0 25).toInt ∧ (J18 0 25).toInt ≤ 1 from ⟨by omega, by omega⟩)
            have hF53 := f_fr_up (k := 0) (r := va_up (J18 0) 24 (J18 0 25)) hF18c rfl
            have hO53 := f_fo_up (j := 24) (x := J18 0 25) hO18c rfl
            have hmA53 : mA (va_up J18 0 (va_up (J18 0) 24 (J18 0 25))) := mA_of u18_3 u18_4 (by omega)
            have hR58 := mR_f (k := 0) (j := 83) (x := Int32.ofInt 0) hR53 (show 0 ≤ 0 ∧ 0 ≤ 12 from ⟨by omega, by omega⟩)
            have hF58 := f_fr_up (k := 0) (r := va_up (va_up (J18 0) 24 (J18 0 25)) 83 (Int32.ofInt 0)) hF53 rfl
            have hO58 := f_fo_up (j := 83) (x := Int32.ofInt 0) hO53 rfl
            have hmA58 := f_depo_up0 mA_dep (j := 83) (x := Int32.ofInt 0) hmA53 rfl rfl
            have hR63 := mR_f (k := 0) (j := 30) (x := Int32.ofInt 0) hR58 (show 0 ≤ 0 ∧ 0 ≤ 8 from ⟨by omega, by omega⟩)
            have hF63 := f_fr_up (k := 0) (r := va_up (va_up (va_up (J18 0) 24 (J18 0 25)) 83 (Int32.ofInt 0)) 30 (Int32.ofInt 0)) hF58 rfl
            have hO63 := f_fo_up (j := 30) (x := Int32.ofInt 0) hO58 rfl
            have hmA63 := f_depo_up0 mA_dep (j := 30) (x := Int32.ofInt 0) hmA58 rfl rfl
            have hmA63 : mA (va_up (va_up (va_up J18 0 (va_up (J18 0) 24 (J18 0 25))) 0 (va_up (va_up (J18 0) 24 (J18 0 25)) 83 (Int32.ofInt 0))) 0 (va_up (va_up (va_up (J18 0) 24 (J18 0 25)) 83 (Int32.ofInt 0)) 30 (Int32.ofInt 0))) := f_depo_up0 mA_dep (f_depo_up0 mA_dep hmA53 rfl rfl) rfl rfl
            exact ⟨Int32.ofInt 0, (by intro q9 h9; simp only [List.mem_cons, List.not_mem_nil, or_false] at h9; rcases h9 with h9 | h9 <;> subst h9 <;> repeat (first | exact List.mem_cons_self | apply List.mem_cons_of_mem)), rfl, hR63, hF63, hG18c, hO63, (show 0 ≤ (0 : Int) from by first | assumption | omega), (show (0 : Int) ≤ 3 from by first | assumption | omega), hmA63, (show (0 : Int) = 0 from by first | assumption | omega | rfl), (show (0 : Int) = 0 from by first | assumption | omega | rfl), (show (J18 0 2).toInt = 0 from by first | assumption | omega | rfl), (show (∀ j : Nat, (j : Int) < (0 : Int) → (J18 63 j).toInt = -1) from by first | assumption | omega | exact fun _ _ => rfl | exact fun _ _ => ⟨rfl, rfl⟩ | exact fun _ _ => ⟨rfl, rfl, rfl⟩ | (intro j9 hj9; omega)), (show (3 - (0 : Int)) < 4 from by omega)⟩
          · intro h43
            have h43 : x40.toInt = 0 := h43
            have r47_1 : 0 ≤ (J18 0 2).toInt ∧ (J18 0 2).toInt ≤ 1600 := hR18c 0 2
            exact ⟨hR18c, (by assumption), (by assumption), hO18c, hF18c, hG18c, (show (J18 0 2).toInt = 0 from by first | assumption | omega | rfl)⟩
        · intro h22
          have h22 : ¬ x19.toInt = 0 := h22
          apply And.intro
          · intro h29
            have h29 : (J18 0 8).toInt = 0 := h29
            refine And.intro trivial ?_
            intro x40 I40 L40 hq40
            have hq40 : I40 = J18 ∧ L40 = M18 ∧ ((x40.toInt = 1 ∧ (J18 0 4).toInt = 0 ∨ x40.toInt = 0 ∧ ¬ (J18 0 4).toInt = 0)) := hq40
            obtain ⟨eI40, eL40, c40_2⟩ := hq40
            replace eI40 := eI40.symm
            subst eI40
            replace eL40 := eL40.symm
            subst eL40
            apply And.intro
            · intro h43
              have h43 : ¬ x40.toInt = 0 := h43
              have r50_2 : 0 ≤ (J18 0 25).toInt ∧ (J18 0 25).toInt ≤ 1 := hR18c 0 25
              have hR53 := mR_f (k := 0) (j := 24) (x := J18 0 25) hR18c (show 0 ≤ (J18 0 25).toInt ∧ (J18 0 25).toInt ≤ 1 from ⟨by omega, by omega⟩)
              have hF53 := f_fr_up (k := 0) (r := va_up (J18 0) 24 (J18 0 25)) hF18c rfl
              have hO53 := f_fo_up (j := 24) (x := J18 0 25) hO18c rfl
              have hmA53 : mA (va_up J18 0 (va_up (J18 0) 24 (J18 0 25))) := mA_of u18_3 u18_4 (by omega)
              have hR58 := mR_f (k := 0) (j := 83) (x := Int32.ofInt 0) hR53 (show 0 ≤ 0 ∧ 0 ≤ 12 from ⟨by omega, by omega⟩)
              have hF58 := f_fr_up (k := 0) (r := va_up (va_up (J18 0) 24 (J18 0 25)) 83 (Int32.ofInt 0)) hF53 rfl
              have hO58 := f_fo_up (j := 83) (x := Int32.ofInt 0) hO53 rfl
              have hmA58 := f_depo_up0 mA_dep (j := 83) (x := Int32.ofInt 0) hmA53 rfl rfl
              have hR63 := mR_f (k := 0) (j := 30) (x := Int32.ofInt 0) hR58 (show 0 ≤ 0 ∧ 0 ≤ 8 from ⟨by omega, by omega⟩)
              have hF63 := f_fr_up (k := 0) (r := va_up (va_up (va_up (J18 0) 24 (J18 0 25)) 83 (Int32.ofInt 0)) 30 (Int32.ofInt 0)) hF58 rfl
              have hO63 := f_fo_up (j := 30) (x := Int32.ofInt 0) hO58 rfl
              have hmA63 := f_depo_up0 mA_dep (j := 30) (x := Int32.ofInt 0) hmA58 rfl rfl
              have hmA63 : mA (va_up (va_up (va_up J18 0 (va_up (J18 0) 24 (J18 0 25))) 0 (va_up (va_up (J18 0) 24 (J18 0 25)) 83 (Int32.ofInt 0))) 0 (va_up (va_up (va_up (J18 0) 24 (J18 0 25)) 83 (Int32.ofInt 0)) 30 (Int32.ofInt 0))) := f_depo_up0 mA_dep (f_depo_up0 mA_dep hmA53 rfl rfl) rfl rfl
              exact ⟨Int32.ofInt 0, (by intro q9 h9; simp only [List.mem_cons, List.not_mem_nil, or_false] at h9; rcases h9 with h9 | h9 <;> subst h9 <;> repeat (first | exact List.mem_cons_self | apply List.mem_cons_of_mem)), rfl, hR63, hF63, hG18c, hO63, (show 0 ≤ (0 : Int) from by first | assumption | omega), (show (0 : Int) ≤ 3 from by first | assumption | omega), hmA63, (show (0 : Int) = 0 from by first | assumption | omega | rfl), (show (0 : Int) = 0 from by first | assumption | omega | rfl), (show (J18 0 2).toInt = 0 from by first | assumption | omega | rfl), (show (∀ j : Nat, (j : Int) < (0 : Int) → (J18 63 j).toInt = -1) from by first | assumption | omega | exact fun _ _ => rfl | exact fun _ _ => ⟨rfl, rfl⟩ | exact fun _ _ => ⟨rfl, rfl, rfl⟩ | (intro j9 hj9; omega)), (show (3 - (0 : Int)) < 4 from by omega)⟩
            · intro h43
              have h43 : x40.toInt = 0 := h43
              have r47_2 : 0 ≤ (J18 0 2).toInt ∧ (J18 0 2).toInt ≤ 1600 := hR18c 0 2
              exact ⟨hR18c, (by assumption), (by assumption), hO18c, hF18c, hG18c, (show (J18 0 2).toInt = 0 from by first | assumption | omega | rfl)⟩
          · intro h29
            have h29 : ¬ (J18 0 8).toInt = 0 := h29
            have r33_2 : 0 ≤ (J18 0 7).toInt ∧ (J18 0 7).toInt ≤ 1601 := hR18c 0 7
            have r33_3 : 0 ≤ (J18 0 25).toInt ∧ (J18 0 25).toInt ≤ 1 := hR18c 0 25
            have r33_4 : 0 ≤ (J18 0 24).toInt ∧ (J18 0 24).toInt ≤ 1 := hR18c 0 24
            have r33_6 : 0 ≤ (J18 11 ((J18 0 25).toInt.toNat)).toInt ∧ (J18 11 ((J18 0 25).toInt.toNat)).toInt ≤ 260 := hR18c 11 ((J18 0 25).toInt.toNat)
            have r33_7 : 0 ≤ (J18 9 ((J18 0 25).toInt.toNat)).toInt ∧ (J18 9 ((J18 0 25).toInt.toNat)).toInt ≤ 12 := hR18c 9 ((J18 0 25).toInt.toNat)
            refine And.intro ⟨hR18c, (by assumption), (by assumption), (show mQ J18 from by first | assumption | omega), (show (J18 0 7).toInt ≤ 1600 from by first | assumption | omega), (show (J18 0 25).toInt + (J18 0 24).toInt = 1 from by first | assumption | omega | rfl), (show 0 ≤ (J18 14 (J18 0 25).toInt.toNat).toInt from by first | assumption | omega), (show (J18 14 (J18 0 25).toInt.toNat).toInt ≤ 1 from by first | assumption | omega), (show (J18 11 (J18 0 25).toInt.toNat).toInt ≤ 21 * (J18 9 (J18 0 25).toInt.toNat).toInt + 7 * (J18 14 (J18 0 25).toInt.toNat).toInt from by first | assumption | omega)⟩ ?_
            intro I33 L33 hq33
            have hq33 : mR I33 ∧ mL I33 ∧ tB I33 ∧ mQ I33 ∧ f_fo [4, 5, 6, 7, 8] J18 I33 ∧ f_fr [0, 3, 4, 5, 6, 7, 8, 9, 10, 11, 12, 13, 14, 17, 18] J18 I33 ∧ f_fr [0, 15, 16] M18 L33 ∧ (I33 0 7).toInt ≤ 1600 ∧ 0 ≤ (I33 14 (J18 0 25).toInt.toNat).toInt ∧ (I33 14 (J18 0 25).toInt.toNat).toInt ≤ 1 ∧ (I33 11 (J18 0 25).toInt.toNat).toInt ≤ 21 * (I33 9 (J18 0 25).toInt.toNat).toInt + 7 * (I33 14 (J18 0 25).toInt.toNat).toInt ∧ ((¬ (I33 0 4).toInt = 0 ∨ (I33 8 (J18 0 25).toInt.toNat).toInt + (I33 9 (J18 0 25).toInt.toNat).toInt + (I33 14 (J18 0 25).toInt.toNat).toInt = (J18 8 (J18 0 25).toInt.toNat).toInt + (J18 9 (J18 0 25).toInt.toNat).toInt + (J18 14 (J18 0 25).toInt.toNat).toInt + 1)) ∧ I33 9 (J18 0 24).toInt.toNat = J18 9 (J18 0 24).toInt.toNat := hq33
            obtain ⟨c33_0, c33_1, c33_2, c33_3, c33_4, c33_5, c33_6, c33_7, c33_8, c33_9, c33_10, c33_11, c33_12⟩ := hq33
            have hO33 := f_fo_tr hO18c c33_4 rfl
            have hF33 := f_fr_tr hF18c c33_5 rfl
            have r33_9 : 0 ≤ (I33 11 ((J18 0 25).toInt.toNat)).toInt ∧ (I33 11 ((J18 0 25).toInt.toNat)).toInt ≤ 260 := c33_0 11 ((J18 0 25).toInt.toNat)
            have r33_10 : 0 ≤ (I33 9 ((J18 0 25).toInt.toNat)).toInt ∧ (I33 9 ((J18 0 25).toInt.toNat)).toInt ≤ 12 := c33_0 9 ((J18 0 25).toInt.toNat)
            have r33_12 : 0 ≤ (I33 8 ((J18 0 25).toInt.toNat)).toInt ∧ (I33 8 ((J18 0 25).toInt.toNat)).toInt ≤ 5 := c33_0 8 ((J18 0 25).toInt.toNat)
            have hG33 := f_fr_tr hG18c c33_6 rfl
            have e33 : I33 0 25 = J18 0 25 := c33_4 25 rfl
            have d33 : I33 0 24 = J18 0 24 := c33_4 24 rfl
            rw [← e33] at c33_8 c33_9 c33_10 c33_11
            have w33 : mW I33 := mW_keep u18_2 d33 (c33_4 30 rfl) (c33_4 83 rfl) c33_12 (c33_5 19 rfl) (c33_5 56 rfl) (c33_5 57 rfl) (c33_5 63 rfl) (c33_5 64 rfl) (c33_5 65 rfl) (c33_5 66 rfl) (c33_5 67 rfl)
            have k33 : 0 ≤ (I33 8 (I33 0 25).toInt.toNat).toInt ∧ (I33 8 (I33 0 25).toInt.toNat).toInt ≤ 5 := c33_0 8 _
            have v33 : 0 ≤ (I33 9 (I33 0 25).toInt.toNat).toInt ∧ (I33 9 (I33 0 25).toInt.toNat).toInt ≤ 12 := c33_0 9 _
            have s33 : (I33 0 25).toInt + (I33 0 24).toInt = 1 := by rw [e33, d33]; exact u18_6
            have m33 : 0 ≤ lxm I33 ∧ lxm I33 < lxm J18 := by
              have hg : (J18 0 4).toInt = 0 := by omega
              unfold lxm
              rw [← e33, gm_1 hg]
              have k18 : 0 ≤ (J18 8 (I33 0 25).toInt.toNat).toInt ∧ (J18 8 (I33 0 25).toInt.toNat).toInt ≤ 5 := hR18c 8 _
              have v18 : 0 ≤ (J18 9 (I33 0 25).toInt.toNat).toInt ∧ (J18 9 (I33 0 25).toInt.toNat).toInt ≤ 12 := hR18c 9 _
              have u7 : (J18 14 (I33 0 25).toInt.toNat).toInt ≤ 1 := by rw [e33]; exact u18_8
              by_cases h : (I33 0 4).toInt = 0
              · rw [gm_1 h]; omega
              · rw [gm_0 h]; omega
            have r18_13 : 0 ≤ (I33 0 7).toInt ∧ (I33 0 7).toInt ≤ 1601 := c33_0 0 7
            have r18_14 : 0 ≤ (I33 0 25).toInt ∧ (I33 0 25).toInt ≤ 1 := c33_0 0 25
            have e18_15 : (I33 0 25).toInt = (J18 0 25).toInt := congrArg Int32.toInt (c33_4 25 rfl)
            have r18_16 : 0 ≤ (I33 0 24).toInt ∧ (I33 0 24).toInt ≤ 1 := c33_0 0 24
            have e18_17 : (I33 0 24).toInt = (J18 0 24).toInt := congrArg Int32.toInt (c33_4 24 rfl)
            have r18_19 : 0 ≤ (I33 11 ((I33 0 25).toInt.toNat)).toInt ∧ (I33 11 ((I33 0 25).toInt.toNat)).toInt ≤ 260 := c33_0 11 ((I33 0 25).toInt.toNat)
            have r18_20 : 0 ≤ (I33 9 ((I33 0 25).toInt.toNat)).toInt ∧ (I33 9 ((I33 0 25).toInt.toNat)).toInt ≤ 12 := c33_0 9 ((I33 0 25).toInt.toNat)
            have r18_21 : 0 ≤ (I33 0 2).toInt ∧ (I33 0 2).toInt ≤ 1600 := c33_0 0 2
            have e18_22 : (I33 0 2).toInt = (J18 0 2).toInt := congrArg Int32.toInt (c33_4 2 rfl)
            exact ⟨(by intro q9 h9; simp only [List.mem_cons, List.not_mem_nil, or_false] at h9; subst h9 <;> repeat (first | exact List.mem_cons_self | apply List.mem_cons_of_mem)), rfl, c33_0, hF33, hG33, hO33, c33_1, (show mW I33 from by first | assumption | omega), c33_2, (show mQ I33 from by first | assumption | omega), (show (I33 0 7).toInt ≤ 1600 from by first | assumption | omega), (show (I33 0 25).toInt + (I33 0 24).toInt = 1 from by first | assumption | omega | rfl), (show 0 ≤ (I33 14 (I33 0 25).toInt.toNat).toInt from by first | assumption | omega), (show (I33 14 (I33 0 25).toInt.toNat).toInt ≤ 1 from by first | assumption | omega), (show (I33 11 (I33 0 25).toInt.toNat).toInt ≤ 21 * (I33 9 (I33 0 25).toInt.toNat).toInt + 7 * (I33 14 (I33 0 25).toInt.toNat).toInt from by first | assumption | omega), (show (I33 0 2).toInt = 0 from by first | assumption | omega | rfl), (show 0 ≤ lxm I33 from by first | assumption | omega), (show (lxm I33) < n18 from by omega)⟩
    refine f_wp_ok C f_cl flX12_ok fiX12_ok fjX12_ok (sn := none) (fun j h => by cases h) (cs := (f_cnl [(297, (1, 0, 11, pX12_takeTape, qX12_takeTape)), (227, (1, 0, 11, pX12_clearBankb, qX12_clearBankb)), (281, (1, 3, 11, pX12_isGood, qX12_isGood)), (303, (1, 0, 11, pX12_readLine, qX12_readLine)), (230, (1, 0, 11, pX12_settle, qX12_settle))])) (cz := (fun _ => none)) (f_cnl_of (P := fun j S => f_cok pP l eP (f_rm 6) sP mP aP bP hP9 cP mY 71 a cy dC dI 2 _ _ (.invokevirtual j) true S) (List.forall_mem_cons.mpr ⟨f_cokV C (mX12_takeTape hinj) (ci := 11) rfl (List.forall_mem_cons.mpr ⟨(mlX12_ok _ (List.mem_of_getElem? (i := 10) rfl)), kc_X12_takeTape⟩) (by decide +kernel) ⟨Nat.le_of_ble_eq_true rfl, Nat.le_of_ble_eq_true rfl⟩, List.forall_mem_cons.mpr ⟨f_cokV C (mX12_clearBankb hinj) (ci := 11) rfl (List.forall_mem_cons.mpr ⟨(mlX12_ok _ (List.mem_of_getElem? (i := 0) rfl)), kc_X12_clearBank⟩) (by decide +kernel) ⟨Nat.le_of_ble_eq_true rfl, Nat.le_of_ble_eq_true rfl⟩, List.forall_mem_cons.mpr ⟨f_cokV C (mX12_isGood hinj) (ci := 11) rfl (List.forall_mem_cons.mpr ⟨(mlX12_ok _ (List.mem_of_getElem? (i := 7) rfl)), kc_X12_isGood⟩) (by decide +kernel) ⟨Nat.le_of_ble_eq_true rfl, Nat.le_of_ble_eq_true rfl⟩, List.forall_mem_cons.mpr ⟨f_cokV C (mX12_readLine hinj) (ci := 11) rfl (List.forall_mem_cons.mpr ⟨(mlX12_ok _ (List.mem_of_getElem? (i := 11) rfl)), kc_X12_readLine⟩) (by decide +kernel) ⟨Nat.le_of_ble_eq_true rfl, Nat.le_of_ble_eq_true rfl⟩, List.forall_mem_cons.mpr ⟨f_cokV C (mX12_settle hinj) (ci := 11) rfl (List.forall_mem_cons.mpr ⟨(mlX12_ok _ (List.mem_of_getElem? (i := 1) rfl)), kc_X12_settle⟩) (by decide +kernel) ⟨Nat.le_of_ble_eq_true rfl, Nat.le_of_ble_eq_true rfl⟩, fun _ h => absurd h List.not_mem_nil⟩⟩⟩⟩⟩)) (fun j S h => by cases h) tX12_lexicon_ok (cut := (f_cnl [(18, (fun (ls' : fLs) (st' : List Value) (I' : fM) (L' : fN) => (∀ q ∈ ([(0, .ref 0)] : fLs), q ∈ ls') ∧ st' = [] ∧ (mR I' ∧ f_fr [0, 2, 3, 4, 5, 6, 7, 8, 9, 10, 11, 12, 13, 14, 17, 18, 63] I I' ∧ f_fr [0, 15, 16] L L' ∧ f_fo [2, 3, 4, 5, 6, 7, 8, 24, 25, 30, 70, 83] I I' ∧ (mL I') ∧ (mW I') ∧ (tB I') ∧ (mQ I') ∧ ((I' 0 7).toInt ≤ 1600) ∧ ((I' 0 25).toInt + (I' 0 24).toInt = 1) ∧ (0 ≤ (I' 14 (I' 0 25).toInt.toNat).toInt) ∧ ((I' 14 (I' 0 25).toInt.toNat).toInt ≤ 1) ∧ ((I' 11 (I' 0 25).toInt.toNat).toInt ≤ 21 * (I' 9 (I' 0 25).toInt.toNat).toInt + 7 * (I' 14 (I' 0 25).toInt.toNat).toInt) ∧ ((I' 0 2).toInt = 0) ∧ (0 ≤ lxm I') ∧ (lxm I') < 40)))])) (f_cnl_of (P := fun (tQ : Nat) (P : fLs → List Value → fM → fN → Prop) => ∀ ls' st' I' L', P ls' st' I' L' → f_W pP l eP (f_rm 6) sP mP aP bP hP9 cP mY 71 a cy dC dI 2 (f_K 1 (qX12_lexicon [.ref 0] I L)) tQ ls' st' I' L') (List.forall_mem_cons.mpr ⟨(fun ls' st' I' L' h => by obtain ⟨hs, e1, h9⟩ := h; rw [e1]; exact f_W_sub hs (lp18 40  I' L' h9)), fun _ h => absurd h List.not_mem_nil⟩)) 13 0 tX12_lexicon tX12_lexicon_ok _ _ _ _ ?_
    refine And.intro hR ?_
    intro I1 L1 hq1
    have hq1 : mR I1 ∧ f_fo [2, 3, 4, 5, 6, 7, 8] I I1 ∧ f_fr [0, 2] I I1 ∧ f_fr [0] L L1 ∧ (I1 0 7).toInt ≤ 1600 ∧ (I1 0 2).toInt = 0 ∧ (I1 0 4).toInt = 0 := hq1
    obtain ⟨c1_0, c1_1, c1_2, c1_3, c1_4, c1_5, c1_6⟩ := hq1
    have hO1 := f_fo_tr hO0 c1_1 rfl
    have hmL1 := f_depo_fo mL_dep hmL c1_2 c1_1 rfl rfl
    have hmW1 := f_depo_fo mW_dep hmW c1_2 c1_1 rfl rfl
    have hF1 := f_fr_tr hF0 c1_2 rfl
    have hG1 := f_fr_tr hG0 c1_3 rfl
    have d1 : I1 0 24 = I 0 24 := c1_1 24 rfl
    have r7_1 : 0 ≤ (I1 0 24).toInt ∧ (I1 0 24).toInt ≤ 1 := c1_0 0 24
    have e7_2 : (I1 0 24).toInt = (I 0 24).toInt := congrArg Int32.toInt (c1_1 24 rfl)
    intro z10 q10 _ hq10 hl10 hu10
    have hq10 : z10.toInt = 1 - (I1 0 24).toInt + 4294967296 * q10 := hq10
    try have hz10 : z10.toInt = 1 - (I1 0 24).toInt := by omega
    have hR11 := mR_f (k := 0) (j := 25) (x := z10) c1_0 (show 0 ≤ z10.toInt ∧ z10.toInt ≤ 1 from ⟨by omega, by omega⟩)
    have hF11 := f_fr_up (k := 0) (r := va_up (I1 0) 25 z10) hF1 rfl
    have hO11 := f_fo_up (j := 25) (x := z10) hO1 rfl
    have hmL11 := f_depo_up0 mL_dep (j := 25) (x := z10) hmL1 rfl rfl
    have hmW11 := f_depo_up0 mW_dep (j := 25) (x := z10) hmW1 rfl rfl
    refine And.intro hR11 ?_
    intro I15 L15 hq15
    have hq15 : mR I15 ∧ f_fr [8, 9, 10, 11, 14] (va_up I1 0 (va_up (I1 0) 25 z10)) I15 ∧ L15 = L1 ∧ I15 8 = upd (I1 8) z10.toInt.toNat (Int32.ofInt 0) ∧ I15 9 = upd (I1 9) z10.toInt.toNat (Int32.ofInt 0) ∧ I15 10 = upd (I1 10) z10.toInt.toNat (Int32.ofInt (-1)) ∧ I15 11 = upd (I1 11) z10.toInt.toNat (Int32.ofInt 0) ∧ I15 14 = upd (I1 14) z10.toInt.toNat (vp_nar .boolean (Int32.ofInt 0)) := hq15
    obtain ⟨c15_0, c15_1, eL15, c15_3, c15_4, c15_5, c15_6, c15_7⟩ := hq15
    replace eL15 := eL15.symm
    subst eL15
    have hO15 := f_fo_fr hO11 c15_1 rfl
    have hF15 := f_fr_tr hF11 c15_1 rfl
    have d15 : I15 0 24 = I1 0 24 := congrFun (c15_1 0 rfl) 24
    have f15 : I15 0 25 = z10 := congrFun (c15_1 0 rfl) 25
    have b15 : ¬ (I1 0 24).toInt.toNat = z10.toInt.toNat := by rw [d1]; omega
    have l15 : mL I15 := mL_clear hR11 hmL11 c15_1 c15_3 c15_4 c15_5 c15_6 b15
    have w15 : mW I15 := mW_keep hmW11 d15 (congrFun (c15_1 0 rfl) 30) (congrFun (c15_1 0 rfl) 83) (by rw [c15_4]; exact pk_un b15) (c15_1 19 rfl) (c15_1 56 rfl) (c15_1 57 rfl) (c15_1 63 rfl) (c15_1 64 rfl) (c15_1 65 rfl) (c15_1 66 rfl) (c15_1 67 rfl)
    have y15 : (I15 8 (I15 0 25).toInt.toNat).toInt = 0 ∧ (I15 9 (I15 0 25).toInt.toNat).toInt = 0 ∧ (I15 11 (I15 0 25).toInt.toNat).toInt = 0 ∧ (I15 14 (I15 0 25).toInt.toNat).toInt = 0 := by
      rw [f15, c15_3, c15_4, c15_6, c15_7, pk_us, pk_us, pk_us, pk_us]
      exact ⟨rfl, rfl, rfl, rfl⟩
    have t15 : tB I15 := fun n a b => by omega
    have q15 : mQ I15 := fun _ => ⟨fun k a b => by omega, fun h => absurd y15.2.2.2 h, fun h => by omega⟩
    have g15 : (I15 0 25).toInt + (I15 0 24).toInt = 1 := by rw [f15, d15, d1]; omega
    have m15 : 0 ≤ lxm I15 ∧ lxm I15 < 40 := by
      unfold lxm
      by_cases h : (I15 0 4).toInt = 0
      · rw [gm_1 h]; omega
      · rw [gm_0 h]; omega
    have r18_3 : 0 ≤ (I15 0 7).toInt ∧ (I15 0 7).toInt ≤ 1601 := c15_0 0 7
    have e18_4 : (I15 0 7).toInt = (I1 0 7).toInt := congrArg Int32.toInt (congrFun (c15_1 0 rfl) 7)
    have r18_5 : 0 ≤ (I15 0 25).toInt ∧ (I15 0 25).toInt ≤ 1 := c15_0 0 25
    have e18_6 : (I15 0 25).toInt = z10.toInt := congrArg Int32.toInt (congrFun (c15_1 0 rfl) 25)
    have r18_7 : 0 ≤ (I15 0 24).toInt ∧ (I15 0 24).toInt ≤ 1 := c15_0 0 24
    have e18_8 : (I15 0 24).toInt = (I1 0 24).toInt := congrArg Int32.toInt (congrFun (c15_1 0 rfl) 24)
    have r18_10 : 0 ≤ (I15 11 ((I15 0 25).toInt.toNat)).toInt ∧ (I15 11 ((I15 0 25).toInt.toNat)).toInt ≤ 260 := c15_0 11 ((I15 0 25).toInt.toNat)
    have r18_11 : 0 ≤ (I15 9 ((I15 0 25).toInt.toNat)).toInt ∧ (I15 9 ((I15 0 25).toInt.toNat)).toInt ≤ 12 := c15_0 9 ((I15 0 25).toInt.toNat)
    have r18_12 : 0 ≤ (I15 0 2).toInt ∧ (I15 0 2).toInt ≤ 1600 := c15_0 0 2
    have e18_13 : (I15 0 2).toInt = (I1 0 2).toInt := congrArg Int32.toInt (congrFun (c15_1 0 rfl) 2)
    exact ⟨(by intro q9 h9; simp only [List.mem_cons, List.not_mem_nil, or_false] at h9; subst h9 <;> repeat (first | exact List.mem_cons_self | apply List.mem_cons_of_mem)), rfl, c15_0, hF15, hG1, hO15, (show mL I15 from by first | assumption | omega), (show mW I15 from by first | assumption | omega), (show tB I15 from by first | assumption | omega), (show mQ I15 from by first | assumption | omega), (show (I15 0 7).toInt ≤ 1600 from by first | assumption | omega), (show (I15 0 25).toInt + (I15 0 24).toInt = 1 from by first | assumption | omega | rfl), (show 0 ≤ (I15 14 (I15 0 25).toInt.toNat).toInt from by first | assumption | omega), (show (I15 14 (I15 0 25).toInt.toNat).toInt ≤ 1 from by first | assumption | omega), (show (I15 11 (I15 0 25).toInt.toNat).toInt ≤ 21 * (I15 9 (I15 0 25).toInt.toNat).toInt + 7 * (I15 14 (I15 0 25).toInt.toNat).toInt from by first | assumption | omega), (show (I15 0 2).toInt = 0 from by first | assumption | omega | rfl), (show 0 ≤ lxm I15 from by first | assumption | omega), (show (lxm I15) < 40 from by omega)⟩
theorem mW_row {I : fM} {j : Nat} {x : Int32} (h : mW I) (hx : x.toInt < (I 9 (I 0 24).toInt.toNat).toInt) : mW (va_up I 19 (upd (I 19) j x)) := by
  refine ⟨fun i hi => ?_, h.2.1, h.2.2⟩
  show ((upd (I 19) j x) i).toInt < _
  by_cases q : i = j
  · rw [q, pk_us]; exact hx
  · rw [pk_un q]; exact h.1 i hi
def tX12_row : List (Instr × Nat) := [(.aload_n 0, 1), (.invokevirtual 297, 3), (.aload_n 0, 1), (.aload_n 0, 1), (.getfield 300, 3), (.putfield 294, 3), (.iconst 0, 1), (.istore_n 1, 1), (.aload_n 0, 1), (.invokevirtual 281, 3), (.ifCond .eq 76, 3), (.aload_n 0, 1), (.getfield 259, 3), (.ifCond .eq 69, 3), (.aload_n 0, 1), (.invokevirtual 343, 3), (.istore_n 2, 1), (.aload_n 0, 1), (.getfield 259, 3), (.iconst 2, 1), (.if_icmp .ne 9, 3), (.iload_n 1, 1), (.bipush 8, 2), (.if_icmp .ne 10, 3), (.aload_n 0, 1), (.invokevirtual 288, 3), (.goto 16, 3), (.iload_n 2, 1), (.ifCond .ge 12, 3), (.aload_n 0, 1), (.iconst 5, 1), (.aload_n 0, 1), (.getfield 252, 3), (.invokevirtual 277, 3), (.aload_n 0, 1), (.invokevirtual 281, 3), (.ifCond .ne 6, 3), (.goto (-60), 3), (.aload_n 0, 1), (.getfield 74, 3), (.iload_n 1, 1), (.iload_n 2, 1), (.iastore, 1), (.iinc 1 1, 3), (.aload_n 0, 1), (.invokevirtual 285, 3), (.goto (-77), 3), (.aload_n 0, 1), (.invokevirtual 281, 3), (.ifCond .ne 5, 3), (.iconst (-1), 1), (.ireturn, 1), (.iconst 0, 1), (.istore_n 2, 1), (.iload_n 2, 1), (.iload_n 1, 1), (.if_icmp .ge 21, 3), (.aload_n 0, 1), (.getfield 71, 3), (.iload_n 2, 1), (.aload_n 0, 1), (.getfield 74, 3), (.iload_n 2, 1), (.iaload, 1), (.iastore, 1), (.iinc 2 1, 3), (.goto (-20), 3), (.aload_n 0, 1), (.iload_n 1, 1), (.putfield 309, 3), (.aload_n 0, 1), (.iconst 0, 1), (.putfield 359, 3), (.iload_n 1, 1), (.ireturn, 1)]
theorem tX12_row_ok : f_chk cX12_row 0 tX12_row = true := by decide +kernel
def pX12_row (av : List Value) (I : fM) (L : fN) : Prop := match av with
  | [.ref 0] => mR I ∧ mL I ∧ mW I
  | _ => False
def qX12_row (av : List Value) (I : fM) (L : fN) (r : Value) (I' : fM) (L' : fN) : Prop := match av, r with
  | [.ref 0], .int x => mR I' ∧ mL I' ∧ mW I' ∧ f_fo [2, 3, 4, 5, 6, 7, 8, 25, 30, 70] I I' ∧ f_fr [0, 2, 19, 20] I I' ∧ f_fr [0] L L' ∧ (I' 0 2).toInt = 0
  | _, _ => False
set_option maxHeartbeats 40000000 in
set_option maxRecDepth 100000 in
theorem mX12_row {l : Launch} {a : Nat → Nat} {cy dC : Nat → ClassId} {dI : Nat → Nat → Nat} (hinj : ∀ i j, i < 71 → j < 71 → a i = a j → i = j) : f_Met (fun _ => True) l mY 71 a cy dC dI yX12_row cX12_row 3 1 3 pX12_row qX12_row := by
  refine f_met_of (f_Ec_T 71 a) hinj mY_hi (by decide) (fun av I L h => by unfold pX12_row at h; split at h <;> first | exact Nat.le_of_ble_eq_true rfl | exact h.elim) ?_
  intro pP eP sP mP aP bP hP9 cP C av I L hp
  unfold pX12_row at hp
  split at hp
  case h_2 => exact hp.elim
  case h_1 =>
    obtain ⟨hR, hmL, hmW⟩ := hp
    have hb : 0 ≤ (I 0 24).toInt ∧ (I 0 24).toInt ≤ 1 := hR 0 24
    have hW : 0 ≤ (I 9 (I 0 24).toInt.toNat).toInt ∧ (I 9 (I 0 24).toInt.toNat).toInt ≤ 12 := hR 9 _
    have hF0 : f_fr [0, 2, 19, 20] I I := f_fr_rf
    have hG0 : f_fr [0] L L := f_fr_rf
    have hO0 : f_fo [2, 3, 4, 5, 6, 7, 8, 25, 30, 70] I I := f_fo_rf
    have lp105 : ∀ (n105 : Nat), ∀ (many : Int32) (i : Int32) (J105 : fM) (M105 : fN), mR J105 ∧ f_fr [0, 2, 19, 20] I J105 ∧ f_fr [0] L M105 ∧ f_fo [2, 3, 4, 5, 6, 7, 8, 25, 30, 70] I J105 ∧ mL J105 ∧ mW J105 ∧ (0 ≤ many.toInt) ∧ (many.toInt ≤ 8) ∧ (0 ≤ i.toInt) ∧ (i.toInt ≤ many.toInt) ∧ ((J105 0 2).toInt = 0) ∧ ((∀ j : Nat, (j : Int) < many.toInt → (J105 20 j).toInt < (I 9 (I 0 24).toInt.toNat).toInt)) ∧ ((∀ j : Nat, (j : Int) < i.toInt → (J105 19 j).toInt < (I 9 (I 0 24).toInt.toNat).toInt)) ∧ (8 - i.toInt) < n105 → f_W pP l eP (f_rm 3) sP mP aP bP hP9 cP mY 71 a cy dC dI 3 (f_K 1 (qX12_row [.ref 0] I L)) 105 [(2, .int i), (1, .int many), (0, .ref 0)] [] J105 M105 := by
      intro n105
      induction n105 with
      | zero =>
        intro many i J105 M105 h9
        obtain ⟨hR105c, hF105c, hG105c, hO105c, hmL105c, hmW105c, u105_1, u105_2, u105_3, u105_4, u105_5, u105_6, u105_7, hm105⟩ := h9
        omega
      | succ n105 ih105 =>
        intro many i J105 M105 h9
        obtain ⟨hR105c, hF105c, hG105c, hO105c, hmL105c, hmW105c, u105_1, u105_2, u105_3, u105_4, u105_5, u105_6, u105_7, hm105⟩ := h9
        refine f_wp_ok C f_cl flX12_ok fiX12_ok fjX12_ok (sn := none) (fun j h => by cases h) (cs := (f_cnl [(297, (1, 0, 11, pX12_takeTape, qX12_takeTape)), (281, (1, 3, 11, pX12_isGood, qX12_isGood)), (343, (1, 1, 11, pX12_wordHere, qX12_wordHere)), (288, (1, 0, 11, pX12_misplaced, qX12_misplaced)), (277, (3, 0, 11, pX12_fails, qX12_fails)), (285, (1, 0, 11, pX12_goOn, qX12_goOn))])) (cz := (fun _ => none)) (f_cnl_of (P := fun j S => f_cok pP l eP (f_rm 3) sP mP aP bP hP9 cP mY 71 a cy dC dI 3 _ _ (.invokevirtual j) true S) (List.forall_mem_cons.mpr ⟨f_cokV C (mX12_takeTape hinj) (ci := 11) rfl (List.forall_mem_cons.mpr ⟨(mlX12_ok _ (List.mem_of_getElem? (i := 10) rfl)), kc_X12_takeTape⟩) (by decide +kernel) ⟨Nat.le_of_ble_eq_true rfl, Nat.le_of_ble_eq_true rfl⟩, List.forall_mem_cons.mpr ⟨f_cokV C (mX12_isGood hinj) (ci := 11) rfl (List.forall_mem_cons.mpr ⟨(mlX12_ok _ (List.mem_of_getElem? (i := 7) rfl)), kc_X12_isGood⟩) (by decide +kernel) ⟨Nat.le_of_ble_eq_true rfl, Nat.le_of_ble_eq_true rfl⟩, List.forall_mem_cons.mpr ⟨f_cokV C (mX12_wordHere hinj) (ci := 11) rfl (List.forall_mem_cons.mpr ⟨(mlX12_ok _ (List.mem_of_getElem? (i := 21) rfl)), kc_X12_wordHere⟩) (by decide +kernel) ⟨Nat.le_of_ble_eq_true rfl, Nat.le_of_ble_eq_true rfl⟩, List.forall_mem_cons.mpr ⟨f_cokV C (mX12_misplaced hinj) (ci := 11) rfl (List.forall_mem_cons.mpr ⟨(mlX12_ok _ (List.mem_of_getElem? (i := 9) rfl)), kc_X12_misplaced⟩) (by decide +kernel) ⟨Nat.le_of_ble_eq_true rfl, Nat.le_of_ble_eq_true rfl⟩, List.forall_mem_cons.mpr ⟨f_cokV C (mX12_fails hinj) (ci := 11) rfl (List.forall_mem_cons.mpr ⟨(mlX12_ok _ (List.mem_of_getElem? (i := 6) rfl)), kc_X12_fails⟩) (by decide +kernel) ⟨Nat.le_of_ble_eq_true rfl, Nat.le_of_ble_eq_true rfl⟩, List.forall_mem_cons.mpr ⟨f_cokV C (mX12_goOn hinj) (ci := 11) rfl (List.forall_mem_cons.mpr ⟨(mlX12_ok _ (List.mem_of_getElem? (i := 8) rfl)), kc_X12_goOn⟩) (by decide +kernel) ⟨Nat.le_of_ble_eq_true rfl, Nat.le_of_ble_eq_true rfl⟩, fun _ h => absurd h List.not_mem_nil⟩⟩⟩⟩⟩⟩)) (fun j S h => by cases h) tX12_row_ok (cut := (f_cnl [(105, (fun (ls' : fLs) (st' : List Value) (I' : fM) (L' : fN) => ∃ many : Int32, ∃ i : Int32, (∀ q ∈ ([(2, .int i), (1, .int many), (0, .ref 0)] : fLs), q ∈ ls') ∧ st' = [] ∧ (mR I' ∧ f_fr [0, 2, 19, 20] I I' ∧ f_fr [0] L L' ∧ f_fo [2, 3, 4, 5, 6, 7, 8, 25, 30, 70] I I' ∧ mL I' ∧ mW I' ∧ (0 ≤ many.toInt) ∧ (many.toInt ≤ 8) ∧ (0 ≤ i.toInt) ∧ (i.toInt ≤ many.toInt) ∧ ((I' 0 2).toInt = 0) ∧ ((∀ j : Nat, (j : Int) < many.toInt → (I' 20 j).toInt < (I 9 (I 0 24).toInt.toNat).toInt)) ∧ ((∀ j : Nat, (j : Int) < i.toInt → (I' 19 j).toInt < (I 9 (I 0 24).toInt.toNat).toInt)) ∧ (8 - i.toInt) < n105)))])) (f_cnl_of (P := fun (tQ : Nat) (P : fLs → List Value → fM → fN → Prop) => ∀ ls' st' I' L', P ls' st' I' L' → f_W pP l eP (f_rm 3) sP mP aP bP hP9 cP mY 71 a cy dC dI 3 (f_K 1 (qX12_row [.ref 0] I L)) tQ ls' st' I' L') (List.forall_mem_cons.mpr ⟨(fun ls' st' I' L' h => by obtain ⟨many, i, hs, e1, h9⟩ := h; rw [e1]; exact f_W_sub hs (ih105 many i I' L' h9)), fun _ h => absurd h List.not_mem_nil⟩)) 16 105 (f_seek 105 0 tX12_row) (f_seek_ok 105 0 tX12_row tX12_row_ok) _ _ _ _ ?_
        apply And.intro
        · intro h107
          have h107 : many.toInt ≤ i.toInt := h107
          have hR130 := mR_f (k := 0) (j := 30) (x := many) hR105c (show 0 ≤ many.toInt ∧ many.toInt ≤ 8 from ⟨by omega, by omega⟩)
          have hF130 := f_fr_up (k := 0) (r := va_up (J105 0) 30 many) hF105c rfl
          have hO130 := f_fo_up (j := 30) (x := many) hO105c rfl
          have hmL130 := f_depo_up0 mL_dep (j := 30) (x := many) hmL105c rfl rfl
          have hmW130 : mW (va_up J105 0 (va_up (J105 0) 30 many)) := ⟨fun j hj => by
            have hj : (j : Int) < many.toInt := hj
            show (J105 19 j).toInt < (J105 9 (J105 0 24).toInt.toNat).toInt
            rw [hO105c 24 rfl, hF105c 9 rfl]
            exact u105_7 j (by omega), hmW105c.2.1, hmW105c.2.2⟩
          refine And.intro (Or.inl rfl) ?_
          have hR135 := mR_f (k := 0) (j := 70) (x := Int32.ofInt 0) hR130 (by exact f_rng _)
          have hF135 := f_fr_up (k := 0) (r := va_up (va_up (J105 0) 30 many) 70 (Int32.ofInt 0)) hF130 rfl
          have hO135 := f_fo_up (j := 70) (x := Int32.ofInt 0) hO130 rfl
          have hmL135 := f_depo_up0 mL_dep (j := 70) (x := Int32.ofInt 0) hmL130 rfl rfl
          have hmW135 := f_depo_up0 mW_dep (j := 70) (x := Int32.ofInt 0) hmW130 rfl rfl
          exact ⟨hR135, hmL135, hmW135, hO135, hF135, hG105c, (show (J105 0 2).toInt = 0 from by first | assumption | omega | rfl)⟩
        · intro h107
          have h107 : i.toInt < many.toInt := h107
          refine And.intro (show f_in i 8 from ⟨show 0 ≤ i.toInt from by omega, show i.toInt < 8 from by omega⟩) ?_
          have r120_1 : 0 ≤ (J105 20 (i.toInt.toNat)).toInt ∧ (J105 20 (i.toInt.toNat)).toInt ≤ 11 := hR105c 20 (i.toInt.toNat)
          have v121 : (J105 20 i.toInt.toNat).toInt < (J105 9 (J105 0 24).toInt.toNat).toInt := by rw [hO105c 24 rfl, hF105c 9 rfl]; exact u105_6 i.toInt.toNat (by omega)
          refine And.intro (show f_in i 8 from ⟨show 0 ≤ i.toInt from by omega, show i.toInt < 8 from by omega⟩) ?_
          have hR121 := mR_a (k := 19) (j := i.toInt.toNat) (x := J105 20 (i.toInt.toNat)) hR105c (show 0 ≤ (J105 20 (i.toInt.toNat)).toInt ∧ (J105 20 (i.toInt.toNat)).toInt ≤ 11 from ⟨by omega, by omega⟩)
          have hF121 := f_fr_up (k := 19) (r := upd (J105 19) (i.toInt.toNat) (J105 20 (i.toInt.toNat))) hF105c rfl
          have hO121 := f_fo_ne (k := 19) (r := upd (J105 19) (i.toInt.toNat) (J105 20 (i.toInt.toNat))) hO105c (by decide)
          have hmL121 := f_depo_up mL_dep (k := 19) (r := upd (J105 19) (i.toInt.toNat) (J105 20 (i.toInt.toNat))) hmL105c rfl (by decide)
          have hmW121 : mW (va_up J105 19 (upd (J105 19) (i.toInt.toNat) (J105 20 (i.toInt.toNat)))) := mW_row hmW105c v121
          intro z122 q122 _ hq122 hl122 hu122
          have hq122 : z122.toInt = i.toInt + 1 + 4294967296 * q122 := hq122
          try have hz122 : z122.toInt = i.toInt + 1 := by omega
          have q122 : ∀ j : Nat, (j : Int) < z122.toInt → ((upd (J105 19) i.toInt.toNat (J105 20 i.toInt.toNat)) j).toInt < (I 9 (I 0 24).toInt.toNat).toInt := fun j hj => by
            by_cases q : j = i.toInt.toNat
            · rw [q, pk_us]; exact u105_6 i.toInt.toNat (by omega)
            · rw [pk_un q]; exact u105_7 j (by omega)
          exact ⟨many, z122, (by intro q9 h9; simp only [List.mem_cons, List.not_mem_nil, or_false] at h9; rcases h9 with h9 | h9 | h9 <;> subst h9 <;> repeat (first | exact List.mem_cons_self | apply List.mem_cons_of_mem)), rfl, hR121, hF121, hG105c, hO121, hmL121, hmW121, (show 0 ≤ many.toInt from by first | assumption | omega), (show many.toInt ≤ 8 from by first | assumption | omega), (show 0 ≤ z122.toInt from by first | assumption | omega), (show z122.toInt ≤ many.toInt from by first | assumption | omega), (show (J105 0 2).toInt = 0 from by first | assumption | omega | rfl), (show (∀ j : Nat, (j : Int) < many.toInt → (J105 20 j).toInt < (I 9 (I 0 24).toInt.toNat).toInt) from by first | assumption | omega | exact fun _ _ => rfl | exact fun _ _ => ⟨rfl, rfl⟩ | exact fun _ _ => ⟨rfl, rfl, rfl⟩ | (intro j9 hj9; omega)), (show (∀ j : Nat, (j : Int) < z122.toInt → ((upd (J105 19) (i.toInt.toNat) (J105 20 (i.toInt.toNat))) j).toInt < (I 9 (I 0 24).toInt.toNat).toInt) from by first | assumption | omega | exact fun _ _ => rfl | exact fun _ _ => ⟨rfl, rfl⟩ | exact fun _ _ => ⟨rfl, rfl, rfl⟩ | (intro j9 hj9; omega)), (show (8 - z122.toInt) < n105 from by omega)⟩
    have lp14 : ∀ (n14 : Nat), ∀ (many : Int32) (J14 : fM) (M14 : fN), mR J14 ∧ f_fr [0, 2, 19, 20] I J14 ∧ f_fr [0] L M14 ∧ f_fo [2, 3, 4, 5, 6, 7, 8, 25, 30, 70] I J14 ∧ mL J14 ∧ mW J14 ∧ (0 ≤ many.toInt) ∧ (many.toInt ≤ 8) ∧ ((J14 0 7).toInt ≤ 1600) ∧ (J14 0 25 = I 0 24) ∧ ((J14 0 2).toInt = 0) ∧ ((∀ j : Nat, (j : Int) < many.toInt → (J14 20 j).toInt < (I 9 (I 0 24).toInt.toNat).toInt)) ∧ (0 ≤ gm (J14 0 4).toInt (8 - many.toInt)) ∧ (gm (J14 0 4).toInt (8 - many.toInt)) < n14 → f_W pP l eP (f_rm 3) sP mP aP bP hP9 cP mY 71 a cy dC dI 3 (f_K 1 (qX12_row [.ref 0] I L)) 14 [(1, .int many), (0, .ref 0)] [] J14 M14 := by
      intro n14
      induction n14 with
      | zero =>
        intro many J14 M14 h9
        obtain ⟨hR14c, hF14c, hG14c, hO14c, hmL14c, hmW14c, u14_1, u14_2, u14_3, u14_4, u14_5, u14_6, u14_7, hm14⟩ := h9
        omega
      | succ n14 ih14 =>
        intro many J14 M14 h9
        obtain ⟨hR14c, hF14c, hG14c, hO14c, hmL14c, hmW14c, u14_1, u14_2, u14_3, u14_4, u14_5, u14_6, u14_7, hm14⟩ := h9
        have e14 : (J14 9 (J14 0 25).toInt.toNat).toInt = (I 9 (I 0 24).toInt.toNat).toInt := by rw [u14_4, hF14c 9 rfl]
        have lp67 : ∀ (w : Int32) (J67 : fM) (M67 : fN), mR J67 ∧ f_fr [0, 2, 19, 20] I J67 ∧ f_fr [0] L M67 ∧ f_fo [2, 3, 4, 5, 6, 7, 8, 25, 30, 70] I J67 ∧ mL J67 ∧ mW J67 ∧ ((J14 0 4).toInt = 0) ∧ (-1 ≤ w.toInt) ∧ (w.toInt < (I 9 (I 0 24).toInt.toNat).toInt) ∧ ((J67 0 7).toInt ≤ 1600) ∧ (J67 0 25 = I 0 24) ∧ ((J67 0 2).toInt = 0) ∧ ((∀ j : Nat, (j : Int) < many.toInt → (J67 20 j).toInt < (I 9 (I 0 24).toInt.toNat).toInt)) ∧ ((¬ (J67 0 4).toInt = 0 ∨ 0 ≤ w.toInt ∧ many.toInt ≤ 7)) → f_W pP l eP (f_rm 3) sP mP aP bP hP9 cP mY 71 a cy dC dI 3 (f_K 1 (qX12_row [.ref 0] I L)) 67 [(2, .int w), (1, .int many), (0, .ref 0)] [] J67 M67 := by
          intro w J67 M67 h9
          obtain ⟨hR67c, hF67c, hG67c, hO67c, hmL67c, hmW67c, u67_1, u67_2, u67_3, u67_4, u67_5, u67_6, u67_7, u67_8⟩ := h9
          refine f_wp_ok C f_cl flX12_ok fiX12_ok fjX12_ok (sn := none) (fun j h => by cases h) (cs := (f_cnl [(297, (1, 0, 11, pX12_takeTape, qX12_takeTape)), (281, (1, 3, 11, pX12_isGood, qX12_isGood)), (343, (1, 1, 11, pX12_wordHere, qX12_wordHere)), (288, (1, 0, 11, pX12_misplaced, qX12_misplaced)), (277, (3, 0, 11, pX12_fails, qX12_fails)), (285, (1, 0, 11, pX12_goOn, qX12_goOn))])) (cz := (fun _ => none)) (f_cnl_of (P := fun j S => f_cok pP l eP (f_rm 3) sP mP aP bP hP9 cP mY 71 a cy dC dI 3 _ _ (.invokevirtual j) true S) (List.forall_mem_cons.mpr ⟨f_cokV C (mX12_takeTape hinj) (ci := 11) rfl (List.forall_mem_cons.mpr ⟨(mlX12_ok _ (List.mem_of_getElem? (i := 10) rfl)), kc_X12_takeTape⟩) (by decide +kernel) ⟨Nat.le_of_ble_eq_true rfl, Nat.le_of_ble_eq_true rfl⟩, List.forall_mem_cons.mpr ⟨f_cokV C (mX12_isGood hinj) (ci := 11) rfl (List.forall_mem_cons.mpr ⟨(mlX12_ok _ (List.mem_of_getElem? (i := 7) rfl)), kc_X12_isGood⟩) (by decide +kernel) ⟨Nat.le_of_ble_eq_true rfl, Nat.le_of_ble_eq_true rfl⟩, List.forall_mem_cons.mpr ⟨f_cokV C (mX12_wordHere hinj) (ci := 11) rfl (List.forall_mem_cons.mpr ⟨(mlX12_ok _ (List.mem_of_getElem? (i := 21) rfl)), kc_X12_wordHere⟩) (by decide +kernel) ⟨Nat.le_of_ble_eq_true rfl, Nat.le_of_ble_eq_true rfl⟩, List.forall_mem_cons.mpr ⟨f_cokV C (mX12_misplaced hinj) (ci := 11) rfl (List.forall_mem_cons.mpr ⟨(mlX12_ok _ (List.mem_of_getElem? (i := 9) rfl)), kc_X12_misplaced⟩) (by decide +kernel) ⟨Nat.le_of_ble_eq_true rfl, Nat.le_of_ble_eq_true rfl⟩, List.forall_mem_cons.mpr ⟨f_cokV C (mX12_fails hinj) (ci := 11) rfl (List.forall_mem_cons.mpr ⟨(mlX12_ok _ (List.mem_of_getElem? (i := 6) rfl)), kc_X12_fails⟩) (by decide +kernel) ⟨Nat.le_of_ble_eq_true rfl, Nat.le_of_ble_eq_true rfl⟩, List.forall_mem_cons.mpr ⟨f_cokV C (mX12_goOn hinj) (ci := 11) rfl (List.forall_mem_cons.mpr ⟨(mlX12_ok _ (List.mem_of_getElem? (i := 8) rfl)), kc_X12_goOn⟩) (by decide +kernel) ⟨Nat.le_of_ble_eq_true rfl, Nat.le_of_ble_eq_true rfl⟩, fun _ h => absurd h List.not_mem_nil⟩⟩⟩⟩⟩⟩)) (fun j S h => by cases h) tX12_row_ok (cut := (f_cnl [(14, (fun (ls' : fLs) (st' : List Value) (I' : fM) (L' : fN) => ∃ many : Int32, (∀ q ∈ ([(1, .int many), (0, .ref 0)] : fLs), q ∈ ls') ∧ st' = [] ∧ (mR I' ∧ f_fr [0, 2, 19, 20] I I' ∧ f_fr [0] L L' ∧ f_fo [2, 3, 4, 5, 6, 7, 8, 25, 30, 70] I I' ∧ mL I' ∧ mW I' ∧ (0 ≤ many.toInt) ∧ (many.toInt ≤ 8) ∧ ((I' 0 7).toInt ≤ 1600) ∧ (I' 0 25 = I 0 24) ∧ ((I' 0 2).toInt = 0) ∧ ((∀ j : Nat, (j : Int) < many.toInt → (I' 20 j).toInt < (I 9 (I 0 24).toInt.toNat).toInt)) ∧ (0 ≤ gm (I' 0 4).toInt (8 - many.toInt)) ∧ (gm (I' 0 4).toInt (8 - many.toInt)) < n14)))])) (f_cnl_of (P := fun (tQ : Nat) (P : fLs → List Value → fM → fN → Prop) => ∀ ls' st' I' L', P ls' st' I' L' → f_W pP l eP (f_rm 3) sP mP aP bP hP9 cP mY 71 a cy dC dI 3 (f_K 1 (qX12_row [.ref 0] I L)) tQ ls' st' I' L') (List.forall_mem_cons.mpr ⟨(fun ls' st' I' L' h => by obtain ⟨many, hs, e1, h9⟩ := h; rw [e1]; exact f_W_sub hs (ih14 many I' L' h9)), fun _ h => absurd h List.not_mem_nil⟩)) 15 67 (f_seek 67 0 tX12_row) (f_seek_ok 67 0 tX12_row tX12_row_ok) _ _ _ _ ?_
          refine And.intro trivial ?_
          intro x68 I68 L68 hq68
          have hq68 : I68 = J67 ∧ L68 = M67 ∧ ((x68.toInt = 1 ∧ (J67 0 4).toInt = 0 ∨ x68.toInt = 0 ∧ ¬ (J67 0 4).toInt = 0)) := hq68
          obtain ⟨eI68, eL68, c68_2⟩ := hq68
          replace eI68 := eI68.symm
          subst eI68
          replace eL68 := eL68.symm
          subst eL68
          apply And.intro
          · intro h71
            have h71 : ¬ x68.toInt = 0 := h71
            refine And.intro (show f_in many 8 from ⟨show 0 ≤ many.toInt from by omega, show many.toInt < 8 from by omega⟩) ?_
            have hR83 := mR_a (k := 20) (j := many.toInt.toNat) (x := w) hR67c (show 0 ≤ w.toInt ∧ w.toInt ≤ 11 from ⟨by omega, by omega⟩)
            have hF83 := f_fr_up (k := 20) (r := upd (J67 20) (many.toInt.toNat) w) hF67c rfl
            have hO83 := f_fo_ne (k := 20) (r := upd (J67 20) (many.toInt.toNat) w) hO67c (by decide)
            have hmL83 := f_depo_up mL_dep (k := 20) (r := upd (J67 20) (many.toInt.toNat) w) hmL67c rfl (by decide)
            have hmW83 := f_depo_up mW_dep (k := 20) (r := upd (J67 20) (many.toInt.toNat) w) hmW67c rfl (by decide)
            intro z84 q84 _ hq84 hl84 hu84
            have hq84 : z84.toInt = many.toInt + 1 + 4294967296 * q84 := hq84
            try have hz84 : z84.toInt = many.toInt + 1 := by omega
            refine And.intro ⟨hR83, (show (J67 0 7).toInt ≤ 1600 from by first | assumption | omega)⟩ ?_
            intro I88 L88 hq88
            have hq88 : mR I88 ∧ f_fo [6, 7, 8] (va_up J67 20 (upd (J67 20) (many.toInt.toNat) w)) I88 ∧ f_fr [0] (va_up J67 20 (upd (J67 20) (many.toInt.toNat) w)) I88 ∧ f_fr [0] M67 L88 ∧ (I88 0 7).toInt ≤ 1600 := hq88
            obtain ⟨c88_0, c88_1, c88_2, c88_3, c88_4⟩ := hq88
            have hO88 := f_fo_tr hO83 c88_1 rfl
            have hmL88 := f_depo_fo mL_dep hmL83 c88_2 c88_1 rfl rfl
            have hmW88 := f_depo_fo mW_dep hmW83 c88_2 c88_1 rfl rfl
            have hF88 := f_fr_tr hF83 c88_2 rfl
            have hG88 := f_fr_tr hG67c c88_3 rfl
            have f88 : I88 0 25 = I 0 24 := (c88_1 25 rfl).trans u67_5
            have d88 : ∀ j : Nat, (j : Int) < z84.toInt → (I88 20 j).toInt < (I 9 (I 0 24).toInt.toNat).toInt := fun j hj => by
              rw [c88_2 20 rfl]
              show ((upd (J67 20) many.toInt.toNat w) j).toInt < _
              by_cases q : j = many.toInt.toNat
              · rw [q, pk_us]; exact u67_3
              · rw [pk_un q]; exact u67_7 j (by omega)
            have g88 : 0 ≤ gm (I88 0 4).toInt (8 - z84.toInt) ∧ gm (I88 0 4).toInt (8 - z84.toInt) < gm (J14 0 4).toInt (8 - many.toInt) := by
              rw [gm_1 u67_1]
              by_cases h : (I88 0 4).toInt = 0
              · rw [gm_1 h]; omega
              · rw [gm_0 h]; omega
            have r14_2 : 0 ≤ (I88 0 7).toInt ∧ (I88 0 7).toInt ≤ 1601 := c88_0 0 7
            have r14_3 : 0 ≤ (I88 0 2).toInt ∧ (I88 0 2).toInt ≤ 1600 := c88_0 0 2
            have e14_4 : (I88 0 2).toInt = (J67 0 2).toInt := congrArg Int32.toInt (c88_1 2 rfl)
            have e14_6 : (I88 0 4).toInt = (J67 0 4).toInt := congrArg Int32.toInt (c88_1 4 rfl)
            exact ⟨z84, (by intro q9 h9; simp only [List.mem_cons, List.not_mem_nil, or_false] at h9; rcases h9 with h9 | h9 <;> subst h9 <;> repeat (first | exact List.mem_cons_self | apply List.mem_cons_of_mem)), rfl, c88_0, hF88, hG88, hO88, hmL88, hmW88, (show 0 ≤ z84.toInt from by first | assumption | omega), (show z84.toInt ≤ 8 from by first | assumption | omega), (show (I88 0 7).toInt ≤ 1600 from by first | assumption | omega), (show I88 0 25 = I 0 24 from by first | assumption | omega | rfl), (show (I88 0 2).toInt = 0 from by first | assumption | omega | rfl), (show (∀ j : Nat, (j : Int) < z84.toInt → (I88 20 j).toInt < (I 9 (I 0 24).toInt.toNat).toInt) from by first | assumption | omega | exact fun _ _ => rfl | exact fun _ _ => ⟨rfl, rfl⟩ | exact fun _ _ => ⟨rfl, rfl, rfl⟩ | (intro j9 hj9; omega)), (show 0 ≤ gm (I88 0 4).toInt (8 - z84.toInt) from by first | assumption | omega), (show (gm (I88 0 4).toInt (8 - z84.toInt)) < n14 from by omega)⟩
          · intro h71
            have h71 : x68.toInt = 0 := h71
            have g74 : gm (J67 0 4).toInt (8 - many.toInt) = 0 := gm_0 (by omega)
            have k74 : gm (J14 0 4).toInt (8 - many.toInt) = 8 - many.toInt + 1 := gm_1 u67_1
            have r14_1 : 0 ≤ (J67 0 7).toInt ∧ (J67 0 7).toInt ≤ 1601 := hR67c 0 7
            have r14_2 : 0 ≤ (J67 0 2).toInt ∧ (J67 0 2).toInt ≤ 1600 := hR67c 0 2
            exact ⟨many, (by intro q9 h9; simp only [List.mem_cons, List.not_mem_nil, or_false] at h9; rcases h9 with h9 | h9 <;> subst h9 <;> repeat (first | exact List.mem_cons_self | apply List.mem_cons_of_mem)), rfl, hR67c, hF67c, hG67c, hO67c, hmL67c, hmW67c, (show 0 ≤ many.toInt from by first | assumption | omega), (show many.toInt ≤ 8 from by first | assumption | omega), (show (J67 0 7).toInt ≤ 1600 from by first | assumption | omega), (show J67 0 25 = I 0 24 from by first | assumption | omega | rfl), (show (J67 0 2).toInt = 0 from by first | assumption | omega | rfl), (show (∀ j : Nat, (j : Int) < many.toInt → (J67 20 j).toInt < (I 9 (I 0 24).toInt.toNat).toInt) from by first | assumption | omega | exact fun _ _ => rfl | exact fun _ _ => ⟨rfl, rfl⟩ | exact fun _ _ => ⟨rfl, rfl, rfl⟩ | (intro j9 hj9; omega)), (show 0 ≤ gm (J67 0 4).toInt (8 - many.toInt) from by first | assumption | omega), (show (gm (J67 0 4).toInt (8 - many.toInt)) < n14 from by omega)⟩
        refine f_wp_ok C f_cl flX12_ok fiX12_ok fjX12_ok (sn := none) (fun j h => by cases h) (cs := (f_cnl [(297, (1, 0, 11, pX12_takeTape, qX12_takeTape)), (281, (1, 3, 11, pX12_isGood, qX12_isGood)), (343, (1, 1, 11, pX12_wordHere, qX12_wordHere)), (288, (1, 0, 11, pX12_misplaced, qX12_misplaced)), (277, (3, 0, 11, pX12_fails, qX12_fails)), (285, (1, 0, 11, pX12_goOn, qX12_goOn))])) (cz := (fun _ => none)) (f_cnl_of (P := fun j S => f_cok pP l eP (f_rm 3) sP mP aP bP hP9 cP mY 71 a cy dC dI 3 _ _ (.invokevirtual j) true S) (List.forall_mem_cons.mpr ⟨f_cokV C (mX12_takeTape hinj) (ci := 11) rfl (List.forall_mem_cons.mpr ⟨(mlX12_ok _ (List.mem_of_getElem? (i := 10) rfl)), kc_X12_takeTape⟩) (by decide +kernel) ⟨Nat.le_of_ble_eq_true rfl, Nat.le_of_ble_eq_true rfl⟩, List.forall_mem_cons.mpr ⟨f_cokV C (mX12_isGood hinj) (ci := 11) rfl (List.forall_mem_cons.mpr ⟨(mlX12_ok _ (List.mem_of_getElem? (i := 7) rfl)), kc_X12_isGood⟩) (by decide +kernel) ⟨Nat.le_of_ble_eq_true rfl, Nat.le_of_ble_eq_true rfl⟩, List.forall_mem_cons.mpr ⟨f_cokV C (mX12_wordHere hinj) (ci := 11) rfl (List.forall_mem_cons.mpr ⟨(mlX12_ok _ (List.mem_of_getElem? (i := 21) rfl)), kc_X12_wordHere⟩) (by decide +kernel) ⟨Nat.le_of_ble_eq_true rfl, Nat.le_of_ble_eq_true rfl⟩, List.forall_mem_cons.mpr ⟨f_cokV C (mX12_misplaced hinj) (ci := 11) rfl (List.forall_mem_cons.mpr ⟨(mlX12_ok _ (List.mem_of_getElem? (i := 9) rfl)), kc_X12_misplaced⟩) (by decide +kernel) ⟨Nat.le_of_ble_eq_true rfl, Nat.le_of_ble_eq_true rfl⟩, List.forall_mem_cons.mpr ⟨f_cokV C (mX12_fails hinj) (ci := 11) rfl (List.forall_mem_cons.mpr ⟨(mlX12_ok _ (List.mem_of_getElem? (i := 6) rfl)), kc_X12_fails⟩) (by decide +kernel) ⟨Nat.le_of_ble_eq_true rfl, Nat.le_of_ble_eq_true rfl⟩, List.forall_mem_cons.mpr ⟨f_cokV C (mX12_goOn hinj) (ci := 11) rfl (List.forall_mem_cons.mpr ⟨(mlX12_ok _ (List.mem_of_getElem? (i := 8) rfl)), kc_X12_goOn⟩) (by decide +kernel) ⟨Nat.le_of_ble_eq_true rfl, Nat.le_of_ble_eq_true rfl⟩, fun _ h => absurd h List.not_mem_nil⟩⟩⟩⟩⟩⟩)) (fun j S h => by cases h) tX12_row_ok (cut := (f_cnl [(67, (fun (ls' : fLs) (st' : List Value) (I' : fM) (L' : fN) => ∃ w : Int32, (∀ q ∈ ([(2, .int w), (1, .int many), (0, .ref 0)] : fLs), q ∈ ls') ∧ st' = [] ∧ (mR I' ∧ f_fr [0, 2, 19, 20] I I' ∧ f_fr [0] L L' ∧ f_fo [2, 3, 4, 5, 6, 7, 8, 25, 30, 70] I I' ∧ mL I' ∧ mW I' ∧ ((J14 0 4).toInt = 0) ∧ (-1 ≤ w.toInt) ∧ (w.toInt < (I 9 (I 0 24).toInt.toNat).toInt) ∧ ((I' 0 7).toInt ≤ 1600) ∧ (I' 0 25 = I 0 24) ∧ ((I' 0 2).toInt = 0) ∧ ((∀ j : Nat, (j : Int) < many.toInt → (I' 20 j).toInt < (I 9 (I 0 24).toInt.toNat).toInt)) ∧ ((¬ (I' 0 4).toInt = 0 ∨ 0 ≤ w.toInt ∧ many.toInt ≤ 7))))), (105, (fun (ls' : fLs) (st' : List Value) (I' : fM) (L' : fN) => ∃ many : Int32, ∃ i : Int32, (∀ q ∈ ([(2, .int i), (1, .int many), (0, .ref 0)] : fLs), q ∈ ls') ∧ st' = [] ∧ (mR I' ∧ f_fr [0, 2, 19, 20] I I' ∧ f_fr [0] L L' ∧ f_fo [2, 3, 4, 5, 6, 7, 8, 25, 30, 70] I I' ∧ mL I' ∧ mW I' ∧ (0 ≤ many.toInt) ∧ (many.toInt ≤ 8) ∧ (0 ≤ i.toInt) ∧ (i.toInt ≤ many.toInt) ∧ ((I' 0 2).toInt = 0) ∧ ((∀ j : Nat, (j : Int) < many.toInt → (I' 20 j).toInt < (I 9 (I 0 24).toInt.toNat).toInt)) ∧ ((∀ j : Nat, (j : Int) < i.toInt → (I' 19 j).toInt < (I 9 (I 0 24).toInt.toNat).toInt)) ∧ (8 - i.toInt) < 9)))])) (f_cnl_of (P := fun (tQ : Nat) (P : fLs → List Value → fM → fN → Prop) => ∀ ls' st' I' L', P ls' st' I' L' → f_W pP l eP (f_rm 3) sP mP aP bP hP9 cP mY 71 a cy dC dI 3 (f_K 1 (qX12_row [.ref 0] I L)) tQ ls' st' I' L') (List.forall_mem_cons.mpr ⟨(fun ls' st' I' L' h => by obtain ⟨w, hs, e1, h9⟩ := h; rw [e1]; exact f_W_sub hs (lp67 w I' L' h9)), List.forall_mem_cons.mpr ⟨(fun ls' st' I' L' h => by obtain ⟨many, i, hs, e1, h9⟩ := h; rw [e1]; exact f_W_sub hs (lp105 9 many i I' L' h9)), fun _ h => absurd h List.not_mem_nil⟩⟩)) 26 14 (f_seek 14 0 tX12_row) (f_seek_ok 14 0 tX12_row tX12_row_ok) _ _ _ _ ?_
        refine And.intro trivial ?_
        intro x15 I15 L15 hq15
        have hq15 : I15 = J14 ∧ L15 = M14 ∧ ((x15.toInt = 1 ∧ (J14 0 4).toInt = 0 ∨ x15.toInt = 0 ∧ ¬ (J14 0 4).toInt = 0)) := hq15
        obtain ⟨eI15, eL15, c15_2⟩ := hq15
        replace eI15 := eI15.symm
        subst eI15
        replace eL15 := eL15.symm
        subst eL15
        apply And.intro
        · intro h18
          have h18 : x15.toInt = 0 := h18
          refine And.intro trivial ?_
          intro x95 I95 L95 hq95
          have hq95 : I95 = J14 ∧ L95 = M14 ∧ ((x95.toInt = 1 ∧ (J14 0 4).toInt = 0 ∨ x95.toInt = 0 ∧ ¬ (J14 0 4).toInt = 0)) := hq95
          obtain ⟨eI95, eL95, c95_2⟩ := hq95
          replace eI95 := eI95.symm
          subst eI95
          replace eL95 := eL95.symm
          subst eL95
          apply And.intro
          · intro h98
            have h98 : ¬ x95.toInt = 0 := h98
            have r105_1 : 0 ≤ (J14 0 2).toInt ∧ (J14 0 2).toInt ≤ 1600 := hR14c 0 2
            exact ⟨many, Int32.ofInt 0, (by intro q9 h9; simp only [List.mem_cons, List.not_mem_nil, or_false] at h9; rcases h9 with h9 | h9 | h9 <;> subst h9 <;> repeat (first | exact List.mem_cons_self | apply List.mem_cons_of_mem)), rfl, hR14c, hF14c, hG14c, hO14c, hmL14c, hmW14c, (show 0 ≤ many.toInt from by first | assumption | omega), (show many.toInt ≤ 8 from by first | assumption | omega), (show 0 ≤ (0 : Int) from by first | assumption | omega), (show (0 : Int) ≤ many.toInt from by first | assumption | omega), (show (J14 0 2).toInt = 0 from by first | assumption | omega | rfl), (show (∀ j : Nat, (j : Int) < many.toInt → (J14 20 j).toInt < (I 9 (I 0 24).toInt.toNat).toInt) from by first | assumption | omega | exact fun _ _ => rfl | exact fun _ _ => ⟨rfl, rfl⟩ | exact fun _ _ => ⟨rfl, rfl, rfl⟩ | (intro j9 hj9; omega)), (show (∀ j : Nat, (j : Int) < (0 : Int) → (J14 19 j).toInt < (I 9 (I 0 24).toInt.toNat).toInt) from by first | assumption | omega | exact fun _ _ => rfl | exact fun _ _ => ⟨rfl, rfl⟩ | exact fun _ _ => ⟨rfl, rfl, rfl⟩ | (intro j9 hj9; omega)), (show (8 - (0 : Int)) < 9 from by omega)⟩
          · intro h98
            have h98 : x95.toInt = 0 := h98
            have r102_1 : 0 ≤ (J14 0 2).toInt ∧ (J14 0 2).toInt ≤ 1600 := hR14c 0 2
            exact ⟨hR14c, hmL14c, hmW14c, hO14c, hF14c, hG14c, (show (J14 0 2).toInt = 0 from by first | assumption | omega | rfl)⟩
        · intro h18
          have h18 : ¬ x15.toInt = 0 := h18
          apply And.intro
          · intro h25
            have h25 : (J14 0 8).toInt = 0 := h25
            refine And.intro trivial ?_
            intro x95 I95 L95 hq95
            have hq95 : I95 = J14 ∧ L95 = M14 ∧ ((x95.toInt = 1 ∧ (J14 0 4).toInt = 0 ∨ x95.toInt = 0 ∧ ¬ (J14 0 4).toInt = 0)) := hq95
            obtain ⟨eI95, eL95, c95_2⟩ := hq95
            replace eI95 := eI95.symm
            subst eI95
            replace eL95 := eL95.symm
            subst eL95
            apply And.intro
            · intro h98
              have h98 : ¬ x95.toInt = 0 := h98
              have r105_2 : 0 ≤ (J14 0 2).toInt ∧ (J14 0 2).toInt ≤ 1600 := hR14c 0 2
              exact ⟨many, Int32.ofInt 0, (by intro q9 h9; simp only [List.mem_cons, List.not_mem_nil, or_false] at h9; rcases h9 with h9 | h9 | h9 <;> subst h9 <;> repeat (first | exact List.mem_cons_self | apply List.mem_cons_of_mem)), rfl, hR14c, hF14c, hG14c, hO14c, hmL14c, hmW14c, (show 0 ≤ many.toInt from by first | assumption | omega), (show many.toInt ≤ 8 from by first | assumption | omega), (show 0 ≤ (0 : Int) from by first | assumption | omega), (show (0 : Int) ≤ many.toInt from by first | assumption | omega), (show (J14 0 2).toInt = 0 from by first | assumption | omega | rfl), (show (∀ j : Nat, (j : Int) < many.toInt → (J14 20 j).toInt < (I 9 (I 0 24).toInt.toNat).toInt) from by first | assumption | omega | exact fun _ _ => rfl | exact fun _ _ => ⟨rfl, rfl⟩ | exact fun _ _ => ⟨rfl, rfl, rfl⟩ | (intro j9 hj9; omega)), (show (∀ j : Nat, (j : Int) < (0 : Int) → (J14 19 j).toInt < (I 9 (I 0 24).toInt.toNat).toInt) from by first | assumption | omega | exact fun _ _ => rfl | exact fun _ _ => ⟨rfl, rfl⟩ | exact fun _ _ => ⟨rfl, rfl, rfl⟩ | (intro j9 hj9; omega)), (show (8 - (0 : Int)) < 9 from by omega)⟩
            · intro h98
              have h98 : x95.toInt = 0 := h98
              have r102_2 : 0 ≤ (J14 0 2).toInt ∧ (J14 0 2).toInt ≤ 1600 := hR14c 0 2
              exact ⟨hR14c, hmL14c, hmW14c, hO14c, hF14c, hG14c, (show (J14 0 2).toInt = 0 from by first | assumption | omega | rfl)⟩
          · intro h25
            have h25 : ¬ (J14 0 8).toInt = 0 := h25
            refine And.intro hR14c ?_
            intro x29 I29 L29 hq29
            have hq29 : I29 = J14 ∧ L29 = M14 ∧ -1 ≤ x29.toInt ∧ x29.toInt < (J14 9 (J14 0 25).toInt.toNat).toInt ∧ x29.toInt ≤ 11 := hq29
            obtain ⟨eI29, eL29, c29_2, c29_3, c29_4⟩ := hq29
            replace eI29 := eI29.symm
            subst eI29
            replace eL29 := eL29.symm
            subst eL29
            have r29_2 : 0 ≤ (J14 9 ((J14 0 25).toInt.toNat)).toInt ∧ (J14 9 ((J14 0 25).toInt.toNat)).toInt ≤ 12 := hR14c 9 ((J14 0 25).toInt.toNat)
            have e29_3 : (J14 9 ((J14 0 25).toInt.toNat)).toInt = (I 9 ((J14 0 25).toInt.toNat)).toInt := congrArg Int32.toInt (congrFun (hF14c 9 rfl) ((J14 0 25).toInt.toNat))
            have r29_4 : 0 ≤ (J14 0 25).toInt ∧ (J14 0 25).toInt ≤ 1 := hR14c 0 25
            apply And.intro
            · intro h38
              have h38 : ¬ (J14 0 8).toInt = 2 := h38
              refine And.intro hR14c ?_
              intro I48 L48 hq48
              have hq48 : mR I48 ∧ f_fo [4, 5] J14 I48 ∧ f_fr [0] J14 I48 ∧ L48 = M14 ∧ 1 ≤ (I48 0 4).toInt := hq48
              obtain ⟨c48_0, c48_1, c48_2, eL48, c48_4⟩ := hq48
              replace eL48 := eL48.symm
              subst eL48
              have hO48 := f_fo_tr hO14c c48_1 rfl
              have hmL48 := f_depo_fo mL_dep hmL14c c48_2 c48_1 rfl rfl
              have hmW48 := f_depo_fo mW_dep hmW14c c48_2 c48_1 rfl rfl
              have hF48 := f_fr_tr hF14c c48_2 rfl
              have f48 : I48 0 25 = I 0 24 := (c48_1 25 rfl).trans u14_4
              have d48 : ∀ j : Nat, (j : Int) < many.toInt → (I48 20 j).toInt < (I 9 (I 0 24).toInt.toNat).toInt := by rw [c48_2 20 rfl]; exact u14_6
              have r67_5 : 0 ≤ (I48 0 7).toInt ∧ (I48 0 7).toInt ≤ 1601 := c48_0 0 7
              have e67_6 : (I48 0 7).toInt = (J14 0 7).toInt := congrArg Int32.toInt (c48_1 7 rfl)
              have r67_7 : 0 ≤ (I48 0 2).toInt ∧ (I48 0 2).toInt ≤ 1600 := c48_0 0 2
              have e67_8 : (I48 0 2).toInt = (J14 0 2).toInt := congrArg Int32.toInt (c48_1 2 rfl)
              exact ⟨x29, (by intro q9 h9; simp only [List.mem_cons, List.not_mem_nil, or_false] at h9; rcases h9 with h9 | h9 | h9 <;> subst h9 <;> repeat (first | exact List.mem_cons_self | apply List.mem_cons_of_mem)), rfl, c48_0, hF48, hG14c, hO48, hmL48, hmW48, (show (J14 0 4).toInt = 0 from by first | assumption | omega | rfl), (show -1 ≤ x29.toInt from by first | assumption | omega), (show x29.toInt < (I 9 (I 0 24).toInt.toNat).toInt from by first | assumption | omega), (show (I48 0 7).toInt ≤ 1600 from by first | assumption | omega), (show I48 0 25 = I 0 24 from by first | assumption | omega | rfl), (show (I48 0 2).toInt = 0 from by first | assumption | omega | rfl), (show (∀ j : Nat, (j : Int) < many.toInt → (I48 20 j).toInt < (I 9 (I 0 24).toInt.toNat).toInt) from by first | assumption | omega | exact fun _ _ => rfl | exact fun _ _ => ⟨rfl, rfl⟩ | exact fun _ _ => ⟨rfl, rfl, rfl⟩ | (intro j9 hj9; omega)), (show (¬ (I48 0 4).toInt = 0 ∨ 0 ≤ x29.toInt ∧ many.toInt ≤ 7) from by first | assumption | omega | rfl)⟩
            · intro h38
              have h38 : (J14 0 8).toInt = 2 := h38
              apply And.intro
              · intro h44
                have h44 : ¬ many.toInt = 8 := h44
                apply And.intro
                · intro h55
                  have h55 : 0 ≤ x29.toInt := h55
                  have r67_6 : 0 ≤ (J14 0 7).toInt ∧ (J14 0 7).toInt ≤ 1601 := hR14c 0 7
                  have r67_7 : 0 ≤ (J14 0 2).toInt ∧ (J14 0 2).toInt ≤ 1600 := hR14c 0 2
                  exact ⟨x29, (by intro q9 h9; simp only [List.mem_cons, List.not_mem_nil, or_false] at h9; rcases h9 with h9 | h9 | h9 <;> subst h9 <;> repeat (first | exact List.mem_cons_self | apply List.mem_cons_of_mem)), rfl, hR14c, hF14c, hG14c, hO14c, hmL14c, hmW14c, (show (J14 0 4).toInt = 0 from by first | assumption | omega | rfl), (show -1 ≤ x29.toInt from by first | assumption | omega), (show x29.toInt < (I 9 (I 0 24).toInt.toNat).toInt from by first | assumption | omega), (show (J14 0 7).toInt ≤ 1600 from by first | assumption | omega), (show J14 0 25 = I 0 24 from by first | assumption | omega | rfl), (show (J14 0 2).toInt = 0 from by first | assumption | omega | rfl), (show (∀ j : Nat, (j : Int) < many.toInt → (J14 20 j).toInt < (I 9 (I 0 24).toInt.toNat).toInt) from by first | assumption | omega | exact fun _ _ => rfl | exact fun _ _ => ⟨rfl, rfl⟩ | exact fun _ _ => ⟨rfl, rfl, rfl⟩ | (intro j9 hj9; omega)), (show (¬ (J14 0 4).toInt = 0 ∨ 0 ≤ x29.toInt ∧ many.toInt ≤ 7) from by first | assumption | omega | rfl)⟩
                · intro h55
                  have h55 : x29.toInt < 0 := h55
                  have r61_5 : 0 ≤ (J14 0 6).toInt ∧ (J14 0 6).toInt ≤ 1601 := hR14c 0 6
                  refine And.intro ⟨hR14c, (show 1 ≤ (5 : Int) from by first | assumption | omega)⟩ ?_
                  intro I64 L64 hq64
                  have hq64 : mR I64 ∧ f_fo [4, 5] J14 I64 ∧ f_fr [0] J14 I64 ∧ L64 = M14 ∧ 1 ≤ (I64 0 4).toInt := hq64
                  obtain ⟨c64_0, c64_1, c64_2, eL64, c64_4⟩ := hq64
                  replace eL64 := eL64.symm
                  subst eL64
                  have hO64 := f_fo_tr hO14c c64_1 rfl
                  have hmL64 := f_depo_fo mL_dep hmL14c c64_2 c64_1 rfl rfl
                  have hmW64 := f_depo_fo mW_dep hmW14c c64_2 c64_1 rfl rfl
                  have hF64 := f_fr_tr hF14c c64_2 rfl
                  have f64 : I64 0 25 = I 0 24 := (c64_1 25 rfl).trans u14_4
                  have d64 : ∀ j : Nat, (j : Int) < many.toInt → (I64 20 j).toInt < (I 9 (I 0 24).toInt.toNat).toInt := by rw [c64_2 20 rfl]; exact u14_6
                  have r67_6 : 0 ≤ (I64 0 7).toInt ∧ (I64 0 7).toInt ≤ 1601 := c64_0 0 7
                  have e67_7 : (I64 0 7).toInt = (J14 0 7).toInt := congrArg Int32.toInt (c64_1 7 rfl)
                  have r67_8 : 0 ≤ (I64 0 2).toInt ∧ (I64 0 2).toInt ≤ 1600 := c64_0 0 2
                  have e67_9 : (I64 0 2).toInt = (J14 0 2).toInt := congrArg Int32.toInt (c64_1 2 rfl)
                  exact ⟨x29, (by intro q9 h9; simp only [List.mem_cons, List.not_mem_nil, or_false] at h9; rcases h9 with h9 | h9 | h9 <;> subst h9 <;> repeat (first | exact List.mem_cons_self | apply List.mem_cons_of_mem)), rfl, c64_0, hF64, hG14c, hO64, hmL64, hmW64, (show (J14 0 4).toInt = 0 from by first | assumption | omega | rfl), (show -1 ≤ x29.toInt from by first | assumption | omega), (show x29.toInt < (I 9 (I 0 24).toInt.toNat).toInt from by first | assumption | omega), (show (I64 0 7).toInt ≤ 1600 from by first | assumption | omega), (show I64 0 25 = I 0 24 from by first | assumption | omega | rfl), (show (I64 0 2).toInt = 0 from by first | assumption | omega | rfl), (show (∀ j : Nat, (j : Int) < many.toInt → (I64 20 j).toInt < (I 9 (I 0 24).toInt.toNat).toInt) from by first | assumption | omega | exact fun _ _ => rfl | exact fun _ _ => ⟨rfl, rfl⟩ | exact fun _ _ => ⟨rfl, rfl, rfl⟩ | (intro j9 hj9; omega)), (show (¬ (I64 0 4).toInt = 0 ∨ 0 ≤ x29.toInt ∧ many.toInt ≤ 7) from by first | assumption | omega | rfl)⟩
              · intro h44
                have h44 : many.toInt = 8 := h44
                refine And.intro hR14c ?_
                intro I48 L48 hq48
                have hq48 : mR I48 ∧ f_fo [4, 5] J14 I48 ∧ f_fr [0] J14 I48 ∧ L48 = M14 ∧ 1 ≤ (I48 0 4).toInt := hq48
                obtain ⟨c48_0, c48_1, c48_2, eL48, c48_4⟩ := hq48
                replace eL48 := eL48.symm
                subst eL48
                have hO48 := f_fo_tr hO14c c48_1 rfl
                have hmL48 := f_depo_fo mL_dep hmL14c c48_2 c48_1 rfl rfl
                have hmW48 := f_depo_fo mW_dep hmW14c c48_2 c48_1 rfl rfl
                have hF48 := f_fr_tr hF14c c48_2 rfl
                have f48 : I48 0 25 = I 0 24 := (c48_1 25 rfl).trans u14_4
                have d48 : ∀ j : Nat, (j : Int) < many.toInt → (I48 20 j).toInt < (I 9 (I 0 24).toInt.toNat).toInt := by rw [c48_2 20 rfl]; exact u14_6
                have r67_5 : 0 ≤ (I48 0 7).toInt ∧ (I48 0 7).toInt ≤ 1601 := c48_0 0 7
                have e67_6 : (I48 0 7).toInt = (J14 0 7).toInt := congrArg Int32.toInt (c48_1 7 rfl)
                have r67_7 : 0 ≤ (I48 0 2).toInt ∧ (I48 0 2).toInt ≤ 1600 := c48_0 0 2
                have e67_8 : (I48 0 2).toInt = (J14 0 2).toInt := congrArg Int32.toInt (c48_1 2 rfl)
                exact ⟨x29, (by intro q9 h9; simp only [List.mem_cons, List.not_mem_nil, or_false] at h9; rcases h9 with h9 | h9 | h9 <;> subst h9 <;> repeat (first | exact List.mem_cons_self | apply List.mem_cons_of_mem)), rfl, c48_0, hF48, hG14c, hO48, hmL48, hmW48, (show (J14 0 4).toInt = 0 from by first | assumption | omega | rfl), (show -1 ≤ x29.toInt from by first | assumption | omega), (show x29.toInt < (I 9 (I 0 24).toInt.toNat).toInt from by first | assumption | omega), (show (I48 0 7).toInt ≤ 1600 from by first | assumption | omega), (show I48 0 25 = I 0 24 from by first | assumption | omega | rfl), (show (I48 0 2).toInt = 0 from by first | assumption | omega | rfl), (show (∀ j : Nat, (j : Int) < many.toInt → (I48 20 j).toInt < (I 9 (I 0 24).toInt.toNat).toInt) from by first | assumption | omega | exact fun _ _ => rfl | exact fun _ _ => ⟨rfl, rfl⟩ | exact fun _ _ => ⟨rfl, rfl, rfl⟩ | (intro j9 hj9; omega)), (show (¬ (I48 0 4).toInt = 0 ∨ 0 ≤ x29.toInt ∧ many.toInt ≤ 7) from by first | assumption | omega | rfl)⟩
    refine f_wp_ok C f_cl flX12_ok fiX12_ok fjX12_ok (sn := none) (fun j h => by cases h) (cs := (f_cnl [(297, (1, 0, 11, pX12_takeTape, qX12_takeTape)), (281, (1, 3, 11, pX12_isGood, qX12_isGood)), (343, (1, 1, 11, pX12_wordHere, qX12_wordHere)), (288, (1, 0, 11, pX12_misplaced, qX12_misplaced)), (277, (3, 0, 11, pX12_fails, qX12_fails)), (285, (1, 0, 11, pX12_goOn, qX12_goOn))])) (cz := (fun _ => none)) (f_cnl_of (P := fun j S => f_cok pP l eP (f_rm 3) sP mP aP bP hP9 cP mY 71 a cy dC dI 3 _ _ (.invokevirtual j) true S) (List.forall_mem_cons.mpr ⟨f_cokV C (mX12_takeTape hinj) (ci := 11) rfl (List.forall_mem_cons.mpr ⟨(mlX12_ok _ (List.mem_of_getElem? (i := 10) rfl)), kc_X12_takeTape⟩) (by decide +kernel) ⟨Nat.le_of_ble_eq_true rfl, Nat.le_of_ble_eq_true rfl⟩, List.forall_mem_cons.mpr ⟨f_cokV C (mX12_isGood hinj) (ci := 11) rfl (List.forall_mem_cons.mpr ⟨(mlX12_ok _ (List.mem_of_getElem? (i := 7) rfl)), kc_X12_isGood⟩) (by decide +kernel) ⟨Nat.le_of_ble_eq_true rfl, Nat.le_of_ble_eq_true rfl⟩, List.forall_mem_cons.mpr ⟨f_cokV C (mX12_wordHere hinj) (ci := 11) rfl (List.forall_mem_cons.mpr ⟨(mlX12_ok _ (List.mem_of_getElem? (i := 21) rfl)), kc_X12_wordHere⟩) (by decide +kernel) ⟨Nat.le_of_ble_eq_true rfl, Nat.le_of_ble_eq_true rfl⟩, List.forall_mem_cons.mpr ⟨f_cokV C (mX12_misplaced hinj) (ci := 11) rfl (List.forall_mem_cons.mpr ⟨(mlX12_ok _ (List.mem_of_getElem? (i := 9) rfl)), kc_X12_misplaced⟩) (by decide +kernel) ⟨Nat.le_of_ble_eq_true rfl, Nat.le_of_ble_eq_true rfl⟩, List.forall_mem_cons.mpr ⟨f_cokV C (mX12_fails hinj) (ci := 11) rfl (List.forall_mem_cons.mpr ⟨(mlX12_ok _ (List.mem_of_getElem? (i := 6) rfl)), kc_X12_fails⟩) (by decide +kernel) ⟨Nat.le_of_ble_eq_true rfl, Nat.le_of_ble_eq_true rfl⟩, List.forall_mem_cons.mpr ⟨f_cokV C (mX12_goOn hinj) (ci := 11) rfl (List.forall_mem_cons.mpr ⟨(mlX12_ok _ (List.mem_of_getElem? (i := 8) rfl)), kc_X12_goOn⟩) (by decide +kernel) ⟨Nat.le_of_ble_eq_true rfl, Nat.le_of_ble_eq_true rfl⟩, fun _ h => absurd h List.not_mem_nil⟩⟩⟩⟩⟩⟩)) (fun j S h => by cases h) tX12_row_ok (cut := (f_cnl [(14, (fun (ls' : fLs) (st' : List Value) (I' : fM) (L' : fN) => ∃ many : Int32, (∀ q ∈ ([(1, .int many), (0, .ref 0)] : fLs), q ∈ ls') ∧ st' = [] ∧ (mR I' ∧ f_fr [0, 2, 19, 20] I I' ∧ f_fr [0] L L' ∧ f_fo [2, 3, 4, 5, 6, 7, 8, 25, 30, 70] I I' ∧ mL I' ∧ mW I' ∧ (0 ≤ many.toInt) ∧ (many.toInt ≤ 8) ∧ ((I' 0 7).toInt ≤ 1600) ∧ (I' 0 25 = I 0 24) ∧ ((I' 0 2).toInt = 0) ∧ ((∀ j : Nat, (j : Int) < many.toInt → (I' 20 j).toInt < (I 9 (I 0 24).toInt.toNat).toInt)) ∧ (0 ≤ gm (I' 0 4).toInt (8 - many.toInt)) ∧ (gm (I' 0 4).toInt (8 - many.toInt)) < 20)))])) (f_cnl_of (P := fun (tQ : Nat) (P : fLs → List Value → fM → fN → Prop) => ∀ ls' st' I' L', P ls' st' I' L' → f_W pP l eP (f_rm 3) sP mP aP bP hP9 cP mY 71 a cy dC dI 3 (f_K 1 (qX12_row [.ref 0] I L)) tQ ls' st' I' L') (List.forall_mem_cons.mpr ⟨(fun ls' st' I' L' h => by obtain ⟨many, hs, e1, h9⟩ := h; rw [e1]; exact f_W_sub hs (lp14 20 many I' L' h9)), fun _ h => absurd h List.not_mem_nil⟩)) 11 0 tX12_row tX12_row_ok _ _ _ _ ?_
    refine And.intro hR ?_
    intro I1 L1 hq1
    have hq1 : mR I1 ∧ f_fo [2, 3, 4, 5, 6, 7, 8] I I1 ∧ f_fr [0, 2] I I1 ∧ f_fr [0] L L1 ∧ (I1 0 7).toInt ≤ 1600 ∧ (I1 0 2).toInt = 0 ∧ (I1 0 4).toInt = 0 := hq1
    obtain ⟨c1_0, c1_1, c1_2, c1_3, c1_4, c1_5, c1_6⟩ := hq1
    have hO1 := f_fo_tr hO0 c1_1 rfl
    have hmL1 := f_depo_fo mL_dep hmL c1_2 c1_1 rfl rfl
    have hmW1 := f_depo_fo mW_dep hmW c1_2 c1_1 rfl rfl
    have hF1 := f_fr_tr hF0 c1_2 rfl
    have hG1 := f_fr_tr hG0 c1_3 rfl
    have r6_1 : 0 ≤ (I1 0 24).toInt ∧ (I1 0 24).toInt ≤ 1 := c1_0 0 24
    have e6_2 : (I1 0 24).toInt = (I 0 24).toInt := congrArg Int32.toInt (c1_1 24 rfl)
    have hR9 := mR_f (k := 0) (j := 25) (x := I1 0 24) c1_0 (show 0 ≤ (I1 0 24).toInt ∧ (I1 0 24).toInt ≤ 1 from ⟨by omega, by omega⟩)
    have hF9 := f_fr_up (k := 0) (r := va_up (I1 0) 25 (I1 0 24)) hF1 rfl
    have hO9 := f_fo_up (j := 25) (x := I1 0 24) hO1 rfl
    have hmL9 := f_depo_up0 mL_dep (j := 25) (x := I1 0 24) hmL1 rfl rfl
    have hmW9 := f_depo_up0 mW_dep (j := 25) (x := I1 0 24) hmW1 rfl rfl
    have f9 : I1 0 24 = I 0 24 := hO1 24 rfl
    have g9 : 0 ≤ gm (I1 0 4).toInt (8 - (0 : Int)) ∧ gm (I1 0 4).toInt (8 - (0 : Int)) < 20 := by
      by_cases h : (I1 0 4).toInt = 0
      · rw [gm_1 h]; omega
      · rw [gm_0 h]; omega
    exact ⟨Int32.ofInt 0, (by intro q9 h9; simp only [List.mem_cons, List.not_mem_nil, or_false] at h9; rcases h9 with h9 | h9 <;> subst h9 <;> repeat (first | exact List.mem_cons_self | apply List.mem_cons_of_mem)), rfl, hR9, hF9, hG1, hO9, hmL9, hmW9, (show 0 ≤ (0 : Int) from by first | assumption | omega), (show (0 : Int) ≤ 8 from by first | assumption | omega), (show (I1 0 7).toInt ≤ 1600 from by first | assumption | omega), (show I1 0 24 = I 0 24 from by first | assumption | omega | rfl), (show (I1 0 2).toInt = 0 from by first | assumption | omega | rfl), (show (∀ j : Nat, (j : Int) < (0 : Int) → (I1 20 j).toInt < (I 9 (I 0 24).toInt.toNat).toInt) from by first | assumption | omega | exact fun _ _ => rfl | exact fun _ _ => ⟨rfl, rfl⟩ | exact fun _ _ => ⟨rfl, rfl, rfl⟩ | (intro j9 hj9; omega)), (show 0 ≤ gm (I1 0 4).toInt (8 - (0 : Int)) from by first | assumption | omega), (show (gm (I1 0 4).toInt (8 - (0 : Int))) < 20 from by omega)⟩
