/-! the reference reads a lexicon: the bank that is laid is the other one -/
theorem mL_rgn {I I' : fM} (hR : mR I) (hL : mL I) (h24 : I' 0 24 = I 0 24) (hn : ∀ n : Nat, (260 * (I 0 24).toInt ≤ n ∧ (n : Int) < 260 * (I 0 24).toInt + 260) ∨ 520 ≤ (n : Int) → I' 3 n = I 3 n ∧ I' 4 n = I 4 n ∧ I' 5 n = I 5 n ∧ I' 6 n = I 6 n)
    (h8 : I' 8 (I 0 24).toInt.toNat = I 8 (I 0 24).toInt.toNat) (h9 : I' 9 (I 0 24).toInt.toNat = I 9 (I 0 24).toInt.toNat) (h10 : I' 10 (I 0 24).toInt.toNat = I 10 (I 0 24).toInt.toNat) (h11 : I' 11 (I 0 24).toInt.toNat = I 11 (I 0 24).toInt.toNat)
    (h12 : ∀ k : Nat, 12 * (I 0 24).toInt ≤ k → (k : Int) < 12 * (I 0 24).toInt + 12 → I' 12 k = I 12 k) (h13 : ∀ t : Nat, 36 * (I 0 24).toInt ≤ t → (t : Int) < 36 * (I 0 24).toInt + 36 → I' 13 t = I 13 t) : mL I' := by
  have hb : 0 ≤ (I 0 24).toInt ∧ (I 0 24).toInt ≤ 1 := hR 0 24
  have hN : 0 ≤ (I 11 (I 0 24).toInt.toNat).toInt ∧ (I 11 (I 0 24).toInt.toNat).toInt ≤ 260 := hR 11 _
  have hW : 0 ≤ (I 9 (I 0 24).toInt.toNat).toInt ∧ (I 9 (I 0 24).toInt.toNat).toInt ≤ 12 := hR 9 _
  have e : ∀ n, lvn I' n = lvn I n := fun n => by unfold lvn; rw [h24, h8, h11]
  obtain ⟨l1, l2, l3, l4, l5, l6⟩ := hL
  unfold mL
  simp only [e]
  rw [h24, h8, h9, h10, h11]
  refine ⟨tr_cong (by omega) (fun n a b => hn n (Or.inl ⟨a, by omega⟩)) l1, tr_cong (by omega) (fun n a b => hn n (Or.inr a)) l2, fun k a b => ?_, l4, l5, l6⟩
  have hk : 0 ≤ (I 12 k).toInt ∧ (I 12 k).toInt ≤ 3 := hR 12 k
  rw [h12 k a (by omega)]
  refine ⟨(l3 k a b).1, fun t c d => ?_⟩
  rw [h13 t (by omega) (by omega)]
  exact (l3 k a b).2 t c d
theorem mL_lay {I I' : fM} {n : Nat} {s u v z : Int32} (hR : mR I) (hL : mL I) (hf : f_fr [3, 4, 5, 6, 7] I I') (e3 : I' 3 = upd (I 3) n s) (e4 : I' 4 = upd (I 4) n u) (e5 : I' 5 = upd (I 5) n v) (e6 : I' 6 = upd (I 6) n z)
    (hn : ¬ (260 * (I 0 24).toInt ≤ n ∧ (n : Int) < 260 * (I 0 24).toInt + 260) ∧ (n : Int) < 520) : mL I' := by
  refine mL_rgn hR hL (congrFun (hf 0 rfl) 24) (fun m hm => ?_) (congrFun (hf 8 rfl) _) (congrFun (hf 9 rfl) _) (congrFun (hf 10 rfl) _) (congrFun (hf 11 rfl) _) (fun k _ _ => congrFun (hf 12 rfl) k) (fun k _ _ => congrFun (hf 13 rfl) k)
  have : m ≠ n := by omega
  rw [e3, e4, e5, e6, pk_un this, pk_un this, pk_un this, pk_un this]
  exact ⟨rfl, rfl, rfl, rfl⟩
theorem mL_new {I I' : fM} {r : Nat} (hR : mR I) (hL : mL I) (hf : f_fr [11] I I') (h : ∀ j : Nat, j ≠ r → I' 11 j = I 11 j) (hb : ¬ (I 0 24).toInt.toNat = r) : mL I' :=
  mL_rgn hR hL (congrFun (hf 0 rfl) 24) (fun m _ => ⟨congrFun (hf 3 rfl) m, congrFun (hf 4 rfl) m, congrFun (hf 5 rfl) m, congrFun (hf 6 rfl) m⟩) (congrFun (hf 8 rfl) _) (congrFun (hf 9 rfl) _) (congrFun (hf 10 rfl) _) (h _ hb) (fun k _ _ => congrFun (hf 12 rfl) k) (fun k _ _ => congrFun (hf 13 rfl) k)
/-- the nodes of the bank that is read -/
def tB (I : fM) : Prop := tr (I 3) (I 4) (I 5) (I 6) (260 * (I 0 25).toInt) (260 * (I 0 25).toInt + (I 11 (I 0 25).toInt.toNat).toInt)
-- @invo tB [3, 4, 5, 6, 11] [25]
theorem tB_dep : f_depo tB [3, 4, 5, 6, 11] [25] := by
  intro I I' h ho hT
  unfold tB
  rw [h 3 rfl, h 4 rfl, h 5 rfl, h 6 rfl, h 11 rfl, ho 25 rfl]
  exact hT
def pX12_mustb (av : List Value) (I : fM) (L : fN) : Prop := match av with
  | [.ref 0, .int c] => mR I ∧ (I 0 7).toInt ≤ 1600
  | _ => False
def qX12_mustb (av : List Value) (I : fM) (L : fN) (r : Value) (I' : fM) (L' : fN) : Prop := match av, r with
  | [.ref 0, .int c], .null => mR I' ∧ f_fo [4, 5, 6, 7, 8] I I' ∧ f_fr [0] I I' ∧ f_fr [0] L L' ∧ (I' 0 7).toInt ≤ 1600 ∧ (¬ (I 0 4).toInt = 0 → ¬ (I' 0 4).toInt = 0)
  | _, _ => False
set_option maxHeartbeats 40000000 in
set_option maxRecDepth 100000 in
theorem mX12_mustb {l : Launch} {a : Nat → Nat} {cy dC : Nat → ClassId} {dI : Nat → Nat → Nat} (hinj : ∀ i j, i < 71 → j < 71 → a i = a j → i = j) : f_Met (fun _ => True) l mY 71 a cy dC dI yX12_must cX12_must 2 0 2 pX12_mustb qX12_mustb := by
  refine f_met_of (f_Ec_T 71 a) hinj mY_hi (by decide) (fun av I L h => by unfold pX12_mustb at h; split at h <;> first | exact Nat.le_of_ble_eq_true rfl | exact h.elim) ?_
  intro pP eP sP mP aP bP hP9 cP C av I L hp
  unfold pX12_mustb at hp
  split at hp
  case h_2 => exact hp.elim
  case h_1 c =>
    obtain ⟨hR, p1⟩ := hp
    have hF0 : f_fr [0] I I := f_fr_rf
    have hG0 : f_fr [0] L L := f_fr_rf
    have hO0 : f_fo [4, 5, 6, 7, 8] I I := f_fo_rf
    refine f_wp_ok C f_cl flX12_ok fiX12_ok fjX12_ok (sn := none) (fun j h => by cases h) (cs := (f_cnl [(281, (1, 3, 11, pX12_isGood, qX12_isGood)), (285, (1, 0, 11, pX12_goOn, qX12_goOn)), (288, (1, 0, 11, pX12_misplaced, qX12_misplaced))])) (cz := (fun _ => none)) (f_cnl_of (P := fun j S => f_cok pP l eP (f_rm 2) sP mP aP bP hP9 cP mY 71 a cy dC dI 2 _ _ (.invokevirtual j) true S) (List.forall_mem_cons.mpr ⟨f_cokV C (mX12_isGood hinj) (ci := 11) rfl (List.forall_mem_cons.mpr ⟨(mlX12_ok _ (List.mem_of_getElem? (i := 7) rfl)), kc_X12_isGood⟩) (by decide +kernel) ⟨Nat.le_of_ble_eq_true rfl, Nat.le_of_ble_eq_true rfl⟩, List.forall_mem_cons.mpr ⟨f_cokV C (mX12_goOn hinj) (ci := 11) rfl (List.forall_mem_cons.mpr ⟨(mlX12_ok _ (List.mem_of_getElem? (i := 8) rfl)), kc_X12_goOn⟩) (by decide +kernel) ⟨Nat.le_of_ble_eq_true rfl, Nat.le_of_ble_eq_true rfl⟩, List.forall_mem_cons.mpr ⟨f_cokV C (mX12_misplaced hinj) (ci := 11) rfl (List.forall_mem_cons.mpr ⟨(mlX12_ok _ (List.mem_of_getElem? (i := 9) rfl)), kc_X12_misplaced⟩) (by decide +kernel) ⟨Nat.le_of_ble_eq_true rfl, Nat.le_of_ble_eq_true rfl⟩, fun _ h => absurd h List.not_mem_nil⟩⟩⟩)) (fun j S h => by cases h) tX12_must_ok (cut := (fun _ => none)) (fun t P h => by cases h) 12 0 tX12_must tX12_must_ok _ _ _ _ ?_
    refine And.intro trivial ?_
    intro x1 I1 L1 hq1
    have hq1 : I1 = I ∧ L1 = L ∧ ((x1.toInt = 1 ∧ (I 0 4).toInt = 0 ∨ x1.toInt = 0 ∧ ¬ (I 0 4).toInt = 0)) := hq1
    obtain ⟨eI1, eL1, c1_2⟩ := hq1
    replace eI1 := eI1.symm
    subst eI1
    replace eL1 := eL1.symm
    subst eL1
    apply And.intro
    · intro h4
      have h4 : ¬ x1.toInt = 0 := h4
      apply And.intro
      · intro h9
        have h9 : c.toInt = 0 := h9
        refine And.intro hR ?_
        intro I20 L20 hq20
        have hq20 : mR I20 ∧ f_fo [4, 5] I I20 ∧ f_fr [0] I I20 ∧ L20 = L ∧ 1 ≤ (I20 0 4).toInt := hq20
        obtain ⟨c20_0, c20_1, c20_2, eL20, c20_4⟩ := hq20
        replace eL20 := eL20.symm
        subst eL20
        have hO20 := f_fo_tr hO0 c20_1 rfl
        have hF20 := f_fr_tr hF0 c20_2 rfl
        have r23_1 : 0 ≤ (I20 0 7).toInt ∧ (I20 0 7).toInt ≤ 1601 := c20_0 0 7
        have e23_2 : (I20 0 7).toInt = (I 0 7).toInt := congrArg Int32.toInt (c20_1 7 rfl)
        exact ⟨c20_0, hO20, hF20, hG0, (show (I20 0 7).toInt ≤ 1600 from by first | assumption | omega | rfl), (show (¬ (I 0 4).toInt = 0 → ¬ (I20 0 4).toInt = 0) from fun h => by omega)⟩
      · intro h9
        have h9 : ¬ c.toInt = 0 := h9
        have r13_1 : 0 ≤ (I 0 7).toInt ∧ (I 0 7).toInt ≤ 1601 := hR 0 7
        refine And.intro ⟨hR, (show (I 0 7).toInt ≤ 1600 from by first | assumption | omega)⟩ ?_
        intro I13 L13 hq13
        have hq13 : mR I13 ∧ f_fo [6, 7, 8] I I13 ∧ f_fr [0] I I13 ∧ f_fr [0] L L13 ∧ (I13 0 7).toInt ≤ 1600 := hq13
        obtain ⟨c13_0, c13_1, c13_2, c13_3, c13_4⟩ := hq13
        have hO13 := f_fo_tr hO0 c13_1 rfl
        have hF13 := f_fr_tr hF0 c13_2 rfl
        have hG13 := f_fr_tr hG0 c13_3 rfl
        have r23_2 : 0 ≤ (I13 0 7).toInt ∧ (I13 0 7).toInt ≤ 1601 := c13_0 0 7
        have e23_4 : (I13 0 4).toInt = (I 0 4).toInt := congrArg Int32.toInt (c13_1 4 rfl)
        exact ⟨c13_0, hO13, hF13, hG13, (show (I13 0 7).toInt ≤ 1600 from by first | assumption | omega | rfl), (show (¬ (I 0 4).toInt = 0 → ¬ (I13 0 4).toInt = 0) from fun h => by omega)⟩
    · intro h4
      have h4 : x1.toInt = 0 := h4
      have r7_1 : 0 ≤ (I 0 7).toInt ∧ (I 0 7).toInt ≤ 1601 := hR 0 7
      exact ⟨hR, hO0, hF0, hG0, (show (I 0 7).toInt ≤ 1600 from by first | assumption | omega | rfl), (show (¬ (I 0 4).toInt = 0 → ¬ (I 0 4).toInt = 0) from fun h => by omega)⟩
def pX12_freshb (av : List Value) (I : fM) (L : fN) : Prop := match av with
  | [.ref 0] => mR I ∧ (I 0 7).toInt ≤ 1600
  | _ => False
def qX12_freshb (av : List Value) (I : fM) (L : fN) (r : Value) (I' : fM) (L' : fN) : Prop := match av, r with
  | [.ref 0], .long x => mR I' ∧ f_fo [4, 5, 6, 7, 8] I I' ∧ f_fr [0] I I' ∧ f_fr [0] L L' ∧ (I' 0 7).toInt ≤ 1600 ∧ (¬ (I 0 4).toInt = 0 → ¬ (I' 0 4).toInt = 0)
  | _, _ => False
set_option maxHeartbeats 40000000 in
set_option maxRecDepth 100000 in
theorem mX12_freshb {l : Launch} {a : Nat → Nat} {cy dC : Nat → ClassId} {dI : Nat → Nat → Nat} (hinj : ∀ i j, i < 71 → j < 71 → a i = a j → i = j) : f_Met (fun _ => True) l mY 71 a cy dC dI yX12_fresh cX12_fresh 3 2 2 pX12_freshb qX12_freshb := by
  refine f_met_of (f_Ec_T 71 a) hinj mY_hi (by decide) (fun av I L h => by unfold pX12_freshb at h; split at h <;> first | exact Nat.le_of_ble_eq_true rfl | exact h.elim) ?_
  intro pP eP sP mP aP bP hP9 cP C av I L hp
  unfold pX12_freshb at hp
  split at hp
  case h_2 => exact hp.elim
  case h_1 =>
    obtain ⟨hR, p1⟩ := hp
    have hF0 : f_fr [0] I I := f_fr_rf
    have hG0 : f_fr [0] L L := f_fr_rf
    have hO0 : f_fo [4, 5, 6, 7, 8] I I := f_fo_rf
    have lp47 : ∀ (J47 : fM) (M47 : fN), mR J47 ∧ f_fr [0] I J47 ∧ f_fr [0] L M47 ∧ f_fo [4, 5, 6, 7, 8] I J47 ∧ ((J47 0 7).toInt ≤ 1600) ∧ ((I 0 4).toInt = 0) → f_W pP l eP (f_rm 2) sP mP aP bP hP9 cP mY 71 a cy dC dI 3 (f_K 2 (qX12_freshb [.ref 0] I L)) 47 [(0, .ref 0)] [] J47 M47 := by
      intro J47 M47 h9
      obtain ⟨hR47c, hF47c, hG47c, hO47c, u47_1, u47_2⟩ := h9
      refine f_wp_ok C f_cl flX12_ok fiX12_ok fjX12_ok (sn := none) (fun j h => by cases h) (cs := (f_cnl [(281, (1, 3, 11, pX12_isGood, qX12_isGood)), (288, (1, 0, 11, pX12_misplaced, qX12_misplaced)), (340, (1, 1, 11, pX12_kindHere, qX12_kindHere)), (343, (1, 1, 11, pX12_wordHere, qX12_wordHere)), (277, (3, 0, 11, pX12_fails, qX12_fails)), (285, (1, 0, 11, pX12_goOn, qX12_goOn))])) (cz := (fun _ => none)) (f_cnl_of (P := fun j S => f_cok pP l eP (f_rm 2) sP mP aP bP hP9 cP mY 71 a cy dC dI 3 _ _ (.invokevirtual j) true S) (List.forall_mem_cons.mpr ⟨f_cokV C (mX12_isGood hinj) (ci := 11) rfl (List.forall_mem_cons.mpr ⟨(mlX12_ok _ (List.mem_of_getElem? (i := 7) rfl)), kc_X12_isGood⟩) (by decide +kernel) ⟨Nat.le_of_ble_eq_true rfl, Nat.le_of_ble_eq_true rfl⟩, List.forall_mem_cons.mpr ⟨f_cokV C (mX12_misplaced hinj) (ci := 11) rfl (List.forall_mem_cons.mpr ⟨(mlX12_ok _ (List.mem_of_getElem? (i := 9) rfl)), kc_X12_misplaced⟩) (by decide +kernel) ⟨Nat.le_of_ble_eq_true rfl, Nat.le_of_ble_eq_true rfl⟩, List.forall_mem_cons.mpr ⟨f_cokV C (mX12_kindHere hinj) (ci := 11) rfl (List.forall_mem_cons.mpr ⟨(mlX12_ok _ (List.mem_of_getElem? (i := 20) rfl)), kc_X12_kindHere⟩) (by decide +kernel) ⟨Nat.le_of_ble_eq_true rfl, Nat.le_of_ble_eq_true rfl⟩, List.forall_mem_cons.mpr ⟨f_cokV C (mX12_wordHere hinj) (ci := 11) rfl (List.forall_mem_cons.mpr ⟨(mlX12_ok _ (List.mem_of_getElem? (i := 21) rfl)), kc_X12_wordHere⟩) (by decide +kernel) ⟨Nat.le_of_ble_eq_true rfl, Nat.le_of_ble_eq_true rfl⟩, List.forall_mem_cons.mpr ⟨f_cokV C (mX12_fails hinj) (ci := 11) rfl (List.forall_mem_cons.mpr ⟨(mlX12_ok _ (List.mem_of_getElem? (i := 6) rfl)), kc_X12_fails⟩) (by decide +kernel) ⟨Nat.le_of_ble_eq_true rfl, Nat.le_of_ble_eq_true rfl⟩, List.forall_mem_cons.mpr ⟨f_cokV C (mX12_goOn hinj) (ci := 11) rfl (List.forall_mem_cons.mpr ⟨(mlX12_ok _ (List.mem_of_getElem? (i := 8) rfl)), kc_X12_goOn⟩) (by decide +kernel) ⟨Nat.le_of_ble_eq_true rfl, Nat.le_of_ble_eq_true rfl⟩, fun _ h => absurd h List.not_mem_nil⟩⟩⟩⟩⟩⟩)) (fun j S h => by cases h) tX12_fresh_ok (cut := (fun _ => none)) (fun t P h => by cases h) 13 47 (f_seek 47 0 tX12_fresh) (f_seek_ok 47 0 tX12_fresh tX12_fresh_ok) _ _ _ _ ?_
      refine And.intro trivial ?_
      intro x53 I53 L53 hq53
      have hq53 : I53 = J47 ∧ L53 = M47 ∧ ((x53.toInt = 1 ∧ (J47 0 4).toInt = 0 ∨ x53.toInt = 0 ∧ ¬ (J47 0 4).toInt = 0)) := hq53
      obtain ⟨eI53, eL53, c53_2⟩ := hq53
      replace eI53 := eI53.symm
      subst eI53
      replace eL53 := eL53.symm
      subst eL53
      apply And.intro
      · intro h56
        have h56 : x53.toInt = 0 := h56
        have r64_1 : 0 ≤ (J47 0 7).toInt ∧ (J47 0 7).toInt ≤ 1601 := hR47c 0 7
        exact ⟨hR47c, hO47c, hF47c, hG47c, (show (J47 0 7).toInt ≤ 1600 from by first | assumption | omega | rfl), (show (¬ (I 0 4).toInt = 0 → ¬ (J47 0 4).toInt = 0) from fun h => by omega)⟩
      · intro h56
        have h56 : ¬ x53.toInt = 0 := h56
        have r60_1 : 0 ≤ (J47 0 7).toInt ∧ (J47 0 7).toInt ≤ 1601 := hR47c 0 7
        refine And.intro ⟨hR47c, (show (J47 0 7).toInt ≤ 1600 from by first | assumption | omega)⟩ ?_
        intro I60 L60 hq60
        have hq60 : mR I60 ∧ f_fo [6, 7, 8] J47 I60 ∧ f_fr [0] J47 I60 ∧ f_fr [0] M47 L60 ∧ (I60 0 7).toInt ≤ 1600 := hq60
        obtain ⟨c60_0, c60_1, c60_2, c60_3, c60_4⟩ := hq60
        have hO60 := f_fo_tr hO47c c60_1 rfl
        have hF60 := f_fr_tr hF47c c60_2 rfl
        have hG60 := f_fr_tr hG47c c60_3 rfl
        have r64_2 : 0 ≤ (I60 0 7).toInt ∧ (I60 0 7).toInt ≤ 1601 := c60_0 0 7
        have e64_4 : (I60 0 4).toInt = (J47 0 4).toInt := congrArg Int32.toInt (c60_1 4 rfl)
        exact ⟨c60_0, hO60, hF60, hG60, (show (I60 0 7).toInt ≤ 1600 from by first | assumption | omega | rfl), (show (¬ (I 0 4).toInt = 0 → ¬ (I60 0 4).toInt = 0) from fun h => by omega)⟩
    refine f_wp_ok C f_cl flX12_ok fiX12_ok fjX12_ok (sn := none) (fun j h => by cases h) (cs := (f_cnl [(281, (1, 3, 11, pX12_isGood, qX12_isGood)), (288, (1, 0, 11, pX12_misplaced, qX12_misplaced)), (340, (1, 1, 11, pX12_kindHere, qX12_kindHere)), (343, (1, 1, 11, pX12_wordHere, qX12_wordHere)), (277, (3, 0, 11, pX12_fails, qX12_fails)), (285, (1, 0, 11, pX12_goOn, qX12_goOn))])) (cz := (fun _ => none)) (f_cnl_of (P := fun j S => f_cok pP l eP (f_rm 2) sP mP aP bP hP9 cP mY 71 a cy dC dI 3 _ _ (.invokevirtual j) true S) (List.forall_mem_cons.mpr ⟨f_cokV C (mX12_isGood hinj) (ci := 11) rfl (List.forall_mem_cons.mpr ⟨(mlX12_ok _ (List.mem_of_getElem? (i := 7) rfl)), kc_X12_isGood⟩) (by decide +kernel) ⟨Nat.le_of_ble_eq_true rfl, Nat.le_of_ble_eq_true rfl⟩, List.forall_mem_cons.mpr ⟨f_cokV C (mX12_misplaced hinj) (ci := 11) rfl (List.forall_mem_cons.mpr ⟨(mlX12_ok _ (List.mem_of_getElem? (i := 9) rfl)), kc_X12_misplaced⟩) (by decide +kernel) ⟨Nat.le_of_ble_eq_true rfl, Nat.le_of_ble_eq_true rfl⟩, List.forall_mem_cons.mpr ⟨f_cokV C (mX12_kindHere hinj) (ci := 11) rfl (List.forall_mem_cons.mpr ⟨(mlX12_ok _ (List.mem_of_getElem? (i := 20) rfl)), kc_X12_kindHere⟩) (by decide +kernel) ⟨Nat.le_of_ble_eq_true rfl, Nat.le_of_ble_eq_true rfl⟩, List.forall_mem_cons.mpr ⟨f_cokV C (mX12_wordHere hinj) (ci := 11) rfl (List.forall_mem_cons.mpr ⟨(mlX12_ok _ (List.mem_of_getElem? (i := 21) rfl)), kc_X12_wordHere⟩) (by decide +kernel) ⟨Nat.le_of_ble_eq_true rfl, Nat.le_of_ble_eq_true rfl⟩, List.forall_mem_cons.mpr ⟨f_cokV C (mX12_fails hinj) (ci := 11) rfl (List.forall_mem_cons.mpr ⟨(mlX12_ok _ (List.mem_of_getElem? (i := 6) rfl)), kc_X12_fails⟩) (by decide +kernel) ⟨Nat.le_of_ble_eq_true rfl, Nat.le_of_ble_eq_true rfl⟩, List.forall_mem_cons.mpr ⟨f_cokV C (mX12_goOn hinj) (ci := 11) rfl (List.forall_mem_cons.mpr ⟨(mlX12_ok _ (List.mem_of_getElem? (i := 8) rfl)), kc_X12_goOn⟩) (by decide +kernel) ⟨Nat.le_of_ble_eq_true rfl, Nat.le_of_ble_eq_true rfl⟩, fun _ h => absurd h List.not_mem_nil⟩⟩⟩⟩⟩⟩)) (fun j S h => by cases h) tX12_fresh_ok (cut := (f_cnl [(47, (fun (ls' : fLs) (st' : List Value) (I' : fM) (L' : fN) => (∀ q ∈ ([(0, .ref 0)] : fLs), q ∈ ls') ∧ st' = [] ∧ (mR I' ∧ f_fr [0] I I' ∧ f_fr [0] L L' ∧ f_fo [4, 5, 6, 7, 8] I I' ∧ ((I' 0 7).toInt ≤ 1600) ∧ ((I 0 4).toInt = 0))))])) (f_cnl_of (P := fun (tQ : Nat) (P : fLs → List Value → fM → fN → Prop) => ∀ ls' st' I' L', P ls' st' I' L' → f_W pP l eP (f_rm 2) sP mP aP bP hP9 cP mY 71 a cy dC dI 3 (f_K 2 (qX12_freshb [.ref 0] I L)) tQ ls' st' I' L') (List.forall_mem_cons.mpr ⟨(fun ls' st' I' L' h => by obtain ⟨hs, e1, h9⟩ := h; rw [e1]; exact f_W_sub hs (lp47  I' L' h9)), fun _ h => absurd h List.not_mem_nil⟩)) 21 0 tX12_fresh tX12_fresh_ok _ _ _ _ ?_
    refine And.intro trivial ?_
    intro x1 I1 L1 hq1
    have hq1 : I1 = I ∧ L1 = L ∧ ((x1.toInt = 1 ∧ (I 0 4).toInt = 0 ∨ x1.toInt = 0 ∧ ¬ (I 0 4).toInt = 0)) := hq1
    obtain ⟨eI1, eL1, c1_2⟩ := hq1
    replace eI1 := eI1.symm
    subst eI1
    replace eL1 := eL1.symm
    subst eL1
    apply And.intro
    · intro h4
      have h4 : ¬ x1.toInt = 0 := h4
      apply And.intro
      · intro h14
        have h14 : (I 0 8).toInt = 2 := h14
        refine And.intro hR ?_
        intro x25 I25 L25 hq25
        have hq25 : I25 = I ∧ L25 = L ∧ -1 ≤ x25.toInt ∧ x25.toInt < (I 8 (I 0 25).toInt.toNat).toInt ∧ x25.toInt ≤ 4 := hq25
        obtain ⟨eI25, eL25, c25_2, c25_3, c25_4⟩ := hq25
        replace eI25 := eI25.symm
        subst eI25
        replace eL25 := eL25.symm
        subst eL25
        have r25_2 : 0 ≤ (I 8 ((I 0 25).toInt.toNat)).toInt ∧ (I 8 ((I 0 25).toInt.toNat)).toInt ≤ 5 := hR 8 ((I 0 25).toInt.toNat)
        have r25_3 : 0 ≤ (I 0 25).toInt ∧ (I 0 25).toInt ≤ 1 := hR 0 25
        apply And.intro
        · intro h28
          have h28 : 0 ≤ x25.toInt := h28
          have r41_4 : 0 ≤ (I 0 6).toInt ∧ (I 0 6).toInt ≤ 1601 := hR 0 6
          refine And.intro ⟨hR, (show 1 ≤ (3 : Int) from by first | assumption | omega)⟩ ?_
          intro I44 L44 hq44
          have hq44 : mR I44 ∧ f_fo [4, 5] I I44 ∧ f_fr [0] I I44 ∧ L44 = L ∧ 1 ≤ (I44 0 4).toInt := hq44
          obtain ⟨c44_0, c44_1, c44_2, eL44, c44_4⟩ := hq44
          replace eL44 := eL44.symm
          subst eL44
          have hO44 := f_fo_tr hO0 c44_1 rfl
          have hF44 := f_fr_tr hF0 c44_2 rfl
          have r47_5 : 0 ≤ (I44 0 7).toInt ∧ (I44 0 7).toInt ≤ 1601 := c44_0 0 7
          have e47_6 : (I44 0 7).toInt = (I 0 7).toInt := congrArg Int32.toInt (c44_1 7 rfl)
          exact ⟨(by intro q9 h9; simp only [List.mem_cons, List.not_mem_nil, or_false] at h9; subst h9 <;> repeat (first | exact List.mem_cons_self | apply List.mem_cons_of_mem)), rfl, c44_0, hF44, hG0, hO44, (show (I44 0 7).toInt ≤ 1600 from by first | assumption | omega), (show (I 0 4).toInt = 0 from by first | assumption | omega | rfl)⟩
        · intro h28
          have h28 : x25.toInt < 0 := h28
          refine And.intro hR ?_
          intro x32 I32 L32 hq32
          have hq32 : I32 = I ∧ L32 = L ∧ -1 ≤ x32.toInt ∧ x32.toInt < (I 9 (I 0 25).toInt.toNat).toInt ∧ x32.toInt ≤ 11 := hq32
          obtain ⟨eI32, eL32, c32_2, c32_3, c32_4⟩ := hq32
          replace eI32 := eI32.symm
          subst eI32
          replace eL32 := eL32.symm
          subst eL32
          have r32_4 : 0 ≤ (I 9 ((I 0 25).toInt.toNat)).toInt ∧ (I 9 ((I 0 25).toInt.toNat)).toInt ≤ 12 := hR 9 ((I 0 25).toInt.toNat)
          apply And.intro
          · intro h35
            have h35 : x32.toInt < 0 := h35
            have r47_5 : 0 ≤ (I 0 7).toInt ∧ (I 0 7).toInt ≤ 1601 := hR 0 7
            exact ⟨(by intro q9 h9; simp only [List.mem_cons, List.not_mem_nil, or_false] at h9; subst h9 <;> repeat (first | exact List.mem_cons_self | apply List.mem_cons_of_mem)), rfl, hR, hF0, hG0, hO0, (show (I 0 7).toInt ≤ 1600 from by first | assumption | omega), (show (I 0 4).toInt = 0 from by first | assumption | omega | rfl)⟩
          · intro h35
            have h35 : 0 ≤ x32.toInt := h35
            have r41_5 : 0 ≤ (I 0 6).toInt ∧ (I 0 6).toInt ≤ 1601 := hR 0 6
            refine And.intro ⟨hR, (show 1 ≤ (3 : Int) from by first | assumption | omega)⟩ ?_
            intro I44 L44 hq44
            have hq44 : mR I44 ∧ f_fo [4, 5] I I44 ∧ f_fr [0] I I44 ∧ L44 = L ∧ 1 ≤ (I44 0 4).toInt := hq44
            obtain ⟨c44_0, c44_1, c44_2, eL44, c44_4⟩ := hq44
            replace eL44 := eL44.symm
            subst eL44
            have hO44 := f_fo_tr hO0 c44_1 rfl
            have hF44 := f_fr_tr hF0 c44_2 rfl
            have r47_6 : 0 ≤ (I44 0 7).toInt ∧ (I44 0 7).toInt ≤ 1601 := c44_0 0 7
            have e47_7 : (I44 0 7).toInt = (I 0 7).toInt := congrArg Int32.toInt (c44_1 7 rfl)
            exact ⟨(by intro q9 h9; simp only [List.mem_cons, List.not_mem_nil, or_false] at h9; subst h9 <;> repeat (first | exact List.mem_cons_self | apply List.mem_cons_of_mem)), rfl, c44_0, hF44, hG0, hO44, (show (I44 0 7).toInt ≤ 1600 from by first | assumption | omega), (show (I 0 4).toInt = 0 from by first | assumption | omega | rfl)⟩
      · intro h14
        have h14 : ¬ (I 0 8).toInt = 2 := h14
        refine And.intro hR ?_
        intro I18 L18 hq18
        have hq18 : mR I18 ∧ f_fo [4, 5] I I18 ∧ f_fr [0] I I18 ∧ L18 = L ∧ 1 ≤ (I18 0 4).toInt := hq18
        obtain ⟨c18_0, c18_1, c18_2, eL18, c18_4⟩ := hq18
        replace eL18 := eL18.symm
        subst eL18
        have hO18 := f_fo_tr hO0 c18_1 rfl
        have hF18 := f_fr_tr hF0 c18_2 rfl
        have r47_2 : 0 ≤ (I18 0 7).toInt ∧ (I18 0 7).toInt ≤ 1601 := c18_0 0 7
        have e47_3 : (I18 0 7).toInt = (I 0 7).toInt := congrArg Int32.toInt (c18_1 7 rfl)
        exact ⟨(by intro q9 h9; simp only [List.mem_cons, List.not_mem_nil, or_false] at h9; subst h9 <;> repeat (first | exact List.mem_cons_self | apply List.mem_cons_of_mem)), rfl, c18_0, hF18, hG0, hO18, (show (I18 0 7).toInt ≤ 1600 from by first | assumption | omega), (show (I 0 4).toInt = 0 from by first | assumption | omega | rfl)⟩
    · intro h4
      have h4 : x1.toInt = 0 := h4
      have r8_1 : 0 ≤ (I 0 7).toInt ∧ (I 0 7).toInt ≤ 1601 := hR 0 7
      exact ⟨hR, hO0, hF0, hG0, (show (I 0 7).toInt ≤ 1600 from by first | assumption | omega | rfl), (show (¬ (I 0 4).toInt = 0 → ¬ (I 0 4).toInt = 0) from fun h => by omega)⟩
def pX12_isWordb (av : List Value) (I : fM) (L : fN) : Prop := match av with
  | [.ref 0, .long w] => True
  | _ => False
def qX12_isWordb (av : List Value) (I : fM) (L : fN) (r : Value) (I' : fM) (L' : fN) : Prop := match av, r with
  | [.ref 0, .long w], .int x => I' = I ∧ L' = L ∧ (x.toInt = 0 ∨ x.toInt = 1 ∧ (I 0 8).toInt = 3 ∧ (lg_cmp (L 0 9) w).toInt = 0)
  | _, _ => False
set_option maxHeartbeats 40000000 in
set_option maxRecDepth 100000 in
theorem mX12_isWordb {l : Launch} {a : Nat → Nat} {cy dC : Nat → ClassId} {dI : Nat → Nat → Nat} (hinj : ∀ i j, i < 71 → j < 71 → a i = a j → i = j) : f_Met (fun _ => True) l mY 71 a cy dC dI yX12_isWord cX12_isWord 3 3 0 pX12_isWordb qX12_isWordb := by
  refine f_met_of (f_Ec_T 71 a) hinj mY_hi (by decide) (fun av I L h => by unfold pX12_isWordb at h; split at h <;> first | exact Nat.le_of_ble_eq_true rfl | exact h.elim) ?_
  intro pP eP sP mP aP bP hP9 cP C av I L hp
  unfold pX12_isWordb at hp
  split at hp
  case h_2 => exact hp.elim
  case h_1 w =>
    have p0 := hp
    refine f_wp_ok C f_cl flX12_ok fiX12_ok fjX12_ok (sn := none) (fun j h => by cases h) (cs := (fun _ => none)) (cz := (fun _ => none)) (fun j S h => by cases h) (fun j S h => by cases h) tX12_isWord_ok (cut := (fun _ => none)) (fun t P h => by cases h) 15 0 tX12_isWord tX12_isWord_ok _ _ _ _ ?_
    apply And.intro
    · intro h5
      have h5 : ¬ (I 0 8).toInt = 3 := h5
      exact ⟨Or.inl rfl, rfl, rfl, (show ((0 : Int) = 0 ∨ (0 : Int) = 1 ∧ (I 0 8).toInt = 3 ∧ (lg_cmp (L 0 9) w).toInt = 0) from by first | assumption | omega | rfl)⟩
    · intro h5
      have h5 : (I 0 8).toInt = 3 := h5
      apply And.intro
      · intro h14
        have h14 : ¬ (lg_cmp (L 0 9) w).toInt = 0 := h14
        exact ⟨Or.inl rfl, rfl, rfl, (show ((0 : Int) = 0 ∨ (0 : Int) = 1 ∧ (I 0 8).toInt = 3 ∧ (lg_cmp (L 0 9) w).toInt = 0) from by first | assumption | omega | rfl)⟩
      · intro h14
        have h14 : (lg_cmp (L 0 9) w).toInt = 0 := h14
        exact ⟨Or.inr rfl, rfl, rfl, (show ((1 : Int) = 0 ∨ (1 : Int) = 1 ∧ (I 0 8).toInt = 3 ∧ (lg_cmp (L 0 9) w).toInt = 0) from by first | assumption | omega | rfl)⟩
def pX12_isFullb (av : List Value) (I : fM) (L : fN) : Prop := match av with
  | [.ref 0] => mR I
  | _ => False
def qX12_isFullb (av : List Value) (I : fM) (L : fN) (r : Value) (I' : fM) (L' : fN) : Prop := match av, r with
  | [.ref 0], .int x => I' = I ∧ L' = L ∧ (x.toInt = 0 ∨ x.toInt = 1) ∧ (x.toInt = 1 ∨ (lg_cmp (L 0 9) (1802071652 : Int64)).toInt = 0 ∧ (I 8 (I 0 25).toInt.toNat).toInt ≤ 4 ∨ (lg_cmp (L 0 9) (2003792484 : Int64)).toInt = 0 ∧ (I 9 (I 0 25).toInt.toNat).toInt ≤ 11 ∨ (lg_cmp (L 0 9) (1735352684 : Int64)).toInt = 0 ∧ (I 14 (I 0 25).toInt.toNat).toInt = 0)
  | _, _ => False
set_option maxHeartbeats 40000000 in
set_option maxRecDepth 100000 in
theorem mX12_isFullb {l : Launch} {a : Nat → Nat} {cy dC : Nat → ClassId} {dI : Nat → Nat → Nat} (hinj : ∀ i j, i < 71 → j < 71 → a i = a j → i = j) : f_Met (fun _ => True) l mY 71 a cy dC dI yX12_isFull cX12_isFull 1 3 1 pX12_isFullb qX12_isFullb := by
  refine f_met_of (f_Ec_T 71 a) hinj mY_hi (by decide) (fun av I L h => by unfold pX12_isFullb at h; split at h <;> first | exact Nat.le_of_ble_eq_true rfl | exact h.elim) ?_
  intro pP eP sP mP aP bP hP9 cP C av I L hp
  unfold pX12_isFullb at hp
  split at hp
  case h_2 => exact hp.elim
  case h_1 =>
    have hR := hp
    refine f_wp_ok C f_cl flX12_ok fiX12_ok fjX12_ok (sn := none) (fun j h => by cases h) (cs := (f_cnl [(312, (2, 3, 11, pX12_isWordb, qX12_isWordb))])) (cz := (fun _ => none)) (f_cnl_of (P := fun j S => f_cok pP l eP (f_rm 1) sP mP aP bP hP9 cP mY 71 a cy dC dI 1 _ _ (.invokevirtual j) true S) (List.forall_mem_cons.mpr ⟨f_cokV C (mX12_isWordb hinj) (ci := 11) rfl (List.forall_mem_cons.mpr ⟨(mlX12_ok _ (List.mem_of_getElem? (i := 12) rfl)), kc_X12_isWord⟩) (by decide +kernel) ⟨Nat.le_of_ble_eq_true rfl, Nat.le_of_ble_eq_true rfl⟩, fun _ h => absurd h List.not_mem_nil⟩)) (fun j S h => by cases h) tX12_isFull_ok (cut := (fun _ => none)) (fun t P h => by cases h) 24 0 tX12_isFull tX12_isFull_ok _ _ _ _ ?_
    refine And.intro trivial ?_
    intro x4 I4 L4 hq4
    have hq4 : I4 = I ∧ L4 = L ∧ ((x4.toInt = 0 ∨ x4.toInt = 1 ∧ (I 0 8).toInt = 3 ∧ (lg_cmp (L 0 9) (1802071652 : Int64)).toInt = 0)) := hq4
    obtain ⟨eI4, eL4, c4_2⟩ := hq4
    replace eI4 := eI4.symm
    subst eI4
    replace eL4 := eL4.symm
    subst eL4
    apply And.intro
    · intro h7
      have h7 : x4.toInt = 0 := h7
      refine And.intro trivial ?_
      intro x33 I33 L33 hq33
      have hq33 : I33 = I ∧ L33 = L ∧ ((x33.toInt = 0 ∨ x33.toInt = 1 ∧ (I 0 8).toInt = 3 ∧ (lg_cmp (L 0 9) (2003792484 : Int64)).toInt = 0)) := hq33
      obtain ⟨eI33, eL33, c33_2⟩ := hq33
      replace eI33 := eI33.symm
      subst eI33
      replace eL33 := eL33.symm
      subst eL33
      apply And.intro
      · intro h36
        have h36 : x33.toInt = 0 := h36
        refine And.intro trivial ?_
        intro x63 I63 L63 hq63
        have hq63 : I63 = I ∧ L63 = L ∧ ((x63.toInt = 0 ∨ x63.toInt = 1 ∧ (I 0 8).toInt = 3 ∧ (lg_cmp (L 0 9) (1735352684 : Int64)).toInt = 0)) := hq63
        obtain ⟨eI63, eL63, c63_2⟩ := hq63
        replace eI63 := eI63.symm
        subst eI63
        replace eL63 := eL63.symm
        subst eL63
        apply And.intro
        · intro h66
          have h66 : x63.toInt = 0 := h66
          have r86_1 : 0 ≤ (I 8 ((I 0 25).toInt.toNat)).toInt ∧ (I 8 ((I 0 25).toInt.toNat)).toInt ≤ 5 := hR 8 ((I 0 25).toInt.toNat)
          have r86_2 : 0 ≤ (I 0 25).toInt ∧ (I 0 25).toInt ≤ 1 := hR 0 25
          have r86_3 : 0 ≤ (I 9 ((I 0 25).toInt.toNat)).toInt ∧ (I 9 ((I 0 25).toInt.toNat)).toInt ≤ 12 := hR 9 ((I 0 25).toInt.toNat)
          exact ⟨Or.inr rfl, rfl, rfl, (show ((1 : Int) = 0 ∨ (1 : Int) = 1) from by first | assumption | omega | rfl), (show ((1 : Int) = 1 ∨ (lg_cmp (L 0 9) (1802071652 : Int64)).toInt = 0 ∧ (I 8 (I 0 25).toInt.toNat).toInt ≤ 4 ∨ (lg_cmp (L 0 9) (2003792484 : Int64)).toInt = 0 ∧ (I 9 (I 0 25).toInt.toNat).toInt ≤ 11 ∨ (lg_cmp (L 0 9) (1735352684 : Int64)).toInt = 0 ∧ (I 14 (I 0 25).toInt.toNat).toInt = 0) from by first | assumption | omega | rfl)⟩
        · intro h66
          have h66 : ¬ x63.toInt = 0 := h66
          have r74_1 : 0 ≤ (I 0 25).toInt ∧ (I 0 25).toInt ≤ 1 := hR 0 25
          refine And.intro (show f_in (I 0 25) 2 from ⟨show 0 ≤ (I 0 25).toInt from by omega, show (I 0 25).toInt < 2 from by omega⟩) ?_
          apply And.intro
          · intro h78
            have h78 : (I 14 ((I 0 25).toInt.toNat)).toInt = 0 := h78
            have r86_3 : 0 ≤ (I 8 ((I 0 25).toInt.toNat)).toInt ∧ (I 8 ((I 0 25).toInt.toNat)).toInt ≤ 5 := hR 8 ((I 0 25).toInt.toNat)
            have r86_4 : 0 ≤ (I 9 ((I 0 25).toInt.toNat)).toInt ∧ (I 9 ((I 0 25).toInt.toNat)).toInt ≤ 12 := hR 9 ((I 0 25).toInt.toNat)
            exact ⟨Or.inl rfl, rfl, rfl, (show ((0 : Int) = 0 ∨ (0 : Int) = 1) from by first | assumption | omega | rfl), (show ((0 : Int) = 1 ∨ (lg_cmp (L 0 9) (1802071652 : Int64)).toInt = 0 ∧ (I 8 (I 0 25).toInt.toNat).toInt ≤ 4 ∨ (lg_cmp (L 0 9) (2003792484 : Int64)).toInt = 0 ∧ (I 9 (I 0 25).toInt.toNat).toInt ≤ 11 ∨ (lg_cmp (L 0 9) (1735352684 : Int64)).toInt = 0 ∧ (I 14 (I 0 25).toInt.toNat).toInt = 0) from by first | assumption | omega | rfl)⟩
          · intro h78
            have h78 : ¬ (I 14 ((I 0 25).toInt.toNat)).toInt = 0 := h78
            have r86_3 : 0 ≤ (I 8 ((I 0 25).toInt.toNat)).toInt ∧ (I 8 ((I 0 25).toInt.toNat)).toInt ≤ 5 := hR 8 ((I 0 25).toInt.toNat)
            have r86_4 : 0 ≤ (I 9 ((I 0 25).toInt.toNat)).toInt ∧ (I 9 ((I 0 25).toInt.toNat)).toInt ≤ 12 := hR 9 ((I 0 25).toInt.toNat)
            exact ⟨Or.inr rfl, rfl, rfl, (show ((1 : Int) = 0 ∨ (1 : Int) = 1) from by first | assumption | omega | rfl), (show ((1 : Int) = 1 ∨ (lg_cmp (L 0 9) (1802071652 : Int64)).toInt = 0 ∧ (I 8 (I 0 25).toInt.toNat).toInt ≤ 4 ∨ (lg_cmp (L 0 9) (2003792484 : Int64)).toInt = 0 ∧ (I 9 (I 0 25).toInt.toNat).toInt ≤ 11 ∨ (lg_cmp (L 0 9) (1735352684 : Int64)).toInt = 0 ∧ (I 14 (I 0 25).toInt.toNat).toInt = 0) from by first | assumption | omega | rfl)⟩
      · intro h36
        have h36 : ¬ x33.toInt = 0 := h36
        have r44_1 : 0 ≤ (I 0 25).toInt ∧ (I 0 25).toInt ≤ 1 := hR 0 25
        refine And.intro (show f_in (I 0 25) 2 from ⟨show 0 ≤ (I 0 25).toInt from by omega, show (I 0 25).toInt < 2 from by omega⟩) ?_
        have r47_2 : 0 ≤ (I 9 ((I 0 25).toInt.toNat)).toInt ∧ (I 9 ((I 0 25).toInt.toNat)).toInt ≤ 12 := hR 9 ((I 0 25).toInt.toNat)
        apply And.intro
        · intro h50
          have h50 : ¬ (I 9 ((I 0 25).toInt.toNat)).toInt = 12 := h50
          have r58_3 : 0 ≤ (I 8 ((I 0 25).toInt.toNat)).toInt ∧ (I 8 ((I 0 25).toInt.toNat)).toInt ≤ 5 := hR 8 ((I 0 25).toInt.toNat)
          exact ⟨Or.inl rfl, rfl, rfl, (show ((0 : Int) = 0 ∨ (0 : Int) = 1) from by first | assumption | omega | rfl), (show ((0 : Int) = 1 ∨ (lg_cmp (L 0 9) (1802071652 : Int64)).toInt = 0 ∧ (I 8 (I 0 25).toInt.toNat).toInt ≤ 4 ∨ (lg_cmp (L 0 9) (2003792484 : Int64)).toInt = 0 ∧ (I 9 (I 0 25).toInt.toNat).toInt ≤ 11 ∨ (lg_cmp (L 0 9) (1735352684 : Int64)).toInt = 0 ∧ (I 14 (I 0 25).toInt.toNat).toInt = 0) from by first | assumption | omega | rfl)⟩
        · intro h50
          have h50 : (I 9 ((I 0 25).toInt.toNat)).toInt = 12 := h50
          have r58_3 : 0 ≤ (I 8 ((I 0 25).toInt.toNat)).toInt ∧ (I 8 ((I 0 25).toInt.toNat)).toInt ≤ 5 := hR 8 ((I 0 25).toInt.toNat)
          exact ⟨Or.inr rfl, rfl, rfl, (show ((1 : Int) = 0 ∨ (1 : Int) = 1) from by first | assumption | omega | rfl), (show ((1 : Int) = 1 ∨ (lg_cmp (L 0 9) (1802071652 : Int64)).toInt = 0 ∧ (I 8 (I 0 25).toInt.toNat).toInt ≤ 4 ∨ (lg_cmp (L 0 9) (2003792484 : Int64)).toInt = 0 ∧ (I 9 (I 0 25).toInt.toNat).toInt ≤ 11 ∨ (lg_cmp (L 0 9) (1735352684 : Int64)).toInt = 0 ∧ (I 14 (I 0 25).toInt.toNat).toInt = 0) from by first | assumption | omega | rfl)⟩
    · intro h7
      have h7 : ¬ x4.toInt = 0 := h7
      have r15_1 : 0 ≤ (I 0 25).toInt ∧ (I 0 25).toInt ≤ 1 := hR 0 25
      refine And.intro (show f_in (I 0 25) 2 from ⟨show 0 ≤ (I 0 25).toInt from by omega, show (I 0 25).toInt < 2 from by omega⟩) ?_
      have r18_2 : 0 ≤ (I 8 ((I 0 25).toInt.toNat)).toInt ∧ (I 8 ((I 0 25).toInt.toNat)).toInt ≤ 5 := hR 8 ((I 0 25).toInt.toNat)
      apply And.intro
      · intro h20
        have h20 : ¬ (I 8 ((I 0 25).toInt.toNat)).toInt = 5 := h20
        have r28_3 : 0 ≤ (I 9 ((I 0 25).toInt.toNat)).toInt ∧ (I 9 ((I 0 25).toInt.toNat)).toInt ≤ 12 := hR 9 ((I 0 25).toInt.toNat)
        exact ⟨Or.inl rfl, rfl, rfl, (show ((0 : Int) = 0 ∨ (0 : Int) = 1) from by first | assumption | omega | rfl), (show ((0 : Int) = 1 ∨ (lg_cmp (L 0 9) (1802071652 : Int64)).toInt = 0 ∧ (I 8 (I 0 25).toInt.toNat).toInt ≤ 4 ∨ (lg_cmp (L 0 9) (2003792484 : Int64)).toInt = 0 ∧ (I 9 (I 0 25).toInt.toNat).toInt ≤ 11 ∨ (lg_cmp (L 0 9) (1735352684 : Int64)).toInt = 0 ∧ (I 14 (I 0 25).toInt.toNat).toInt = 0) from by first | assumption | omega | rfl)⟩
      · intro h20
        have h20 : (I 8 ((I 0 25).toInt.toNat)).toInt = 5 := h20
        have r28_3 : 0 ≤ (I 9 ((I 0 25).toInt.toNat)).toInt ∧ (I 9 ((I 0 25).toInt.toNat)).toInt ≤ 12 := hR 9 ((I 0 25).toInt.toNat)
        exact ⟨Or.inr rfl, rfl, rfl, (show ((1 : Int) = 0 ∨ (1 : Int) = 1) from by first | assumption | omega | rfl), (show ((1 : Int) = 1 ∨ (lg_cmp (L 0 9) (1802071652 : Int64)).toInt = 0 ∧ (I 8 (I 0 25).toInt.toNat).toInt ≤ 4 ∨ (lg_cmp (L 0 9) (2003792484 : Int64)).toInt = 0 ∧ (I 9 (I 0 25).toInt.toNat).toInt ≤ 11 ∨ (lg_cmp (L 0 9) (1735352684 : Int64)).toInt = 0 ∧ (I 14 (I 0 25).toInt.toNat).toInt = 0) from by first | assumption | omega | rfl)⟩
def pX12_clearBankb (av : List Value) (I : fM) (L : fN) : Prop := match av with
  | [.ref 0] => mR I
  | _ => False
def qX12_clearBankb (av : List Value) (I : fM) (L : fN) (r : Value) (I' : fM) (L' : fN) : Prop := match av, r with
  | [.ref 0], .null => mR I' ∧ f_fr [8, 9, 10, 11, 14] I I' ∧ L' = L ∧ I' 8 = upd (I 8) (I 0 25).toInt.toNat (Int32.ofInt 0) ∧ I' 9 = upd (I 9) (I 0 25).toInt.toNat (Int32.ofInt 0) ∧ I' 10 = upd (I 10) (I 0 25).toInt.toNat (Int32.ofInt (-1)) ∧ I' 11 = upd (I 11) (I 0 25).toInt.toNat (Int32.ofInt 0) ∧ I' 14 = upd (I 14) (I 0 25).toInt.toNat (vp_nar .boolean (Int32.ofInt 0))
  | _, _ => False
set_option maxHeartbeats 40000000 in
set_option maxRecDepth 100000 in
theorem mX12_clearBankb {l : Launch} {a : Nat → Nat} {cy dC : Nat → ClassId} {dI : Nat → Nat → Nat} (hinj : ∀ i j, i < 71 → j < 71 → a i = a j → i = j) : f_Met (fun _ => True) l mY 71 a cy dC dI yX12_clearBank cX12_clearBank 1 0 0 pX12_clearBankb qX12_clearBankb := by
  refine f_met_of (f_Ec_T 71 a) hinj mY_hi (by decide) (fun av I L h => by unfold pX12_clearBankb at h; split at h <;> first | exact Nat.le_of_ble_eq_true rfl | exact h.elim) ?_
  intro pP eP sP mP aP bP hP9 cP C av I L hp
  unfold pX12_clearBankb at hp
  split at hp
  case h_2 => exact hp.elim
  case h_1 =>
    have hR := hp
    have hF0 : f_fr [8, 9, 10, 11, 14] I I := f_fr_rf
    refine f_wp_ok C f_cl flX12_ok fiX12_ok fjX12_ok (sn := none) (fun j h => by cases h) (cs := (fun _ => none)) (cz := (fun _ => none)) (fun j S h => by cases h) (fun j S h => by cases h) tX12_clearBank_ok (cut := (fun _ => none)) (fun t P h => by cases h) 34 0 tX12_clearBank tX12_clearBank_ok _ _ _ _ ?_
    have r5_1 : 0 ≤ (I 0 25).toInt ∧ (I 0 25).toInt ≤ 1 := hR 0 25
    refine And.intro (show f_in (I 0 25) 2 from ⟨show 0 ≤ (I 0 25).toInt from by omega, show (I 0 25).toInt < 2 from by omega⟩) ?_
    have hR9 := mR_a (k := 8) (j := (I 0 25).toInt.toNat) (x := Int32.ofInt 0) hR (show 0 ≤ 0 ∧ 0 ≤ 5 from ⟨by omega, by omega⟩)
    have hF9 := f_fr_up (k := 8) (r := upd (I 8) ((I 0 25).toInt.toNat) (Int32.ofInt 0)) hF0 rfl
    refine And.intro (show f_in (I 0 25) 2 from ⟨show 0 ≤ (I 0 25).toInt from by omega, show (I 0 25).toInt < 2 from by omega⟩) ?_
    have hR19 := mR_a (k := 9) (j := (I 0 25).toInt.toNat) (x := Int32.ofInt 0) hR9 (show 0 ≤ 0 ∧ 0 ≤ 12 from ⟨by omega, by omega⟩)
    have hF19 := f_fr_up (k := 9) (r := upd (I 9) ((I 0 25).toInt.toNat) (Int32.ofInt 0)) hF9 rfl
    refine And.intro (show f_in (I 0 25) 2 from ⟨show 0 ≤ (I 0 25).toInt from by omega, show (I 0 25).toInt < 2 from by omega⟩) ?_
    have hR29 := mR_a (k := 10) (j := (I 0 25).toInt.toNat) (x := Int32.ofInt (-1)) hR19 (show (-1 : Int) ≤ (Int32.ofInt (-1)).toInt ∧ (Int32.ofInt (-1)).toInt ≤ (1599 : Int) from ⟨by decide, by decide⟩)
    have hF29 := f_fr_up (k := 10) (r := upd (I 10) ((I 0 25).toInt.toNat) (Int32.ofInt (-1))) hF19 rfl
    refine And.intro (show f_in (I 0 25) 2 from ⟨show 0 ≤ (I 0 25).toInt from by omega, show (I 0 25).toInt < 2 from by omega⟩) ?_
    have hR39 := mR_a (k := 11) (j := (I 0 25).toInt.toNat) (x := Int32.ofInt 0) hR29 (show 0 ≤ 0 ∧ 0 ≤ 260 from ⟨by omega, by omega⟩)
    have hF39 := f_fr_up (k := 11) (r := upd (I 11) ((I 0 25).toInt.toNat) (Int32.ofInt 0)) hF29 rfl
    refine And.intro (show f_in (I 0 25) 2 from ⟨show 0 ≤ (I 0 25).toInt from by omega, show (I 0 25).toInt < 2 from by omega⟩) ?_
    have hR49 := mR_a (k := 14) (j := (I 0 25).toInt.toNat) (x := vp_nar .boolean (Int32.ofInt 0)) hR39 (by exact f_rng _)
    have hF49 := f_fr_up (k := 14) (r := upd (I 14) ((I 0 25).toInt.toNat) (vp_nar .boolean (Int32.ofInt 0))) hF39 rfl
    exact ⟨hR49, hF49, rfl, (show (upd (I 8) ((I 0 25).toInt.toNat) (Int32.ofInt 0)) = upd (I 8) (I 0 25).toInt.toNat (Int32.ofInt 0) from by first | assumption | omega | rfl), (show (upd (I 9) ((I 0 25).toInt.toNat) (Int32.ofInt 0)) = upd (I 9) (I 0 25).toInt.toNat (Int32.ofInt 0) from by first | assumption | omega | rfl), (show (upd (I 10) ((I 0 25).toInt.toNat) (Int32.ofInt (-1))) = upd (I 10) (I 0 25).toInt.toNat (Int32.ofInt (-1)) from by first | assumption | omega | rfl), (show (upd (I 11) ((I 0 25).toInt.toNat) (Int32.ofInt 0)) = upd (I 11) (I 0 25).toInt.toNat (Int32.ofInt 0) from by first | assumption | omega | rfl), (show (upd (I 14) ((I 0 25).toInt.toNat) (vp_nar .boolean (Int32.ofInt 0))) = upd (I 14) (I 0 25).toInt.toNat (vp_nar .boolean (Int32.ofInt 0)) from by first | assumption | omega | rfl)⟩
def tX12_readKind : List (Instr × Nat) := [(.aload_n 0, 1), (.getfield 259, 3), (.iconst 2, 1), (.if_icmp .ne 8, 3), (.iload_n 1, 1), (.iconst 4, 1), (.if_icmp .ne 7, 3), (.aload_n 0, 1), (.invokevirtual 288, 3), (.aload_n 0, 1), (.invokevirtual 340, 3), (.istore_n 2, 1), (.aload_n 0, 1), (.invokevirtual 281, 3), (.ifCond .eq 16, 3), (.iload_n 2, 1), (.ifCond .ge 12, 3), (.aload_n 0, 1), (.iconst 5, 1), (.aload_n 0, 1), (.getfield 252, 3), (.invokevirtual 277, 3), (.aload_n 0, 1), (.invokevirtual 281, 3), (.ifCond .ne 5, 3), (.iconst (-1), 1), (.ireturn, 1), (.aload_n 0, 1), (.invokevirtual 285, 3), (.aload_n 0, 1), (.invokevirtual 349, 3), (.istore_n 3, 1), (.aload_n 0, 1), (.iload_n 3, 1), (.iload_n 2, 1), (.invokevirtual 356, 3), (.iload_n 3, 1), (.ireturn, 1)]
theorem tX12_readKind_ok : f_chk cX12_readKind 0 tX12_readKind = true := by decide +kernel
def pX12_readKind (av : List Value) (I : fM) (L : fN) : Prop := match av with
  | [.ref 0, .int c] => mR I ∧ mL I ∧ tB I ∧ (I 0 7).toInt ≤ 1600 ∧ (I 0 25).toInt + (I 0 24).toInt = 1 ∧ (I 11 (I 0 25).toInt.toNat).toInt ≤ 259
  | _ => False
def qX12_readKind (av : List Value) (I : fM) (L : fN) (r : Value) (I' : fM) (L' : fN) : Prop := match av, r with
  | [.ref 0, .int c], .int x => mR I' ∧ mL I' ∧ tB I' ∧ f_fo [4, 5, 6, 7, 8] I I' ∧ f_fr [0, 3, 4, 5, 6, 7, 11] I I' ∧ f_fr [0] L L' ∧ (I' 0 7).toInt ≤ 1600 ∧ (x.toInt = -1 ∧ ¬ (I' 0 4).toInt = 0 ∧ I' 11 = I 11 ∨ (I 0 4).toInt = 0 ∧ ¬ c.toInt = 4 ∧ 1 ≤ (I 8 (I 0 25).toInt.toNat).toInt ∧ x.toInt = 260 * (I 0 25).toInt + (I 11 (I 0 25).toInt.toNat).toInt ∧ (I' 11 (I 0 25).toInt.toNat).toInt = (I 11 (I 0 25).toInt.toNat).toInt + 1 ∧ lvs I I' x.toInt.toNat 1)
  | _, _ => False
set_option maxHeartbeats 40000000 in
set_option maxRecDepth 100000 in
theorem mX12_readKind {l : Launch} {a : Nat → Nat} {cy dC : Nat → ClassId} {dI : Nat → Nat → Nat} (hinj : ∀ i j, i < 71 → j < 71 → a i = a j → i = j) : f_Met (fun _ => True) l mY 71 a cy dC dI yX12_readKind cX12_readKind 4 1 2 pX12_readKind qX12_readKind := by
  refine f_met_of (f_Ec_T 71 a) hinj mY_hi (by decide) (fun av I L h => by unfold pX12_readKind at h; split at h <;> first | exact Nat.le_of_ble_eq_true rfl | exact h.elim) ?_
  intro pP eP sP mP aP bP hP9 cP C av I L hp
  unfold pX12_readKind at hp
  split at hp
  case h_2 => exact hp.elim
  case h_1 c =>
    obtain ⟨hR, hmL, htB, p3, p4, p5⟩ := hp
    have hb : 0 ≤ (I 0 25).toInt ∧ (I 0 25).toInt ≤ 1 := hR 0 25
    have hF0 : f_fr [0, 3, 4, 5, 6, 7, 11] I I := f_fr_rf
    have hG0 : f_fr [0] L L := f_fr_rf
    have hO0 : f_fo [4, 5, 6, 7, 8] I I := f_fo_rf
    have lp42 : ∀ (k : Int32) (J42 : fM) (M42 : fN), mR J42 ∧ f_fr [0, 3, 4, 5, 6, 7, 11] I J42 ∧ f_fr [0] L M42 ∧ f_fo [4, 5, 6, 7, 8] I J42 ∧ mL J42 ∧ tB J42 ∧ ((J42 0 7).toInt ≤ 1600) ∧ (-1 ≤ k.toInt) ∧ (k.toInt ≤ 4) ∧ (k.toInt < (I 8 (I 0 25).toInt.toNat).toInt) ∧ ((¬ (J42 0 4).toInt = 0 ∨ (I 0 4).toInt = 0 ∧ ¬ c.toInt = 4 ∧ 0 ≤ k.toInt)) ∧ (J42 11 = I 11) ∧ (J42 6 = I 6) → f_W pP l eP (f_rm 2) sP mP aP bP hP9 cP mY 71 a cy dC dI 4 (f_K 1 (qX12_readKind [.ref 0, .int c] I L)) 42 [(2, .int k), (1, .int c), (0, .ref 0)] [] J42 M42 := by
      intro k J42 M42 h9
      obtain ⟨hR42c, hF42c, hG42c, hO42c, hmL42c, htB42c, u42_1, u42_2, u42_3, u42_4, u42_5, u42_6, u42_7⟩ := h9
      refine f_wp_ok C f_cl flX12_ok fiX12_ok fjX12_ok (sn := none) (fun j h => by cases h) (cs := (f_cnl [(288, (1, 0, 11, pX12_misplaced, qX12_misplaced)), (340, (1, 1, 11, pX12_kindHere, qX12_kindHere)), (281, (1, 3, 11, pX12_isGood, qX12_isGood)), (277, (3, 0, 11, pX12_fails, qX12_fails)), (285, (1, 0, 11, pX12_goOn, qX12_goOn)), (349, (1, 1, 11, pX12_freshNode, qX12_freshNode)), (356, (3, 0, 11, pX12_layKind, qX12_layKind))])) (cz := (fun _ => none)) (f_cnl_of (P := fun j S => f_cok pP l eP (f_rm 2) sP mP aP bP hP9 cP mY 71 a cy dC dI 4 _ _ (.invokevirtual j) true S) (List.forall_mem_cons.mpr ⟨f_cokV C (mX12_misplaced hinj) (ci := 11) rfl (List.forall_mem_cons.mpr ⟨(mlX12_ok _ (List.mem_of_getElem? (i := 9) rfl)), kc_X12_misplaced⟩) (by decide +kernel) ⟨Nat.le_of_ble_eq_true rfl, Nat.le_of_ble_eq_true rfl⟩, List.forall_mem_cons.mpr ⟨f_cokV C (mX12_kindHere hinj) (ci := 11) rfl (List.forall_mem_cons.mpr ⟨(mlX12_ok _ (List.mem_of_getElem? (i := 20) rfl)), kc_X12_kindHere⟩) (by decide +kernel) ⟨Nat.le_of_ble_eq_true rfl, Nat.le_of_ble_eq_true rfl⟩, List.forall_mem_cons.mpr ⟨f_cokV C (mX12_isGood hinj) (ci := 11) rfl (List.forall_mem_cons.mpr ⟨(mlX12_ok _ (List.mem_of_getElem? (i := 7) rfl)), kc_X12_isGood⟩) (by decide +kernel) ⟨Nat.le_of_ble_eq_true rfl, Nat.le_of_ble_eq_true rfl⟩, List.forall_mem_cons.mpr ⟨f_cokV C (mX12_fails hinj) (ci := 11) rfl (List.forall_mem_cons.mpr ⟨(mlX12_ok _ (List.mem_of_getElem? (i := 6) rfl)), kc_X12_fails⟩) (by decide +kernel) ⟨Nat.le_of_ble_eq_true rfl, Nat.le_of_ble_eq_true rfl⟩, List.forall_mem_cons.mpr ⟨f_cokV C (mX12_goOn hinj) (ci := 11) rfl (List.forall_mem_cons.mpr ⟨(mlX12_ok _ (List.mem_of_getElem? (i := 8) rfl)), kc_X12_goOn⟩) (by decide +kernel) ⟨Nat.le_of_ble_eq_true rfl, Nat.le_of_ble_eq_true rfl⟩, List.forall_mem_cons.mpr ⟨f_cokV C (mX12_freshNode hinj) (ci := 11) rfl (List.forall_mem_cons.mpr ⟨(mlX12_ok _ (List.mem_of_getElem? (i := 23) rfl)), kc_X12_freshNode⟩) (by decide +kernel) ⟨Nat.le_of_ble_eq_true rfl, Nat.le_of_ble_eq_true rfl⟩, List.forall_mem_cons.mpr ⟨f_cokV C (mX12_layKind hinj) (ci := 11) rfl (List.forall_mem_cons.mpr ⟨(mlX12_ok _ (List.mem_of_getElem? (i := 25) rfl)), kc_X12_layKind⟩) (by decide +kernel) ⟨Nat.le_of_ble_eq_true rfl, Nat.le_of_ble_eq_true rfl⟩, fun _ h => absurd h List.not_mem_nil⟩⟩⟩⟩⟩⟩⟩)) (fun j S h => by cases h) tX12_readKind_ok (cut := (fun _ => none)) (fun t P h => by cases h) 17 42 (f_seek 42 0 tX12_readKind) (f_seek_ok 42 0 tX12_readKind tX12_readKind_ok) _ _ _ _ ?_
      refine And.intro trivial ?_
      intro x43 I43 L43 hq43
      have hq43 : I43 = J42 ∧ L43 = M42 ∧ ((x43.toInt = 1 ∧ (J42 0 4).toInt = 0 ∨ x43.toInt = 0 ∧ ¬ (J42 0 4).toInt = 0)) := hq43
      obtain ⟨eI43, eL43, c43_2⟩ := hq43
      replace eI43 := eI43.symm
      subst eI43
      replace eL43 := eL43.symm
      subst eL43
      apply And.intro
      · intro h46
        have h46 : ¬ x43.toInt = 0 := h46
        have r52_1 : 0 ≤ (J42 0 7).toInt ∧ (J42 0 7).toInt ≤ 1601 := hR42c 0 7
        refine And.intro ⟨hR42c, (show (J42 0 7).toInt ≤ 1600 from by first | assumption | omega)⟩ ?_
        intro I52 L52 hq52
        have hq52 : mR I52 ∧ f_fo [6, 7, 8] J42 I52 ∧ f_fr [0] J42 I52 ∧ f_fr [0] M42 L52 ∧ (I52 0 7).toInt ≤ 1600 := hq52
        obtain ⟨c52_0, c52_1, c52_2, c52_3, c52_4⟩ := hq52
        have hO52 := f_fo_tr hO42c c52_1 rfl
        have hmL52 := f_depo_fo mL_dep hmL42c c52_2 c52_1 rfl rfl
        have htB52 := f_depo_fo tB_dep htB42c c52_2 c52_1 rfl rfl
        have hF52 := f_fr_tr hF42c c52_2 rfl
        have hG52 := f_fr_tr hG42c c52_3 rfl
        have r56_2 : 0 ≤ (I52 11 ((I52 0 25).toInt.toNat)).toInt ∧ (I52 11 ((I52 0 25).toInt.toNat)).toInt ≤ 260 := c52_0 11 ((I52 0 25).toInt.toNat)
        have e56_3 : (I52 11 ((I52 0 25).toInt.toNat)).toInt = (I52 11 ((I 0 25).toInt.toNat)).toInt := by rw [(hO52 25 rfl)]
        have e56_4 : (I52 11 ((I 0 25).toInt.toNat)).toInt = (J42 11 ((I 0 25).toInt.toNat)).toInt := congrArg Int32.toInt (congrFun (c52_2 11 rfl) ((I 0 25).toInt.toNat))
        have e56_5 : (J42 11 ((I 0 25).toInt.toNat)).toInt = (I 11 ((I 0 25).toInt.toNat)).toInt := congrArg Int32.toInt (congrFun u42_6 ((I 0 25).toInt.toNat))
        have r56_6 : 0 ≤ (I52 0 25).toInt ∧ (I52 0 25).toInt ≤ 1 := c52_0 0 25
        have e56_7 : (I52 0 25).toInt = (J42 0 25).toInt := congrArg Int32.toInt (c52_1 25 rfl)
        have e56_8 : (J42 0 25).toInt = (I 0 25).toInt := congrArg Int32.toInt (hO42c 25 rfl)
        refine And.intro ⟨c52_0, (show (I52 11 (I52 0 25).toInt.toNat).toInt ≤ 259 from by first | assumption | omega)⟩ ?_
        intro x56 I56 L56 hq56
        have hq56 : mR I56 ∧ f_fr [11] I52 I56 ∧ L56 = L52 ∧ x56.toInt = 260 * (I52 0 25).toInt + (I52 11 (I52 0 25).toInt.toNat).toInt ∧ (I56 11 (I52 0 25).toInt.toNat).toInt = (I52 11 (I52 0 25).toInt.toNat).toInt + 1 ∧ ((∀ j : Nat, j ≠ (I52 0 25).toInt.toNat → I56 11 j = I52 11 j)) := hq56
        obtain ⟨c56_0, c56_1, eL56, c56_3, c56_4, c56_5⟩ := hq56
        replace eL56 := eL56.symm
        subst eL56
        have hO56 := f_fo_fr hO52 c56_1 rfl
        have hF56 := f_fr_tr hF52 c56_1 rfl
        have r56_9 : 0 ≤ (I56 11 ((I52 0 25).toInt.toNat)).toInt ∧ (I56 11 ((I52 0 25).toInt.toNat)).toInt ≤ 260 := c56_0 11 ((I52 0 25).toInt.toNat)
        have e56_10 : (I56 11 ((I52 0 25).toInt.toNat)).toInt = (I56 11 ((I 0 25).toInt.toNat)).toInt := by rw [(hO52 25 rfl)]
        have g24 : I56 0 24 = I 0 24 := hO56 24 rfl
        have g25 : I52 0 25 = I 0 25 := hO52 25 rfl
        have hmL56 : mL I56 := mL_new c52_0 hmL52 c56_1 c56_5 (by rw [hO52 24 rfl, g25]; omega)
        refine And.intro ⟨c56_0, (show 0 ≤ x56.toInt from by first | assumption | omega), (show x56.toInt ≤ 1599 from by first | assumption | omega), (show 0 ≤ k.toInt from by first | assumption | omega), (show k.toInt ≤ 4 from by first | assumption | omega)⟩ ?_
        intro I63 L63 hq63
        have hq63 : mR I63 ∧ f_fr [3, 4, 5, 6, 7] I56 I63 ∧ L63 = L52 ∧ I63 3 = upd (I56 3) x56.toInt.toNat (Int32.ofInt 0) ∧ I63 4 = upd (I56 4) x56.toInt.toNat k ∧ I63 5 = upd (I56 5) x56.toInt.toNat (Int32.ofInt (-1)) ∧ lvs I56 I63 x56.toInt.toNat 1 := hq63
        obtain ⟨c63_0, c63_1, eL63, c63_3, c63_4, c63_5, c63_6⟩ := hq63
        replace eL63 := eL63.symm
        subst eL63
        have hO63 := f_fo_fr hO56 c63_1 rfl
        have hF63 := f_fr_tr hF56 c63_1 rfl
        obtain ⟨z63, hz63, e63⟩ := c63_6
        have hmL63 : mL I63 := mL_lay c56_0 hmL56 c63_1 c63_3 c63_4 c63_5 e63 (by rw [g24]; omega)
        have htB63 : tB I63 := by
          have t52 := htB52
          unfold tB at t52 ⊢
          rw [c63_3, c63_4, c63_5, e63, c63_1 11 rfl, c56_1 3 rfl, c56_1 4 rfl, c56_1 5 rfl, c56_1 6 rfl, hO63 25 rfl]
          rw [g25] at t52
          have h := tr_put (n := x56.toInt.toNat) (s := Int32.ofInt 0) (u := k) (v := Int32.ofInt (-1)) (z := z63) (by omega) (by omega) (by omega) t52 (by omega) (Or.inl ⟨rfl, hz63⟩)
          rw [show 260 * (I 0 25).toInt + (I56 11 (I 0 25).toInt.toNat).toInt = 260 * (I 0 25).toInt + (I52 11 (I 0 25).toInt.toNat).toInt + 1 by omega]
          exact h
        have r67_11 : 0 ≤ (I63 0 7).toInt ∧ (I63 0 7).toInt ≤ 1601 := c63_0 0 7
        have e67_12 : (I63 0 7).toInt = (I56 0 7).toInt := congrArg Int32.toInt (congrFun (c63_1 0 rfl) 7)
        have e67_13 : (I56 0 7).toInt = (I52 0 7).toInt := congrArg Int32.toInt (congrFun (c56_1 0 rfl) 7)
        have e67_15 : (I63 0 4).toInt = (I56 0 4).toInt := congrArg Int32.toInt (congrFun (c63_1 0 rfl) 4)
        have e67_16 : (I56 0 4).toInt = (I52 0 4).toInt := congrArg Int32.toInt (congrFun (c56_1 0 rfl) 4)
        have e67_17 : (I52 0 4).toInt = (J42 0 4).toInt := congrArg Int32.toInt (c52_1 4 rfl)
        have r67_18 : 0 ≤ (I63 11 ((I 0 25).toInt.toNat)).toInt ∧ (I63 11 ((I 0 25).toInt.toNat)).toInt ≤ 260 := c63_0 11 ((I 0 25).toInt.toNat)
        have e67_19 : (I63 11 ((I 0 25).toInt.toNat)).toInt = (I56 11 ((I 0 25).toInt.toNat)).toInt := congrArg Int32.toInt (congrFun (c63_1 11 rfl) ((I 0 25).toInt.toNat))
        exact ⟨c63_0, hmL63, htB63, hO63, hF63, hG52, (show (I63 0 7).toInt ≤ 1600 from by first | assumption | omega | rfl), (Or.inr ⟨by omega, by omega, by omega, by omega, by omega, ⟨z63, hz63, by rw [e63, c56_1 6 rfl, c52_2 6 rfl, u42_7]⟩⟩)⟩
      · intro h46
        have h46 : x43.toInt = 0 := h46
        have r50_1 : 0 ≤ (J42 0 7).toInt ∧ (J42 0 7).toInt ≤ 1601 := hR42c 0 7
        exact ⟨hR42c, hmL42c, htB42c, hO42c, hF42c, hG42c, (show (J42 0 7).toInt ≤ 1600 from by first | assumption | omega | rfl), (Or.inl ⟨rfl, by omega, u42_6⟩)⟩
    have lp17 : ∀ (J17 : fM) (M17 : fN), mR J17 ∧ f_fr [0, 3, 4, 5, 6, 7, 11] I J17 ∧ f_fr [0] L M17 ∧ f_fo [4, 5, 6, 7, 8] I J17 ∧ mL J17 ∧ tB J17 ∧ ((J17 0 7).toInt ≤ 1600) ∧ ((¬ (J17 0 4).toInt = 0 ∨ (I 0 4).toInt = 0 ∧ ¬ c.toInt = 4)) ∧ (J17 11 = I 11) ∧ (J17 6 = I 6) → f_W pP l eP (f_rm 2) sP mP aP bP hP9 cP mY 71 a cy dC dI 4 (f_K 1 (qX12_readKind [.ref 0, .int c] I L)) 17 [(1, .int c), (0, .ref 0)] [] J17 M17 := by
      intro J17 M17 h9
      obtain ⟨hR17c, hF17c, hG17c, hO17c, hmL17c, htB17c, u17_1, u17_2, u17_3, u17_4⟩ := h9
      refine f_wp_ok C f_cl flX12_ok fiX12_ok fjX12_ok (sn := none) (fun j h => by cases h) (cs := (f_cnl [(288, (1, 0, 11, pX12_misplaced, qX12_misplaced)), (340, (1, 1, 11, pX12_kindHere, qX12_kindHere)), (281, (1, 3, 11, pX12_isGood, qX12_isGood)), (277, (3, 0, 11, pX12_fails, qX12_fails)), (285, (1, 0, 11, pX12_goOn, qX12_goOn)), (349, (1, 1, 11, pX12_freshNode, qX12_freshNode)), (356, (3, 0, 11, pX12_layKind, qX12_layKind))])) (cz := (fun _ => none)) (f_cnl_of (P := fun j S => f_cok pP l eP (f_rm 2) sP mP aP bP hP9 cP mY 71 a cy dC dI 4 _ _ (.invokevirtual j) true S) (List.forall_mem_cons.mpr ⟨f_cokV C (mX12_misplaced hinj) (ci := 11) rfl (List.forall_mem_cons.mpr ⟨(mlX12_ok _ (List.mem_of_getElem? (i := 9) rfl)), kc_X12_misplaced⟩) (by decide +kernel) ⟨Nat.le_of_ble_eq_true rfl, Nat.le_of_ble_eq_true rfl⟩, List.forall_mem_cons.mpr ⟨f_cokV C (mX12_kindHere hinj) (ci := 11) rfl (List.forall_mem_cons.mpr ⟨(mlX12_ok _ (List.mem_of_getElem? (i := 20) rfl)), kc_X12_kindHere⟩) (by decide +kernel) ⟨Nat.le_of_ble_eq_true rfl, Nat.le_of_ble_eq_true rfl⟩, List.forall_mem_cons.mpr ⟨f_cokV C (mX12_isGood hinj) (ci := 11) rfl (List.forall_mem_cons.mpr ⟨(mlX12_ok _ (List.mem_of_getElem? (i := 7) rfl)), kc_X12_isGood⟩) (by decide +kernel) ⟨Nat.le_of_ble_eq_true rfl, Nat.le_of_ble_eq_true rfl⟩, List.forall_mem_cons.mpr ⟨f_cokV C (mX12_fails hinj) (ci := 11) rfl (List.forall_mem_cons.mpr ⟨(mlX12_ok _ (List.mem_of_getElem? (i := 6) rfl)), kc_X12_fails⟩) (by decide +kernel) ⟨Nat.le_of_ble_eq_true rfl, Nat.le_of_ble_eq_true rfl⟩, List.forall_mem_cons.mpr ⟨f_cokV C (mX12_goOn hinj) (ci := 11) rfl (List.forall_mem_cons.mpr ⟨(mlX12_ok _ (List.mem_of_getElem? (i := 8) rfl)), kc_X12_goOn⟩) (by decide +kernel) ⟨Nat.le_of_ble_eq_true rfl, Nat.le_of_ble_eq_true rfl⟩, List.forall_mem_cons.mpr ⟨f_cokV C (mX12_freshNode hinj) (ci := 11) rfl (List.forall_mem_cons.mpr ⟨(mlX12_ok _ (List.mem_of_getElem? (i := 23) rfl)), kc_X12_freshNode⟩) (by decide +kernel) ⟨Nat.le_of_ble_eq_true rfl, Nat.le_of_ble_eq_true rfl⟩, List.forall_mem_cons.mpr ⟨f_cokV C (mX12_layKind hinj) (ci := 11) rfl (List.forall_mem_cons.mpr ⟨(mlX12_ok _ (List.mem_of_getElem? (i := 25) rfl)), kc_X12_layKind⟩) (by decide +kernel) ⟨Nat.le_of_ble_eq_true rfl, Nat.le_of_ble_eq_true rfl⟩, fun _ h => absurd h List.not_mem_nil⟩⟩⟩⟩⟩⟩⟩)) (fun j S h => by cases h) tX12_readKind_ok (cut := (f_cnl [(42, (fun (ls' : fLs) (st' : List Value) (I' : fM) (L' : fN) => ∃ k : Int32, (∀ q ∈ ([(2, .int k), (1, .int c), (0, .ref 0)] : fLs), q ∈ ls') ∧ st' = [] ∧ (mR I' ∧ f_fr [0, 3, 4, 5, 6, 7, 11] I I' ∧ f_fr [0] L L' ∧ f_fo [4, 5, 6, 7, 8] I I' ∧ mL I' ∧ tB I' ∧ ((I' 0 7).toInt ≤ 1600) ∧ (-1 ≤ k.toInt) ∧ (k.toInt ≤ 4) ∧ (k.toInt < (I 8 (I 0 25).toInt.toNat).toInt) ∧ ((¬ (I' 0 4).toInt = 0 ∨ (I 0 4).toInt = 0 ∧ ¬ c.toInt = 4 ∧ 0 ≤ k.toInt)) ∧ (I' 11 = I 11) ∧ (I' 6 = I 6))))])) (f_cnl_of (P := fun (tQ : Nat) (P : fLs → List Value → fM → fN → Prop) => ∀ ls' st' I' L', P ls' st' I' L' → f_W pP l eP (f_rm 2) sP mP aP bP hP9 cP mY 71 a cy dC dI 4 (f_K 1 (qX12_readKind [.ref 0, .int c] I L)) tQ ls' st' I' L') (List.forall_mem_cons.mpr ⟨(fun ls' st' I' L' h => by obtain ⟨k, hs, e1, h9⟩ := h; rw [e1]; exact f_W_sub hs (lp42 k I' L' h9)), fun _ h => absurd h List.not_mem_nil⟩)) 16 17 (f_seek 17 0 tX12_readKind) (f_seek_ok 17 0 tX12_readKind tX12_readKind_ok) _ _ _ _ ?_
      refine And.intro hR17c ?_
      intro x18 I18 L18 hq18
      have hq18 : I18 = J17 ∧ L18 = M17 ∧ -1 ≤ x18.toInt ∧ x18.toInt < (J17 8 (J17 0 25).toInt.toNat).toInt ∧ x18.toInt ≤ 4 := hq18
      obtain ⟨eI18, eL18, c18_2, c18_3, c18_4⟩ := hq18
      replace eI18 := eI18.symm
      subst eI18
      replace eL18 := eL18.symm
      subst eL18
      have r18_1 : 0 ≤ (J17 8 ((J17 0 25).toInt.toNat)).toInt ∧ (J17 8 ((J17 0 25).toInt.toNat)).toInt ≤ 5 := hR17c 8 ((J17 0 25).toInt.toNat)
      have e18_2 : (J17 8 ((J17 0 25).toInt.toNat)).toInt = (J17 8 ((I 0 25).toInt.toNat)).toInt := by rw [(hO17c 25 rfl)]
      have e18_3 : (J17 8 ((I 0 25).toInt.toNat)).toInt = (I 8 ((I 0 25).toInt.toNat)).toInt := congrArg Int32.toInt (congrFun (hF17c 8 rfl) ((I 0 25).toInt.toNat))
      have r18_4 : 0 ≤ (J17 0 25).toInt ∧ (J17 0 25).toInt ≤ 1 := hR17c 0 25
      have e18_5 : (J17 0 25).toInt = (I 0 25).toInt := congrArg Int32.toInt (hO17c 25 rfl)
      refine And.intro trivial ?_
      intro x23 I23 L23 hq23
      have hq23 : I23 = J17 ∧ L23 = M17 ∧ ((x23.toInt = 1 ∧ (J17 0 4).toInt = 0 ∨ x23.toInt = 0 ∧ ¬ (J17 0 4).toInt = 0)) := hq23
      obtain ⟨eI23, eL23, c23_2⟩ := hq23
      replace eI23 := eI23.symm
      subst eI23
      replace eL23 := eL23.symm
      subst eL23
      apply And.intro
      · intro h26
        have h26 : x23.toInt = 0 := h26
        have r42_6 : 0 ≤ (J17 0 7).toInt ∧ (J17 0 7).toInt ≤ 1601 := hR17c 0 7
        exact ⟨x18, (by intro q9 h9; simp only [List.mem_cons, List.not_mem_nil, or_false] at h9; rcases h9 with h9 | h9 | h9 <;> subst h9 <;> repeat (first | exact List.mem_cons_self | apply List.mem_cons_of_mem)), rfl, hR17c, hF17c, hG17c, hO17c, hmL17c, htB17c, (show (J17 0 7).toInt ≤ 1600 from by first | assumption | omega), (show -1 ≤ x18.toInt from by first | assumption | omega), (show x18.toInt ≤ 4 from by first | assumption | omega), (show x18.toInt < (I 8 (I 0 25).toInt.toNat).toInt from by first | assumption | omega), (show (¬ (J17 0 4).toInt = 0 ∨ (I 0 4).toInt = 0 ∧ ¬ c.toInt = 4 ∧ 0 ≤ x18.toInt) from by first | assumption | omega | rfl), (show J17 11 = I 11 from by first | assumption | exact u17_3), (show J17 6 = I 6 from by first | assumption | exact u17_4)⟩
      · intro h26
        have h26 : ¬ x23.toInt = 0 := h26
        apply And.intro
        · intro h30
          have h30 : 0 ≤ x18.toInt := h30
          have r42_6 : 0 ≤ (J17 0 7).toInt ∧ (J17 0 7).toInt ≤ 1601 := hR17c 0 7
          exact ⟨x18, (by intro q9 h9; simp only [List.mem_cons, List.not_mem_nil, or_false] at h9; rcases h9 with h9 | h9 | h9 <;> subst h9 <;> repeat (first | exact List.mem_cons_self | apply List.mem_cons_of_mem)), rfl, hR17c, hF17c, hG17c, hO17c, hmL17c, htB17c, (show (J17 0 7).toInt ≤ 1600 from by first | assumption | omega), (show -1 ≤ x18.toInt from by first | assumption | omega), (show x18.toInt ≤ 4 from by first | assumption | omega), (show x18.toInt < (I 8 (I 0 25).toInt.toNat).toInt from by first | assumption | omega), (show (¬ (J17 0 4).toInt = 0 ∨ (I 0 4).toInt = 0 ∧ ¬ c.toInt = 4 ∧ 0 ≤ x18.toInt) from by first | assumption | omega | rfl), (show J17 11 = I 11 from by first | assumption | exact u17_3), (show J17 6 = I 6 from by first | assumption | exact u17_4)⟩
        · intro h30
          have h30 : x18.toInt < 0 := h30
          have r36_6 : 0 ≤ (J17 0 6).toInt ∧ (J17 0 6).toInt ≤ 1601 := hR17c 0 6
          refine And.intro ⟨hR17c, (show 1 ≤ (5 : Int) from by first | assumption | omega)⟩ ?_
          intro I39 L39 hq39
          have hq39 : mR I39 ∧ f_fo [4, 5] J17 I39 ∧ f_fr [0] J17 I39 ∧ L39 = M17 ∧ 1 ≤ (I39 0 4).toInt := hq39
          obtain ⟨c39_0, c39_1, c39_2, eL39, c39_4⟩ := hq39
          replace eL39 := eL39.symm
          subst eL39
          have hO39 := f_fo_tr hO17c c39_1 rfl
          have hmL39 := f_depo_fo mL_dep hmL17c c39_2 c39_1 rfl rfl
          have htB39 := f_depo_fo tB_dep htB17c c39_2 c39_1 rfl rfl
          have hF39 := f_fr_tr hF17c c39_2 rfl
          have r42_7 : 0 ≤ (I39 0 7).toInt ∧ (I39 0 7).toInt ≤ 1601 := c39_0 0 7
          have e42_8 : (I39 0 7).toInt = (J17 0 7).toInt := congrArg Int32.toInt (c39_1 7 rfl)
          exact ⟨x18, (by intro q9 h9; simp only [List.mem_cons, List.not_mem_nil, or_false] at h9; rcases h9 with h9 | h9 | h9 <;> subst h9 <;> repeat (first | exact List.mem_cons_self | apply List.mem_cons_of_mem)), rfl, c39_0, hF39, hG17c, hO39, hmL39, htB39, (show (I39 0 7).toInt ≤ 1600 from by first | assumption | omega), (show -1 ≤ x18.toInt from by first | assumption | omega), (show x18.toInt ≤ 4 from by first | assumption | omega), (show x18.toInt < (I 8 (I 0 25).toInt.toNat).toInt from by first | assumption | omega), (show (¬ (I39 0 4).toInt = 0 ∨ (I 0 4).toInt = 0 ∧ ¬ c.toInt = 4 ∧ 0 ≤ x18.toInt) from by first | assumption | omega | rfl), (show I39 11 = I 11 from by first | assumption | exact ((c39_2 11 rfl).trans u17_3)), (show I39 6 = I 6 from by first | assumption | exact ((c39_2 6 rfl).trans u17_4))⟩
    refine f_wp_ok C f_cl flX12_ok fiX12_ok fjX12_ok (sn := none) (fun j h => by cases h) (cs := (f_cnl [(288, (1, 0, 11, pX12_misplaced, qX12_misplaced)), (340, (1, 1, 11, pX12_kindHere, qX12_kindHere)), (281, (1, 3, 11, pX12_isGood, qX12_isGood)), (277, (3, 0, 11, pX12_fails, qX12_fails)), (285, (1, 0, 11, pX12_goOn, qX12_goOn)), (349, (1, 1, 11, pX12_freshNode, qX12_freshNode)), (356, (3, 0, 11, pX12_layKind, qX12_layKind))])) (cz := (fun _ => none)) (f_cnl_of (P := fun j S => f_cok pP l eP (f_rm 2) sP mP aP bP hP9 cP mY 71 a cy dC dI 4 _ _ (.invokevirtual j) true S) (List.forall_mem_cons.mpr ⟨f_cokV C (mX12_misplaced hinj) (ci := 11) rfl (List.forall_mem_cons.mpr ⟨(mlX12_ok _ (List.mem_of_getElem? (i := 9) rfl)), kc_X12_misplaced⟩) (by decide +kernel) ⟨Nat.le_of_ble_eq_true rfl, Nat.le_of_ble_eq_true rfl⟩, List.forall_mem_cons.mpr ⟨f_cokV C (mX12_kindHere hinj) (ci := 11) rfl (List.forall_mem_cons.mpr ⟨(mlX12_ok _ (List.mem_of_getElem? (i := 20) rfl)), kc_X12_kindHere⟩) (by decide +kernel) ⟨Nat.le_of_ble_eq_true rfl, Nat.le_of_ble_eq_true rfl⟩, List.forall_mem_cons.mpr ⟨f_cokV C (mX12_isGood hinj) (ci := 11) rfl (List.forall_mem_cons.mpr ⟨(mlX12_ok _ (List.mem_of_getElem? (i := 7) rfl)), kc_X12_isGood⟩) (by decide +kernel) ⟨Nat.le_of_ble_eq_true rfl, Nat.le_of_ble_eq_true rfl⟩, List.forall_mem_cons.mpr ⟨f_cokV C (mX12_fails hinj) (ci := 11) rfl (List.forall_mem_cons.mpr ⟨(mlX12_ok _ (List.mem_of_getElem? (i := 6) rfl)), kc_X12_fails⟩) (by decide +kernel) ⟨Nat.le_of_ble_eq_true rfl, Nat.le_of_ble_eq_true rfl⟩, List.forall_mem_cons.mpr ⟨f_cokV C (mX12_goOn hinj) (ci := 11) rfl (List.forall_mem_cons.mpr ⟨(mlX12_ok _ (List.mem_of_getElem? (i := 8) rfl)), kc_X12_goOn⟩) (by decide +kernel) ⟨Nat.le_of_ble_eq_true rfl, Nat.le_of_ble_eq_true rfl⟩, List.forall_mem_cons.mpr ⟨f_cokV C (mX12_freshNode hinj) (ci := 11) rfl (List.forall_mem_cons.mpr ⟨(mlX12_ok _ (List.mem_of_getElem? (i := 23) rfl)), kc_X12_freshNode⟩) (by decide +kernel) ⟨Nat.le_of_ble_eq_true rfl, Nat.le_of_ble_eq_true rfl⟩, List.forall_mem_cons.mpr ⟨f_cokV C (mX12_layKind hinj) (ci := 11) rfl (List.forall_mem_cons.mpr ⟨(mlX12_ok _ (List.mem_of_getElem? (i := 25) rfl)), kc_X12_layKind⟩) (by decide +kernel) ⟨Nat.le_of_ble_eq_true rfl, Nat.le_of_ble_eq_true rfl⟩, fun _ h => absurd h List.not_mem_nil⟩⟩⟩⟩⟩⟩⟩)) (fun j S h => by cases h) tX12_readKind_ok (cut := (f_cnl [(17, (fun (ls' : fLs) (st' : List Value) (I' : fM) (L' : fN) => (∀ q ∈ ([(1, .int c), (0, .ref 0)] : fLs), q ∈ ls') ∧ st' = [] ∧ (mR I' ∧ f_fr [0, 3, 4, 5, 6, 7, 11] I I' ∧ f_fr [0] L L' ∧ f_fo [4, 5, 6, 7, 8] I I' ∧ mL I' ∧ tB I' ∧ ((I' 0 7).toInt ≤ 1600) ∧ ((¬ (I' 0 4).toInt = 0 ∨ (I 0 4).toInt = 0 ∧ ¬ c.toInt = 4)) ∧ (I' 11 = I 11) ∧ (I' 6 = I 6))))])) (f_cnl_of (P := fun (tQ : Nat) (P : fLs → List Value → fM → fN → Prop) => ∀ ls' st' I' L', P ls' st' I' L' → f_W pP l eP (f_rm 2) sP mP aP bP hP9 cP mY 71 a cy dC dI 4 (f_K 1 (qX12_readKind [.ref 0, .int c] I L)) tQ ls' st' I' L') (List.forall_mem_cons.mpr ⟨(fun ls' st' I' L' h => by obtain ⟨hs, e1, h9⟩ := h; rw [e1]; exact f_W_sub hs (lp17  I' L' h9)), fun _ h => absurd h List.not_mem_nil⟩)) 12 0 tX12_readKind tX12_readKind_ok _ _ _ _ ?_
    apply And.intro
    · intro h5
      have h5 : ¬ (I 0 8).toInt = 2 := h5
      refine And.intro hR ?_
      intro I14 L14 hq14
      have hq14 : mR I14 ∧ f_fo [4, 5] I I14 ∧ f_fr [0] I I14 ∧ L14 = L ∧ 1 ≤ (I14 0 4).toInt := hq14
      obtain ⟨c14_0, c14_1, c14_2, eL14, c14_4⟩ := hq14
      replace eL14 := eL14.symm
      subst eL14
      have hO14 := f_fo_tr hO0 c14_1 rfl
      have hmL14 := f_depo_fo mL_dep hmL c14_2 c14_1 rfl rfl
      have htB14 := f_depo_fo tB_dep htB c14_2 c14_1 rfl rfl
      have hF14 := f_fr_tr hF0 c14_2 rfl
      have r17_2 : 0 ≤ (I14 0 7).toInt ∧ (I14 0 7).toInt ≤ 1601 := c14_0 0 7
      have e17_3 : (I14 0 7).toInt = (I 0 7).toInt := congrArg Int32.toInt (c14_1 7 rfl)
      exact ⟨(by intro q9 h9; simp only [List.mem_cons, List.not_mem_nil, or_false] at h9; rcases h9 with h9 | h9 <;> subst h9 <;> repeat (first | exact List.mem_cons_self | apply List.mem_cons_of_mem)), rfl, c14_0, hF14, hG0, hO14, hmL14, htB14, (show (I14 0 7).toInt ≤ 1600 from by first | assumption | omega), (show (¬ (I14 0 4).toInt = 0 ∨ (I 0 4).toInt = 0 ∧ ¬ c.toInt = 4) from by first | assumption | omega | rfl), (show I14 11 = I 11 from by first | assumption | exact (c14_2 11 rfl)), (show I14 6 = I 6 from by first | assumption | exact (c14_2 6 rfl))⟩
    · intro h5
      have h5 : (I 0 8).toInt = 2 := h5
      apply And.intro
      · intro h10
        have h10 : ¬ c.toInt = 4 := h10
        have r17_2 : 0 ≤ (I 0 7).toInt ∧ (I 0 7).toInt ≤ 1601 := hR 0 7
        exact ⟨(by intro q9 h9; simp only [List.mem_cons, List.not_mem_nil, or_false] at h9; rcases h9 with h9 | h9 <;> subst h9 <;> repeat (first | exact List.mem_cons_self | apply List.mem_cons_of_mem)), rfl, hR, hF0, hG0, hO0, hmL, htB, (show (I 0 7).toInt ≤ 1600 from by first | assumption | omega), (show (¬ (I 0 4).toInt = 0 ∨ (I 0 4).toInt = 0 ∧ ¬ c.toInt = 4) from by first | assumption | omega | rfl), (show I 11 = I 11 from by first | assumption | exact rfl), (show I 6 = I 6 from by first | assumption | exact rfl)⟩
      · intro h10
        have h10 : c.toInt = 4 := h10
        refine And.intro hR ?_
        intro I14 L14 hq14
        have hq14 : mR I14 ∧ f_fo [4, 5] I I14 ∧ f_fr [0] I I14 ∧ L14 = L ∧ 1 ≤ (I14 0 4).toInt := hq14
        obtain ⟨c14_0, c14_1, c14_2, eL14, c14_4⟩ := hq14
        replace eL14 := eL14.symm
        subst eL14
        have hO14 := f_fo_tr hO0 c14_1 rfl
        have hmL14 := f_depo_fo mL_dep hmL c14_2 c14_1 rfl rfl
        have htB14 := f_depo_fo tB_dep htB c14_2 c14_1 rfl rfl
        have hF14 := f_fr_tr hF0 c14_2 rfl
        have r17_2 : 0 ≤ (I14 0 7).toInt ∧ (I14 0 7).toInt ≤ 1601 := c14_0 0 7
        have e17_3 : (I14 0 7).toInt = (I 0 7).toInt := congrArg Int32.toInt (c14_1 7 rfl)
        exact ⟨(by intro q9 h9; simp only [List.mem_cons, List.not_mem_nil, or_false] at h9; rcases h9 with h9 | h9 <;> subst h9 <;> repeat (first | exact List.mem_cons_self | apply List.mem_cons_of_mem)), rfl, c14_0, hF14, hG0, hO14, hmL14, htB14, (show (I14 0 7).toInt ≤ 1600 from by first | assumption | omega), (show (¬ (I14 0 4).toInt = 0 ∨ (I 0 4).toInt = 0 ∧ ¬ c.toInt = 4) from by first | assumption | omega | rfl), (show I14 11 = I 11 from by first | assumption | exact (c14_2 11 rfl)), (show I14 6 = I 6 from by first | assumption | exact (c14_2 6 rfl))⟩
