theorem mL_u12 {I : fM} {j : Nat} {x : Int32} (hR : mR I) (hL : mL I) (hj : ¬ (12 * (I 0 24).toInt ≤ j ∧ (j : Int) < 12 * (I 0 24).toInt + 12)) : mL (va_up I 12 (upd (I 12) j x)) :=
  mL_rgn hR hL rfl (fun _ _ => ⟨rfl, rfl, rfl, rfl⟩) rfl rfl rfl rfl (fun k a b => by show upd (I 12) j x k = _; rw [pk_un (by omega)]) (fun _ _ _ => rfl)
theorem mL_u13 {I : fM} {j : Nat} {x : Int32} (hR : mR I) (hL : mL I) (hj : ¬ (36 * (I 0 24).toInt ≤ j ∧ (j : Int) < 36 * (I 0 24).toInt + 36)) : mL (va_up I 13 (upd (I 13) j x)) :=
  mL_rgn hR hL rfl (fun _ _ => ⟨rfl, rfl, rfl, rfl⟩) rfl rfl rfl rfl (fun _ _ _ => rfl) (fun k a b => by show upd (I 13) j x k = _; rw [pk_un (by omega)])
theorem mL_u8 {I : fM} {j : Nat} {x : Int32} (hR : mR I) (hL : mL I) (hj : ¬ (I 0 24).toInt.toNat = j) : mL (va_up I 8 (upd (I 8) j x)) :=
  mL_rgn hR hL rfl (fun _ _ => ⟨rfl, rfl, rfl, rfl⟩) (by show upd (I 8) j x _ = _; rw [pk_un hj]) rfl rfl rfl (fun _ _ _ => rfl) (fun _ _ _ => rfl)
theorem mL_u9 {I : fM} {j : Nat} {x : Int32} (hR : mR I) (hL : mL I) (hj : ¬ (I 0 24).toInt.toNat = j) : mL (va_up I 9 (upd (I 9) j x)) :=
  mL_rgn hR hL rfl (fun _ _ => ⟨rfl, rfl, rfl, rfl⟩) rfl (by show upd (I 9) j x _ = _; rw [pk_un hj]) rfl rfl (fun _ _ _ => rfl) (fun _ _ _ => rfl)
theorem mL_u10 {I : fM} {j : Nat} {x : Int32} (hR : mR I) (hL : mL I) (hj : ¬ (I 0 24).toInt.toNat = j) : mL (va_up I 10 (upd (I 10) j x)) :=
  mL_rgn hR hL rfl (fun _ _ => ⟨rfl, rfl, rfl, rfl⟩) rfl rfl (by show upd (I 10) j x _ = _; rw [pk_un hj]) rfl (fun _ _ _ => rfl) (fun _ _ _ => rfl)
/-- what is read so far, if it is without a fault -/
def mQ (I : fM) : Prop := (I 0 4).toInt = 0 → (∀ k : Nat, 12 * (I 0 25).toInt ≤ k → (k : Int) < 12 * (I 0 25).toInt + (I 9 (I 0 25).toInt.toNat).toInt → 1 ≤ (I 12 k).toInt ∧ ∀ t : Nat, 3 * k ≤ t → (t : Int) < 3 * k + (I 12 k).toInt → 260 * (I 0 25).toInt ≤ (I 13 t).toInt ∧ (I 13 t).toInt < 260 * (I 0 25).toInt + (I 11 (I 0 25).toInt.toNat).toInt) ∧
  (¬ (I 14 (I 0 25).toInt.toNat).toInt = 0 → 260 * (I 0 25).toInt ≤ (I 10 (I 0 25).toInt.toNat).toInt ∧ (I 10 (I 0 25).toInt.toNat).toInt < 260 * (I 0 25).toInt + (I 11 (I 0 25).toInt.toNat).toInt) ∧ (0 < (I 9 (I 0 25).toInt.toNat).toInt → 0 < (I 8 (I 0 25).toInt.toNat).toInt)
/-- the tags of the word that is read -/
def wR (J : fM) (w r : Int) : Prop := (J 0 4).toInt = 0 → ∀ t : Nat, 3 * w ≤ t → (t : Int) < 3 * w + (J 12 w.toNat).toInt → 260 * r ≤ (J 13 t).toInt ∧ (J 13 t).toInt < 260 * r + (J 11 r.toNat).toInt
theorem wR_eq {J K : fM} {w r : Int} (hg : (K 0 4).toInt = 0 → (J 0 4).toInt = 0) (e11 : K 11 = J 11) (e12 : K 12 = J 12) (e13 : K 13 = J 13) (h : wR J w r) : wR K w r := by
  intro g
  rw [e11, e12, e13]
  exact h (hg g)
theorem mQ_word {I K : fM} {w : Int} (h : mQ I) (h25 : K 0 25 = I 0 25) (hg : (K 0 4).toInt = 0 → (I 0 4).toInt = 0) (e8 : K 8 = I 8) (e10 : K 10 = I 10) (e14 : K 14 = I 14) (h9 : (K 9 (I 0 25).toInt.toNat).toInt = (I 9 (I 0 25).toInt.toNat).toInt + 1) (h11 : (I 11 (I 0 25).toInt.toNat).toInt ≤ (K 11 (I 0 25).toInt.toNat).toInt)
    (h0 : 0 ≤ (I 0 25).toInt ∧ 0 ≤ (I 9 (I 0 25).toInt.toNat).toInt) (hw : w = 12 * (I 0 25).toInt + (I 9 (I 0 25).toInt.toNat).toInt) (h12 : ∀ k : Nat, ¬ k = w.toNat → K 12 k = I 12 k) (h13 : ∀ t : Nat, ¬ (3 * w ≤ t ∧ (t : Int) < 3 * w + 3) → K 13 t = I 13 t) (hm : ∀ k, (I 12 k).toInt ≤ 3)
    (h1 : (K 0 4).toInt = 0 → 1 ≤ (K 12 w.toNat).toInt ∧ 1 ≤ (I 8 (I 0 25).toInt.toNat).toInt) (hR : wR K w (I 0 25).toInt) : mQ K := by
  intro g
  obtain ⟨q1, q2, q3⟩ := h (hg g)
  rw [h25, e8, e10, e14]
  refine ⟨fun k a b => ?_, fun q => ?_, fun _ => (h1 g).2⟩
  · by_cases e : k = w.toNat
    · subst e
      exact ⟨(h1 g).1, fun t c d => hR g t (by omega) (by omega)⟩
    · rw [h12 k e]
      have hk := hm k
      obtain ⟨r1, r2⟩ := q1 k a (by omega)
      refine ⟨r1, fun t c d => ?_⟩
      rw [h13 t (by omega)]
      have := r2 t c d
      omega
  · have := q2 q
    omega
def tX12_readWord : List (Instr × Nat) := [(.bipush 12, 2), (.aload_n 0, 1), (.getfield 294, 3), (.imul, 1), (.aload_n 0, 1), (.getfield 39, 3), (.aload_n 0, 1), (.getfield 294, 3), (.iaload, 1), (.iadd, 1), (.istore_n 1, 1), (.aload_n 0, 1), (.invokevirtual 318, 3), (.lstore_n 2, 1), (.aload_n 0, 1), (.aload_n 0, 1), (.ldc2_w 245, 3), (.invokevirtual 312, 3), (.invokevirtual 332, 3), (.aload_n 0, 1), (.getfield 48, 3), (.iload_n 1, 1), (.iconst 0, 1), (.iastore, 1), (.aload_n 0, 1), (.invokevirtual 281, 3), (.istore 4, 2), (.iload 4, 2), (.ifCond .eq 90, 3), (.aload_n 0, 1), (.getfield 51, 3), (.iconst 3, 1), (.iload_n 1, 1), (.imul, 1), (.aload_n 0, 1), (.getfield 48, 3), (.iload_n 1, 1), (.iaload, 1), (.iadd, 1), (.aload_n 0, 1), (.invokevirtual 322, 3), (.iastore, 1), (.aload_n 0, 1), (.getfield 48, 3), (.iload_n 1, 1), (.dup2, 1), (.iaload, 1), (.iconst 1, 1), (.iadd, 1), (.iastore, 1), (.aload_n 0, 1), (.invokevirtual 281, 3), (.ifCond .eq 17, 3), (.aload_n 0, 1), (.ldc2_w 247, 3), (.invokevirtual 312, 3), (.ifCond .eq 7, 3), (.iconst 1, 1), (.goto 4, 3), (.iconst 0, 1), (.istore 4, 2), (.iload 4, 2), (.ifCond .eq 20, 3), (.aload_n 0, 1), (.getfield 48, 3), (.iload_n 1, 1), (.iaload, 1), (.iconst 3, 1), (.if_icmp .ne 10, 3), (.aload_n 0, 1), (.invokevirtual 288, 3), (.iconst 0, 1), (.istore 4, 2), (.iload 4, 2), (.ifCond .eq (-82), 3), (.aload_n 0, 1), (.invokevirtual 285, 3), (.goto (-89), 3), (.aload_n 0, 1), (.getfield 62, 3), (.iload_n 1, 1), (.lload_n 2, 1), (.lastore, 1), (.aload_n 0, 1), (.getfield 39, 3), (.aload_n 0, 1), (.getfield 294, 3), (.dup2, 1), (.iaload, 1), (.iconst 1, 1), (.iadd, 1), (.iastore, 1), (.return_, 1)]
theorem tX12_readWord_ok : f_chk cX12_readWord 0 tX12_readWord = true := by decide +kernel
def pX12_readWord (av : List Value) (I : fM) (L : fN) : Prop := match av with
  | [.ref 0] => mR I ∧ mL I ∧ tB I ∧ mQ I ∧ (I 0 7).toInt ≤ 1600 ∧ (I 0 25).toInt + (I 0 24).toInt = 1 ∧ (I 9 (I 0 25).toInt.toNat).toInt ≤ 11 ∧ (I 11 (I 0 25).toInt.toNat).toInt ≤ 21 * (I 9 (I 0 25).toInt.toNat).toInt + 7
  | _ => False
def qX12_readWord (av : List Value) (I : fM) (L : fN) (r : Value) (I' : fM) (L' : fN) : Prop := match av, r with
  | [.ref 0], .null => mR I' ∧ mL I' ∧ tB I' ∧ mQ I' ∧ f_fo [4, 5, 6, 7, 8] I I' ∧ f_fr [0, 3, 4, 5, 6, 7, 9, 11, 12, 13, 17, 18] I I' ∧ f_fr [0, 16] L L' ∧ (I' 0 7).toInt ≤ 1600 ∧ (¬ (I 0 4).toInt = 0 → ¬ (I' 0 4).toInt = 0) ∧ (I' 9 (I 0 25).toInt.toNat).toInt = (I 9 (I 0 25).toInt.toNat).toInt + 1 ∧ (I' 11 (I 0 25).toInt.toNat).toInt ≤ (I 11 (I 0 25).toInt.toNat).toInt + 21 ∧ I' 9 (I 0 24).toInt.toNat = I 9 (I 0 24).toInt.toNat
  | _, _ => False
set_option maxHeartbeats 40000000 in
set_option maxRecDepth 100000 in
theorem mX12_readWord {l : Launch} {a : Nat → Nat} {cy dC : Nat → ClassId} {dI : Nat → Nat → Nat} (hinj : ∀ i j, i < 71 → j < 71 → a i = a j → i = j) : f_Met (fun _ => True) l mY 71 a cy dC dI yX12_readWord cX12_readWord 5 0 4 pX12_readWord qX12_readWord := by
  refine f_met_of (f_Ec_T 71 a) hinj mY_hi (by decide) (fun av I L h => by unfold pX12_readWord at h; split at h <;> first | exact Nat.le_of_ble_eq_true rfl | exact h.elim) ?_
  intro pP eP sP mP aP bP hP9 cP C av I L hp
  unfold pX12_readWord at hp
  split at hp
  case h_2 => exact hp.elim
  case h_1 =>
    obtain ⟨hR, hmL, htB, p3, p4, p5, p6, p7⟩ := hp
    have hb : 0 ≤ (I 0 25).toInt ∧ (I 0 25).toInt ≤ 1 := hR 0 25
    have hN : 0 ≤ (I 11 (I 0 25).toInt.toNat).toInt := (hR 11 _).1
    have hW : 0 ≤ (I 9 (I 0 25).toInt.toNat).toInt := (hR 9 _).1
    have hF0 : f_fr [0, 3, 4, 5, 6, 7, 9, 11, 12, 13, 17, 18] I I := f_fr_rf
    have hG0 : f_fr [0, 16] L L := f_fr_rf
    have hO0 : f_fo [4, 5, 6, 7, 8] I I := f_fo_rf
    have lp47 : ∀ (n47 : Nat), ∀ (w : Int32) (own : Int64) (more : Int32) (J47 : fM) (M47 : fN), mR J47 ∧ f_fr [0, 3, 4, 5, 6, 7, 9, 11, 12, 13, 17, 18] I J47 ∧ f_fr [0, 16] L M47 ∧ f_fo [4, 5, 6, 7, 8] I J47 ∧ mL J47 ∧ tB J47 ∧ (w.toInt = 12 * (I 0 25).toInt + (I 9 (I 0 25).toInt.toNat).toInt) ∧ ((J47 0 7).toInt ≤ 1600) ∧ ((¬ (I 0 4).toInt = 0 → ¬ (J47 0 4).toInt = 0)) ∧ (more.toInt = 0 ∨ more.toInt = 1) ∧ ((more.toInt = 1 → (J47 12 w.toInt.toNat).toInt ≤ 2 ∧ (J47 0 4).toInt = 0)) ∧ (((J47 0 4).toInt = 0 → more.toInt = 1 ∨ 1 ≤ (J47 12 w.toInt.toNat).toInt)) ∧ (((J47 0 4).toInt = 0 → 1 ≤ (J47 12 w.toInt.toNat).toInt → 1 ≤ (I 8 (I 0 25).toInt.toNat).toInt)) ∧ ((I 11 (I 0 25).toInt.toNat).toInt ≤ (J47 11 (I 0 25).toInt.toNat).toInt) ∧ ((J47 11 (I 0 25).toInt.toNat).toInt ≤ (I 11 (I 0 25).toInt.toNat).toInt + 7 * (J47 12 w.toInt.toNat).toInt) ∧ (J47 9 = I 9) ∧ ((∀ k : Nat, ¬ k = w.toInt.toNat → J47 12 k = I 12 k)) ∧ ((∀ t : Nat, ¬ (3 * w.toInt ≤ t ∧ (t : Int) < 3 * w.toInt + 3) → J47 13 t = I 13 t)) ∧ (wR J47 w.toInt (I 0 25).toInt) ∧ ((J47 12 w.toInt.toNat).toInt ≤ 3) ∧ (4 - (J47 12 w.toInt.toNat).toInt) < n47 → f_W pP l eP (f_rm 4) sP mP aP bP hP9 cP mY 71 a cy dC dI 5 (f_K 0 (qX12_readWord [.ref 0] I L)) 47 [(4, .int more), (2, .long own), (1, .int w), (0, .ref 0)] [] J47 M47 := by
      intro n47
      induction n47 with
      | zero =>
        intro w own more J47 M47 h9
        obtain ⟨hR47c, hF47c, hG47c, hO47c, hmL47c, htB47c, u47_1, u47_2, u47_3, u47_4, u47_5, u47_6, u47_7, u47_8, u47_9, u47_10, u47_11, u47_12, u47_13, u47_14, hm47⟩ := h9
        omega
      | succ n47 ih47 =>
        intro w own more J47 M47 h9
        obtain ⟨hR47c, hF47c, hG47c, hO47c, hmL47c, htB47c, u47_1, u47_2, u47_3, u47_4, u47_5, u47_6, u47_7, u47_8, u47_9, u47_10, u47_11, u47_12, u47_13, u47_14, hm47⟩ := h9
        have m47 : 0 ≤ (J47 12 w.toInt.toNat).toInt ∧ (J47 12 w.toInt.toNat).toInt ≤ 3 := hR47c 12 _
        have f47 : J47 0 25 = I 0 25 := hO47c 25 rfl
        have f48 : J47 0 24 = I 0 24 := hO47c 24 rfl
        refine f_wp_ok C f_cl flX12_ok fiX12_ok fjX12_ok (sn := none) (fun j h => by cases h) (cs := (f_cnl [(318, (1, 2, 11, pX12_freshb, qX12_freshb)), (312, (2, 3, 11, pX12_isWordb, qX12_isWordb)), (332, (2, 0, 11, pX12_mustb, qX12_mustb)), (281, (1, 3, 11, pX12_isGood, qX12_isGood)), (322, (1, 1, 11, pX12_readT, qX12_readT)), (288, (1, 0, 11, pX12_misplaced, qX12_misplaced)), (285, (1, 0, 11, pX12_goOn, qX12_goOn))])) (cz := (fun _ => none)) (f_cnl_of (P := fun j S => f_cok pP l eP (f_rm 4) sP mP aP bP hP9 cP mY 71 a cy dC dI 5 _ _ (.invokevirtual j) true S) (List.forall_mem_cons.mpr ⟨f_cokV C (mX12_freshb hinj) (ci := 11) rfl (List.forall_mem_cons.mpr ⟨(mlX12_ok _ (List.mem_of_getElem? (i := 14) rfl)), kc_X12_fresh⟩) (by decide +kernel) ⟨Nat.le_of_ble_eq_true rfl, Nat.le_of_ble_eq_true rfl⟩, List.forall_mem_cons.mpr ⟨f_cokV C (mX12_isWordb hinj) (ci := 11) rfl (List.forall_mem_cons.mpr ⟨(mlX12_ok _ (List.mem_of_getElem? (i := 12) rfl)), kc_X12_isWord⟩) (by decide +kernel) ⟨Nat.le_of_ble_eq_true rfl, Nat.le_of_ble_eq_true rfl⟩, List.forall_mem_cons.mpr ⟨f_cokV C (mX12_mustb hinj) (ci := 11) rfl (List.forall_mem_cons.mpr ⟨(mlX12_ok _ (List.mem_of_getElem? (i := 18) rfl)), kc_X12_must⟩) (by decide +kernel) ⟨Nat.le_of_ble_eq_true rfl, Nat.le_of_ble_eq_true rfl⟩, List.forall_mem_cons.mpr ⟨f_cokV C (mX12_isGood hinj) (ci := 11) rfl (List.forall_mem_cons.mpr ⟨(mlX12_ok _ (List.mem_of_getElem? (i := 7) rfl)), kc_X12_isGood⟩) (by decide +kernel) ⟨Nat.le_of_ble_eq_true rfl, Nat.le_of_ble_eq_true rfl⟩, List.forall_mem_cons.mpr ⟨f_cokV C (mX12_readT hinj) (ci := 11) rfl (List.forall_mem_cons.mpr ⟨(mlX12_ok _ (List.mem_of_getElem? (i := 15) rfl)), kc_X12_readT⟩) (by decide +kernel) ⟨Nat.le_of_ble_eq_true rfl, Nat.le_of_ble_eq_true rfl⟩, List.forall_mem_cons.mpr ⟨f_cokV C (mX12_misplaced hinj) (ci := 11) rfl (List.forall_mem_cons.mpr ⟨(mlX12_ok _ (List.mem_of_getElem? (i := 9) rfl)), kc_X12_misplaced⟩) (by decide +kernel) ⟨Nat.le_of_ble_eq_true rfl, Nat.le_of_ble_eq_true rfl⟩, List.forall_mem_cons.mpr ⟨f_cokV C (mX12_goOn hinj) (ci := 11) rfl (List.forall_mem_cons.mpr ⟨(mlX12_ok _ (List.mem_of_getElem? (i := 8) rfl)), kc_X12_goOn⟩) (by decide +kernel) ⟨Nat.le_of_ble_eq_true rfl, Nat.le_of_ble_eq_true rfl⟩, fun _ h => absurd h List.not_mem_nil⟩⟩⟩⟩⟩⟩⟩)) (fun j S h => by cases h) tX12_readWord_ok (cut := (f_cnl [(47, (fun (ls' : fLs) (st' : List Value) (I' : fM) (L' : fN) => ∃ w : Int32, ∃ own : Int64, ∃ more : Int32, (∀ q ∈ ([(4, .int more), (2, .long own), (1, .int w), (0, .ref 0)] : fLs), q ∈ ls') ∧ st' = [] ∧ (mR I' ∧ f_fr [0, 3, 4, 5, 6, 7, 9, 11, 12, 13, 17, 18] I I' ∧ f_fr [0, 16] L L' ∧ f_fo [4, 5, 6, 7, 8] I I' ∧ mL I' ∧ tB I' ∧ (w.toInt = 12 * (I 0 25).toInt + (I 9 (I 0 25).toInt.toNat).toInt) ∧ ((I' 0 7).toInt ≤ 1600) ∧ ((¬ (I 0 4).toInt = 0 → ¬ (I' 0 4).toInt = 0)) ∧ (more.toInt = 0 ∨ more.toInt = 1) ∧ ((more.toInt = 1 → (I' 12 w.toInt.toNat).toInt ≤ 2 ∧ (I' 0 4).toInt = 0)) ∧ (((I' 0 4).toInt = 0 → more.toInt = 1 ∨ 1 ≤ (I' 12 w.toInt.toNat).toInt)) ∧ (((I' 0 4).toInt = 0 → 1 ≤ (I' 12 w.toInt.toNat).toInt → 1 ≤ (I 8 (I 0 25).toInt.toNat).toInt)) ∧ ((I 11 (I 0 25).toInt.toNat).toInt ≤ (I' 11 (I 0 25).toInt.toNat).toInt) ∧ ((I' 11 (I 0 25).toInt.toNat).toInt ≤ (I 11 (I 0 25).toInt.toNat).toInt + 7 * (I' 12 w.toInt.toNat).toInt) ∧ (I' 9 = I 9) ∧ ((∀ k : Nat, ¬ k = w.toInt.toNat → I' 12 k = I 12 k)) ∧ ((∀ t : Nat, ¬ (3 * w.toInt ≤ t ∧ (t : Int) < 3 * w.toInt + 3) → I' 13 t = I 13 t)) ∧ (wR I' w.toInt (I 0 25).toInt) ∧ ((I' 12 w.toInt.toNat).toInt ≤ 3) ∧ (4 - (I' 12 w.toInt.toNat).toInt) < n47)))])) (f_cnl_of (P := fun (tQ : Nat) (P : fLs → List Value → fM → fN → Prop) => ∀ ls' st' I' L', P ls' st' I' L' → f_W pP l eP (f_rm 4) sP mP aP bP hP9 cP mY 71 a cy dC dI 5 (f_K 0 (qX12_readWord [.ref 0] I L)) tQ ls' st' I' L') (List.forall_mem_cons.mpr ⟨(fun ls' st' I' L' h => by obtain ⟨w, own, more, hs, e1, h9⟩ := h; rw [e1]; exact f_W_sub hs (ih47 w own more I' L' h9)), fun _ h => absurd h List.not_mem_nil⟩)) 50 47 (f_seek 47 0 tX12_readWord) (f_seek_ok 47 0 tX12_readWord tX12_readWord_ok) _ _ _ _ ?_
        apply And.intro
        · intro h49
          have h49 : more.toInt = 0 := h49
          refine And.intro (show f_in w 24 from ⟨show 0 ≤ w.toInt from by omega, show w.toInt < 24 from by omega⟩) ?_
          have hG145 := f_fr_up (k := 16) (r := vp_updL (M47 16) (w.toInt.toNat) own) hG47c rfl
          have r151_1 : 0 ≤ (J47 0 25).toInt ∧ (J47 0 25).toInt ≤ 1 := hR47c 0 25
          have e151_2 : (J47 0 25).toInt = (I 0 25).toInt := congrArg Int32.toInt (hO47c 25 rfl)
          refine And.intro (show f_in (J47 0 25) 2 from ⟨show 0 ≤ (J47 0 25).toInt from by omega, show (J47 0 25).toInt < 2 from by omega⟩) ?_
          have r155_3 : 0 ≤ (J47 9 ((J47 0 25).toInt.toNat)).toInt ∧ (J47 9 ((J47 0 25).toInt.toNat)).toInt ≤ 12 := hR47c 9 ((J47 0 25).toInt.toNat)
          have e155_4 : (J47 9 ((J47 0 25).toInt.toNat)).toInt = (J47 9 ((I 0 25).toInt.toNat)).toInt := by rw [(hO47c 25 rfl)]
          have e155_5 : (J47 9 ((I 0 25).toInt.toNat)).toInt = (I 9 ((I 0 25).toInt.toNat)).toInt := congrArg Int32.toInt (congrFun u47_10 ((I 0 25).toInt.toNat))
          have e155 : (J47 9 (J47 0 25).toInt.toNat).toInt = (I 9 (I 0 25).toInt.toNat).toInt := by rw [f47, u47_10]
          intro z157 q157 _ hq157 hl157 hu157
          have hq157 : z157.toInt = (J47 9 ((J47 0 25).toInt.toNat)).toInt + 1 + 4294967296 * q157 := hq157
          try have hz157 : z157.toInt = (J47 9 ((J47 0 25).toInt.toNat)).toInt + 1 := by omega
          refine And.intro (show f_in (J47 0 25) 2 from ⟨show 0 ≤ (J47 0 25).toInt from by omega, show (J47 0 25).toInt < 2 from by omega⟩) ?_
          have hR158 := mR_a (k := 9) (j := (J47 0 25).toInt.toNat) (x := z157) hR47c (show 0 ≤ z157.toInt ∧ z157.toInt ≤ 12 from ⟨by omega, by omega⟩)
          have hF158 := f_fr_up (k := 9) (r := upd (J47 9) ((J47 0 25).toInt.toNat) z157) hF47c rfl
          have hO158 := f_fo_ne (k := 9) (r := upd (J47 9) ((J47 0 25).toInt.toNat) z157) hO47c (by decide)
          have htB158 := f_depo_up tB_dep (k := 9) (r := upd (J47 9) ((J47 0 25).toInt.toNat) z157) htB47c rfl (by decide)
          have hmL158 : mL (va_up J47 9 (upd (J47 9) ((J47 0 25).toInt.toNat) z157)) := mL_u9 hR47c hmL47c (by rw [f47, f48]; omega)
          have y158 : ((upd (J47 9) (J47 0 25).toInt.toNat z157) (I 0 25).toInt.toNat).toInt = z157.toInt := by rw [f47, pk_us]
          exact ⟨hR158, hmL158, htB158, (mQ_word (w := w.toInt) p3 f47 (fun g => by have g : (J47 0 4).toInt = 0 := g; omega) (hF47c 8 rfl) (hF47c 10 rfl) (hF47c 14 rfl) (by show ((upd (J47 9) (J47 0 25).toInt.toNat z157) (I 0 25).toInt.toNat).toInt = _; omega) u47_8 ⟨hb.1, hW⟩ u47_1 u47_11 u47_12 (fun k => (hR 12 k).2) (fun g => by
            have g : (J47 0 4).toInt = 0 := g
            show 1 ≤ (J47 12 w.toInt.toNat).toInt ∧ _
            have h1 := u47_6 g
            have h2 := u47_7 g
            omega) u47_13), hO158, hF158, hG145, (show (J47 0 7).toInt ≤ 1600 from by first | assumption | omega | rfl), (show (¬ (I 0 4).toInt = 0 → ¬ (J47 0 4).toInt = 0) from by first | assumption | omega | rfl), (show ((upd (J47 9) ((J47 0 25).toInt.toNat) z157) (I 0 25).toInt.toNat).toInt = (I 9 (I 0 25).toInt.toNat).toInt + 1 from by first | omega | exact y158.trans (by omega)), (show (J47 11 (I 0 25).toInt.toNat).toInt ≤ (I 11 (I 0 25).toInt.toNat).toInt + 21 from by first | assumption | omega | rfl), (show (upd (J47 9) ((J47 0 25).toInt.toNat) z157) (I 0 24).toInt.toNat = I 9 (I 0 24).toInt.toNat from by rw [f47, pk_un (by omega), u47_10])⟩
        · intro h49
          have h49 : ¬ more.toInt = 0 := h49
          intro z58 q58 _ hq58 hl58 hu58
          have hq58 : z58.toInt = 3 * w.toInt + 4294967296 * q58 := hq58
          try have hz58 : z58.toInt = 3 * w.toInt := by omega
          refine And.intro (show f_in w 24 from ⟨show 0 ≤ w.toInt from by omega, show w.toInt < 24 from by omega⟩) ?_
          have r64_1 : 0 ≤ (J47 12 (w.toInt.toNat)).toInt ∧ (J47 12 (w.toInt.toNat)).toInt ≤ 3 := hR47c 12 (w.toInt.toNat)
          intro z65 q65 _ hq65 hl65 hu65
          have hq65 : z65.toInt = z58.toInt + (J47 12 (w.toInt.toNat)).toInt + 4294967296 * q65 := hq65
          try have hz65 : z65.toInt = z58.toInt + (J47 12 (w.toInt.toNat)).toInt := by omega
          have r67_2 : 0 ≤ (J47 0 7).toInt ∧ (J47 0 7).toInt ≤ 1601 := hR47c 0 7
          have r67_3 : 0 ≤ (J47 0 25).toInt ∧ (J47 0 25).toInt ≤ 1 := hR47c 0 25
          have e67_4 : (J47 0 25).toInt = (I 0 25).toInt := congrArg Int32.toInt (hO47c 25 rfl)
          have r67_5 : 0 ≤ (J47 0 24).toInt ∧ (J47 0 24).toInt ≤ 1 := hR47c 0 24
          have e67_6 : (J47 0 24).toInt = (I 0 24).toInt := congrArg Int32.toInt (hO47c 24 rfl)
          have r67_7 : 0 ≤ (J47 11 ((J47 0 25).toInt.toNat)).toInt ∧ (J47 11 ((J47 0 25).toInt.toNat)).toInt ≤ 260 := hR47c 11 ((J47 0 25).toInt.toNat)
          have e67_8 : (J47 11 ((J47 0 25).toInt.toNat)).toInt = (J47 11 ((I 0 25).toInt.toNat)).toInt := by rw [(hO47c 25 rfl)]
          refine And.intro ⟨hR47c, hmL47c, htB47c, (show (J47 0 7).toInt ≤ 1600 from by first | assumption | omega), (show (J47 0 25).toInt + (J47 0 24).toInt = 1 from by first | assumption | omega | rfl), (show (J47 11 (J47 0 25).toInt.toNat).toInt ≤ 252 from by first | assumption | omega)⟩ ?_
          intro x67 I67 L67 hq67
          have hq67 : mR I67 ∧ mL I67 ∧ tB I67 ∧ f_fo [4, 5, 6, 7, 8] J47 I67 ∧ f_fr [0, 3, 4, 5, 6, 7, 11, 17, 18] J47 I67 ∧ f_fr [0] M47 L67 ∧ (I67 0 7).toInt ≤ 1600 ∧ ((¬ (J47 0 4).toInt = 0 → ¬ (I67 0 4).toInt = 0)) ∧ (J47 11 (J47 0 25).toInt.toNat).toInt ≤ (I67 11 (J47 0 25).toInt.toNat).toInt ∧ (I67 11 (J47 0 25).toInt.toNat).toInt ≤ (J47 11 (J47 0 25).toInt.toNat).toInt + 7 ∧ (((I67 0 4).toInt = 0 → 260 * (J47 0 25).toInt ≤ x67.toInt ∧ x67.toInt < 260 * (J47 0 25).toInt + (I67 11 (J47 0 25).toInt.toNat).toInt ∧ 1 ≤ (J47 8 (J47 0 25).toInt.toNat).toInt)) ∧ -1 ≤ x67.toInt ∧ x67.toInt ≤ 1599 := hq67
          obtain ⟨c67_0, c67_1, c67_2, c67_3, c67_4, c67_5, c67_6, c67_7, c67_8, c67_9, c67_10, c67_11, c67_12⟩ := hq67
          have hO67 := f_fo_tr hO47c c67_3 rfl
          have hF67 := f_fr_tr hF47c c67_4 rfl
          have r67_9 : 0 ≤ (I67 11 ((J47 0 25).toInt.toNat)).toInt ∧ (I67 11 ((J47 0 25).toInt.toNat)).toInt ≤ 260 := c67_0 11 ((J47 0 25).toInt.toNat)
          have e67_10 : (I67 11 ((J47 0 25).toInt.toNat)).toInt = (I67 11 ((I 0 25).toInt.toNat)).toInt := by rw [(hO47c 25 rfl)]
          have e67_12 : (J47 8 ((J47 0 25).toInt.toNat)).toInt = (J47 8 ((I 0 25).toInt.toNat)).toInt := by rw [(hO47c 25 rfl)]
          have e67_13 : (J47 8 ((I 0 25).toInt.toNat)).toInt = (I 8 ((I 0 25).toInt.toNat)).toInt := congrArg Int32.toInt (congrFun (hF47c 8 rfl) ((I 0 25).toInt.toNat))
          have hG67 := f_fr_tr hG47c c67_5 rfl
          rw [f47] at c67_8 c67_9 c67_10
          rw [hF47c 8 rfl] at c67_10
          have r67 : I67 12 = J47 12 := c67_4 12 rfl
          refine And.intro (show f_in z65 72 from ⟨show 0 ≤ z65.toInt from by omega, show z65.toInt < 72 from by omega⟩) ?_
          have hR70 := mR_a (k := 13) (j := z65.toInt.toNat) (x := x67) c67_0 (show -1 ≤ x67.toInt ∧ x67.toInt ≤ 1599 from ⟨by omega, by omega⟩)
          have hF70 := f_fr_up (k := 13) (r := upd (I67 13) (z65.toInt.toNat) x67) hF67 rfl
          have hO70 := f_fo_ne (k := 13) (r := upd (I67 13) (z65.toInt.toNat) x67) hO67 (by decide)
          have htB70 := f_depo_up tB_dep (k := 13) (r := upd (I67 13) (z65.toInt.toNat) x67) c67_2 rfl (by decide)
          have hmL70 : mL (va_up I67 13 (upd (I67 13) (z65.toInt.toNat) x67)) := mL_u13 c67_0 c67_1 (by rw [hO67 24 rfl]; omega)
          refine And.intro (show f_in w 24 from ⟨show 0 ≤ w.toInt from by omega, show w.toInt < 24 from by omega⟩) ?_
          have r77_14 : 0 ≤ (I67 12 (w.toInt.toNat)).toInt ∧ (I67 12 (w.toInt.toNat)).toInt ≤ 3 := hR70 12 (w.toInt.toNat)
          have e77_15 : (I67 12 (w.toInt.toNat)).toInt = (J47 12 (w.toInt.toNat)).toInt := congrArg Int32.toInt (congrFun (c67_4 12 rfl) (w.toInt.toNat))
          have e77 : (I67 12 w.toInt.toNat).toInt = (J47 12 w.toInt.toNat).toInt := by rw [r67]
          intro z79 q79 _ hq79 hl79 hu79
          have hq79 : z79.toInt = (I67 12 (w.toInt.toNat)).toInt + 1 + 4294967296 * q79 := hq79
          try have hz79 : z79.toInt = (I67 12 (w.toInt.toNat)).toInt + 1 := by omega
          refine And.intro (show f_in w 24 from ⟨show 0 ≤ w.toInt from by omega, show w.toInt < 24 from by omega⟩) ?_
          have hR80 := mR_a (k := 12) (j := w.toInt.toNat) (x := z79) hR70 (show 0 ≤ z79.toInt ∧ z79.toInt ≤ 3 from ⟨by omega, by omega⟩)
          have hF80 := f_fr_up (k := 12) (r := upd (I67 12) (w.toInt.toNat) z79) hF70 rfl
          have hO80 := f_fo_ne (k := 12) (r := upd (I67 12) (w.toInt.toNat) z79) hO70 (by decide)
          have htB80 := f_depo_up tB_dep (k := 12) (r := upd (I67 12) (w.toInt.toNat) z79) htB70 rfl (by decide)
          have hmL80 : mL (va_up (va_up I67 13 (upd (I67 13) (z65.toInt.toNat) x67)) 12 (upd (I67 12) (w.toInt.toNat) z79)) := mL_u12 hR70 hmL70 (by show ¬ (12 * (I67 0 24).toInt ≤ _ ∧ _ < 12 * (I67 0 24).toInt + 12); rw [hO67 24 rfl]; omega)
          have z80 : ((upd (I67 12) w.toInt.toNat z79) w.toInt.toNat).toInt = z79.toInt := by rw [pk_us]
          have k80 : ∀ k : Nat, ¬ k = w.toInt.toNat → (upd (I67 12) w.toInt.toNat z79) k = I 12 k := fun k hk => by rw [pk_un hk, r67]; exact u47_11 k hk
          have t80 : ∀ t : Nat, ¬ (3 * w.toInt ≤ t ∧ (t : Int) < 3 * w.toInt + 3) → (upd (I67 13) z65.toInt.toNat x67) t = I 13 t := fun t ht => by rw [pk_un (by omega), c67_4 13 rfl]; exact u47_12 t ht
          have n80 : I67 9 = I 9 := (c67_4 9 rfl).trans u47_10
          have v80 : wR (va_up (va_up I67 13 (upd (I67 13) (z65.toInt.toNat) x67)) 12 (upd (I67 12) (w.toInt.toNat) z79)) w.toInt (I 0 25).toInt := fun g t a b => by
            have g : (I67 0 4).toInt = 0 := g
            have b : (t : Int) < 3 * w.toInt + ((upd (I67 12) w.toInt.toNat z79) w.toInt.toNat).toInt := b
            have x := c67_10 g
            show 260 * (I 0 25).toInt ≤ ((upd (I67 13) z65.toInt.toNat x67) t).toInt ∧ ((upd (I67 13) z65.toInt.toNat x67) t).toInt < 260 * (I 0 25).toInt + (I67 11 (I 0 25).toInt.toNat).toInt
            by_cases q : t = z65.toInt.toNat
            · rw [q, pk_us]; exact ⟨x.1, x.2.1⟩
            · rw [pk_un q, c67_4 13 rfl]
              have := u47_13 (by omega) t a (by omega)
              omega
          refine And.intro trivial ?_
          intro x82 I82 L82 hq82
          have hq82 : I82 = (va_up (va_up I67 13 (upd (I67 13) (z65.toInt.toNat) x67)) 12 (upd (I67 12) (w.toInt.toNat) z79)) ∧ L82 = L67 ∧ ((x82.toInt = 1 ∧ (I67 0 4).toInt = 0 ∨ x82.toInt = 0 ∧ ¬ (I67 0 4).toInt = 0)) := hq82
          obtain ⟨eI82, eL82, c82_2⟩ := hq82
          replace eI82 := eI82.symm
          subst eI82
          replace eL82 := eL82.symm
          subst eL82
          apply And.intro
          · intro h85
            have h85 : x82.toInt = 0 := h85
            apply And.intro
            · intro h107
              have h107 : (0 : Int) = 0 := h107
              apply And.intro
              · intro h129
                have h129 : (0 : Int) = 0 := h129
                exact ⟨w, own, Int32.ofInt 0, (by intro q9 h9; simp only [List.mem_cons, List.not_mem_nil, or_false] at h9; rcases h9 with h9 | h9 | h9 | h9 <;> subst h9 <;> repeat (first | exact List.mem_cons_self | apply List.mem_cons_of_mem)), rfl, hR80, hF80, hG67, hO80, hmL80, htB80, (show w.toInt = 12 * (I 0 25).toInt + (I 9 (I 0 25).toInt.toNat).toInt from by first | assumption | omega | rfl), (show (I67 0 7).toInt ≤ 1600 from by first | assumption | omega), (show (¬ (I 0 4).toInt = 0 → ¬ (I67 0 4).toInt = 0) from by first | assumption | omega | rfl), (show (0 : Int) = 0 ∨ (0 : Int) = 1 from by first | assumption | omega | rfl), (show ((0 : Int) = 1 → ((upd (I67 12) (w.toInt.toNat) z79) w.toInt.toNat).toInt ≤ 2 ∧ (I67 0 4).toInt = 0) from by first | assumption | omega | rfl), (show ((I67 0 4).toInt = 0 → (0 : Int) = 1 ∨ 1 ≤ ((upd (I67 12) (w.toInt.toNat) z79) w.toInt.toNat).toInt) from by first | assumption | omega | rfl), (show ((I67 0 4).toInt = 0 → 1 ≤ ((upd (I67 12) (w.toInt.toNat) z79) w.toInt.toNat).toInt → 1 ≤ (I 8 (I 0 25).toInt.toNat).toInt) from by first | assumption | omega | rfl), (show (I 11 (I 0 25).toInt.toNat).toInt ≤ (I67 11 (I 0 25).toInt.toNat).toInt from by first | assumption | omega), (show (I67 11 (I 0 25).toInt.toNat).toInt ≤ (I 11 (I 0 25).toInt.toNat).toInt + 7 * ((upd (I67 12) (w.toInt.toNat) z79) w.toInt.toNat).toInt from by first | assumption | omega), (show I67 9 = I 9 from by first | assumption | exact ((c67_4 9 rfl).trans u47_10)), (show (∀ k : Nat, ¬ k = w.toInt.toNat → (upd (I67 12) (w.toInt.toNat) z79) k = I 12 k) from by first | assumption | omega | exact fun _ _ => rfl | exact fun _ _ => ⟨rfl, rfl⟩ | exact fun _ _ => ⟨rfl, rfl, rfl⟩ | (intro j9 hj9; omega)), (show (∀ t : Nat, ¬ (3 * w.toInt ≤ t ∧ (t : Int) < 3 * w.toInt + 3) → (upd (I67 13) (z65.toInt.toNat) x67) t = I 13 t) from by first | assumption | omega | exact fun _ _ => rfl | exact fun _ _ => ⟨rfl, rfl⟩ | exact fun _ _ => ⟨rfl, rfl, rfl⟩ | (intro j9 hj9; omega)), (show wR (va_up (va_up I67 13 (upd (I67 13) (z65.toInt.toNat) x67)) 12 (upd (I67 12) (w.toInt.toNat) z79)) w.toInt (I 0 25).toInt from by first | assumption | omega), (show ((upd (I67 12) (w.toInt.toNat) z79) w.toInt.toNat).toInt ≤ 3 from by first | assumption | omega), (show (4 - ((upd (I67 12) (w.toInt.toNat) z79) w.toInt.toNat).toInt) < n47 from by omega)⟩
              · intro h129
                have h129 : ¬ (0 : Int) = 0 := h129
                exfalso
                omega
            · intro h107
              have h107 : ¬ (0 : Int) = 0 := h107
              exfalso
              omega
          · intro h85
            have h85 : ¬ x82.toInt = 0 := h85
            refine And.intro trivial ?_
            intro x92 I92 L92 hq92
            have hq92 : I92 = (va_up (va_up I67 13 (upd (I67 13) (z65.toInt.toNat) x67)) 12 (upd (I67 12) (w.toInt.toNat) z79)) ∧ L92 = L67 ∧ ((x92.toInt = 0 ∨ x92.toInt = 1 ∧ (I67 0 8).toInt = 3 ∧ (lg_cmp (L67 0 9) (28530 : Int64)).toInt = 0)) := hq92
            obtain ⟨eI92, eL92, c92_2⟩ := hq92
            replace eI92 := eI92.symm
            subst eI92
            replace eL92 := eL92.symm
            subst eL92
            apply And.intro
            · intro h95
              have h95 : x92.toInt = 0 := h95
              apply And.intro
              · intro h107
                have h107 : (0 : Int) = 0 := h107
                apply And.intro
                · intro h129
                  have h129 : (0 : Int) = 0 := h129
                  exact ⟨w, own, Int32.ofInt 0, (by intro q9 h9; simp only [List.mem_cons, List.not_mem_nil, or_false] at h9; rcases h9 with h9 | h9 | h9 | h9 <;> subst h9 <;> repeat (first | exact List.mem_cons_self | apply List.mem_cons_of_mem)), rfl, hR80, hF80, hG67, hO80, hmL80, htB80, (show w.toInt = 12 * (I 0 25).toInt + (I 9 (I 0 25).toInt.toNat).toInt from by first | assumption | omega | rfl), (show (I67 0 7).toInt ≤ 1600 from by first | assumption | omega), (show (¬ (I 0 4).toInt = 0 → ¬ (I67 0 4).toInt = 0) from by first | assumption | omega | rfl), (show (0 : Int) = 0 ∨ (0 : Int) = 1 from by first | assumption | omega | rfl), (show ((0 : Int) = 1 → ((upd (I67 12) (w.toInt.toNat) z79) w.toInt.toNat).toInt ≤ 2 ∧ (I67 0 4).toInt = 0) from by first | assumption | omega | rfl), (show ((I67 0 4).toInt = 0 → (0 : Int) = 1 ∨ 1 ≤ ((upd (I67 12) (w.toInt.toNat) z79) w.toInt.toNat).toInt) from by first | assumption | omega | rfl), (show ((I67 0 4).toInt = 0 → 1 ≤ ((upd (I67 12) (w.toInt.toNat) z79) w.toInt.toNat).toInt → 1 ≤ (I 8 (I 0 25).toInt.toNat).toInt) from by first | assumption | omega | rfl), (show (I 11 (I 0 25).toInt.toNat).toInt ≤ (I67 11 (I 0 25).toInt.toNat).toInt from by first | assumption | omega), (show (I67 11 (I 0 25).toInt.toNat).toInt ≤ (I 11 (I 0 25).toInt.toNat).toInt + 7 * ((upd (I67 12) (w.toInt.toNat) z79) w.toInt.toNat).toInt from by first | assumption | omega), (show I67 9 = I 9 from by first | assumption | exact ((c67_4 9 rfl).trans u47_10)), (show (∀ k : Nat, ¬ k = w.toInt.toNat → (upd (I67 12) (w.toInt.toNat) z79) k = I 12 k) from by first | assumption | omega | exact fun _ _ => rfl | exact fun _ _ => ⟨rfl, rfl⟩ | exact fun _ _ => ⟨rfl, rfl, rfl⟩ | (intro j9 hj9; omega)), (show (∀ t : Nat, ¬ (3 * w.toInt ≤ t ∧ (t : Int) < 3 * w.toInt + 3) → (upd (I67 13) (z65.toInt.toNat) x67) t = I 13 t) from by first | assumption | omega | exact fun _ _ => rfl | exact fun _ _ => ⟨rfl, rfl⟩ | exact fun _ _ => ⟨rfl, rfl, rfl⟩ | (intro j9 hj9; omega)), (show wR (va_up (va_up I67 13 (upd (I67 13) (z65.toInt.toNat) x67)) 12 (upd (I67 12) (w.toInt.toNat) z79)) w.toInt (I 0 25).toInt from by first | assumption | omega), (show ((upd (I67 12) (w.toInt.toNat) z79) w.toInt.toNat).toInt ≤ 3 from by first | assumption | omega), (show (4 - ((upd (I67 12) (w.toInt.toNat) z79) w.toInt.toNat).toInt) < n47 from by omega)⟩
                · intro h129
                  have h129 : ¬ (0 : Int) = 0 := h129
                  exfalso
                  omega
              · intro h107
                have h107 : ¬ (0 : Int) = 0 := h107
                exfalso
                omega
            · intro h95
              have h95 : ¬ x92.toInt = 0 := h95
              apply And.intro
              · intro h107
                have h107 : (1 : Int) = 0 := h107
                exfalso
                omega
              · intro h107
                have h107 : ¬ (1 : Int) = 0 := h107
                refine And.intro (show f_in w 24 from ⟨show 0 ≤ w.toInt from by omega, show w.toInt < 24 from by omega⟩) ?_
                have r115_16 : 0 ≤ ((upd (I67 12) (w.toInt.toNat) z79) (w.toInt.toNat)).toInt ∧ ((upd (I67 12) (w.toInt.toNat) z79) (w.toInt.toNat)).toInt ≤ 3 := hR80 12 (w.toInt.toNat)
                apply And.intro
                · intro h117
                  have h117 : ¬ ((upd (I67 12) (w.toInt.toNat) z79) (w.toInt.toNat)).toInt = 3 := h117
                  apply And.intro
                  · intro h129
                    have h129 : (1 : Int) = 0 := h129
                    exfalso
                    omega
                  · intro h129
                    have h129 : ¬ (1 : Int) = 0 := h129
                    refine And.intro ⟨hR80, (show (I67 0 7).toInt ≤ 1600 from by first | assumption | omega)⟩ ?_
                    intro I133 L133 hq133
                    have hq133 : mR I133 ∧ f_fo [6, 7, 8] (va_up (va_up I67 13 (upd (I67 13) (z65.toInt.toNat) x67)) 12 (upd (I67 12) (w.toInt.toNat) z79)) I133 ∧ f_fr [0] (va_up (va_up I67 13 (upd (I67 13) (z65.toInt.toNat) x67)) 12 (upd (I67 12) (w.toInt.toNat) z79)) I133 ∧ f_fr [0] L67 L133 ∧ (I133 0 7).toInt ≤ 1600 := hq133
                    obtain ⟨c133_0, c133_1, c133_2, c133_3, c133_4⟩ := hq133
                    have hO133 := f_fo_tr hO80 c133_1 rfl
                    have hmL133 := f_depo_fo mL_dep hmL80 c133_2 c133_1 rfl rfl
                    have htB133 := f_depo_fo tB_dep htB80 c133_2 c133_1 rfl rfl
                    have hF133 := f_fr_tr hF80 c133_2 rfl
                    have hG133 := f_fr_tr hG67 c133_3 rfl
                    have k133 : ∀ k : Nat, ¬ k = w.toInt.toNat → I133 12 k = I 12 k := by rw [c133_2 12 rfl]; exact k80
                    have t133 : ∀ t : Nat, ¬ (3 * w.toInt ≤ t ∧ (t : Int) < 3 * w.toInt + 3) → I133 13 t = I 13 t := by rw [c133_2 13 rfl]; exact t80
                    have n133 : I133 9 = I 9 := (c133_2 9 rfl).trans n80
                    have z133 : (I133 12 w.toInt.toNat).toInt = z79.toInt := by rw [c133_2 12 rfl]; exact z80
                    have v133 : wR I133 w.toInt (I 0 25).toInt := wR_eq (fun g => by have e : (I133 0 4).toInt = (I67 0 4).toInt := congrArg Int32.toInt (c133_1 4 rfl); show (I67 0 4).toInt = 0; omega) (c133_2 11 rfl) (c133_2 12 rfl) (c133_2 13 rfl) v80
                    have r47_18 : 0 ≤ (I133 0 7).toInt ∧ (I133 0 7).toInt ≤ 1601 := c133_0 0 7
                    have e47_20 : (I133 0 4).toInt = (I67 0 4).toInt := congrArg Int32.toInt (c133_1 4 rfl)
                    have r47_21 : 0 ≤ (I133 12 (w.toInt.toNat)).toInt ∧ (I133 12 (w.toInt.toNat)).toInt ≤ 3 := c133_0 12 (w.toInt.toNat)
                    have e47_22 : (I133 12 (w.toInt.toNat)).toInt = ((upd (I67 12) (w.toInt.toNat) z79) (w.toInt.toNat)).toInt := congrArg Int32.toInt (congrFun (c133_2 12 rfl) (w.toInt.toNat))
                    have r47_23 : 0 ≤ (I133 11 ((I 0 25).toInt.toNat)).toInt ∧ (I133 11 ((I 0 25).toInt.toNat)).toInt ≤ 260 := c133_0 11 ((I 0 25).toInt.toNat)
                    have e47_24 : (I133 11 ((I 0 25).toInt.toNat)).toInt = (I67 11 ((I 0 25).toInt.toNat)).toInt := congrArg Int32.toInt (congrFun (c133_2 11 rfl) ((I 0 25).toInt.toNat))
                    exact ⟨w, own, Int32.ofInt 1, (by intro q9 h9; simp only [List.mem_cons, List.not_mem_nil, or_false] at h9; rcases h9 with h9 | h9 | h9 | h9 <;> subst h9 <;> repeat (first | exact List.mem_cons_self | apply List.mem_cons_of_mem)), rfl, c133_0, hF133, hG133, hO133, hmL133, htB133, (show w.toInt = 12 * (I 0 25).toInt + (I 9 (I 0 25).toInt.toNat).toInt from by first | assumption | omega | rfl), (show (I133 0 7).toInt ≤ 1600 from by first | assumption | omega), (show (¬ (I 0 4).toInt = 0 → ¬ (I133 0 4).toInt = 0) from by first | assumption | omega | rfl), (show (1 : Int) = 0 ∨ (1 : Int) = 1 from by first | assumption | omega | rfl), (show ((1 : Int) = 1 → (I133 12 w.toInt.toNat).toInt ≤ 2 ∧ (I133 0 4).toInt = 0) from by first | assumption | omega | rfl), (show ((I133 0 4).toInt = 0 → (1 : Int) = 1 ∨ 1 ≤ (I133 12 w.toInt.toNat).toInt) from by first | assumption | omega | rfl), (show ((I133 0 4).toInt = 0 → 1 ≤ (I133 12 w.toInt.toNat).toInt → 1 ≤ (I 8 (I 0 25).toInt.toNat).toInt) from by first | assumption | omega | rfl), (show (I 11 (I 0 25).toInt.toNat).toInt ≤ (I133 11 (I 0 25).toInt.toNat).toInt from by first | assumption | omega), (show (I133 11 (I 0 25).toInt.toNat).toInt ≤ (I 11 (I 0 25).toInt.toNat).toInt + 7 * (I133 12 w.toInt.toNat).toInt from by first | assumption | omega), (show I133 9 = I 9 from by first | assumption | exact ((c133_2 9 rfl).trans ((c67_4 9 rfl).trans u47_10))), (show (∀ k : Nat, ¬ k = w.toInt.toNat → I133 12 k = I 12 k) from by first | assumption | omega | exact fun _ _ => rfl | exact fun _ _ => ⟨rfl, rfl⟩ | exact fun _ _ => ⟨rfl, rfl, rfl⟩ | (intro j9 hj9; omega)), (show (∀ t : Nat, ¬ (3 * w.toInt ≤ t ∧ (t : Int) < 3 * w.toInt + 3) → I133 13 t = I 13 t) from by first | assumption | omega | exact fun _ _ => rfl | exact fun _ _ => ⟨rfl, rfl⟩ | exact fun _ _ => ⟨rfl, rfl, rfl⟩ | (intro j9 hj9; omega)), (show wR I133 w.toInt (I 0 25).toInt from by first | assumption | omega), (show (I133 12 w.toInt.toNat).toInt ≤ 3 from by first | assumption | omega), (show (4 - (I133 12 w.toInt.toNat).toInt) < n47 from by omega)⟩
                · intro h117
                  have h117 : ((upd (I67 12) (w.toInt.toNat) z79) (w.toInt.toNat)).toInt = 3 := h117
                  refine And.intro hR80 ?_
                  intro I121 L121 hq121
                  have hq121 : mR I121 ∧ f_fo [4, 5] (va_up (va_up I67 13 (upd (I67 13) (z65.toInt.toNat) x67)) 12 (upd (I67 12) (w.toInt.toNat) z79)) I121 ∧ f_fr [0] (va_up (va_up I67 13 (upd (I67 13) (z65.toInt.toNat) x67)) 12 (upd (I67 12) (w.toInt.toNat) z79)) I121 ∧ L121 = L67 ∧ 1 ≤ (I121 0 4).toInt := hq121
                  obtain ⟨c121_0, c121_1, c121_2, eL121, c121_4⟩ := hq121
                  replace eL121 := eL121.symm
                  subst eL121
                  have hO121 := f_fo_tr hO80 c121_1 rfl
                  have hmL121 := f_depo_fo mL_dep hmL80 c121_2 c121_1 rfl rfl
                  have htB121 := f_depo_fo tB_dep htB80 c121_2 c121_1 rfl rfl
                  have hF121 := f_fr_tr hF80 c121_2 rfl
                  have k121 : ∀ k : Nat, ¬ k = w.toInt.toNat → I121 12 k = I 12 k := by rw [c121_2 12 rfl]; exact k80
                  have t121 : ∀ t : Nat, ¬ (3 * w.toInt ≤ t ∧ (t : Int) < 3 * w.toInt + 3) → I121 13 t = I 13 t := by rw [c121_2 13 rfl]; exact t80
                  have n121 : I121 9 = I 9 := (c121_2 9 rfl).trans n80
                  have z121 : (I121 12 w.toInt.toNat).toInt = z79.toInt := by rw [c121_2 12 rfl]; exact z80
                  have v121 : wR I121 w.toInt (I 0 25).toInt := fun g => by omega
                  apply And.intro
                  · intro h129
                    have h129 : (0 : Int) = 0 := h129
                    have r47_17 : 0 ≤ (I121 0 7).toInt ∧ (I121 0 7).toInt ≤ 1601 := c121_0 0 7
                    have e47_18 : (I121 0 7).toInt = (I67 0 7).toInt := congrArg Int32.toInt (c121_1 7 rfl)
                    have r47_20 : 0 ≤ (I121 12 (w.toInt.toNat)).toInt ∧ (I121 12 (w.toInt.toNat)).toInt ≤ 3 := c121_0 12 (w.toInt.toNat)
                    have e47_21 : (I121 12 (w.toInt.toNat)).toInt = ((upd (I67 12) (w.toInt.toNat) z79) (w.toInt.toNat)).toInt := congrArg Int32.toInt (congrFun (c121_2 12 rfl) (w.toInt.toNat))
                    have r47_22 : 0 ≤ (I121 11 ((I 0 25).toInt.toNat)).toInt ∧ (I121 11 ((I 0 25).toInt.toNat)).toInt ≤ 260 := c121_0 11 ((I 0 25).toInt.toNat)
                    have e47_23 : (I121 11 ((I 0 25).toInt.toNat)).toInt = (I67 11 ((I 0 25).toInt.toNat)).toInt := congrArg Int32.toInt (congrFun (c121_2 11 rfl) ((I 0 25).toInt.toNat))
                    exact ⟨w, own, Int32.ofInt 0, (by intro q9 h9; simp only [List.mem_cons, List.not_mem_nil, or_false] at h9; rcases h9 with h9 | h9 | h9 | h9 <;> subst h9 <;> repeat (first | exact List.mem_cons_self | apply List.mem_cons_of_mem)), rfl, c121_0, hF121, hG67, hO121, hmL121, htB121, (show w.toInt = 12 * (I 0 25).toInt + (I 9 (I 0 25).toInt.toNat).toInt from by first | assumption | omega | rfl), (show (I121 0 7).toInt ≤ 1600 from by first | assumption | omega), (show (¬ (I 0 4).toInt = 0 → ¬ (I121 0 4).toInt = 0) from by first | assumption | omega | rfl), (show (0 : Int) = 0 ∨ (0 : Int) = 1 from by first | assumption | omega | rfl), (show ((0 : Int) = 1 → (I121 12 w.toInt.toNat).toInt ≤ 2 ∧ (I121 0 4).toInt = 0) from by first | assumption | omega | rfl), (show ((I121 0 4).toInt = 0 → (0 : Int) = 1 ∨ 1 ≤ (I121 12 w.toInt.toNat).toInt) from by first | assumption | omega | rfl), (show ((I121 0 4).toInt = 0 → 1 ≤ (I121 12 w.toInt.toNat).toInt → 1 ≤ (I 8 (I 0 25).toInt.toNat).toInt) from by first | assumption | omega | rfl), (show (I 11 (I 0 25).toInt.toNat).toInt ≤ (I121 11 (I 0 25).toInt.toNat).toInt from by first | assumption | omega), (show (I121 11 (I 0 25).toInt.toNat).toInt ≤ (I 11 (I 0 25).toInt.toNat).toInt + 7 * (I121 12 w.toInt.toNat).toInt from by first | assumption | omega), (show I121 9 = I 9 from by first | assumption | exact ((c121_2 9 rfl).trans ((c67_4 9 rfl).trans u47_10))), (show (∀ k : Nat, ¬ k = w.toInt.toNat → I121 12 k = I 12 k) from by first | assumption | omega | exact fun _ _ => rfl | exact fun _ _ => ⟨rfl, rfl⟩ | exact fun _ _ => ⟨rfl, rfl, rfl⟩ | (intro j9 hj9; omega)), (show (∀ t : Nat, ¬ (3 * w.toInt ≤ t ∧ (t : Int) < 3 * w.toInt + 3) → I121 13 t = I 13 t) from by first | assumption | omega | exact fun _ _ => rfl | exact fun _ _ => ⟨rfl, rfl⟩ | exact fun _ _ => ⟨rfl, rfl, rfl⟩ | (intro j9 hj9; omega)), (show wR I121 w.toInt (I 0 25).toInt from by first | assumption | omega), (show (I121 12 w.toInt.toNat).toInt ≤ 3 from by first | assumption | omega), (show (4 - (I121 12 w.toInt.toNat).toInt) < n47 from by omega)⟩
                  · intro h129
                    have h129 : ¬ (0 : Int) = 0 := h129
                    exfalso
                    omega
    refine f_wp_ok C f_cl flX12_ok fiX12_ok fjX12_ok (sn := none) (fun j h => by cases h) (cs := (f_cnl [(318, (1, 2, 11, pX12_freshb, qX12_freshb)), (312, (2, 3, 11, pX12_isWordb, qX12_isWordb)), (332, (2, 0, 11, pX12_mustb, qX12_mustb)), (281, (1, 3, 11, pX12_isGood, qX12_isGood)), (322, (1, 1, 11, pX12_readT, qX12_readT)), (288, (1, 0, 11, pX12_misplaced, qX12_misplaced)), (285, (1, 0, 11, pX12_goOn, qX12_goOn))])) (cz := (fun _ => none)) (f_cnl_of (P := fun j S => f_cok pP l eP (f_rm 4) sP mP aP bP hP9 cP mY 71 a cy dC dI 5 _ _ (.invokevirtual j) true S) (List.forall_mem_cons.mpr ⟨f_cokV C (mX12_freshb hinj) (ci := 11) rfl (List.forall_mem_cons.mpr ⟨(mlX12_ok _ (List.mem_of_getElem? (i := 14) rfl)), kc_X12_fresh⟩) (by decide +kernel) ⟨Nat.le_of_ble_eq_true rfl, Nat.le_of_ble_eq_true rfl⟩, List.forall_mem_cons.mpr ⟨f_cokV C (mX12_isWordb hinj) (ci := 11) rfl (List.forall_mem_cons.mpr ⟨(mlX12_ok _ (List.mem_of_getElem? (i := 12) rfl)), kc_X12_isWord⟩) (by decide +kernel) ⟨Nat.le_of_ble_eq_true rfl, Nat.le_of_ble_eq_true rfl⟩, List.forall_mem_cons.mpr ⟨f_cokV C (mX12_mustb hinj) (ci := 11) rfl (List.forall_mem_cons.mpr ⟨(mlX12_ok _ (List.mem_of_getElem? (i := 18) rfl)), kc_X12_must⟩) (by decide +kernel) ⟨Nat.le_of_ble_eq_true rfl, Nat.le_of_ble_eq_true rfl⟩, List.forall_mem_cons.mpr ⟨f_cokV C (mX12_isGood hinj) (ci := 11) rfl (List.forall_mem_cons.mpr ⟨(mlX12_ok _ (List.mem_of_getElem? (i := 7) rfl)), kc_X12_isGood⟩) (by decide +kernel) ⟨Nat.le_of_ble_eq_true rfl, Nat.le_of_ble_eq_true rfl⟩, List.forall_mem_cons.mpr ⟨f_cokV C (mX12_readT hinj) (ci := 11) rfl (List.forall_mem_cons.mpr ⟨(mlX12_ok _ (List.mem_of_getElem? (i := 15) rfl)), kc_X12_readT⟩) (by decide +kernel) ⟨Nat.le_of_ble_eq_true rfl, Nat.le_of_ble_eq_true rfl⟩, List.forall_mem_cons.mpr ⟨f_cokV C (mX12_misplaced hinj) (ci := 11) rfl (List.forall_mem_cons.mpr ⟨(mlX12_ok _ (List.mem_of_getElem? (i := 9) rfl)), kc_X12_misplaced⟩) (by decide +kernel) ⟨Nat.le_of_ble_eq_true rfl, Nat.le_of_ble_eq_true rfl⟩, List.forall_mem_cons.mpr ⟨f_cokV C (mX12_goOn hinj) (ci := 11) rfl (List.forall_mem_cons.mpr ⟨(mlX12_ok _ (List.mem_of_getElem? (i := 8) rfl)), kc_X12_goOn⟩) (by decide +kernel) ⟨Nat.le_of_ble_eq_true rfl, Nat.le_of_ble_eq_true rfl⟩, fun _ h => absurd h List.not_mem_nil⟩⟩⟩⟩⟩⟩⟩)) (fun j S h => by cases h) tX12_readWord_ok (cut := (f_cnl [(47, (fun (ls' : fLs) (st' : List Value) (I' : fM) (L' : fN) => ∃ w : Int32, ∃ own : Int64, ∃ more : Int32, (∀ q ∈ ([(4, .int more), (2, .long own), (1, .int w), (0, .ref 0)] : fLs), q ∈ ls') ∧ st' = [] ∧ (mR I' ∧ f_fr [0, 3, 4, 5, 6, 7, 9, 11, 12, 13, 17, 18] I I' ∧ f_fr [0, 16] L L' ∧ f_fo [4, 5, 6, 7, 8] I I' ∧ mL I' ∧ tB I' ∧ (w.toInt = 12 * (I 0 25).toInt + (I 9 (I 0 25).toInt.toNat).toInt) ∧ ((I' 0 7).toInt ≤ 1600) ∧ ((¬ (I 0 4).toInt = 0 → ¬ (I' 0 4).toInt = 0)) ∧ (more.toInt = 0 ∨ more.toInt = 1) ∧ ((more.toInt = 1 → (I' 12 w.toInt.toNat).toInt ≤ 2 ∧ (I' 0 4).toInt = 0)) ∧ (((I' 0 4).toInt = 0 → more.toInt = 1 ∨ 1 ≤ (I' 12 w.toInt.toNat).toInt)) ∧ (((I' 0 4).toInt = 0 → 1 ≤ (I' 12 w.toInt.toNat).toInt → 1 ≤ (I 8 (I 0 25).toInt.toNat).toInt)) ∧ ((I 11 (I 0 25).toInt.toNat).toInt ≤ (I' 11 (I 0 25).toInt.toNat).toInt) ∧ ((I' 11 (I 0 25).toInt.toNat).toInt ≤ (I 11 (I 0 25).toInt.toNat).toInt + 7 * (I' 12 w.toInt.toNat).toInt) ∧ (I' 9 = I 9) ∧ ((∀ k : Nat, ¬ k = w.toInt.toNat → I' 12 k = I 12 k)) ∧ ((∀ t : Nat, ¬ (3 * w.toInt ≤ t ∧ (t : Int) < 3 * w.toInt + 3) → I' 13 t = I 13 t)) ∧ (wR I' w.toInt (I 0 25).toInt) ∧ ((I' 12 w.toInt.toNat).toInt ≤ 3) ∧ (4 - (I' 12 w.toInt.toNat).toInt) < 5)))])) (f_cnl_of (P := fun (tQ : Nat) (P : fLs → List Value → fM → fN → Prop) => ∀ ls' st' I' L', P ls' st' I' L' → f_W pP l eP (f_rm 4) sP mP aP bP hP9 cP mY 71 a cy dC dI 5 (f_K 0 (qX12_readWord [.ref 0] I L)) tQ ls' st' I' L') (List.forall_mem_cons.mpr ⟨(fun ls' st' I' L' h => by obtain ⟨w, own, more, hs, e1, h9⟩ := h; rw [e1]; exact f_W_sub hs (lp47 5 w own more I' L' h9)), fun _ h => absurd h List.not_mem_nil⟩)) 30 0 tX12_readWord tX12_readWord_ok _ _ _ _ ?_
    have r3_1 : 0 ≤ (I 0 25).toInt ∧ (I 0 25).toInt ≤ 1 := hR 0 25
    intro z6 q6 _ hq6 hl6 hu6
    have hq6 : z6.toInt = 12 * (I 0 25).toInt + 4294967296 * q6 := hq6
    try have hz6 : z6.toInt = 12 * (I 0 25).toInt := by omega
    refine And.intro (show f_in (I 0 25) 2 from ⟨show 0 ≤ (I 0 25).toInt from by omega, show (I 0 25).toInt < 2 from by omega⟩) ?_
    have r15_2 : 0 ≤ (I 9 ((I 0 25).toInt.toNat)).toInt ∧ (I 9 ((I 0 25).toInt.toNat)).toInt ≤ 12 := hR 9 ((I 0 25).toInt.toNat)
    intro z16 q16 _ hq16 hl16 hu16
    have hq16 : z16.toInt = z6.toInt + (I 9 ((I 0 25).toInt.toNat)).toInt + 4294967296 * q16 := hq16
    try have hz16 : z16.toInt = z6.toInt + (I 9 ((I 0 25).toInt.toNat)).toInt := by omega
    have r19_3 : 0 ≤ (I 0 7).toInt ∧ (I 0 7).toInt ≤ 1601 := hR 0 7
    refine And.intro ⟨hR, (show (I 0 7).toInt ≤ 1600 from by first | assumption | omega)⟩ ?_
    intro x19 I19 L19 hq19
    have hq19 : mR I19 ∧ f_fo [4, 5, 6, 7, 8] I I19 ∧ f_fr [0] I I19 ∧ f_fr [0] L L19 ∧ (I19 0 7).toInt ≤ 1600 ∧ ((¬ (I 0 4).toInt = 0 → ¬ (I19 0 4).toInt = 0)) := hq19
    obtain ⟨c19_0, c19_1, c19_2, c19_3, c19_4, c19_5⟩ := hq19
    have hO19 := f_fo_tr hO0 c19_1 rfl
    have hmL19 := f_depo_fo mL_dep hmL c19_2 c19_1 rfl rfl
    have htB19 := f_depo_fo tB_dep htB c19_2 c19_1 rfl rfl
    have hF19 := f_fr_tr hF0 c19_2 rfl
    have hG19 := f_fr_tr hG0 c19_3 rfl
    refine And.intro trivial ?_
    intro x28 I28 L28 hq28
    have hq28 : I28 = I19 ∧ L28 = L19 ∧ ((x28.toInt = 0 ∨ x28.toInt = 1 ∧ (I19 0 8).toInt = 3 ∧ (lg_cmp (L19 0 9) (26995 : Int64)).toInt = 0)) := hq28
    obtain ⟨eI28, eL28, c28_2⟩ := hq28
    replace eI28 := eI28.symm
    subst eI28
    replace eL28 := eL28.symm
    subst eL28
    have r31_4 : 0 ≤ (I19 0 7).toInt ∧ (I19 0 7).toInt ≤ 1601 := c19_0 0 7
    refine And.intro ⟨c19_0, (show (I19 0 7).toInt ≤ 1600 from by first | assumption | omega)⟩ ?_
    intro I31 L31 hq31
    have hq31 : mR I31 ∧ f_fo [4, 5, 6, 7, 8] I19 I31 ∧ f_fr [0] I19 I31 ∧ f_fr [0] L19 L31 ∧ (I31 0 7).toInt ≤ 1600 ∧ ((¬ (I19 0 4).toInt = 0 → ¬ (I31 0 4).toInt = 0)) := hq31
    obtain ⟨c31_0, c31_1, c31_2, c31_3, c31_4, c31_5⟩ := hq31
    have hO31 := f_fo_tr hO19 c31_1 rfl
    have hmL31 := f_depo_fo mL_dep hmL19 c31_2 c31_1 rfl rfl
    have htB31 := f_depo_fo tB_dep htB19 c31_2 c31_1 rfl rfl
    have hF31 := f_fr_tr hF19 c31_2 rfl
    have hG31 := f_fr_tr hG19 c31_3 rfl
    refine And.intro (show f_in z16 24 from ⟨show 0 ≤ z16.toInt from by omega, show z16.toInt < 24 from by omega⟩) ?_
    have hR40 := mR_a (k := 12) (j := z16.toInt.toNat) (x := Int32.ofInt 0) c31_0 (show 0 ≤ 0 ∧ 0 ≤ 3 from ⟨by omega, by omega⟩)
    have hF40 := f_fr_up (k := 12) (r := upd (I31 12) (z16.toInt.toNat) (Int32.ofInt 0)) hF31 rfl
    have hO40 := f_fo_ne (k := 12) (r := upd (I31 12) (z16.toInt.toNat) (Int32.ofInt 0)) hO31 (by decide)
    have htB40 := f_depo_up tB_dep (k := 12) (r := upd (I31 12) (z16.toInt.toNat) (Int32.ofInt 0)) htB31 rfl (by decide)
    have hmL40 : mL (va_up I31 12 (upd (I31 12) (z16.toInt.toNat) (Int32.ofInt 0))) := mL_u12 c31_0 hmL31 (by rw [hO31 24 rfl]; omega)
    have z40 : ((upd (I31 12) z16.toInt.toNat (Int32.ofInt 0)) z16.toInt.toNat).toInt = 0 := by rw [pk_us]; rfl
    have k40 : ∀ k : Nat, ¬ k = z16.toInt.toNat → (upd (I31 12) z16.toInt.toNat (Int32.ofInt 0)) k = I 12 k := fun k hk => by rw [pk_un hk, c31_2 12 rfl, c19_2 12 rfl]
    have t40 : ∀ t : Nat, ¬ (3 * z16.toInt ≤ t ∧ (t : Int) < 3 * z16.toInt + 3) → I31 13 t = I 13 t := fun t _ => by rw [c31_2 13 rfl, c19_2 13 rfl]
    have n40 : I31 9 = I 9 := by rw [c31_2 9 rfl, c19_2 9 rfl]
    have v40 : wR (va_up I31 12 (upd (I31 12) (z16.toInt.toNat) (Int32.ofInt 0))) z16.toInt (I 0 25).toInt := fun _ t a b => by
      have b : (t : Int) < 3 * z16.toInt + ((upd (I31 12) z16.toInt.toNat (Int32.ofInt 0)) z16.toInt.toNat).toInt := b
      omega
    refine And.intro trivial ?_
    intro x42 I42 L42 hq42
    have hq42 : I42 = (va_up I31 12 (upd (I31 12) (z16.toInt.toNat) (Int32.ofInt 0))) ∧ L42 = L31 ∧ ((x42.toInt = 1 ∧ (I31 0 4).toInt = 0 ∨ x42.toInt = 0 ∧ ¬ (I31 0 4).toInt = 0)) := hq42
    obtain ⟨eI42, eL42, c42_2⟩ := hq42
    replace eI42 := eI42.symm
    subst eI42
    replace eL42 := eL42.symm
    subst eL42
    have e47_8 : (I31 11 ((I 0 25).toInt.toNat)).toInt = (I19 11 ((I 0 25).toInt.toNat)).toInt := congrArg Int32.toInt (congrFun (c31_2 11 rfl) ((I 0 25).toInt.toNat))
    have e47_9 : (I19 11 ((I 0 25).toInt.toNat)).toInt = (I 11 ((I 0 25).toInt.toNat)).toInt := congrArg Int32.toInt (congrFun (c19_2 11 rfl) ((I 0 25).toInt.toNat))
    exact ⟨z16, x19, x42, (by intro q9 h9; simp only [List.mem_cons, List.not_mem_nil, or_false] at h9; rcases h9 with h9 | h9 | h9 | h9 <;> subst h9 <;> repeat (first | exact List.mem_cons_self | apply List.mem_cons_of_mem)), rfl, hR40, hF40, hG31, hO40, hmL40, htB40, (show z16.toInt = 12 * (I 0 25).toInt + (I 9 (I 0 25).toInt.toNat).toInt from by first | assumption | omega | rfl), (show (I31 0 7).toInt ≤ 1600 from by first | assumption | omega), (show (¬ (I 0 4).toInt = 0 → ¬ (I31 0 4).toInt = 0) from by first | assumption | omega | rfl), (show x42.toInt = 0 ∨ x42.toInt = 1 from by first | assumption | omega | rfl), (show (x42.toInt = 1 → ((upd (I31 12) (z16.toInt.toNat) (Int32.ofInt 0)) z16.toInt.toNat).toInt ≤ 2 ∧ (I31 0 4).toInt = 0) from by first | assumption | omega | rfl), (show ((I31 0 4).toInt = 0 → x42.toInt = 1 ∨ 1 ≤ ((upd (I31 12) (z16.toInt.toNat) (Int32.ofInt 0)) z16.toInt.toNat).toInt) from by first | assumption | omega | rfl), (show ((I31 0 4).toInt = 0 → 1 ≤ ((upd (I31 12) (z16.toInt.toNat) (Int32.ofInt 0)) z16.toInt.toNat).toInt → 1 ≤ (I 8 (I 0 25).toInt.toNat).toInt) from by first | assumption | omega | rfl), (show (I 11 (I 0 25).toInt.toNat).toInt ≤ (I31 11 (I 0 25).toInt.toNat).toInt from by first | assumption | omega), (show (I31 11 (I 0 25).toInt.toNat).toInt ≤ (I 11 (I 0 25).toInt.toNat).toInt + 7 * ((upd (I31 12) (z16.toInt.toNat) (Int32.ofInt 0)) z16.toInt.toNat).toInt from by first | assumption | omega), (show I31 9 = I 9 from by first | assumption | exact ((c31_2 9 rfl).trans (c19_2 9 rfl))), (show (∀ k : Nat, ¬ k = z16.toInt.toNat → (upd (I31 12) (z16.toInt.toNat) (Int32.ofInt 0)) k = I 12 k) from by first | assumption | omega | exact fun _ _ => rfl | exact fun _ _ => ⟨rfl, rfl⟩ | exact fun _ _ => ⟨rfl, rfl, rfl⟩ | (intro j9 hj9; omega)), (show (∀ t : Nat, ¬ (3 * z16.toInt ≤ t ∧ (t : Int) < 3 * z16.toInt + 3) → I31 13 t = I 13 t) from by first | assumption | omega | exact fun _ _ => rfl | exact fun _ _ => ⟨rfl, rfl⟩ | exact fun _ _ => ⟨rfl, rfl, rfl⟩ | (intro j9 hj9; omega)), (show wR (va_up I31 12 (upd (I31 12) (z16.toInt.toNat) (Int32.ofInt 0))) z16.toInt (I 0 25).toInt from by first | assumption | omega), (show ((upd (I31 12) (z16.toInt.toNat) (Int32.ofInt 0)) z16.toInt.toNat).toInt ≤ 3 from by first | assumption | omega), (show (4 - ((upd (I31 12) (z16.toInt.toNat) (Int32.ofInt 0)) z16.toInt.toNat).toInt) < 5 from by omega)⟩
theorem lg_two {x y z : Int64} (h : (lg_cmp x y).toInt = 0) (h' : (lg_cmp x z).toInt = 0) (hn : y ≠ z) : False := by
  have e1 := (lg_cmp_eq x y).mp (Int32.toInt_inj.mp h)
  have e2 := (lg_cmp_eq x z).mp (Int32.toInt_inj.mp h')
  exact hn (e1.symm.trans e2)
theorem mQ_bad {K : fM} (h : ¬ (K 0 4).toInt = 0) : mQ K := fun g => absurd g h
theorem mQ_eq {I K : fM} (h : mQ I) (h25 : K 0 25 = I 0 25) (hg : (K 0 4).toInt = 0 → (I 0 4).toInt = 0) (e8 : (I 8 (I 0 25).toInt.toNat).toInt ≤ (K 8 (I 0 25).toInt.toNat).toInt) (e9 : K 9 = I 9) (e10 : K 10 = I 10) (e11 : K 11 = I 11) (e12 : K 12 = I 12) (e13 : K 13 = I 13) (e14 : K 14 = I 14) : mQ K := by
  intro g
  obtain ⟨q1, q2, q3⟩ := h (hg g)
  rw [h25, e9, e10, e11, e12, e13, e14]
  exact ⟨q1, q2, fun q => by have := q3 q; omega⟩
theorem mQ_goal {I K : fM} (h : mQ I) (h25 : K 0 25 = I 0 25) (hg : (K 0 4).toInt = 0 → (I 0 4).toInt = 0) (e8 : K 8 = I 8) (e9 : K 9 = I 9) (e12 : K 12 = I 12) (e13 : K 13 = I 13) (h11 : (I 11 (I 0 25).toInt.toNat).toInt ≤ (K 11 (I 0 25).toInt.toNat).toInt)
    (h10 : (K 0 4).toInt = 0 → 260 * (I 0 25).toInt ≤ (K 10 (I 0 25).toInt.toNat).toInt ∧ (K 10 (I 0 25).toInt.toNat).toInt < 260 * (I 0 25).toInt + (K 11 (I 0 25).toInt.toNat).toInt) : mQ K := by
  intro g
  obtain ⟨q1, q2, q3⟩ := h (hg g)
  rw [h25, e8, e9, e12, e13]
  refine ⟨fun k a b => ⟨(q1 k a b).1, fun t c d => ?_⟩, fun _ => h10 g, q3⟩
  have := (q1 k a b).2 t c d
  omega
def tX12_readLine : List (Instr × Nat) := [(.aload_n 0, 1), (.getfield 266, 3), (.lstore_n 1, 1), (.aload_n 0, 1), (.getfield 259, 3), (.iconst 3, 1), (.if_icmp .ne 10, 3), (.aload_n 0, 1), (.invokevirtual 315, 3), (.ifCond .eq 7, 3), (.aload_n 0, 1), (.invokevirtual 288, 3), (.aload_n 0, 1), (.invokevirtual 281, 3), (.ifCond .ne 4, 3), (.return_, 1), (.aload_n 0, 1), (.invokevirtual 285, 3), (.lload_n 1, 1), (.ldc2_w 239, 3), (.lcmp, 1), (.ifCond .ne 44, 3), (.aload_n 0, 1), (.getfield 58, 3), (.iconst 5, 1), (.aload_n 0, 1), (.getfield 294, 3), (.imul, 1), (.aload_n 0, 1), (.getfield 36, 3), (.aload_n 0, 1), (.getfield 294, 3), (.iaload, 1), (.iadd, 1), (.aload_n 0, 1), (.invokevirtual 318, 3), (.lastore, 1), (.aload_n 0, 1), (.getfield 36, 3), (.aload_n 0, 1), (.getfield 294, 3), (.dup2, 1), (.iaload, 1), (.iconst 1, 1), (.iadd, 1), (.iastore, 1), (.goto 41, 3), (.lload_n 1, 1), (.ldc2_w 241, 3), (.lcmp, 1), (.ifCond .ne 29, 3), (.aload_n 0, 1), (.getfield 54, 3), (.aload_n 0, 1), (.getfield 294, 3), (.iconst 1, 1), (.bastore, 1), (.aload_n 0, 1), (.getfield 42, 3), (.aload_n 0, 1), (.getfield 294, 3), (.aload_n 0, 1), (.invokevirtual 322, 3), (.iastore, 1), (.goto 7, 3), (.aload_n 0, 1), (.invokevirtual 326, 3), (.aload_n 0, 1), (.aload_n 0, 1), (.bipush 59, 2), (.invokevirtual 329, 3), (.invokevirtual 332, 3), (.return_, 1)]
theorem tX12_readLine_ok : f_chk cX12_readLine 0 tX12_readLine = true := by decide +kernel
def pX12_readLine (av : List Value) (I : fM) (L : fN) : Prop := match av with
  | [.ref 0] => mR I ∧ mL I ∧ tB I ∧ mQ I ∧ (I 0 7).toInt ≤ 1600 ∧ (I 0 25).toInt + (I 0 24).toInt = 1 ∧ 0 ≤ (I 14 (I 0 25).toInt.toNat).toInt ∧ (I 14 (I 0 25).toInt.toNat).toInt ≤ 1 ∧ (I 11 (I 0 25).toInt.toNat).toInt ≤ 21 * (I 9 (I 0 25).toInt.toNat).toInt + 7 * (I 14 (I 0 25).toInt.toNat).toInt
  | _ => False
def qX12_readLine (av : List Value) (I : fM) (L : fN) (r : Value) (I' : fM) (L' : fN) : Prop := match av, r with
  | [.ref 0], .null => mR I' ∧ mL I' ∧ tB I' ∧ mQ I' ∧ f_fo [4, 5, 6, 7, 8] I I' ∧ f_fr [0, 3, 4, 5, 6, 7, 8, 9, 10, 11, 12, 13, 14, 17, 18] I I' ∧ f_fr [0, 15, 16] L L' ∧ (I' 0 7).toInt ≤ 1600 ∧ 0 ≤ (I' 14 (I 0 25).toInt.toNat).toInt ∧ (I' 14 (I 0 25).toInt.toNat).toInt ≤ 1 ∧ (I' 11 (I 0 25).toInt.toNat).toInt ≤ 21 * (I' 9 (I 0 25).toInt.toNat).toInt + 7 * (I' 14 (I 0 25).toInt.toNat).toInt ∧ (¬ (I' 0 4).toInt = 0 ∨ (I' 8 (I 0 25).toInt.toNat).toInt + (I' 9 (I 0 25).toInt.toNat).toInt + (I' 14 (I 0 25).toInt.toNat).toInt = (I 8 (I 0 25).toInt.toNat).toInt + (I 9 (I 0 25).toInt.toNat).toInt + (I 14 (I 0 25).toInt.toNat).toInt + 1) ∧ I' 9 (I 0 24).toInt.toNat = I 9 (I 0 24).toInt.toNat
  | _, _ => False
set_option maxHeartbeats 40000000 in
set_option maxRecDepth 100000 in
theorem mX12_readLine {l : Launch} {a : Nat → Nat} {cy dC : Nat → ClassId} {dI : Nat → Nat → Nat} (hinj : ∀ i j, i < 71 → j < 71 → a i = a j → i = j) : f_Met (fun _ => True) l mY 71 a cy dC dI yX12_readLine cX12_readLine 3 0 5 pX12_readLine qX12_readLine := by
  refine f_met_of (f_Ec_T 71 a) hinj mY_hi (by decide) (fun av I L h => by unfold pX12_readLine at h; split at h <;> first | exact Nat.le_of_ble_eq_true rfl | exact h.elim) ?_
  intro pP eP sP mP aP bP hP9 cP C av I L hp
  unfold pX12_readLine at hp
  split at hp
  case h_2 => exact hp.elim
  case h_1 =>
    obtain ⟨hR, hmL, htB, p3, p4, p5, p6, p7, p8⟩ := hp
    have hb : 0 ≤ (I 0 25).toInt ∧ (I 0 25).toInt ≤ 1 := hR 0 25
    have hN : 0 ≤ (I 11 (I 0 25).toInt.toNat).toInt := (hR 11 _).1
    have hW : 0 ≤ (I 9 (I 0 25).toInt.toNat).toInt ∧ (I 9 (I 0 25).toInt.toNat).toInt ≤ 12 := hR 9 _
    have hF0 : f_fr [0, 3, 4, 5, 6, 7, 8, 9, 10, 11, 12, 13, 14, 17, 18] I I := f_fr_rf
    have hG0 : f_fr [0, 15, 16] L L := f_fr_rf
    have hO0 : f_fo [4, 5, 6, 7, 8] I I := f_fo_rf
    have lp123 : ∀ (what : Int64) (J123 : fM) (M123 : fN), mR J123 ∧ f_fr [0, 3, 4, 5, 6, 7, 8, 9, 10, 11, 12, 13, 14, 17, 18] I J123 ∧ f_fr [0, 15, 16] L M123 ∧ f_fo [4, 5, 6, 7, 8] I J123 ∧ mL J123 ∧ tB J123 ∧ ((J123 0 7).toInt ≤ 1600) ∧ (mQ J123) ∧ (0 ≤ (J123 14 (I 0 25).toInt.toNat).toInt) ∧ ((J123 14 (I 0 25).toInt.toNat).toInt ≤ 1) ∧ ((J123 11 (I 0 25).toInt.toNat).toInt ≤ 21 * (J123 9 (I 0 25).toInt.toNat).toInt + 7 * (J123 14 (I 0 25).toInt.toNat).toInt) ∧ ((¬ (J123 0 4).toInt = 0 ∨ (J123 8 (I 0 25).toInt.toNat).toInt + (J123 9 (I 0 25).toInt.toNat).toInt + (J123 14 (I 0 25).toInt.toNat).toInt = (I 8 (I 0 25).toInt.toNat).toInt + (I 9 (I 0 25).toInt.toNat).toInt + (I 14 (I 0 25).toInt.toNat).toInt + 1)) ∧ (J123 9 (I 0 24).toInt.toNat = I 9 (I 0 24).toInt.toNat) → f_W pP l eP (f_rm 5) sP mP aP bP hP9 cP mY 71 a cy dC dI 3 (f_K 0 (qX12_readLine [.ref 0] I L)) 123 [(1, .long what), (0, .ref 0)] [] J123 M123 := by
      intro what J123 M123 h9
      obtain ⟨hR123c, hF123c, hG123c, hO123c, hmL123c, htB123c, u123_1, u123_2, u123_3, u123_4, u123_5, u123_6, u123_7⟩ := h9
      refine f_wp_ok C f_cl flX12_ok fiX12_ok fjX12_ok (sn := none) (fun j h => by cases h) (cs := (f_cnl [(315, (1, 3, 11, pX12_isFullb, qX12_isFullb)), (288, (1, 0, 11, pX12_misplaced, qX12_misplaced)), (281, (1, 3, 11, pX12_isGood, qX12_isGood)), (285, (1, 0, 11, pX12_goOn, qX12_goOn)), (318, (1, 2, 11, pX12_freshb, qX12_freshb)), (322, (1, 1, 11, pX12_readT, qX12_readT)), (326, (1, 0, 11, pX12_readWord, qX12_readWord)), (329, (2, 3, 11, pX12_stands, qX12_stands)), (332, (2, 0, 11, pX12_mustb, qX12_mustb))])) (cz := (fun _ => none)) (f_cnl_of (P := fun j S => f_cok pP l eP (f_rm 5) sP mP aP bP hP9 cP mY 71 a cy dC dI 3 _ _ (.invokevirtual j) true S) (List.forall_mem_cons.mpr ⟨f_cokV C (mX12_isFullb hinj) (ci := 11) rfl (List.forall_mem_cons.mpr ⟨(mlX12_ok _ (List.mem_of_getElem? (i := 13) rfl)), kc_X12_isFull⟩) (by decide +kernel) ⟨Nat.le_of_ble_eq_true rfl, Nat.le_of_ble_eq_true rfl⟩, List.forall_mem_cons.mpr ⟨f_cokV C (mX12_misplaced hinj) (ci := 11) rfl (List.forall_mem_cons.mpr ⟨(mlX12_ok _ (List.mem_of_getElem? (i := 9) rfl)), kc_X12_misplaced⟩) (by decide +kernel) ⟨Nat.le_of_ble_eq_true rfl, Nat.le_of_ble_eq_true rfl⟩, List.forall_mem_cons.mpr ⟨f_cokV C (mX12_isGood hinj) (ci := 11) rfl (List.forall_mem_cons.mpr ⟨(mlX12_ok _ (List.mem_of_getElem? (i := 7) rfl)), kc_X12_isGood⟩) (by decide +kernel) ⟨Nat.le_of_ble_eq_true rfl, Nat.le_of_ble_eq_true rfl⟩, List.forall_mem_cons.mpr ⟨f_cokV C (mX12_goOn hinj) (ci := 11) rfl (List.forall_mem_cons.mpr ⟨(mlX12_ok _ (List.mem_of_getElem? (i := 8) rfl)), kc_X12_goOn⟩) (by decide +kernel) ⟨Nat.le_of_ble_eq_true rfl, Nat.le_of_ble_eq_true rfl⟩, List.forall_mem_cons.mpr ⟨f_cokV C (mX12_freshb hinj) (ci := 11) rfl (List.forall_mem_cons.mpr ⟨(mlX12_ok _ (List.mem_of_getElem? (i := 14) rfl)), kc_X12_fresh⟩) (by decide +kernel) ⟨Nat.le_of_ble_eq_true rfl, Nat.le_of_ble_eq_true rfl⟩, List.forall_mem_cons.mpr ⟨f_cokV C (mX12_readT hinj) (ci := 11) rfl (List.forall_mem_cons.mpr ⟨(mlX12_ok _ (List.mem_of_getElem? (i := 15) rfl)), kc_X12_readT⟩) (by decide +kernel) ⟨Nat.le_of_ble_eq_true rfl, Nat.le_of_ble_eq_true rfl⟩, List.forall_mem_cons.mpr ⟨f_cokV C (mX12_readWord hinj) (ci := 11) rfl (List.forall_mem_cons.mpr ⟨(mlX12_ok _ (List.mem_of_getElem? (i := 16) rfl)), kc_X12_readWord⟩) (by decide +kernel) ⟨Nat.le_of_ble_eq_true rfl, Nat.le_of_ble_eq_true rfl⟩, List.forall_mem_cons.mpr ⟨f_cokV C (mX12_stands hinj) (ci := 11) rfl (List.forall_mem_cons.mpr ⟨(mlX12_ok _ (List.mem_of_getElem? (i := 17) rfl)), kc_X12_stands⟩) (by decide +kernel) ⟨Nat.le_of_ble_eq_true rfl, Nat.le_of_ble_eq_true rfl⟩, List.forall_mem_cons.mpr ⟨f_cokV C (mX12_mustb hinj) (ci := 11) rfl (List.forall_mem_cons.mpr ⟨(mlX12_ok _ (List.mem_of_getElem? (i := 18) rfl)), kc_X12_must⟩) (by decide +kernel) ⟨Nat.le_of_ble_eq_true rfl, Nat.le_of_ble_eq_true rfl⟩, fun _ h => absurd h List.not_mem_nil⟩⟩⟩⟩⟩⟩⟩⟩⟩)) (fun j S h => by cases h) tX12_readLine_ok (cut := (fun _ => none)) (fun t P h => by cases h) 9 123 (f_seek 123 0 tX12_readLine) (f_seek_ok 123 0 tX12_readLine tX12_readLine_ok) _ _ _ _ ?_
      refine And.intro hR123c ?_
      intro x127 I127 L127 hq127
      have hq127 : I127 = J123 ∧ L127 = M123 ∧ ((x127.toInt = 0 ∨ x127.toInt = 1)) := hq127
      obtain ⟨eI127, eL127, c127_2⟩ := hq127
      replace eI127 := eI127.symm
      subst eI127
      replace eL127 := eL127.symm
      subst eL127
      have r130_1 : 0 ≤ (J123 0 7).toInt ∧ (J123 0 7).toInt ≤ 1601 := hR123c 0 7
      refine And.intro ⟨hR123c, (show (J123 0 7).toInt ≤ 1600 from by first | assumption | omega)⟩ ?_
      intro I130 L130 hq130
      have hq130 : mR I130 ∧ f_fo [4, 5, 6, 7, 8] J123 I130 ∧ f_fr [0] J123 I130 ∧ f_fr [0] M123 L130 ∧ (I130 0 7).toInt ≤ 1600 ∧ ((¬ (J123 0 4).toInt = 0 → ¬ (I130 0 4).toInt = 0)) := hq130
      obtain ⟨c130_0, c130_1, c130_2, c130_3, c130_4, c130_5⟩ := hq130
      have hO130 := f_fo_tr hO123c c130_1 rfl
      have hmL130 := f_depo_fo mL_dep hmL123c c130_2 c130_1 rfl rfl
      have htB130 := f_depo_fo tB_dep htB123c c130_2 c130_1 rfl rfl
      have hF130 := f_fr_tr hF123c c130_2 rfl
      have hG130 := f_fr_tr hG123c c130_3 rfl
      have r133_2 : 0 ≤ (I130 0 7).toInt ∧ (I130 0 7).toInt ≤ 1601 := c130_0 0 7
      have e133_4 : (I130 14 ((I 0 25).toInt.toNat)).toInt = (J123 14 ((I 0 25).toInt.toNat)).toInt := congrArg Int32.toInt (congrFun (c130_2 14 rfl) ((I 0 25).toInt.toNat))
      have r133_5 : 0 ≤ (I130 11 ((I 0 25).toInt.toNat)).toInt ∧ (I130 11 ((I 0 25).toInt.toNat)).toInt ≤ 260 := c130_0 11 ((I 0 25).toInt.toNat)
      have e133_6 : (I130 11 ((I 0 25).toInt.toNat)).toInt = (J123 11 ((I 0 25).toInt.toNat)).toInt := congrArg Int32.toInt (congrFun (c130_2 11 rfl) ((I 0 25).toInt.toNat))
      have r133_7 : 0 ≤ (I130 9 ((I 0 25).toInt.toNat)).toInt ∧ (I130 9 ((I 0 25).toInt.toNat)).toInt ≤ 12 := c130_0 9 ((I 0 25).toInt.toNat)
      have e133_8 : (I130 9 ((I 0 25).toInt.toNat)).toInt = (J123 9 ((I 0 25).toInt.toNat)).toInt := congrArg Int32.toInt (congrFun (c130_2 9 rfl) ((I 0 25).toInt.toNat))
      have r133_10 : 0 ≤ (I130 8 ((I 0 25).toInt.toNat)).toInt ∧ (I130 8 ((I 0 25).toInt.toNat)).toInt ≤ 5 := c130_0 8 ((I 0 25).toInt.toNat)
      have e133_11 : (I130 8 ((I 0 25).toInt.toNat)).toInt = (J123 8 ((I 0 25).toInt.toNat)).toInt := congrArg Int32.toInt (congrFun (c130_2 8 rfl) ((I 0 25).toInt.toNat))
      exact ⟨c130_0, hmL130, htB130, (mQ_eq u123_2 ((c130_1 25 rfl)) (fun g => by omega) (by rw [c130_2 8 rfl, hO123c 25 rfl]; omega) (c130_2 9 rfl) (c130_2 10 rfl) (c130_2 11 rfl) (c130_2 12 rfl) (c130_2 13 rfl) (c130_2 14 rfl)), hO130, hF130, hG130, (show (I130 0 7).toInt ≤ 1600 from by first | assumption | omega | rfl), (show 0 ≤ (I130 14 (I 0 25).toInt.toNat).toInt from by first | assumption | omega | rfl), (show (I130 14 (I 0 25).toInt.toNat).toInt ≤ 1 from by first | assumption | omega | rfl), (show (I130 11 (I 0 25).toInt.toNat).toInt ≤ 21 * (I130 9 (I 0 25).toInt.toNat).toInt + 7 * (I130 14 (I 0 25).toInt.toNat).toInt from by first | assumption | omega | rfl), (show (¬ (I130 0 4).toInt = 0 ∨ (I130 8 (I 0 25).toInt.toNat).toInt + (I130 9 (I 0 25).toInt.toNat).toInt + (I130 14 (I 0 25).toInt.toNat).toInt = (I 8 (I 0 25).toInt.toNat).toInt + (I 9 (I 0 25).toInt.toNat).toInt + (I 14 (I 0 25).toInt.toNat).toInt + 1) from by first | assumption | omega | rfl), (show I130 9 (I 0 24).toInt.toNat = I 9 (I 0 24).toInt.toNat from by rw [c130_2 9 rfl]; exact u123_7)⟩
    have lp24 : ∀ (what : Int64) (J24 : fM) (M24 : fN), mR J24 ∧ f_fr [0, 3, 4, 5, 6, 7, 8, 9, 10, 11, 12, 13, 14, 17, 18] I J24 ∧ f_fr [0, 15, 16] L M24 ∧ f_fo [4, 5, 6, 7, 8] I J24 ∧ mL J24 ∧ tB J24 ∧ ((J24 0 7).toInt ≤ 1600) ∧ (J24 8 = I 8) ∧ (J24 9 = I 9) ∧ (J24 10 = I 10) ∧ (J24 11 = I 11) ∧ (J24 12 = I 12) ∧ (J24 13 = I 13) ∧ (J24 14 = I 14) ∧ ((¬ (J24 0 4).toInt = 0 ∨ (I 0 4).toInt = 0 ∧ ((lg_cmp what (1802071652 : Int64)).toInt = 0 ∧ (I 8 (I 0 25).toInt.toNat).toInt ≤ 4 ∨ (lg_cmp what (2003792484 : Int64)).toInt = 0 ∧ (I 9 (I 0 25).toInt.toNat).toInt ≤ 11 ∨ (lg_cmp what (1735352684 : Int64)).toInt = 0 ∧ (I 14 (I 0 25).toInt.toNat).toInt = 0))) → f_W pP l eP (f_rm 5) sP mP aP bP hP9 cP mY 71 a cy dC dI 3 (f_K 0 (qX12_readLine [.ref 0] I L)) 24 [(1, .long what), (0, .ref 0)] [] J24 M24 := by
      intro what J24 M24 h9
      obtain ⟨hR24c, hF24c, hG24c, hO24c, hmL24c, htB24c, u24_1, u24_2, u24_3, u24_4, u24_5, u24_6, u24_7, u24_8, u24_9⟩ := h9
      refine f_wp_ok C f_cl flX12_ok fiX12_ok fjX12_ok (sn := none) (fun j h => by cases h) (cs := (f_cnl [(315, (1, 3, 11, pX12_isFullb, qX12_isFullb)), (288, (1, 0, 11, pX12_misplaced, qX12_misplaced)), (281, (1, 3, 11, pX12_isGood, qX12_isGood)), (285, (1, 0, 11, pX12_goOn, qX12_goOn)), (318, (1, 2, 11, pX12_freshb, qX12_freshb)), (322, (1, 1, 11, pX12_readT, qX12_readT)), (326, (1, 0, 11, pX12_readWord, qX12_readWord)), (329, (2, 3, 11, pX12_stands, qX12_stands)), (332, (2, 0, 11, pX12_mustb, qX12_mustb))])) (cz := (fun _ => none)) (f_cnl_of (P := fun j S => f_cok pP l eP (f_rm 5) sP mP aP bP hP9 cP mY 71 a cy dC dI 3 _ _ (.invokevirtual j) true S) (List.forall_mem_cons.mpr ⟨f_cokV C (mX12_isFullb hinj) (ci := 11) rfl (List.forall_mem_cons.mpr ⟨(mlX12_ok _ (List.mem_of_getElem? (i := 13) rfl)), kc_X12_isFull⟩) (by decide +kernel) ⟨Nat.le_of_ble_eq_true rfl, Nat.le_of_ble_eq_true rfl⟩, List.forall_mem_cons.mpr ⟨f_cokV C (mX12_misplaced hinj) (ci := 11) rfl (List.forall_mem_cons.mpr ⟨(mlX12_ok _ (List.mem_of_getElem? (i := 9) rfl)), kc_X12_misplaced⟩) (by decide +kernel) ⟨Nat.le_of_ble_eq_true rfl, Nat.le_of_ble_eq_true rfl⟩, List.forall_mem_cons.mpr ⟨f_cokV C (mX12_isGood hinj) (ci := 11) rfl (List.forall_mem_cons.mpr ⟨(mlX12_ok _ (List.mem_of_getElem? (i := 7) rfl)), kc_X12_isGood⟩) (by decide +kernel) ⟨Nat.le_of_ble_eq_true rfl, Nat.le_of_ble_eq_true rfl⟩, List.forall_mem_cons.mpr ⟨f_cokV C (mX12_goOn hinj) (ci := 11) rfl (List.forall_mem_cons.mpr ⟨(mlX12_ok _ (List.mem_of_getElem? (i := 8) rfl)), kc_X12_goOn⟩) (by decide +kernel) ⟨Nat.le_of_ble_eq_true rfl, Nat.le_of_ble_eq_true rfl⟩, List.forall_mem_cons.mpr ⟨f_cokV C (mX12_freshb hinj) (ci := 11) rfl (List.forall_mem_cons.mpr ⟨(mlX12_ok _ (List.mem_of_getElem? (i := 14) rfl)), kc_X12_fresh⟩) (by decide +kernel) ⟨Nat.le_of_ble_eq_true rfl, Nat.le_of_ble_eq_true rfl⟩, List.forall_mem_cons.mpr ⟨f_cokV C (mX12_readT hinj) (ci := 11) rfl (List.forall_mem_cons.mpr ⟨(mlX12_ok _ (List.mem_of_getElem? (i := 15) rfl)), kc_X12_readT⟩) (by decide +kernel) ⟨Nat.le_of_ble_eq_true rfl, Nat.le_of_ble_eq_true rfl⟩, List.forall_mem_cons.mpr ⟨f_cokV C (mX12_readWord hinj) (ci := 11) rfl (List.forall_mem_cons.mpr ⟨(mlX12_ok _ (List.mem_of_getElem? (i := 16) rfl)), kc_X12_readWord⟩) (by decide +kernel) ⟨Nat.le_of_ble_eq_true rfl, Nat.le_of_ble_eq_true rfl⟩, List.forall_mem_cons.mpr ⟨f_cokV C (mX12_stands hinj) (ci := 11) rfl (List.forall_mem_cons.mpr ⟨(mlX12_ok _ (List.mem_of_getElem? (i := 17) rfl)), kc_X12_stands⟩) (by decide +kernel) ⟨Nat.le_of_ble_eq_true rfl, Nat.le_of_ble_eq_true rfl⟩, List.forall_mem_cons.mpr ⟨f_cokV C (mX12_mustb hinj) (ci := 11) rfl (List.forall_mem_cons.mpr ⟨(mlX12_ok _ (List.mem_of_getElem? (i := 18) rfl)), kc_X12_must⟩) (by decide +kernel) ⟨Nat.le_of_ble_eq_true rfl, Nat.le_of_ble_eq_true rfl⟩, fun _ h => absurd h List.not_mem_nil⟩⟩⟩⟩⟩⟩⟩⟩⟩)) (fun j S h => by cases h) tX12_readLine_ok (cut := (f_cnl [(123, (fun (ls' : fLs) (st' : List Value) (I' : fM) (L' : fN) => ∃ what : Int64, (∀ q ∈ ([(1, .long what), (0, .ref 0)] : fLs), q ∈ ls') ∧ st' = [] ∧ (mR I' ∧ f_fr [0, 3, 4, 5, 6, 7, 8, 9, 10, 11, 12, 13, 14, 17, 18] I I' ∧ f_fr [0, 15, 16] L L' ∧ f_fo [4, 5, 6, 7, 8] I I' ∧ mL I' ∧ tB I' ∧ ((I' 0 7).toInt ≤ 1600) ∧ (mQ I') ∧ (0 ≤ (I' 14 (I 0 25).toInt.toNat).toInt) ∧ ((I' 14 (I 0 25).toInt.toNat).toInt ≤ 1) ∧ ((I' 11 (I 0 25).toInt.toNat).toInt ≤ 21 * (I' 9 (I 0 25).toInt.toNat).toInt + 7 * (I' 14 (I 0 25).toInt.toNat).toInt) ∧ ((¬ (I' 0 4).toInt = 0 ∨ (I' 8 (I 0 25).toInt.toNat).toInt + (I' 9 (I 0 25).toInt.toNat).toInt + (I' 14 (I 0 25).toInt.toNat).toInt = (I 8 (I 0 25).toInt.toNat).toInt + (I 9 (I 0 25).toInt.toNat).toInt + (I 14 (I 0 25).toInt.toNat).toInt + 1)) ∧ (I' 9 (I 0 24).toInt.toNat = I 9 (I 0 24).toInt.toNat))))])) (f_cnl_of (P := fun (tQ : Nat) (P : fLs → List Value → fM → fN → Prop) => ∀ ls' st' I' L', P ls' st' I' L' → f_W pP l eP (f_rm 5) sP mP aP bP hP9 cP mY 71 a cy dC dI 3 (f_K 0 (qX12_readLine [.ref 0] I L)) tQ ls' st' I' L') (List.forall_mem_cons.mpr ⟨(fun ls' st' I' L' h => by obtain ⟨what, hs, e1, h9⟩ := h; rw [e1]; exact f_W_sub hs (lp123 what I' L' h9)), fun _ h => absurd h List.not_mem_nil⟩)) 37 24 (f_seek 24 0 tX12_readLine) (f_seek_ok 24 0 tX12_readLine tX12_readLine_ok) _ _ _ _ ?_
      refine And.intro trivial ?_
      intro x25 I25 L25 hq25
      have hq25 : I25 = J24 ∧ L25 = M24 ∧ ((x25.toInt = 1 ∧ (J24 0 4).toInt = 0 ∨ x25.toInt = 0 ∧ ¬ (J24 0 4).toInt = 0)) := hq25
      obtain ⟨eI25, eL25, c25_2⟩ := hq25
      replace eI25 := eI25.symm
      subst eI25
      replace eL25 := eL25.symm
      subst eL25
      apply And.intro
      · intro h28
        have h28 : ¬ x25.toInt = 0 := h28
        have r33_1 : 0 ≤ (J24 0 7).toInt ∧ (J24 0 7).toInt ≤ 1601 := hR24c 0 7
        refine And.intro ⟨hR24c, (show (J24 0 7).toInt ≤ 1600 from by first | assumption | omega)⟩ ?_
        intro I33 L33 hq33
        have hq33 : mR I33 ∧ f_fo [6, 7, 8] J24 I33 ∧ f_fr [0] J24 I33 ∧ f_fr [0] M24 L33 ∧ (I33 0 7).toInt ≤ 1600 := hq33
        obtain ⟨c33_0, c33_1, c33_2, c33_3, c33_4⟩ := hq33
        have hO33 := f_fo_tr hO24c c33_1 rfl
        have hmL33 := f_depo_fo mL_dep hmL24c c33_2 c33_1 rfl rfl
        have htB33 := f_depo_fo tB_dep htB24c c33_2 c33_1 rfl rfl
        have hF33 := f_fr_tr hF24c c33_2 rfl
        have hG33 := f_fr_tr hG24c c33_3 rfl
        have f33 : I33 0 25 = I 0 25 := hO33 25 rfl
        have d33 : I33 0 24 = I 0 24 := hO33 24 rfl
        have g33 : (I 0 4).toInt = 0 ∧ (I33 0 4).toInt = 0 := by have e : (I33 0 4).toInt = (J24 0 4).toInt := congrArg Int32.toInt (c33_1 4 rfl); omega
        have r33 : I33 8 = I 8 ∧ I33 9 = I 9 ∧ I33 10 = I 10 ∧ I33 11 = I 11 ∧ I33 12 = I 12 ∧ I33 13 = I 13 ∧ I33 14 = I 14 := ⟨(c33_2 8 rfl).trans u24_2, (c33_2 9 rfl).trans u24_3, (c33_2 10 rfl).trans u24_4, (c33_2 11 rfl).trans u24_5, (c33_2 12 rfl).trans u24_6, (c33_2 13 rfl).trans u24_7, (c33_2 14 rfl).trans u24_8⟩
        have k33 : (lg_cmp what (1802071652 : Int64)).toInt = 0 → (I 8 (I 0 25).toInt.toNat).toInt ≤ 4 := fun h => by
          rcases u24_9 with d | ⟨-, d | d | d⟩
          · omega
          · exact d.2
          · exact (lg_two h d.1 (by decide)).elim
          · exact (lg_two h d.1 (by decide)).elim
        have j33 : (lg_cmp what (1735352684 : Int64)).toInt = 0 → (I 14 (I 0 25).toInt.toNat).toInt = 0 := fun h => by
          rcases u24_9 with d | ⟨-, d | d | d⟩
          · omega
          · exact (lg_two h d.1 (by decide)).elim
          · exact (lg_two h d.1 (by decide)).elim
          · exact d.2
        have w33 : ¬ (lg_cmp what (1802071652 : Int64)).toInt = 0 → ¬ (lg_cmp what (1735352684 : Int64)).toInt = 0 → (I 9 (I 0 25).toInt.toNat).toInt ≤ 11 := fun h h' => by
          rcases u24_9 with d | ⟨-, d | d | d⟩ <;> omega
        apply And.intro
        · intro h41
          have h41 : ¬ (lg_cmp what (1802071652 : Int64)).toInt = 0 := h41
          try have k41 := k33 h41
          apply And.intro
          · intro h90
            have h90 : ¬ (lg_cmp what (1735352684 : Int64)).toInt = 0 := h90
            try have j90 := j33 h90
            try have w90 := w33 h41 h90
            have r120_2 : 0 ≤ (I33 0 7).toInt ∧ (I33 0 7).toInt ≤ 1601 := c33_0 0 7
            have r120_3 : 0 ≤ (I33 0 25).toInt ∧ (I33 0 25).toInt ≤ 1 := c33_0 0 25
            have e120_4 : (I33 0 25).toInt = (J24 0 25).toInt := congrArg Int32.toInt (c33_1 25 rfl)
            have e120_5 : (J24 0 25).toInt = (I 0 25).toInt := congrArg Int32.toInt (hO24c 25 rfl)
            have r120_6 : 0 ≤ (I33 0 24).toInt ∧ (I33 0 24).toInt ≤ 1 := c33_0 0 24
            have e120_7 : (I33 0 24).toInt = (J24 0 24).toInt := congrArg Int32.toInt (c33_1 24 rfl)
            have e120_8 : (J24 0 24).toInt = (I 0 24).toInt := congrArg Int32.toInt (hO24c 24 rfl)
            have r120_9 : 0 ≤ (I33 9 ((I33 0 25).toInt.toNat)).toInt ∧ (I33 9 ((I33 0 25).toInt.toNat)).toInt ≤ 12 := c33_0 9 ((I33 0 25).toInt.toNat)
            have e120_10 : (I33 9 ((I33 0 25).toInt.toNat)).toInt = (I33 9 ((I 0 25).toInt.toNat)).toInt := by rw [(hO33 25 rfl)]
            have e120_11 : (I33 9 ((I 0 25).toInt.toNat)).toInt = (J24 9 ((I 0 25).toInt.toNat)).toInt := congrArg Int32.toInt (congrFun (c33_2 9 rfl) ((I 0 25).toInt.toNat))
            have e120_12 : (J24 9 ((I 0 25).toInt.toNat)).toInt = (I 9 ((I 0 25).toInt.toNat)).toInt := congrArg Int32.toInt (congrFun u24_3 ((I 0 25).toInt.toNat))
            have r120_13 : 0 ≤ (I33 11 ((I33 0 25).toInt.toNat)).toInt ∧ (I33 11 ((I33 0 25).toInt.toNat)).toInt ≤ 260 := c33_0 11 ((I33 0 25).toInt.toNat)
            have e120_14 : (I33 11 ((I33 0 25).toInt.toNat)).toInt = (I33 11 ((I 0 25).toInt.toNat)).toInt := by rw [(hO33 25 rfl)]
            have e120_15 : (I33 11 ((I 0 25).toInt.toNat)).toInt = (J24 11 ((I 0 25).toInt.toNat)).toInt := congrArg Int32.toInt (congrFun (c33_2 11 rfl) ((I 0 25).toInt.toNat))
            have e120_16 : (J24 11 ((I 0 25).toInt.toNat)).toInt = (I 11 ((I 0 25).toInt.toNat)).toInt := congrArg Int32.toInt (congrFun u24_5 ((I 0 25).toInt.toNat))
            refine And.intro ⟨c33_0, hmL33, htB33, (mQ_eq p3 f33 (fun _ => g33.1) (by rw [r33.1]; omega) r33.2.1 r33.2.2.1 r33.2.2.2.1 r33.2.2.2.2.1 r33.2.2.2.2.2.1 r33.2.2.2.2.2.2), (show (I33 0 7).toInt ≤ 1600 from by first | assumption | omega), (show (I33 0 25).toInt + (I33 0 24).toInt = 1 from by first | assumption | omega | rfl), (show (I33 9 (I33 0 25).toInt.toNat).toInt ≤ 11 from by first | assumption | omega), (show (I33 11 (I33 0 25).toInt.toNat).toInt ≤ 21 * (I33 9 (I33 0 25).toInt.toNat).toInt + 7 from by first | assumption | omega)⟩ ?_
            intro I120 L120 hq120
            have hq120 : mR I120 ∧ mL I120 ∧ tB I120 ∧ mQ I120 ∧ f_fo [4, 5, 6, 7, 8] I33 I120 ∧ f_fr [0, 3, 4, 5, 6, 7, 9, 11, 12, 13, 17, 18] I33 I120 ∧ f_fr [0, 16] L33 L120 ∧ (I120 0 7).toInt ≤ 1600 ∧ ((¬ (I33 0 4).toInt = 0 → ¬ (I120 0 4).toInt = 0)) ∧ (I120 9 (I33 0 25).toInt.toNat).toInt = (I33 9 (I33 0 25).toInt.toNat).toInt + 1 ∧ (I120 11 (I33 0 25).toInt.toNat).toInt ≤ (I33 11 (I33 0 25).toInt.toNat).toInt + 21 ∧ I120 9 (I33 0 24).toInt.toNat = I33 9 (I33 0 24).toInt.toNat := hq120
            obtain ⟨c120_0, c120_1, c120_2, c120_3, c120_4, c120_5, c120_6, c120_7, c120_8, c120_9, c120_10, c120_11⟩ := hq120
            have hO120 := f_fo_tr hO33 c120_4 rfl
            have hF120 := f_fr_tr hF33 c120_5 rfl
            have r120_17 : 0 ≤ (I120 9 ((I33 0 25).toInt.toNat)).toInt ∧ (I120 9 ((I33 0 25).toInt.toNat)).toInt ≤ 12 := c120_0 9 ((I33 0 25).toInt.toNat)
            have e120_18 : (I120 9 ((I33 0 25).toInt.toNat)).toInt = (I120 9 ((I 0 25).toInt.toNat)).toInt := by rw [(hO33 25 rfl)]
            have r120_19 : 0 ≤ (I120 11 ((I33 0 25).toInt.toNat)).toInt ∧ (I120 11 ((I33 0 25).toInt.toNat)).toInt ≤ 260 := c120_0 11 ((I33 0 25).toInt.toNat)
            have e120_20 : (I120 11 ((I33 0 25).toInt.toNat)).toInt = (I120 11 ((I 0 25).toInt.toNat)).toInt := by rw [(hO33 25 rfl)]
            have hG120 := f_fr_tr hG33 c120_6 rfl
            have b120 : I120 9 (I 0 24).toInt.toNat = I 9 (I 0 24).toInt.toNat := by rw [d33] at c120_11; rw [c120_11, r33.2.1]
            rw [f33] at c120_9 c120_10
            rw [r33.2.1] at c120_9
            rw [r33.2.2.2.1] at c120_10
            have r123_21 : 0 ≤ (I120 0 7).toInt ∧ (I120 0 7).toInt ≤ 1601 := c120_0 0 7
            have e123_23 : (I120 14 ((I 0 25).toInt.toNat)).toInt = (I33 14 ((I 0 25).toInt.toNat)).toInt := congrArg Int32.toInt (congrFun (c120_5 14 rfl) ((I 0 25).toInt.toNat))
            have e123_24 : (I33 14 ((I 0 25).toInt.toNat)).toInt = (J24 14 ((I 0 25).toInt.toNat)).toInt := congrArg Int32.toInt (congrFun (c33_2 14 rfl) ((I 0 25).toInt.toNat))
            have e123_25 : (J24 14 ((I 0 25).toInt.toNat)).toInt = (I 14 ((I 0 25).toInt.toNat)).toInt := congrArg Int32.toInt (congrFun u24_8 ((I 0 25).toInt.toNat))
            have r123_26 : 0 ≤ (I120 11 ((I 0 25).toInt.toNat)).toInt ∧ (I120 11 ((I 0 25).toInt.toNat)).toInt ≤ 260 := c120_0 11 ((I 0 25).toInt.toNat)
            have r123_27 : 0 ≤ (I120 9 ((I 0 25).toInt.toNat)).toInt ∧ (I120 9 ((I 0 25).toInt.toNat)).toInt ≤ 12 := c120_0 9 ((I 0 25).toInt.toNat)
            have r123_29 : 0 ≤ (I120 8 ((I 0 25).toInt.toNat)).toInt ∧ (I120 8 ((I 0 25).toInt.toNat)).toInt ≤ 5 := c120_0 8 ((I 0 25).toInt.toNat)
            have e123_30 : (I120 8 ((I 0 25).toInt.toNat)).toInt = (I33 8 ((I 0 25).toInt.toNat)).toInt := congrArg Int32.toInt (congrFun (c120_5 8 rfl) ((I 0 25).toInt.toNat))
            have e123_31 : (I33 8 ((I 0 25).toInt.toNat)).toInt = (J24 8 ((I 0 25).toInt.toNat)).toInt := congrArg Int32.toInt (congrFun (c33_2 8 rfl) ((I 0 25).toInt.toNat))
            have e123_32 : (J24 8 ((I 0 25).toInt.toNat)).toInt = (I 8 ((I 0 25).toInt.toNat)).toInt := congrArg Int32.toInt (congrFun u24_2 ((I 0 25).toInt.toNat))
            exact ⟨what, (by intro q9 h9; simp only [List.mem_cons, List.not_mem_nil, or_false] at h9; rcases h9 with h9 | h9 <;> subst h9 <;> repeat (first | exact List.mem_cons_self | apply List.mem_cons_of_mem)), rfl, c120_0, hF120, hG120, hO120, c120_1, c120_2, (show (I120 0 7).toInt ≤ 1600 from by first | assumption | omega), (show mQ I120 from by first | assumption | omega), (show 0 ≤ (I120 14 (I 0 25).toInt.toNat).toInt from by first | assumption | omega), (show (I120 14 (I 0 25).toInt.toNat).toInt ≤ 1 from by first | assumption | omega), (show (I120 11 (I 0 25).toInt.toNat).toInt ≤ 21 * (I120 9 (I 0 25).toInt.toNat).toInt + 7 * (I120 14 (I 0 25).toInt.toNat).toInt from by first | assumption | omega), (show (¬ (I120 0 4).toInt = 0 ∨ (I120 8 (I 0 25).toInt.toNat).toInt + (I120 9 (I 0 25).toInt.toNat).toInt + (I120 14 (I 0 25).toInt.toNat).toInt = (I 8 (I 0 25).toInt.toNat).toInt + (I 9 (I 0 25).toInt.toNat).toInt + (I 14 (I 0 25).toInt.toNat).toInt + 1) from by first | assumption | omega | rfl), (show I120 9 (I 0 24).toInt.toNat = I 9 (I 0 24).toInt.toNat from by first | assumption | omega | rfl)⟩
          · intro h90
            have h90 : (lg_cmp what (1735352684 : Int64)).toInt = 0 := h90
            try have j90 := j33 h90
            try have w90 := w33 h41 h90
            have r98_2 : 0 ≤ (I33 0 25).toInt ∧ (I33 0 25).toInt ≤ 1 := c33_0 0 25
            have e98_3 : (I33 0 25).toInt = (J24 0 25).toInt := congrArg Int32.toInt (c33_1 25 rfl)
            have e98_4 : (J24 0 25).toInt = (I 0 25).toInt := congrArg Int32.toInt (hO24c 25 rfl)
            refine And.intro (show f_in (I33 0 25) 2 from ⟨show 0 ≤ (I33 0 25).toInt from by omega, show (I33 0 25).toInt < 2 from by omega⟩) ?_
            have hR102 := mR_a (k := 14) (j := (I33 0 25).toInt.toNat) (x := vp_nar .boolean (Int32.ofInt 1)) c33_0 (by exact f_rng _)
            have hF102 := f_fr_up (k := 14) (r := upd (I33 14) ((I33 0 25).toInt.toNat) (vp_nar .boolean (Int32.ofInt 1))) hF33 rfl
            have hO102 := f_fo_ne (k := 14) (r := upd (I33 14) ((I33 0 25).toInt.toNat) (vp_nar .boolean (Int32.ofInt 1))) hO33 (by decide)
            have hmL102 := f_depo_up mL_dep (k := 14) (r := upd (I33 14) ((I33 0 25).toInt.toNat) (vp_nar .boolean (Int32.ofInt 1))) hmL33 rfl (by decide)
            have htB102 := f_depo_up tB_dep (k := 14) (r := upd (I33 14) ((I33 0 25).toInt.toNat) (vp_nar .boolean (Int32.ofInt 1))) htB33 rfl (by decide)
            have n112 : (I33 11 (I33 0 25).toInt.toNat).toInt = (I 11 (I 0 25).toInt.toNat).toInt := by rw [f33, r33.2.2.2.1]
            have e112_7 : (I33 0 24).toInt = (J24 0 24).toInt := congrArg Int32.toInt (c33_1 24 rfl)
            have e112_8 : (J24 0 24).toInt = (I 0 24).toInt := congrArg Int32.toInt (hO24c 24 rfl)
            have e112_10 : (I33 11 ((I33 0 25).toInt.toNat)).toInt = (I33 11 ((I 0 25).toInt.toNat)).toInt := by rw [(hO33 25 rfl)]
            have e112_11 : (I33 11 ((I 0 25).toInt.toNat)).toInt = (J24 11 ((I 0 25).toInt.toNat)).toInt := congrArg Int32.toInt (congrFun (c33_2 11 rfl) ((I 0 25).toInt.toNat))
            have e112_12 : (J24 11 ((I 0 25).toInt.toNat)).toInt = (I 11 ((I 0 25).toInt.toNat)).toInt := congrArg Int32.toInt (congrFun u24_5 ((I 0 25).toInt.toNat))
            refine And.intro ⟨hR102, hmL102, htB102, (show (I33 0 7).toInt ≤ 1600 from by first | assumption | omega), (show (I33 0 25).toInt + (I33 0 24).toInt = 1 from by first | assumption | omega | rfl), (show (I33 11 (I33 0 25).toInt.toNat).toInt ≤ 252 from by first | assumption | omega)⟩ ?_
            intro x112 I112 L112 hq112
            have hq112 : mR I112 ∧ mL I112 ∧ tB I112 ∧ f_fo [4, 5, 6, 7, 8] (va_up I33 14 (upd (I33 14) ((I33 0 25).toInt.toNat) (vp_nar .boolean (Int32.ofInt 1)))) I112 ∧ f_fr [0, 3, 4, 5, 6, 7, 11, 17, 18] (va_up I33 14 (upd (I33 14) ((I33 0 25).toInt.toNat) (vp_nar .boolean (Int32.ofInt 1)))) I112 ∧ f_fr [0] L33 L112 ∧ (I112 0 7).toInt ≤ 1600 ∧ ((¬ (I33 0 4).toInt = 0 → ¬ (I112 0 4).toInt = 0)) ∧ (I33 11 (I33 0 25).toInt.toNat).toInt ≤ (I112 11 (I33 0 25).toInt.toNat).toInt ∧ (I112 11 (I33 0 25).toInt.toNat).toInt ≤ (I33 11 (I33 0 25).toInt.toNat).toInt + 7 ∧ (((I112 0 4).toInt = 0 → 260 * (I33 0 25).toInt ≤ x112.toInt ∧ x112.toInt < 260 * (I33 0 25).toInt + (I112 11 (I33 0 25).toInt.toNat).toInt ∧ 1 ≤ (I33 8 (I33 0 25).toInt.toNat).toInt)) ∧ -1 ≤ x112.toInt ∧ x112.toInt ≤ 1599 := hq112
            obtain ⟨c112_0, c112_1, c112_2, c112_3, c112_4, c112_5, c112_6, c112_7, c112_8, c112_9, c112_10, c112_11, c112_12⟩ := hq112
            have hO112 := f_fo_tr hO102 c112_3 rfl
            have hF112 := f_fr_tr hF102 c112_4 rfl
            have r112_13 : 0 ≤ (I112 11 ((I33 0 25).toInt.toNat)).toInt ∧ (I112 11 ((I33 0 25).toInt.toNat)).toInt ≤ 260 := c112_0 11 ((I33 0 25).toInt.toNat)
            have e112_14 : (I112 11 ((I33 0 25).toInt.toNat)).toInt = (I112 11 ((I 0 25).toInt.toNat)).toInt := by rw [(hO33 25 rfl)]
            have e112_16 : (I33 8 ((I33 0 25).toInt.toNat)).toInt = (I33 8 ((I 0 25).toInt.toNat)).toInt := by rw [(hO33 25 rfl)]
            have e112_17 : (I33 8 ((I 0 25).toInt.toNat)).toInt = (J24 8 ((I 0 25).toInt.toNat)).toInt := congrArg Int32.toInt (congrFun (c33_2 8 rfl) ((I 0 25).toInt.toNat))
            have e112_18 : (J24 8 ((I 0 25).toInt.toNat)).toInt = (I 8 ((I 0 25).toInt.toNat)).toInt := congrArg Int32.toInt (congrFun u24_2 ((I 0 25).toInt.toNat))
            have hG112 := f_fr_tr hG33 c112_5 rfl
            rw [f33] at c112_8 c112_9 c112_10
            rw [r33.2.2.2.1] at c112_8 c112_9
            rw [r33.1] at c112_10
            refine And.intro (show f_in (I33 0 25) 2 from ⟨show 0 ≤ (I33 0 25).toInt from by omega, show (I33 0 25).toInt < 2 from by omega⟩) ?_
            have hR115 := mR_a (k := 10) (j := (I33 0 25).toInt.toNat) (x := x112) c112_0 (show -1 ≤ x112.toInt ∧ x112.toInt ≤ 1599 from ⟨by omega, by omega⟩)
            have hF115 := f_fr_up (k := 10) (r := upd (I112 10) ((I33 0 25).toInt.toNat) x112) hF112 rfl
            have hO115 := f_fo_ne (k := 10) (r := upd (I112 10) ((I33 0 25).toInt.toNat) x112) hO112 (by decide)
            have htB115 := f_depo_up tB_dep (k := 10) (r := upd (I112 10) ((I33 0 25).toInt.toNat) x112) c112_2 rfl (by decide)
            have hmL115 : mL (va_up I112 10 (upd (I112 10) ((I33 0 25).toInt.toNat) x112)) := mL_u10 c112_0 c112_1 (by rw [hO112 24 rfl, f33]; omega)
            have v115 : (I112 14 (I 0 25).toInt.toNat).toInt = 1 := by
              rw [c112_4 14 rfl]
              show ((upd (I33 14) (I33 0 25).toInt.toNat (vp_nar .boolean (Int32.ofInt 1))) (I 0 25).toInt.toNat).toInt = 1
              rw [f33, pk_us]; rfl
            have q115 : mQ (va_up I112 10 (upd (I112 10) ((I33 0 25).toInt.toNat) x112)) := mQ_goal p3 (hO112 25 rfl) (fun _ => g33.1) ((c112_4 8 rfl).trans r33.1) ((c112_4 9 rfl).trans r33.2.1) ((c112_4 12 rfl).trans r33.2.2.2.2.1) ((c112_4 13 rfl).trans r33.2.2.2.2.2.1) c112_8 (fun g => by
              show 260 * (I 0 25).toInt ≤ ((upd (I112 10) (I33 0 25).toInt.toNat x112) (I 0 25).toInt.toNat).toInt ∧ ((upd (I112 10) (I33 0 25).toInt.toNat x112) (I 0 25).toInt.toNat).toInt < 260 * (I 0 25).toInt + (I112 11 (I 0 25).toInt.toNat).toInt
              rw [f33, pk_us]
              have := c112_10 g
              omega)
            have b115 : I112 9 (I 0 24).toInt.toNat = I 9 (I 0 24).toInt.toNat := congrFun ((c112_4 9 rfl).trans r33.2.1) _
            have e123_21 : (I112 14 ((I 0 25).toInt.toNat)).toInt = ((upd (I33 14) ((I33 0 25).toInt.toNat) (vp_nar .boolean (Int32.ofInt 1))) ((I 0 25).toInt.toNat)).toInt := congrArg Int32.toInt (congrFun (c112_4 14 rfl) ((I 0 25).toInt.toNat))
            have e123_24 : (I112 9 ((I 0 25).toInt.toNat)).toInt = (I33 9 ((I 0 25).toInt.toNat)).toInt := congrArg Int32.toInt (congrFun (c112_4 9 rfl) ((I 0 25).toInt.toNat))
            have e123_25 : (I33 9 ((I 0 25).toInt.toNat)).toInt = (J24 9 ((I 0 25).toInt.toNat)).toInt := congrArg Int32.toInt (congrFun (c33_2 9 rfl) ((I 0 25).toInt.toNat))
            have e123_26 : (J24 9 ((I 0 25).toInt.toNat)).toInt = (I 9 ((I 0 25).toInt.toNat)).toInt := congrArg Int32.toInt (congrFun u24_3 ((I 0 25).toInt.toNat))
            have e123_28 : (I112 8 ((I 0 25).toInt.toNat)).toInt = (I33 8 ((I 0 25).toInt.toNat)).toInt := congrArg Int32.toInt (congrFun (c112_4 8 rfl) ((I 0 25).toInt.toNat))
            exact ⟨what, (by intro q9 h9; simp only [List.mem_cons, List.not_mem_nil, or_false] at h9; rcases h9 with h9 | h9 <;> subst h9 <;> repeat (first | exact List.mem_cons_self | apply List.mem_cons_of_mem)), rfl, hR115, hF115, hG112, hO115, hmL115, htB115, (show (I112 0 7).toInt ≤ 1600 from by first | assumption | omega), (show mQ (va_up I112 10 (upd (I112 10) ((I33 0 25).toInt.toNat) x112)) from by first | assumption | omega), (show 0 ≤ (I112 14 (I 0 25).toInt.toNat).toInt from by first | assumption | omega), (show (I112 14 (I 0 25).toInt.toNat).toInt ≤ 1 from by first | assumption | omega), (show (I112 11 (I 0 25).toInt.toNat).toInt ≤ 21 * (I112 9 (I 0 25).toInt.toNat).toInt + 7 * (I112 14 (I 0 25).toInt.toNat).toInt from by first | assumption | omega), (show (¬ (I112 0 4).toInt = 0 ∨ (I112 8 (I 0 25).toInt.toNat).toInt + (I112 9 (I 0 25).toInt.toNat).toInt + (I112 14 (I 0 25).toInt.toNat).toInt = (I 8 (I 0 25).toInt.toNat).toInt + (I 9 (I 0 25).toInt.toNat).toInt + (I 14 (I 0 25).toInt.toNat).toInt + 1) from by first | assumption | omega | rfl), (show I112 9 (I 0 24).toInt.toNat = I 9 (I 0 24).toInt.toNat from by first | assumption | omega | rfl)⟩
        · intro h41
          have h41 : (lg_cmp what (1802071652 : Int64)).toInt = 0 := h41
          try have k41 := k33 h41
          have r50_2 : 0 ≤ (I33 0 25).toInt ∧ (I33 0 25).toInt ≤ 1 := c33_0 0 25
          have e50_3 : (I33 0 25).toInt = (J24 0 25).toInt := congrArg Int32.toInt (c33_1 25 rfl)
          have e50_4 : (J24 0 25).toInt = (I 0 25).toInt := congrArg Int32.toInt (hO24c 25 rfl)
          intro z53 q53 _ hq53 hl53 hu53
          have hq53 : z53.toInt = 5 * (I33 0 25).toInt + 4294967296 * q53 := hq53
          try have hz53 : z53.toInt = 5 * (I33 0 25).toInt := by omega
          refine And.intro (show f_in (I33 0 25) 2 from ⟨show 0 ≤ (I33 0 25).toInt from by omega, show (I33 0 25).toInt < 2 from by omega⟩) ?_
          have r62_5 : 0 ≤ (I33 8 ((I33 0 25).toInt.toNat)).toInt ∧ (I33 8 ((I33 0 25).toInt.toNat)).toInt ≤ 5 := c33_0 8 ((I33 0 25).toInt.toNat)
          have e62_6 : (I33 8 ((I33 0 25).toInt.toNat)).toInt = (I33 8 ((I 0 25).toInt.toNat)).toInt := by rw [(hO33 25 rfl)]
          have e62_7 : (I33 8 ((I 0 25).toInt.toNat)).toInt = (J24 8 ((I 0 25).toInt.toNat)).toInt := congrArg Int32.toInt (congrFun (c33_2 8 rfl) ((I 0 25).toInt.toNat))
          have e62_8 : (J24 8 ((I 0 25).toInt.toNat)).toInt = (I 8 ((I 0 25).toInt.toNat)).toInt := congrArg Int32.toInt (congrFun u24_2 ((I 0 25).toInt.toNat))
          have e62 : (I33 8 (I33 0 25).toInt.toNat).toInt = (I 8 (I 0 25).toInt.toNat).toInt := by rw [f33, r33.1]
          intro z63 q63 _ hq63 hl63 hu63
          have hq63 : z63.toInt = z53.toInt + (I33 8 ((I33 0 25).toInt.toNat)).toInt + 4294967296 * q63 := hq63
          try have hz63 : z63.toInt = z53.toInt + (I33 8 ((I33 0 25).toInt.toNat)).toInt := by omega
          have r65_9 : 0 ≤ (I33 0 7).toInt ∧ (I33 0 7).toInt ≤ 1601 := c33_0 0 7
          refine And.intro ⟨c33_0, (show (I33 0 7).toInt ≤ 1600 from by first | assumption | omega)⟩ ?_
          intro x65 I65 L65 hq65
          have hq65 : mR I65 ∧ f_fo [4, 5, 6, 7, 8] I33 I65 ∧ f_fr [0] I33 I65 ∧ f_fr [0] L33 L65 ∧ (I65 0 7).toInt ≤ 1600 ∧ ((¬ (I33 0 4).toInt = 0 → ¬ (I65 0 4).toInt = 0)) := hq65
          obtain ⟨c65_0, c65_1, c65_2, c65_3, c65_4, c65_5⟩ := hq65
          have hO65 := f_fo_tr hO33 c65_1 rfl
          have hmL65 := f_depo_fo mL_dep hmL33 c65_2 c65_1 rfl rfl
          have htB65 := f_depo_fo tB_dep htB33 c65_2 c65_1 rfl rfl
          have hF65 := f_fr_tr hF33 c65_2 rfl
          have hG65 := f_fr_tr hG33 c65_3 rfl
          have r65 : I65 8 = I 8 ∧ I65 9 = I 9 ∧ I65 10 = I 10 ∧ I65 11 = I 11 ∧ I65 12 = I 12 ∧ I65 13 = I 13 ∧ I65 14 = I 14 := ⟨(c65_2 8 rfl).trans r33.1, (c65_2 9 rfl).trans r33.2.1, (c65_2 10 rfl).trans r33.2.2.1, (c65_2 11 rfl).trans r33.2.2.2.1, (c65_2 12 rfl).trans r33.2.2.2.2.1, (c65_2 13 rfl).trans r33.2.2.2.2.2.1, (c65_2 14 rfl).trans r33.2.2.2.2.2.2⟩
          have f65 : I65 0 25 = I 0 25 := hO65 25 rfl
          have d65 : I65 0 24 = I 0 24 := hO65 24 rfl
          refine And.intro (show f_in z63 10 from ⟨show 0 ≤ z63.toInt from by omega, show z63.toInt < 10 from by omega⟩) ?_
          have hG68 := f_fr_up (k := 15) (r := vp_updL (L65 15) (z63.toInt.toNat) x65) hG65 rfl
          have r74_10 : 0 ≤ (I65 0 25).toInt ∧ (I65 0 25).toInt ≤ 1 := c65_0 0 25
          have e74_11 : (I65 0 25).toInt = (I33 0 25).toInt := congrArg Int32.toInt (c65_1 25 rfl)
          refine And.intro (show f_in (I65 0 25) 2 from ⟨show 0 ≤ (I65 0 25).toInt from by omega, show (I65 0 25).toInt < 2 from by omega⟩) ?_
          have r78_12 : 0 ≤ (I65 8 ((I65 0 25).toInt.toNat)).toInt ∧ (I65 8 ((I65 0 25).toInt.toNat)).toInt ≤ 5 := c65_0 8 ((I65 0 25).toInt.toNat)
          have e78_13 : (I65 8 ((I65 0 25).toInt.toNat)).toInt = (I65 8 ((I 0 25).toInt.toNat)).toInt := by rw [(hO65 25 rfl)]
          have e78_14 : (I65 8 ((I 0 25).toInt.toNat)).toInt = (I33 8 ((I 0 25).toInt.toNat)).toInt := congrArg Int32.toInt (congrFun (c65_2 8 rfl) ((I 0 25).toInt.toNat))
          have e78 : (I65 8 (I65 0 25).toInt.toNat).toInt = (I 8 (I 0 25).toInt.toNat).toInt := by rw [f65, r65.1]
          intro z80 q80 _ hq80 hl80 hu80
          have hq80 : z80.toInt = (I65 8 ((I65 0 25).toInt.toNat)).toInt + 1 + 4294967296 * q80 := hq80
          try have hz80 : z80.toInt = (I65 8 ((I65 0 25).toInt.toNat)).toInt + 1 := by omega
          refine And.intro (show f_in (I65 0 25) 2 from ⟨show 0 ≤ (I65 0 25).toInt from by omega, show (I65 0 25).toInt < 2 from by omega⟩) ?_
          have hR81 := mR_a (k := 8) (j := (I65 0 25).toInt.toNat) (x := z80) c65_0 (show 0 ≤ z80.toInt ∧ z80.toInt ≤ 5 from ⟨by omega, by omega⟩)
          have hF81 := f_fr_up (k := 8) (r := upd (I65 8) ((I65 0 25).toInt.toNat) z80) hF65 rfl
          have hO81 := f_fo_ne (k := 8) (r := upd (I65 8) ((I65 0 25).toInt.toNat) z80) hO65 (by decide)
          have htB81 := f_depo_up tB_dep (k := 8) (r := upd (I65 8) ((I65 0 25).toInt.toNat) z80) htB65 rfl (by decide)
          have hmL81 : mL (va_up I65 8 (upd (I65 8) ((I65 0 25).toInt.toNat) z80)) := mL_u8 c65_0 hmL65 (by rw [f65, d65]; omega)
          have y81 : ((upd (I65 8) (I65 0 25).toInt.toNat z80) (I 0 25).toInt.toNat).toInt = z80.toInt := by rw [f65, pk_us]
          have q81 : mQ (va_up I65 8 (upd (I65 8) ((I65 0 25).toInt.toNat) z80)) := mQ_eq p3 f65 (fun _ => g33.1) (by show _ ≤ ((upd (I65 8) (I65 0 25).toInt.toNat z80) (I 0 25).toInt.toNat).toInt; omega) r65.2.1 r65.2.2.1 r65.2.2.2.1 r65.2.2.2.2.1 r65.2.2.2.2.2.1 r65.2.2.2.2.2.2
          have b81 : I65 9 (I 0 24).toInt.toNat = I 9 (I 0 24).toInt.toNat := by rw [r65.2.1]
          have e123_17 : (I65 14 ((I 0 25).toInt.toNat)).toInt = (I33 14 ((I 0 25).toInt.toNat)).toInt := congrArg Int32.toInt (congrFun (c65_2 14 rfl) ((I 0 25).toInt.toNat))
          have e123_18 : (I33 14 ((I 0 25).toInt.toNat)).toInt = (J24 14 ((I 0 25).toInt.toNat)).toInt := congrArg Int32.toInt (congrFun (c33_2 14 rfl) ((I 0 25).toInt.toNat))
          have e123_19 : (J24 14 ((I 0 25).toInt.toNat)).toInt = (I 14 ((I 0 25).toInt.toNat)).toInt := congrArg Int32.toInt (congrFun u24_8 ((I 0 25).toInt.toNat))
          have e123_21 : (I65 11 ((I 0 25).toInt.toNat)).toInt = (I33 11 ((I 0 25).toInt.toNat)).toInt := congrArg Int32.toInt (congrFun (c65_2 11 rfl) ((I 0 25).toInt.toNat))
          have e123_22 : (I33 11 ((I 0 25).toInt.toNat)).toInt = (J24 11 ((I 0 25).toInt.toNat)).toInt := congrArg Int32.toInt (congrFun (c33_2 11 rfl) ((I 0 25).toInt.toNat))
          have e123_23 : (J24 11 ((I 0 25).toInt.toNat)).toInt = (I 11 ((I 0 25).toInt.toNat)).toInt := congrArg Int32.toInt (congrFun u24_5 ((I 0 25).toInt.toNat))
          have e123_25 : (I65 9 ((I 0 25).toInt.toNat)).toInt = (I33 9 ((I 0 25).toInt.toNat)).toInt := congrArg Int32.toInt (congrFun (c65_2 9 rfl) ((I 0 25).toInt.toNat))
          have e123_26 : (I33 9 ((I 0 25).toInt.toNat)).toInt = (J24 9 ((I 0 25).toInt.toNat)).toInt := congrArg Int32.toInt (congrFun (c33_2 9 rfl) ((I 0 25).toInt.toNat))
          have e123_27 : (J24 9 ((I 0 25).toInt.toNat)).toInt = (I 9 ((I 0 25).toInt.toNat)).toInt := congrArg Int32.toInt (congrFun u24_3 ((I 0 25).toInt.toNat))
          exact ⟨what, (by intro q9 h9; simp only [List.mem_cons, List.not_mem_nil, or_false] at h9; rcases h9 with h9 | h9 <;> subst h9 <;> repeat (first | exact List.mem_cons_self | apply List.mem_cons_of_mem)), rfl, hR81, hF81, hG68, hO81, hmL81, htB81, (show (I65 0 7).toInt ≤ 1600 from by first | assumption | omega), (show mQ (va_up I65 8 (upd (I65 8) ((I65 0 25).toInt.toNat) z80)) from by first | assumption | omega), (show 0 ≤ (I65 14 (I 0 25).toInt.toNat).toInt from by first | assumption | omega), (show (I65 14 (I 0 25).toInt.toNat).toInt ≤ 1 from by first | assumption | omega), (show (I65 11 (I 0 25).toInt.toNat).toInt ≤ 21 * (I65 9 (I 0 25).toInt.toNat).toInt + 7 * (I65 14 (I 0 25).toInt.toNat).toInt from by first | assumption | omega), (show (¬ (I65 0 4).toInt = 0 ∨ ((upd (I65 8) ((I65 0 25).toInt.toNat) z80) (I 0 25).toInt.toNat).toInt + (I65 9 (I 0 25).toInt.toNat).toInt + (I65 14 (I 0 25).toInt.toNat).toInt = (I 8 (I 0 25).toInt.toNat).toInt + (I 9 (I 0 25).toInt.toNat).toInt + (I 14 (I 0 25).toInt.toNat).toInt + 1) from by first | assumption | omega | rfl), (show I65 9 (I 0 24).toInt.toNat = I 9 (I 0 24).toInt.toNat from by first | assumption | omega | rfl)⟩
      · intro h28
        have h28 : x25.toInt = 0 := h28
        have r31_1 : 0 ≤ (J24 0 7).toInt ∧ (J24 0 7).toInt ≤ 1601 := hR24c 0 7
        have e31_3 : (J24 14 ((I 0 25).toInt.toNat)).toInt = (I 14 ((I 0 25).toInt.toNat)).toInt := congrArg Int32.toInt (congrFun u24_8 ((I 0 25).toInt.toNat))
        have r31_4 : 0 ≤ (J24 11 ((I 0 25).toInt.toNat)).toInt ∧ (J24 11 ((I 0 25).toInt.toNat)).toInt ≤ 260 := hR24c 11 ((I 0 25).toInt.toNat)
        have e31_5 : (J24 11 ((I 0 25).toInt.toNat)).toInt = (I 11 ((I 0 25).toInt.toNat)).toInt := congrArg Int32.toInt (congrFun u24_5 ((I 0 25).toInt.toNat))
        have r31_6 : 0 ≤ (J24 9 ((I 0 25).toInt.toNat)).toInt ∧ (J24 9 ((I 0 25).toInt.toNat)).toInt ≤ 12 := hR24c 9 ((I 0 25).toInt.toNat)
        have e31_7 : (J24 9 ((I 0 25).toInt.toNat)).toInt = (I 9 ((I 0 25).toInt.toNat)).toInt := congrArg Int32.toInt (congrFun u24_3 ((I 0 25).toInt.toNat))
        have r31_9 : 0 ≤ (J24 8 ((I 0 25).toInt.toNat)).toInt ∧ (J24 8 ((I 0 25).toInt.toNat)).toInt ≤ 5 := hR24c 8 ((I 0 25).toInt.toNat)
        have e31_10 : (J24 8 ((I 0 25).toInt.toNat)).toInt = (I 8 ((I 0 25).toInt.toNat)).toInt := congrArg Int32.toInt (congrFun u24_2 ((I 0 25).toInt.toNat))
        exact ⟨hR24c, hmL24c, htB24c, (mQ_bad (by omega)), hO24c, hF24c, hG24c, (show (J24 0 7).toInt ≤ 1600 from by first | assumption | omega | rfl), (show 0 ≤ (J24 14 (I 0 25).toInt.toNat).toInt from by first | assumption | omega | rfl), (show (J24 14 (I 0 25).toInt.toNat).toInt ≤ 1 from by first | assumption | omega | rfl), (show (J24 11 (I 0 25).toInt.toNat).toInt ≤ 21 * (J24 9 (I 0 25).toInt.toNat).toInt + 7 * (J24 14 (I 0 25).toInt.toNat).toInt from by first | assumption | omega | rfl), (show (¬ (J24 0 4).toInt = 0 ∨ (J24 8 (I 0 25).toInt.toNat).toInt + (J24 9 (I 0 25).toInt.toNat).toInt + (J24 14 (I 0 25).toInt.toNat).toInt = (I 8 (I 0 25).toInt.toNat).toInt + (I 9 (I 0 25).toInt.toNat).toInt + (I 14 (I 0 25).toInt.toNat).toInt + 1) from by first | assumption | omega | rfl), (show J24 9 (I 0 24).toInt.toNat = I 9 (I 0 24).toInt.toNat from by rw [u24_3])⟩
    refine f_wp_ok C f_cl flX12_ok fiX12_ok fjX12_ok (sn := none) (fun j h => by cases h) (cs := (f_cnl [(315, (1, 3, 11, pX12_isFullb, qX12_isFullb)), (288, (1, 0, 11, pX12_misplaced, qX12_misplaced)), (281, (1, 3, 11, pX12_isGood, qX12_isGood)), (285, (1, 0, 11, pX12_goOn, qX12_goOn)), (318, (1, 2, 11, pX12_freshb, qX12_freshb)), (322, (1, 1, 11, pX12_readT, qX12_readT)), (326, (1, 0, 11, pX12_readWord, qX12_readWord)), (329, (2, 3, 11, pX12_stands, qX12_stands)), (332, (2, 0, 11, pX12_mustb, qX12_mustb))])) (cz := (fun _ => none)) (f_cnl_of (P := fun j S => f_cok pP l eP (f_rm 5) sP mP aP bP hP9 cP mY 71 a cy dC dI 3 _ _ (.invokevirtual j) true S) (List.forall_mem_cons.mpr ⟨f_cokV C (mX12_isFullb hinj) (ci := 11) rfl (List.forall_mem_cons.mpr ⟨(mlX12_ok _ (List.mem_of_getElem? (i := 13) rfl)), kc_X12_isFull⟩) (by decide +kernel) ⟨Nat.le_of_ble_eq_true rfl, Nat.le_of_ble_eq_true rfl⟩, List.forall_mem_cons.mpr ⟨f_cokV C (mX12_misplaced hinj) (ci := 11) rfl (List.forall_mem_cons.mpr ⟨(mlX12_ok _ (List.mem_of_getElem? (i := 9) rfl)), kc_X12_misplaced⟩) (by decide +kernel) ⟨Nat.le_of_ble_eq_true rfl, Nat.le_of_ble_eq_true rfl⟩, List.forall_mem_cons.mpr ⟨f_cokV C (mX12_isGood hinj) (ci := 11) rfl (List.forall_mem_cons.mpr ⟨(mlX12_ok _ (List.mem_of_getElem? (i := 7) rfl)), kc_X12_isGood⟩) (by decide +kernel) ⟨Nat.le_of_ble_eq_true rfl, Nat.le_of_ble_eq_true rfl⟩, List.forall_mem_cons.mpr ⟨f_cokV C (mX12_goOn hinj) (ci := 11) rfl (List.forall_mem_cons.mpr ⟨(mlX12_ok _ (List.mem_of_getElem? (i := 8) rfl)), kc_X12_goOn⟩) (by decide +kernel) ⟨Nat.le_of_ble_eq_true rfl, Nat.le_of_ble_eq_true rfl⟩, List.forall_mem_cons.mpr ⟨f_cokV C (mX12_freshb hinj) (ci := 11) rfl (List.forall_mem_cons.mpr ⟨(mlX12_ok _ (List.mem_of_getElem? (i := 14) rfl)), kc_X12_fresh⟩) (by decide +kernel) ⟨Nat.le_of_ble_eq_true rfl, Nat.le_of_ble_eq_true rfl⟩, List.forall_mem_cons.mpr ⟨f_cokV C (mX12_readT hinj) (ci := 11) rfl (List.forall_mem_cons.mpr ⟨(mlX12_ok _ (List.mem_of_getElem? (i := 15) rfl)), kc_X12_readT⟩) (by decide +kernel) ⟨Nat.le_of_ble_eq_true rfl, Nat.le_of_ble_eq_true rfl⟩, List.forall_mem_cons.mpr ⟨f_cokV C (mX12_readWord hinj) (ci := 11) rfl (List.forall_mem_cons.mpr ⟨(mlX12_ok _ (List.mem_of_getElem? (i := 16) rfl)), kc_X12_readWord⟩) (by decide +kernel) ⟨Nat.le_of_ble_eq_true rfl, Nat.le_of_ble_eq_true rfl⟩, List.forall_mem_cons.mpr ⟨f_cokV C (mX12_stands hinj) (ci := 11) rfl (List.forall_mem_cons.mpr ⟨(mlX12_ok _ (List.mem_of_getElem? (i := 17) rfl)), kc_X12_stands⟩) (by decide +kernel) ⟨Nat.le_of_ble_eq_true rfl, Nat.le_of_ble_eq_true rfl⟩, List.forall_mem_cons.mpr ⟨f_cokV C (mX12_mustb hinj) (ci := 11) rfl (List.forall_mem_cons.mpr ⟨(mlX12_ok _ (List.mem_of_getElem? (i := 18) rfl)), kc_X12_must⟩) (by decide +kernel) ⟨Nat.le_of_ble_eq_true rfl, Nat.le_of_ble_eq_true rfl⟩, fun _ h => absurd h List.not_mem_nil⟩⟩⟩⟩⟩⟩⟩⟩⟩)) (fun j S h => by cases h) tX12_readLine_ok (cut := (f_cnl [(24, (fun (ls' : fLs) (st' : List Value) (I' : fM) (L' : fN) => ∃ what : Int64, (∀ q ∈ ([(1, .long what), (0, .ref 0)] : fLs), q ∈ ls') ∧ st' = [] ∧ (mR I' ∧ f_fr [0, 3, 4, 5, 6, 7, 8, 9, 10, 11, 12, 13, 14, 17, 18] I I' ∧ f_fr [0, 15, 16] L L' ∧ f_fo [4, 5, 6, 7, 8] I I' ∧ mL I' ∧ tB I' ∧ ((I' 0 7).toInt ≤ 1600) ∧ (I' 8 = I 8) ∧ (I' 9 = I 9) ∧ (I' 10 = I 10) ∧ (I' 11 = I 11) ∧ (I' 12 = I 12) ∧ (I' 13 = I 13) ∧ (I' 14 = I 14) ∧ ((¬ (I' 0 4).toInt = 0 ∨ (I 0 4).toInt = 0 ∧ ((lg_cmp what (1802071652 : Int64)).toInt = 0 ∧ (I 8 (I 0 25).toInt.toNat).toInt ≤ 4 ∨ (lg_cmp what (2003792484 : Int64)).toInt = 0 ∧ (I 9 (I 0 25).toInt.toNat).toInt ≤ 11 ∨ (lg_cmp what (1735352684 : Int64)).toInt = 0 ∧ (I 14 (I 0 25).toInt.toNat).toInt = 0))))))])) (f_cnl_of (P := fun (tQ : Nat) (P : fLs → List Value → fM → fN → Prop) => ∀ ls' st' I' L', P ls' st' I' L' → f_W pP l eP (f_rm 5) sP mP aP bP hP9 cP mY 71 a cy dC dI 3 (f_K 0 (qX12_readLine [.ref 0] I L)) tQ ls' st' I' L') (List.forall_mem_cons.mpr ⟨(fun ls' st' I' L' h => by obtain ⟨what, hs, e1, h9⟩ := h; rw [e1]; exact f_W_sub hs (lp24 what I' L' h9)), fun _ h => absurd h List.not_mem_nil⟩)) 15 0 tX12_readLine tX12_readLine_ok _ _ _ _ ?_
    apply And.intro
    · intro h10
      have h10 : ¬ (I 0 8).toInt = 3 := h10
      refine And.intro hR ?_
      intro I21 L21 hq21
      have hq21 : mR I21 ∧ f_fo [4, 5] I I21 ∧ f_fr [0] I I21 ∧ L21 = L ∧ 1 ≤ (I21 0 4).toInt := hq21
      obtain ⟨c21_0, c21_1, c21_2, eL21, c21_4⟩ := hq21
      replace eL21 := eL21.symm
      subst eL21
      have hO21 := f_fo_tr hO0 c21_1 rfl
      have hmL21 := f_depo_fo mL_dep hmL c21_2 c21_1 rfl rfl
      have htB21 := f_depo_fo tB_dep htB c21_2 c21_1 rfl rfl
      have hF21 := f_fr_tr hF0 c21_2 rfl
      have r24_2 : 0 ≤ (I21 0 7).toInt ∧ (I21 0 7).toInt ≤ 1601 := c21_0 0 7
      have e24_3 : (I21 0 7).toInt = (I 0 7).toInt := congrArg Int32.toInt (c21_1 7 rfl)
      exact ⟨L 0 9, (by intro q9 h9; simp only [List.mem_cons, List.not_mem_nil, or_false] at h9; rcases h9 with h9 | h9 <;> subst h9 <;> repeat (first | exact List.mem_cons_self | apply List.mem_cons_of_mem)), rfl, c21_0, hF21, hG0, hO21, hmL21, htB21, (show (I21 0 7).toInt ≤ 1600 from by first | assumption | omega), (show I21 8 = I 8 from by first | assumption | exact (c21_2 8 rfl)), (show I21 9 = I 9 from by first | assumption | exact (c21_2 9 rfl)), (show I21 10 = I 10 from by first | assumption | exact (c21_2 10 rfl)), (show I21 11 = I 11 from by first | assumption | exact (c21_2 11 rfl)), (show I21 12 = I 12 from by first | assumption | exact (c21_2 12 rfl)), (show I21 13 = I 13 from by first | assumption | exact (c21_2 13 rfl)), (show I21 14 = I 14 from by first | assumption | exact (c21_2 14 rfl)), (show (¬ (I21 0 4).toInt = 0 ∨ (I 0 4).toInt = 0 ∧ ((lg_cmp (L 0 9) (1802071652 : Int64)).toInt = 0 ∧ (I 8 (I 0 25).toInt.toNat).toInt ≤ 4 ∨ (lg_cmp (L 0 9) (2003792484 : Int64)).toInt = 0 ∧ (I 9 (I 0 25).toInt.toNat).toInt ≤ 11 ∨ (lg_cmp (L 0 9) (1735352684 : Int64)).toInt = 0 ∧ (I 14 (I 0 25).toInt.toNat).toInt = 0)) from by first | assumption | omega | rfl)⟩
    · intro h10
      have h10 : (I 0 8).toInt = 3 := h10
      refine And.intro hR ?_
      intro x14 I14 L14 hq14
      have hq14 : I14 = I ∧ L14 = L ∧ ((x14.toInt = 0 ∨ x14.toInt = 1)) ∧ ((x14.toInt = 1 ∨ (lg_cmp (L 0 9) (1802071652 : Int64)).toInt = 0 ∧ (I 8 (I 0 25).toInt.toNat).toInt ≤ 4 ∨ (lg_cmp (L 0 9) (2003792484 : Int64)).toInt = 0 ∧ (I 9 (I 0 25).toInt.toNat).toInt ≤ 11 ∨ (lg_cmp (L 0 9) (1735352684 : Int64)).toInt = 0 ∧ (I 14 (I 0 25).toInt.toNat).toInt = 0)) := hq14
      obtain ⟨eI14, eL14, c14_2, c14_3⟩ := hq14
      replace eI14 := eI14.symm
      subst eI14
      replace eL14 := eL14.symm
      subst eL14
      have r14_2 : 0 ≤ (I 8 ((I 0 25).toInt.toNat)).toInt ∧ (I 8 ((I 0 25).toInt.toNat)).toInt ≤ 5 := hR 8 ((I 0 25).toInt.toNat)
      have r14_3 : 0 ≤ (I 0 25).toInt ∧ (I 0 25).toInt ≤ 1 := hR 0 25
      have r14_4 : 0 ≤ (I 9 ((I 0 25).toInt.toNat)).toInt ∧ (I 9 ((I 0 25).toInt.toNat)).toInt ≤ 12 := hR 9 ((I 0 25).toInt.toNat)
      apply And.intro
      · intro h17
        have h17 : x14.toInt = 0 := h17
        have r24_6 : 0 ≤ (I 0 7).toInt ∧ (I 0 7).toInt ≤ 1601 := hR 0 7
        exact ⟨L 0 9, (by intro q9 h9; simp only [List.mem_cons, List.not_mem_nil, or_false] at h9; rcases h9 with h9 | h9 <;> subst h9 <;> repeat (first | exact List.mem_cons_self | apply List.mem_cons_of_mem)), rfl, hR, hF0, hG0, hO0, hmL, htB, (show (I 0 7).toInt ≤ 1600 from by first | assumption | omega), (show I 8 = I 8 from by first | assumption | exact rfl), (show I 9 = I 9 from by first | assumption | exact rfl), (show I 10 = I 10 from by first | assumption | exact rfl), (show I 11 = I 11 from by first | assumption | exact rfl), (show I 12 = I 12 from by first | assumption | exact rfl), (show I 13 = I 13 from by first | assumption | exact rfl), (show I 14 = I 14 from by first | assumption | exact rfl), (show (¬ (I 0 4).toInt = 0 ∨ (I 0 4).toInt = 0 ∧ ((lg_cmp (L 0 9) (1802071652 : Int64)).toInt = 0 ∧ (I 8 (I 0 25).toInt.toNat).toInt ≤ 4 ∨ (lg_cmp (L 0 9) (2003792484 : Int64)).toInt = 0 ∧ (I 9 (I 0 25).toInt.toNat).toInt ≤ 11 ∨ (lg_cmp (L 0 9) (1735352684 : Int64)).toInt = 0 ∧ (I 14 (I 0 25).toInt.toNat).toInt = 0)) from by first | assumption | omega | rfl)⟩
      · intro h17
        have h17 : ¬ x14.toInt = 0 := h17
        refine And.intro hR ?_
        intro I21 L21 hq21
        have hq21 : mR I21 ∧ f_fo [4, 5] I I21 ∧ f_fr [0] I I21 ∧ L21 = L ∧ 1 ≤ (I21 0 4).toInt := hq21
        obtain ⟨c21_0, c21_1, c21_2, eL21, c21_4⟩ := hq21
        replace eL21 := eL21.symm
        subst eL21
        have hO21 := f_fo_tr hO0 c21_1 rfl
        have hmL21 := f_depo_fo mL_dep hmL c21_2 c21_1 rfl rfl
        have htB21 := f_depo_fo tB_dep htB c21_2 c21_1 rfl rfl
        have hF21 := f_fr_tr hF0 c21_2 rfl
        have r24_6 : 0 ≤ (I21 0 7).toInt ∧ (I21 0 7).toInt ≤ 1601 := c21_0 0 7
        have e24_7 : (I21 0 7).toInt = (I 0 7).toInt := congrArg Int32.toInt (c21_1 7 rfl)
        exact ⟨L 0 9, (by intro q9 h9; simp only [List.mem_cons, List.not_mem_nil, or_false] at h9; rcases h9 with h9 | h9 <;> subst h9 <;> repeat (first | exact List.mem_cons_self | apply List.mem_cons_of_mem)), rfl, c21_0, hF21, hG0, hO21, hmL21, htB21, (show (I21 0 7).toInt ≤ 1600 from by first | assumption | omega), (show I21 8 = I 8 from by first | assumption | exact (c21_2 8 rfl)), (show I21 9 = I 9 from by first | assumption | exact (c21_2 9 rfl)), (show I21 10 = I 10 from by first | assumption | exact (c21_2 10 rfl)), (show I21 11 = I 11 from by first | assumption | exact (c21_2 11 rfl)), (show I21 12 = I 12 from by first | assumption | exact (c21_2 12 rfl)), (show I21 13 = I 13 from by first | assumption | exact (c21_2 13 rfl)), (show I21 14 = I 14 from by first | assumption | exact (c21_2 14 rfl)), (show (¬ (I21 0 4).toInt = 0 ∨ (I 0 4).toInt = 0 ∧ ((lg_cmp (L 0 9) (1802071652 : Int64)).toInt = 0 ∧ (I 8 (I 0 25).toInt.toNat).toInt ≤ 4 ∨ (lg_cmp (L 0 9) (2003792484 : Int64)).toInt = 0 ∧ (I 9 (I 0 25).toInt.toNat).toInt ≤ 11 ∨ (lg_cmp (L 0 9) (1735352684 : Int64)).toInt = 0 ∧ (I 14 (I 0 25).toInt.toNat).toInt = 0)) from by first | assumption | omega | rfl)⟩
/-- the lexicon is read, its numbers are not yet laid -/
def mA (I : fM) : Prop := tr (I 3) (I 4) (I 5) (I 6) (260 * (I 0 24).toInt) (260 * (I 0 24).toInt + (I 11 (I 0 24).toInt.toNat).toInt) ∧
  (∀ k : Nat, 12 * (I 0 24).toInt ≤ k → (k : Int) < 12 * (I 0 24).toInt + (I 9 (I 0 24).toInt.toNat).toInt → 1 ≤ (I 12 k).toInt ∧ ∀ t : Nat, 3 * k ≤ t → (t : Int) < 3 * k + (I 12 k).toInt → 260 * (I 0 24).toInt ≤ (I 13 t).toInt ∧ (I 13 t).toInt < 260 * (I 0 24).toInt + (I 11 (I 0 24).toInt.toNat).toInt) ∧
  (¬ (I 14 (I 0 24).toInt.toNat).toInt = 0 → 260 * (I 0 24).toInt ≤ (I 10 (I 0 24).toInt.toNat).toInt ∧ (I 10 (I 0 24).toInt.toNat).toInt < 260 * (I 0 24).toInt + (I 11 (I 0 24).toInt.toNat).toInt) ∧ (0 < (I 9 (I 0 24).toInt.toNat).toInt → 0 < (I 8 (I 0 24).toInt.toNat).toInt)
-- @invo mA [3, 4, 5, 6, 8, 9, 10, 11, 12, 13, 14] [24]
theorem mA_dep : f_depo mA [3, 4, 5, 6, 8, 9, 10, 11, 12, 13, 14] [24] := by
  intro I I' h ho hA
  unfold mA
  rw [h 3 rfl, h 4 rfl, h 5 rfl, h 6 rfl, h 8 rfl, h 9 rfl, h 10 rfl, h 11 rfl, h 12 rfl, h 13 rfl, h 14 rfl, ho 24 rfl]
  exact hA
