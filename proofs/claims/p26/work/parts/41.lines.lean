theorem xG_0 {k : Nat} {I : fM} (h5 : (I k 5).toInt = 0) (h6 : (I k 6).toInt = -1) : xG k I := ⟨fun w t h _ => by omega, Or.inl h6⟩
theorem xG_kind {k : Nat} {I I' : fM} (h : xG k I) (h5 : I' k 5 = I k 5) (h6 : I' k 6 = I k 6) (h3 : I' (k + 3) = I (k + 3)) (h4 : I' (k + 4) = I (k + 4)) : xG k I' := by
  unfold xG
  rw [h5, h6, h3, h4]
  exact h
theorem xG_goal {k : Nat} {I I' : fM} (h : xG k I) (h5 : I' k 5 = I k 5) (h6 : ∃ n, wfT (I' k 6) n) (h3 : I' (k + 3) = I (k + 3)) (h4 : I' (k + 4) = I (k + 4)) : xG k I' := by
  unfold xG
  rw [h5, h3, h4]
  exact ⟨h.1, Or.inr h6⟩
theorem xG_word {k : Nat} {I I' : fM} (h : xG k I) (h5 : (I' k 5).toInt = (I k 5).toInt + 1) (h3 : I' (k + 3) = upd (I (k + 3)) (I k 5).toNatClampNeg 0) (h4 : I' (k + 4) = I (k + 4)) (h6 : I' k 6 = I k 6) : xG k I' := by
  refine ⟨fun w t hw ht => ?_, by rw [h6]; exact h.2⟩
  rw [h4]
  rw [h3, f_tn] at ht
  by_cases e : w = (I k 5).toInt.toNat
  · rw [e, pk_us] at ht
    have ht : (t : Int) < 0 := ht
    omega
  · rw [pk_un e] at ht
    exact h.1 w t (by omega) ht
theorem xG_tag {k : Nat} {I I' : fM} {g : Int32} (hk : (k = 5 ∨ k = 10)) (hR : xR I) (h : xG k I) (hg : ∃ n, wfT g n) (hF : f_fr [k + 3, k + 4] I I') (hq : ((0 < (I k 5).toInt ∧ (I (k + 3) ((I k 5).toInt - 1).toNat).toInt < 3 ∧ I' (k + 4) = upd (I (k + 4)) (3 * ((I k 5).toInt - 1) + (I (k + 3) ((I k 5).toInt - 1).toNat).toInt).toNat g ∧ (∃ z : Int32, z.toInt = (I (k + 3) ((I k 5).toInt - 1).toNat).toInt + 1 ∧ I' (k + 3) = upd (I (k + 3)) ((I k 5).toInt - 1).toNat z)) ∨ (((I k 5).toInt ≤ 0 ∨ 3 ≤ (I (k + 3) ((I k 5).toInt - 1).toNat).toInt) ∧ I' = I))) : xG k I' := by
  rcases hq with ⟨h1, h2, h4, z, hz, h3⟩ | ⟨-, e⟩
  · have hc : ∀ w, 0 ≤ (I (k + 3) w).toInt ∧ (I (k + 3) w).toInt ≤ 3 := by
      intro w
      rcases hk with rfl | rfl <;> exact hR _ w
    have hkk : I' k = I k := by rcases hk with rfl | rfl <;> exact hF _ rfl
    refine ⟨fun w t hw ht => ?_, by rw [hkk]; exact h.2⟩
    rw [hkk] at hw
    rw [h4]
    rw [h3] at ht
    generalize hW : ((I k 5).toInt - 1).toNat = W at *
    have := hc W
    have := hc w
    have eW : (3 * ((I k 5).toInt - 1) + (I (k + 3) W).toInt).toNat = 3 * W + (I (k + 3) W).toInt.toNat := by omega
    rw [eW]
    by_cases e : w = W
    · subst e
      rw [pk_us] at ht
      by_cases e2 : (t : Int) = (I (k + 3) w).toInt
      · rw [show 3 * w + t = 3 * w + (I (k + 3) w).toInt.toNat by omega, pk_us]
        exact hg
      · rw [pk_un (by omega)]
        exact h.1 w t hw (by omega)
    · rw [pk_un e] at ht
      rw [pk_un (by omega)]
      exact h.1 w t hw ht
  · rw [e]; exact h
theorem wfK_wf {x : Int32} {b c : Int} (h : wfK x b c) : ∃ n, wfT x n := by
  obtain ⟨n, h1, -⟩ := h
  exact ⟨n, h1⟩
def tX4_readKind : List (Instr × Nat) := [(.aload_n 0, 1), (.getfield 21, 3), (.invokevirtual 61, 3), (.aload_n 0, 1), (.getfield 21, 3), (.getfield 46, 3), (.lstore_n 2, 1), (.aload_n 0, 1), (.aload_n 1, 1), (.invokevirtual 107, 3), (.ifCond .eq 8, 3), (.aload_n 1, 1), (.lload_n 2, 1), (.invokevirtual 111, 3), (.return_, 1)]
theorem tX4_readKind_ok : f_chk cX4_readKind 0 tX4_readKind = true := by decide +kernel
def pX4_readKind (av : List Value) (I : fM) (L : fN) : Prop := match av with
  | [.ref 3, .ref k] => (k = 5 ∨ k = 10) ∧ xR I ∧ (I 3 2).toInt = 0 ∧ xG k I
  | _ => False
def qX4_readKind (av : List Value) (I : fM) (L : fN) (r : Value) (I' : fM) (L' : fN) : Prop := match av, r with
  | [.ref 3, .ref k], .null => xR I' ∧ f_fr [1, 3, k] I I' ∧ f_fr [1, k + 1] L L' ∧ 0 ≤ (I' 3 2).toInt ∧ ((I' 3 2).toInt = 0 → xG k I')
  | _, _ => False
set_option maxHeartbeats 4000000 in
set_option maxRecDepth 100000 in
theorem mX4_readKind {l : Launch} {a : Nat → Nat} {cy dC : Nat → ClassId} {dI : Nat → Nat → Nat} (hinj : ∀ i j, i < 80 → j < 80 → a i = a j → i = j) : f_Met (xE a) l xY 80 a cy dC dI yX4_readKind cX4_readKind 4 0 8 pX4_readKind qX4_readKind := by
  refine f_met_of (xE_c a) hinj xY_hi (by decide) (fun av I L h => by unfold pX4_readKind at h; split at h <;> first | exact Nat.le_of_ble_eq_true rfl | exact h.elim) ?_
  intro pP eP sP mP aP bP hP9 cP C av I L hp
  unfold pX4_readKind at hp
  split at hp
  case h_2 => exact hp.elim
  case h_1 k =>
    obtain ⟨p0, hR, p2, p3⟩ := hp
    rcases p0 with rfl | rfl
    -- pat [.ref 3, .ref 5]
    · skip
      have hR : xR I := hR
      have p2 : (I 3 2).toInt = 0 := p2
      have p3 : xG 5 I := p3
      have hF0 : f_fr [1, 3, 5] I I := f_fr_rf
      have hG0 : f_fr [1, 6] L L := f_fr_rf
      refine f_wp_ok C f_cl flX4_ok fiX4_ok fjX4_ok (sn := none) (fun j h => by cases h) (cs := (f_cnl [(61, (1, 0, 8, pX9_next, qX9_next)), (107, (2, 3, 4, pX4_passNewName, qX4_passNewName)), (111, (2, 0, 1, pX1_addKind, qX1_addKind))])) (cz := (fun _ => none)) (f_cnl_of (P := fun j S => f_cok pP l eP (f_rm 8) sP mP aP bP hP9 cP xY 80 a cy dC dI 4 _ _ (.invokevirtual j) true S) (List.forall_mem_cons.mpr ⟨f_cokV C (mX9_next hinj) (ci := 8) rfl (List.forall_mem_cons.mpr ⟨(mlX4_ok _ (List.mem_of_getElem? (i := 7) rfl)), kc_X9_next⟩) (by decide +kernel) ⟨Nat.le_of_ble_eq_true rfl, Nat.le_of_ble_eq_true rfl⟩, List.forall_mem_cons.mpr ⟨f_cokV C (mX4_passNewName hinj) (ci := 4) rfl (List.forall_mem_cons.mpr ⟨(mlX4_ok _ (List.mem_of_getElem? (i := 15) rfl)), kc_X4_passNewName⟩) (by decide +kernel) ⟨Nat.le_of_ble_eq_true rfl, Nat.le_of_ble_eq_true rfl⟩, List.forall_mem_cons.mpr ⟨f_cokV C (mX1_addKind hinj) (ci := 1) rfl (List.forall_mem_cons.mpr ⟨(mlX4_ok _ (List.mem_of_getElem? (i := 16) rfl)), kc_X1_addKind⟩) (by decide +kernel) ⟨Nat.le_of_ble_eq_true rfl, Nat.le_of_ble_eq_true rfl⟩, fun _ h => absurd h List.not_mem_nil⟩⟩⟩)) (fun j S h => by cases h) tX4_readKind_ok (cut := (fun _ => none)) (fun t P h => by cases h) 18 0 tX4_readKind tX4_readKind_ok _ _ _ _ ?_
      refine And.intro hR ?_
      intro I4 L4 hq4
      have hq4 : xR I4 ∧ f_fr [1] I I4 ∧ f_fr [1] L L4 := hq4
      obtain ⟨c4_0, c4_1, c4_2⟩ := hq4
      have hF4 := f_fr_tr hF0 c4_1 rfl
      have hG4 := f_fr_tr hG0 c4_2 rfl
      have e17_2 : (I4 3 2).toInt = (I 3 2).toInt := congrArg Int32.toInt (congrFun (c4_1 3 rfl) 2)
      refine And.intro ⟨(by decide), c4_0, (show (I4 3 2).toInt = 0 from by first | assumption | omega | rfl)⟩ ?_
      intro x17 I17 L17 hq17
      have hq17 : xR I17 ∧ f_fr [1, 3] I4 I17 ∧ f_fr [1] L4 L17 ∧ ((x17.toInt = 1 ∧ (I17 3 2).toInt = 0 ∨ x17.toInt = 0 ∧ 1 ≤ (I17 3 2).toInt)) := hq17
      obtain ⟨c17_0, c17_1, c17_2, c17_3⟩ := hq17
      have hF17 := f_fr_tr hF4 c17_1 rfl
      have hG17 := f_fr_tr hG4 c17_2 rfl
      have g17 : xG 5 I17 := xG_fr (xG_fr p3 c4_1 rfl rfl rfl) c17_1 rfl rfl rfl
      apply And.intro
      · intro h20
        have h20 : x17.toInt = 0 := h20
        exact ⟨c17_0, hF17, hG17, (show 0 ≤ (I17 3 2).toInt from by first | assumption | omega | rfl), (fun _ => by first | exact g25 | exact g17)⟩
      · intro h20
        have h20 : ¬ x17.toInt = 0 := h20
        refine And.intro ⟨(by decide), c17_0⟩ ?_
        intro I25 L25 hq25
        have hq25 : xR I25 ∧ f_fr [5] I17 I25 ∧ f_fr [6] L17 L25 ∧ (I17 5 4).toInt ≤ (I25 5 4).toInt ∧ I25 5 5 = I17 5 5 ∧ I25 5 6 = I17 5 6 := hq25
        obtain ⟨c25_0, c25_1, c25_2, c25_3, c25_4, c25_5⟩ := hq25
        have hF25 := f_fr_tr hF17 c25_1 rfl
        have hG25 := f_fr_tr hG17 c25_2 rfl
        have g25 : xG 5 I25 := xG_kind g17 c25_4 c25_5 (c25_1 _ rfl) (c25_1 _ rfl)
        have e28_4 : (I25 3 2).toInt = (I17 3 2).toInt := congrArg Int32.toInt (congrFun (c25_1 3 rfl) 2)
        exact ⟨c25_0, hF25, hG25, (show 0 ≤ (I25 3 2).toInt from by first | assumption | omega | rfl), (fun _ => by first | exact g25 | exact g17)⟩
    -- pat [.ref 3, .ref 10]
    · skip
      have hR : xR I := hR
      have p2 : (I 3 2).toInt = 0 := p2
      have p3 : xG 10 I := p3
      have hF0 : f_fr [1, 3, 10] I I := f_fr_rf
      have hG0 : f_fr [1, 11] L L := f_fr_rf
      refine f_wp_ok C f_cl flX4_ok fiX4_ok fjX4_ok (sn := none) (fun j h => by cases h) (cs := (f_cnl [(61, (1, 0, 8, pX9_next, qX9_next)), (107, (2, 3, 4, pX4_passNewName, qX4_passNewName)), (111, (2, 0, 1, pX1_addKind, qX1_addKind))])) (cz := (fun _ => none)) (f_cnl_of (P := fun j S => f_cok pP l eP (f_rm 8) sP mP aP bP hP9 cP xY 80 a cy dC dI 4 _ _ (.invokevirtual j) true S) (List.forall_mem_cons.mpr ⟨f_cokV C (mX9_next hinj) (ci := 8) rfl (List.forall_mem_cons.mpr ⟨(mlX4_ok _ (List.mem_of_getElem? (i := 7) rfl)), kc_X9_next⟩) (by decide +kernel) ⟨Nat.le_of_ble_eq_true rfl, Nat.le_of_ble_eq_true rfl⟩, List.forall_mem_cons.mpr ⟨f_cokV C (mX4_passNewName hinj) (ci := 4) rfl (List.forall_mem_cons.mpr ⟨(mlX4_ok _ (List.mem_of_getElem? (i := 15) rfl)), kc_X4_passNewName⟩) (by decide +kernel) ⟨Nat.le_of_ble_eq_true rfl, Nat.le_of_ble_eq_true rfl⟩, List.forall_mem_cons.mpr ⟨f_cokV C (mX1_addKind hinj) (ci := 1) rfl (List.forall_mem_cons.mpr ⟨(mlX4_ok _ (List.mem_of_getElem? (i := 16) rfl)), kc_X1_addKind⟩) (by decide +kernel) ⟨Nat.le_of_ble_eq_true rfl, Nat.le_of_ble_eq_true rfl⟩, fun _ h => absurd h List.not_mem_nil⟩⟩⟩)) (fun j S h => by cases h) tX4_readKind_ok (cut := (fun _ => none)) (fun t P h => by cases h) 18 0 tX4_readKind tX4_readKind_ok _ _ _ _ ?_
      refine And.intro hR ?_
      intro I4 L4 hq4
      have hq4 : xR I4 ∧ f_fr [1] I I4 ∧ f_fr [1] L L4 := hq4
      obtain ⟨c4_0, c4_1, c4_2⟩ := hq4
      have hF4 := f_fr_tr hF0 c4_1 rfl
      have hG4 := f_fr_tr hG0 c4_2 rfl
      have e17_2 : (I4 3 2).toInt = (I 3 2).toInt := congrArg Int32.toInt (congrFun (c4_1 3 rfl) 2)
      refine And.intro ⟨(by decide), c4_0, (show (I4 3 2).toInt = 0 from by first | assumption | omega | rfl)⟩ ?_
      intro x17 I17 L17 hq17
      have hq17 : xR I17 ∧ f_fr [1, 3] I4 I17 ∧ f_fr [1] L4 L17 ∧ ((x17.toInt = 1 ∧ (I17 3 2).toInt = 0 ∨ x17.toInt = 0 ∧ 1 ≤ (I17 3 2).toInt)) := hq17
      obtain ⟨c17_0, c17_1, c17_2, c17_3⟩ := hq17
      have hF17 := f_fr_tr hF4 c17_1 rfl
      have hG17 := f_fr_tr hG4 c17_2 rfl
      have g17 : xG 10 I17 := xG_fr (xG_fr p3 c4_1 rfl rfl rfl) c17_1 rfl rfl rfl
      apply And.intro
      · intro h20
        have h20 : x17.toInt = 0 := h20
        exact ⟨c17_0, hF17, hG17, (show 0 ≤ (I17 3 2).toInt from by first | assumption | omega | rfl), (fun _ => by first | exact g25 | exact g17)⟩
      · intro h20
        have h20 : ¬ x17.toInt = 0 := h20
        refine And.intro ⟨(by decide), c17_0⟩ ?_
        intro I25 L25 hq25
        have hq25 : xR I25 ∧ f_fr [10] I17 I25 ∧ f_fr [11] L17 L25 ∧ (I17 10 4).toInt ≤ (I25 10 4).toInt ∧ I25 10 5 = I17 10 5 ∧ I25 10 6 = I17 10 6 := hq25
        obtain ⟨c25_0, c25_1, c25_2, c25_3, c25_4, c25_5⟩ := hq25
        have hF25 := f_fr_tr hF17 c25_1 rfl
        have hG25 := f_fr_tr hG17 c25_2 rfl
        have g25 : xG 10 I25 := xG_kind g17 c25_4 c25_5 (c25_1 _ rfl) (c25_1 _ rfl)
        have e28_4 : (I25 3 2).toInt = (I17 3 2).toInt := congrArg Int32.toInt (congrFun (c25_1 3 rfl) 2)
        exact ⟨c25_0, hF25, hG25, (show 0 ≤ (I25 3 2).toInt from by first | assumption | omega | rfl), (fun _ => by first | exact g25 | exact g17)⟩
    -- pat [.ref 3, .ref k]
def tX4_readWord : List (Instr × Nat) := [(.aload_n 0, 1), (.getfield 21, 3), (.invokevirtual 61, 3), (.aload_n 0, 1), (.getfield 21, 3), (.getfield 46, 3), (.lstore_n 2, 1), (.aload_n 0, 1), (.aload_n 1, 1), (.invokevirtual 107, 3), (.ifCond .eq 17, 3), (.aload_n 0, 1), (.aload_n 0, 1), (.ldc2_w 115, 3), (.invokevirtual 76, 3), (.invokevirtual 103, 3), (.ifCond .ne 4, 3), (.return_, 1), (.aload_n 1, 1), (.lload_n 2, 1), (.invokevirtual 117, 3), (.aload_n 1, 1), (.aload_n 0, 1), (.aload_n 1, 1), (.iconst 0, 1), (.invokevirtual 91, 3), (.invokevirtual 120, 3), (.iconst 1, 1), (.istore 4, 2), (.iload 4, 2), (.iconst 3, 1), (.if_icmp .ge 43, 3), (.aload_n 0, 1), (.getfield 43, 3), (.ifCond .ne 36, 3), (.aload_n 0, 1), (.ldc2_w 124, 3), (.invokevirtual 76, 3), (.ifCond .eq 26, 3), (.aload_n 0, 1), (.getfield 21, 3), (.invokevirtual 61, 3), (.aload_n 1, 1), (.aload_n 0, 1), (.aload_n 1, 1), (.iconst 0, 1), (.invokevirtual 91, 3), (.invokevirtual 120, 3), (.iinc 4 1, 3), (.goto (-43), 3), (.return_, 1)]
theorem tX4_readWord_ok : f_chk cX4_readWord 0 tX4_readWord = true := by decide +kernel
def pX4_readWord (av : List Value) (I : fM) (L : fN) : Prop := match av with
  | [.ref 3, .ref k] => (k = 5 ∨ k = 10) ∧ xR I ∧ (I 3 2).toInt = 0 ∧ xG k I ∧ (I k 5).toInt < 12
  | _ => False
def qX4_readWord (av : List Value) (I : fM) (L : fN) (r : Value) (I' : fM) (L' : fN) : Prop := match av, r with
  | [.ref 3, .ref k], .null => xR I' ∧ f_fr [1, 3, k, k + 3, k + 4] I I' ∧ f_fr [1, k + 2] L L' ∧ 0 ≤ (I' 3 2).toInt ∧ ((I' 3 2).toInt = 0 → xG k I')
  | _, _ => False
set_option maxHeartbeats 4000000 in
set_option maxRecDepth 100000 in
theorem mX4_readWord {l : Launch} {a : Nat → Nat} {cy dC : Nat → ClassId} {dI : Nat → Nat → Nat} (hinj : ∀ i j, i < 80 → j < 80 → a i = a j → i = j) : f_Met (xE a) l xY 80 a cy dC dI yX4_readWord cX4_readWord 5 0 25 pX4_readWord qX4_readWord := by
  refine f_met_of (xE_c a) hinj xY_hi (by decide) (fun av I L h => by unfold pX4_readWord at h; split at h <;> first | exact Nat.le_of_ble_eq_true rfl | exact h.elim) ?_
  intro pP eP sP mP aP bP hP9 cP C av I L hp
  unfold pX4_readWord at hp
  split at hp
  case h_2 => exact hp.elim
  case h_1 k =>
    obtain ⟨p0, hR, p2, p3, p4⟩ := hp
    rcases p0 with rfl | rfl
    -- pat [.ref 3, .ref 5]
    · skip
      have hR : xR I := hR
      have p2 : (I 3 2).toInt = 0 := p2
      have p3 : xG 5 I := p3
      have p4 : (I 5 5).toInt < 12 := p4
      have hF0 : f_fr [1, 3, 5, 8, 9] I I := f_fr_rf
      have hG0 : f_fr [1, 7] L L := f_fr_rf
      have lp56 : ∀ (n56 : Nat), ∀ (t : Int32) (J56 : fM) (M56 : fN), xR J56 ∧ f_fr [1, 3, 5, 8, 9] I J56 ∧ f_fr [1, 7] L M56 ∧ (1 ≤ t.toInt) ∧ (t.toInt ≤ 3) ∧ (0 ≤ (J56 3 2).toInt) ∧ (((J56 3 2).toInt = 0 → xG 5 J56)) ∧ (3 - t.toInt) < n56 → f_W pP l eP (f_rm 25) sP mP aP bP hP9 cP xY 80 a cy dC dI 5 (f_K 0 (qX4_readWord [.ref 3, .ref 5] I L)) 56 [(4, .int t), (1, .ref 5), (0, .ref 3)] [] J56 M56 := by
        intro n56
        induction n56 with
        | zero =>
          intro t J56 M56 h9
          obtain ⟨hR56c, hF56c, hG56c, u56_1, u56_2, u56_3, u56_4, hm56⟩ := h9
          omega
        | succ n56 ih56 =>
          intro t J56 M56 h9
          obtain ⟨hR56c, hF56c, hG56c, u56_1, u56_2, u56_3, u56_4, hm56⟩ := h9
          refine f_wp_ok C f_cl flX4_ok fiX4_ok fjX4_ok (sn := none) (fun j h => by cases h) (cs := (f_cnl [(61, (1, 0, 8, pX9_next, qX9_next)), (107, (2, 3, 4, pX4_passNewName, qX4_passNewName)), (76, (2, 3, 4, pX4_isKeyword, qX4_isKeyword)), (103, (2, 3, 4, pX4_pass, qX4_pass)), (117, (2, 0, 1, pX1_addWord, qX1_addWord)), (91, (3, 1, 4, (pX4_readTag 5), qX4_readTag)), (120, (2, 0, 1, pX1_addTag, qX1_addTag))])) (cz := (fun _ => none)) (f_cnl_of (P := fun j S => f_cok pP l eP (f_rm 25) sP mP aP bP hP9 cP xY 80 a cy dC dI 5 _ _ (.invokevirtual j) true S) (List.forall_mem_cons.mpr ⟨f_cokV C (mX9_next hinj) (ci := 8) rfl (List.forall_mem_cons.mpr ⟨(mlX4_ok _ (List.mem_of_getElem? (i := 7) rfl)), kc_X9_next⟩) (by decide +kernel) ⟨Nat.le_of_ble_eq_true rfl, Nat.le_of_ble_eq_true rfl⟩, List.forall_mem_cons.mpr ⟨f_cokV C (mX4_passNewName hinj) (ci := 4) rfl (List.forall_mem_cons.mpr ⟨(mlX4_ok _ (List.mem_of_getElem? (i := 15) rfl)), kc_X4_passNewName⟩) (by decide +kernel) ⟨Nat.le_of_ble_eq_true rfl, Nat.le_of_ble_eq_true rfl⟩, List.forall_mem_cons.mpr ⟨f_cokV C (mX4_isKeyword hinj) (ci := 4) rfl (List.forall_mem_cons.mpr ⟨(mlX4_ok _ (List.mem_of_getElem? (i := 10) rfl)), kc_X4_isKeyword⟩) (by decide +kernel) ⟨Nat.le_of_ble_eq_true rfl, Nat.le_of_ble_eq_true rfl⟩, List.forall_mem_cons.mpr ⟨f_cokV C (mX4_pass hinj) (ci := 4) rfl (List.forall_mem_cons.mpr ⟨(mlX4_ok _ (List.mem_of_getElem? (i := 14) rfl)), kc_X4_pass⟩) (by decide +kernel) ⟨Nat.le_of_ble_eq_true rfl, Nat.le_of_ble_eq_true rfl⟩, List.forall_mem_cons.mpr ⟨f_cokV C (mX1_addWord hinj) (ci := 1) rfl (List.forall_mem_cons.mpr ⟨(mlX4_ok _ (List.mem_of_getElem? (i := 17) rfl)), kc_X1_addWord⟩) (by decide +kernel) ⟨Nat.le_of_ble_eq_true rfl, Nat.le_of_ble_eq_true rfl⟩, List.forall_mem_cons.mpr ⟨f_cokV C (mX4_readTag hinj 5) (ci := 4) rfl (List.forall_mem_cons.mpr ⟨(mlX4_ok _ (List.mem_of_getElem? (i := 12) rfl)), kc_X4_readTag⟩) (by decide +kernel) ⟨Nat.le_of_ble_eq_true rfl, Nat.le_of_ble_eq_true rfl⟩, List.forall_mem_cons.mpr ⟨f_cokV C (mX1_addTag hinj) (ci := 1) rfl (List.forall_mem_cons.mpr ⟨(mlX4_ok _ (List.mem_of_getElem? (i := 18) rfl)), kc_X1_addTag⟩) (by decide +kernel) ⟨Nat.le_of_ble_eq_true rfl, Nat.le_of_ble_eq_true rfl⟩, fun _ h => absurd h List.not_mem_nil⟩⟩⟩⟩⟩⟩⟩)) (fun j S h => by cases h) tX4_readWord_ok (cut := (f_cnl [(56, (fun (ls' : fLs) (st' : List Value) (I' : fM) (L' : fN) => ∃ t : Int32, (∀ q ∈ ([(4, .int t), (1, .ref 5), (0, .ref 3)] : fLs), q ∈ ls') ∧ st' = [] ∧ (xR I' ∧ f_fr [1, 3, 5, 8, 9] I I' ∧ f_fr [1, 7] L L' ∧ (1 ≤ t.toInt) ∧ (t.toInt ≤ 3) ∧ (0 ≤ (I' 3 2).toInt) ∧ (((I' 3 2).toInt = 0 → xG 5 I')) ∧ (3 - t.toInt) < n56)))])) (f_cnl_of (P := fun (tQ : Nat) (P : fLs → List Value → fM → fN → Prop) => ∀ ls' st' I' L', P ls' st' I' L' → f_W pP l eP (f_rm 25) sP mP aP bP hP9 cP xY 80 a cy dC dI 5 (f_K 0 (qX4_readWord [.ref 3, .ref 5] I L)) tQ ls' st' I' L') (List.forall_mem_cons.mpr ⟨(fun ls' st' I' L' h => by obtain ⟨t, hs, e1, h9⟩ := h; rw [e1]; exact f_W_sub hs (ih56 t I' L' h9)), fun _ h => absurd h List.not_mem_nil⟩)) 24 56 (f_seek 56 0 tX4_readWord) (f_seek_ok 56 0 tX4_readWord tX4_readWord_ok) _ _ _ _ ?_
          apply And.intro
          · intro h59
            have h59 : 3 ≤ t.toInt := h59
            exact ⟨hR56c, hF56c, hG56c, (show 0 ≤ (J56 3 2).toInt from by first | assumption | omega | rfl), (show ((J56 3 2).toInt = 0 → xG 5 J56) from by first | assumption | omega | rfl)⟩
          · intro h59
            have h59 : t.toInt < 3 := h59
            apply And.intro
            · intro h66
              have h66 : ¬ (J56 3 2).toInt = 0 := h66
              exact ⟨hR56c, hF56c, hG56c, (show 0 ≤ (J56 3 2).toInt from by first | assumption | omega | rfl), (show ((J56 3 2).toInt = 0 → xG 5 J56) from by first | assumption | omega | rfl)⟩
            · intro h66
              have h66 : (J56 3 2).toInt = 0 := h66
              have g69 := u56_4 (by omega)
              refine And.intro trivial ?_
              intro x73 I73 L73 hq73
              have hq73 : I73 = J56 ∧ L73 = M56 ∧ ((x73.toInt = 0 ∨ x73.toInt = 1)) := hq73
              obtain ⟨eI73, eL73, c73_2⟩ := hq73
              replace eI73 := eI73.symm
              subst eI73
              replace eL73 := eL73.symm
              subst eL73
              apply And.intro
              · intro h76
                have h76 : x73.toInt = 0 := h76
                exact ⟨hR56c, hF56c, hG56c, (show 0 ≤ (J56 3 2).toInt from by first | assumption | omega | rfl), (show ((J56 3 2).toInt = 0 → xG 5 J56) from by first | assumption | omega | rfl)⟩
              · intro h76
                have h76 : ¬ x73.toInt = 0 := h76
                refine And.intro hR56c ?_
                intro I83 L83 hq83
                have hq83 : xR I83 ∧ f_fr [1] J56 I83 ∧ f_fr [1] M56 L83 := hq83
                obtain ⟨c83_0, c83_1, c83_2⟩ := hq83
                have hF83 := f_fr_tr hF56c c83_1 rfl
                have hG83 := f_fr_tr hG56c c83_2 rfl
                have e90_3 : (I83 3 2).toInt = (J56 3 2).toInt := congrArg Int32.toInt (congrFun (c83_1 3 rfl) 2)
                have e90_5 : (I83 3 4).toInt = (J56 3 4).toInt := congrArg Int32.toInt (congrFun (c83_1 3 rfl) 4)
                refine And.intro ⟨(dpos_of (by omega)), (by decide), c83_0, (show (I83 3 2).toInt = 0 from by first | assumption | omega | rfl), (show ((0 : Int) = 0 ∨ 0 ≤ (I83 3 4).toInt) from by first | assumption | omega | rfl), (show 0 ≤ (0 : Int) from by first | assumption | omega), (show (0 : Int) ≤ 4 from by first | assumption | omega), (show 5 - (0 : Int) ≤ 5 from by first | assumption | omega)⟩ ?_
                intro x90 I90 L90 hq90
                have hq90 : xR I90 ∧ f_fr [1, 3] I83 I90 ∧ f_fr [1] L83 L90 ∧ ((1 ≤ (I90 3 2).toInt ∨ ((I90 3 2).toInt = 0 ∧ (I90 3 4).toInt ≤ 4 ∧ ((0 : Int) = 0 → wfK x90 0 (I90 3 4).toInt) ∧ (¬ (0 : Int) = 0 → wfK x90 (I83 3 4).toInt (I90 3 4).toInt)))) := hq90
                obtain ⟨c90_0, c90_1, c90_2, c90_3⟩ := hq90
                have hF90 := f_fr_tr hF83 c90_1 rfl
                have hG90 := f_fr_tr hG83 c90_2 rfl
                have f90 : 0 ≤ (I90 3 2).toInt := by rcases c90_3 with q | ⟨q, -⟩ <;> omega
                have g90 : xG 5 I90 := xG_fr (xG_fr g69 c83_1 rfl rfl rfl) c90_1 rfl rfl rfl
                refine And.intro ⟨(by decide), c90_0⟩ ?_
                intro I93 L93 hq93
                have hq93 : xR I93 ∧ f_fr [8, 9] I90 I93 ∧ L93 = L90 ∧ (((0 < (I90 5 5).toInt ∧ (I90 8 ((I90 5 5).toInt - 1).toNat).toInt < 3 ∧ I93 9 = upd (I90 9) (3 * ((I90 5 5).toInt - 1) + (I90 8 ((I90 5 5).toInt - 1).toNat).toInt).toNat x90 ∧ (∃ z : Int32, z.toInt = (I90 8 ((I90 5 5).toInt - 1).toNat).toInt + 1 ∧ I93 8 = upd (I90 8) ((I90 5 5).toInt - 1).toNat z)) ∨ (((I90 5 5).toInt ≤ 0 ∨ 3 ≤ (I90 8 ((I90 5 5).toInt - 1).toNat).toInt) ∧ I93 = I90))) := hq93
                obtain ⟨c93_0, c93_1, eL93, c93_3⟩ := hq93
                replace eL93 := eL93.symm
                subst eL93
                have hF93 := f_fr_tr hF90 c93_1 rfl
                have g93 : (I93 3 2).toInt = 0 → xG 5 I93 := fun h => by
                  have e93 : (I93 3 2).toInt = (I90 3 2).toInt := congrArg Int32.toInt (congrFun (c93_1 3 rfl) 2)
                  exact xG_tag (by decide) c90_0 g90 (wfK_wf ((c90_3.resolve_left (fun q => by omega)).2.2.1 rfl)) c93_1 c93_3
                intro z96 q96 _ hq96 hl96 hu96
                have hq96 : z96.toInt = t.toInt + 1 + 4294967296 * q96 := hq96
                try have hz96 : z96.toInt = t.toInt + 1 := by omega
                have e56_7 : (I93 3 2).toInt = (I90 3 2).toInt := congrArg Int32.toInt (congrFun (c93_1 3 rfl) 2)
                exact ⟨z96, (by intro q9 h9; simp only [List.mem_cons, List.not_mem_nil, or_false] at h9; rcases h9 with h9 | h9 | h9 <;> subst h9 <;> repeat (first | exact List.mem_cons_self | apply List.mem_cons_of_mem)), rfl, c93_0, hF93, hG90, (show 1 ≤ z96.toInt from by first | assumption | omega), (show z96.toInt ≤ 3 from by first | assumption | omega), (show 0 ≤ (I93 3 2).toInt from by first | assumption | omega), (show ((I93 3 2).toInt = 0 → xG 5 I93) from by first | assumption | omega | rfl), (show (3 - z96.toInt) < n56 from by omega)⟩
      refine f_wp_ok C f_cl flX4_ok fiX4_ok fjX4_ok (sn := none) (fun j h => by cases h) (cs := (f_cnl [(61, (1, 0, 8, pX9_next, qX9_next)), (107, (2, 3, 4, pX4_passNewName, qX4_passNewName)), (76, (2, 3, 4, pX4_isKeyword, qX4_isKeyword)), (103, (2, 3, 4, pX4_pass, qX4_pass)), (117, (2, 0, 1, pX1_addWord, qX1_addWord)), (91, (3, 1, 4, (pX4_readTag 5), qX4_readTag)), (120, (2, 0, 1, pX1_addTag, qX1_addTag))])) (cz := (fun _ => none)) (f_cnl_of (P := fun j S => f_cok pP l eP (f_rm 25) sP mP aP bP hP9 cP xY 80 a cy dC dI 5 _ _ (.invokevirtual j) true S) (List.forall_mem_cons.mpr ⟨f_cokV C (mX9_next hinj) (ci := 8) rfl (List.forall_mem_cons.mpr ⟨(mlX4_ok _ (List.mem_of_getElem? (i := 7) rfl)), kc_X9_next⟩) (by decide +kernel) ⟨Nat.le_of_ble_eq_true rfl, Nat.le_of_ble_eq_true rfl⟩, List.forall_mem_cons.mpr ⟨f_cokV C (mX4_passNewName hinj) (ci := 4) rfl (List.forall_mem_cons.mpr ⟨(mlX4_ok _ (List.mem_of_getElem? (i := 15) rfl)), kc_X4_passNewName⟩) (by decide +kernel) ⟨Nat.le_of_ble_eq_true rfl, Nat.le_of_ble_eq_true rfl⟩, List.forall_mem_cons.mpr ⟨f_cokV C (mX4_isKeyword hinj) (ci := 4) rfl (List.forall_mem_cons.mpr ⟨(mlX4_ok _ (List.mem_of_getElem? (i := 10) rfl)), kc_X4_isKeyword⟩) (by decide +kernel) ⟨Nat.le_of_ble_eq_true rfl, Nat.le_of_ble_eq_true rfl⟩, List.forall_mem_cons.mpr ⟨f_cokV C (mX4_pass hinj) (ci := 4) rfl (List.forall_mem_cons.mpr ⟨(mlX4_ok _ (List.mem_of_getElem? (i := 14) rfl)), kc_X4_pass⟩) (by decide +kernel) ⟨Nat.le_of_ble_eq_true rfl, Nat.le_of_ble_eq_true rfl⟩, List.forall_mem_cons.mpr ⟨f_cokV C (mX1_addWord hinj) (ci := 1) rfl (List.forall_mem_cons.mpr ⟨(mlX4_ok _ (List.mem_of_getElem? (i := 17) rfl)), kc_X1_addWord⟩) (by decide +kernel) ⟨Nat.le_of_ble_eq_true rfl, Nat.le_of_ble_eq_true rfl⟩, List.forall_mem_cons.mpr ⟨f_cokV C (mX4_readTag hinj 5) (ci := 4) rfl (List.forall_mem_cons.mpr ⟨(mlX4_ok _ (List.mem_of_getElem? (i := 12) rfl)), kc_X4_readTag⟩) (by decide +kernel) ⟨Nat.le_of_ble_eq_true rfl, Nat.le_of_ble_eq_true rfl⟩, List.forall_mem_cons.mpr ⟨f_cokV C (mX1_addTag hinj) (ci := 1) rfl (List.forall_mem_cons.mpr ⟨(mlX4_ok _ (List.mem_of_getElem? (i := 18) rfl)), kc_X1_addTag⟩) (by decide +kernel) ⟨Nat.le_of_ble_eq_true rfl, Nat.le_of_ble_eq_true rfl⟩, fun _ h => absurd h List.not_mem_nil⟩⟩⟩⟩⟩⟩⟩)) (fun j S h => by cases h) tX4_readWord_ok (cut := (f_cnl [(56, (fun (ls' : fLs) (st' : List Value) (I' : fM) (L' : fN) => ∃ t : Int32, (∀ q ∈ ([(4, .int t), (1, .ref 5), (0, .ref 3)] : fLs), q ∈ ls') ∧ st' = [] ∧ (xR I' ∧ f_fr [1, 3, 5, 8, 9] I I' ∧ f_fr [1, 7] L L' ∧ (1 ≤ t.toInt) ∧ (t.toInt ≤ 3) ∧ (0 ≤ (I' 3 2).toInt) ∧ (((I' 3 2).toInt = 0 → xG 5 I')) ∧ (3 - t.toInt) < 3)))])) (f_cnl_of (P := fun (tQ : Nat) (P : fLs → List Value → fM → fN → Prop) => ∀ ls' st' I' L', P ls' st' I' L' → f_W pP l eP (f_rm 25) sP mP aP bP hP9 cP xY 80 a cy dC dI 5 (f_K 0 (qX4_readWord [.ref 3, .ref 5] I L)) tQ ls' st' I' L') (List.forall_mem_cons.mpr ⟨(fun ls' st' I' L' h => by obtain ⟨t, hs, e1, h9⟩ := h; rw [e1]; exact f_W_sub hs (lp56 3 t I' L' h9)), fun _ h => absurd h List.not_mem_nil⟩)) 31 0 tX4_readWord tX4_readWord_ok _ _ _ _ ?_
      refine And.intro hR ?_
      intro I4 L4 hq4
      have hq4 : xR I4 ∧ f_fr [1] I I4 ∧ f_fr [1] L L4 := hq4
      obtain ⟨c4_0, c4_1, c4_2⟩ := hq4
      have hF4 := f_fr_tr hF0 c4_1 rfl
      have hG4 := f_fr_tr hG0 c4_2 rfl
      have e17_2 : (I4 3 2).toInt = (I 3 2).toInt := congrArg Int32.toInt (congrFun (c4_1 3 rfl) 2)
      refine And.intro ⟨(by decide), c4_0, (show (I4 3 2).toInt = 0 from by first | assumption | omega | rfl)⟩ ?_
      intro x17 I17 L17 hq17
      have hq17 : xR I17 ∧ f_fr [1, 3] I4 I17 ∧ f_fr [1] L4 L17 ∧ ((x17.toInt = 1 ∧ (I17 3 2).toInt = 0 ∨ x17.toInt = 0 ∧ 1 ≤ (I17 3 2).toInt)) := hq17
      obtain ⟨c17_0, c17_1, c17_2, c17_3⟩ := hq17
      have hF17 := f_fr_tr hF4 c17_1 rfl
      have hG17 := f_fr_tr hG4 c17_2 rfl
      apply And.intro
      · intro h20
        have h20 : x17.toInt = 0 := h20
        exact ⟨c17_0, hF17, hG17, (show 0 ≤ (I17 3 2).toInt from by first | assumption | omega | rfl), (fun h => by exfalso; revert h; show ¬ _ = (0 : Int); omega)⟩
      · intro h20
        have h20 : ¬ x17.toInt = 0 := h20
        refine And.intro trivial ?_
        intro x28 I28 L28 hq28
        have hq28 : I28 = I17 ∧ L28 = L17 ∧ ((x28.toInt = 0 ∨ x28.toInt = 1)) := hq28
        obtain ⟨eI28, eL28, c28_2⟩ := hq28
        replace eI28 := eI28.symm
        subst eI28
        replace eL28 := eL28.symm
        subst eL28
        refine And.intro c17_0 ?_
        intro x31 I31 L31 hq31
        have hq31 : xR I31 ∧ f_fr [1, 3] I17 I31 ∧ f_fr [1] L17 L31 ∧ (I31 3 4).toInt = (I17 3 4).toInt ∧ ((x31.toInt = 1 ∧ (I31 3 2).toInt = (I17 3 2).toInt ∧ ¬ x28.toInt = 0 ∨ x31.toInt = 0 ∧ 1 ≤ (I31 3 2).toInt)) := hq31
        obtain ⟨c31_0, c31_1, c31_2, c31_3, c31_4⟩ := hq31
        have hF31 := f_fr_tr hF17 c31_1 rfl
        have hG31 := f_fr_tr hG17 c31_2 rfl
        have g31 : xG 5 I31 := xG_fr (xG_fr (xG_fr p3 c4_1 rfl rfl rfl) c17_1 rfl rfl rfl) c31_1 rfl rfl rfl
        apply And.intro
        · intro h34
          have h34 : ¬ x31.toInt = 0 := h34
          have r40_3 : 0 ≤ (I31 5 5).toInt ∧ (I31 5 5).toInt ≤ 12 := c31_0 5 5
          have e40_4 : (I31 5 5).toInt = (I17 5 5).toInt := congrArg Int32.toInt (congrFun (c31_1 5 rfl) 5)
          have e40_5 : (I17 5 5).toInt = (I4 5 5).toInt := congrArg Int32.toInt (congrFun (c17_1 5 rfl) 5)
          have e40_6 : (I4 5 5).toInt = (I 5 5).toInt := congrArg Int32.toInt (congrFun (c4_1 5 rfl) 5)
          refine And.intro ⟨(by decide), c31_0, (show (I31 5 5).toInt < 12 from by first | assumption | omega)⟩ ?_
          intro I40 L40 hq40
          have hq40 : xR I40 ∧ f_fr [5, 8] I31 I40 ∧ f_fr [7] L31 L40 ∧ (I40 5 5).toInt = (I31 5 5).toInt + 1 ∧ I40 8 = upd (I31 8) (I31 5 5).toNatClampNeg 0 ∧ I40 5 4 = I31 5 4 ∧ I40 5 6 = I31 5 6 := hq40
          obtain ⟨c40_0, c40_1, c40_2, c40_3, c40_4, c40_5, c40_6⟩ := hq40
          have hF40 := f_fr_tr hF31 c40_1 rfl
          have hG40 := f_fr_tr hG31 c40_2 rfl
          have g40 : xG 5 I40 := xG_word g31 c40_3 c40_4 (c40_1 _ rfl) c40_6
          have e47_8 : (I40 3 2).toInt = (I31 3 2).toInt := congrArg Int32.toInt (congrFun (c40_1 3 rfl) 2)
          have e47_10 : (I40 3 4).toInt = (I31 3 4).toInt := congrArg Int32.toInt (congrFun (c40_1 3 rfl) 4)
          refine And.intro ⟨(dpos_of (by omega)), (by decide), c40_0, (show (I40 3 2).toInt = 0 from by first | assumption | omega | rfl), (show ((0 : Int) = 0 ∨ 0 ≤ (I40 3 4).toInt) from by first | assumption | omega | rfl), (show 0 ≤ (0 : Int) from by first | assumption | omega), (show (0 : Int) ≤ 4 from by first | assumption | omega), (show 5 - (0 : Int) ≤ 5 from by first | assumption | omega)⟩ ?_
          intro x47 I47 L47 hq47
          have hq47 : xR I47 ∧ f_fr [1, 3] I40 I47 ∧ f_fr [1] L40 L47 ∧ ((1 ≤ (I47 3 2).toInt ∨ ((I47 3 2).toInt = 0 ∧ (I47 3 4).toInt ≤ 4 ∧ ((0 : Int) = 0 → wfK x47 0 (I47 3 4).toInt) ∧ (¬ (0 : Int) = 0 → wfK x47 (I40 3 4).toInt (I47 3 4).toInt)))) := hq47
          obtain ⟨c47_0, c47_1, c47_2, c47_3⟩ := hq47
          have hF47 := f_fr_tr hF40 c47_1 rfl
          have hG47 := f_fr_tr hG40 c47_2 rfl
          have f47 : 0 ≤ (I47 3 2).toInt := by rcases c47_3 with q | ⟨q, -⟩ <;> omega
          have g47 : xG 5 I47 := xG_fr g40 c47_1 rfl rfl rfl
          refine And.intro ⟨(by decide), c47_0⟩ ?_
          intro I50 L50 hq50
          have hq50 : xR I50 ∧ f_fr [8, 9] I47 I50 ∧ L50 = L47 ∧ (((0 < (I47 5 5).toInt ∧ (I47 8 ((I47 5 5).toInt - 1).toNat).toInt < 3 ∧ I50 9 = upd (I47 9) (3 * ((I47 5 5).toInt - 1) + (I47 8 ((I47 5 5).toInt - 1).toNat).toInt).toNat x47 ∧ (∃ z : Int32, z.toInt = (I47 8 ((I47 5 5).toInt - 1).toNat).toInt + 1 ∧ I50 8 = upd (I47 8) ((I47 5 5).toInt - 1).toNat z)) ∨ (((I47 5 5).toInt ≤ 0 ∨ 3 ≤ (I47 8 ((I47 5 5).toInt - 1).toNat).toInt) ∧ I50 = I47))) := hq50
          obtain ⟨c50_0, c50_1, eL50, c50_3⟩ := hq50
          replace eL50 := eL50.symm
          subst eL50
          have hF50 := f_fr_tr hF47 c50_1 rfl
          have g50 : (I50 3 2).toInt = 0 → xG 5 I50 := fun h => by
            have e50 : (I50 3 2).toInt = (I47 3 2).toInt := congrArg Int32.toInt (congrFun (c50_1 3 rfl) 2)
            exact xG_tag (by decide) c47_0 g47 (wfK_wf ((c47_3.resolve_left (fun q => by omega)).2.2.1 rfl)) c50_1 c50_3
          have e56_12 : (I50 3 2).toInt = (I47 3 2).toInt := congrArg Int32.toInt (congrFun (c50_1 3 rfl) 2)
          exact ⟨Int32.ofInt 1, (by intro q9 h9; simp only [List.mem_cons, List.not_mem_nil, or_false] at h9; rcases h9 with h9 | h9 | h9 <;> subst h9 <;> repeat (first | exact List.mem_cons_self | apply List.mem_cons_of_mem)), rfl, c50_0, hF50, hG47, (show 1 ≤ (1 : Int) from by first | assumption | omega), (show (1 : Int) ≤ 3 from by first | assumption | omega), (show 0 ≤ (I50 3 2).toInt from by first | assumption | omega), (show ((I50 3 2).toInt = 0 → xG 5 I50) from by first | assumption | omega | rfl), (show (3 - (1 : Int)) < 3 from by omega)⟩
        · intro h34
          have h34 : x31.toInt = 0 := h34
          exact ⟨c31_0, hF31, hG31, (show 0 ≤ (I31 3 2).toInt from by first | assumption | omega | rfl), (fun h => by exfalso; revert h; show ¬ _ = (0 : Int); omega)⟩
    -- pat [.ref 3, .ref 10]
    · skip
      have hR : xR I := hR
      have p2 : (I 3 2).toInt = 0 := p2
      have p3 : xG 10 I := p3
      have p4 : (I 10 5).toInt < 12 := p4
      have hF0 : f_fr [1, 3, 10, 13, 14] I I := f_fr_rf
      have hG0 : f_fr [1, 12] L L := f_fr_rf
      have lp56 : ∀ (n56 : Nat), ∀ (t : Int32) (J56 : fM) (M56 : fN), xR J56 ∧ f_fr [1, 3, 10, 13, 14] I J56 ∧ f_fr [1, 12] L M56 ∧ (1 ≤ t.toInt) ∧ (t.toInt ≤ 3) ∧ (0 ≤ (J56 3 2).toInt) ∧ (((J56 3 2).toInt = 0 → xG 10 J56)) ∧ (3 - t.toInt) < n56 → f_W pP l eP (f_rm 25) sP mP aP bP hP9 cP xY 80 a cy dC dI 5 (f_K 0 (qX4_readWord [.ref 3, .ref 10] I L)) 56 [(4, .int t), (1, .ref 10), (0, .ref 3)] [] J56 M56 := by
        intro n56
        induction n56 with
        | zero =>
          intro t J56 M56 h9
          obtain ⟨hR56c, hF56c, hG56c, u56_1, u56_2, u56_3, u56_4, hm56⟩ := h9
          omega
        | succ n56 ih56 =>
          intro t J56 M56 h9
          obtain ⟨hR56c, hF56c, hG56c, u56_1, u56_2, u56_3, u56_4, hm56⟩ := h9
          refine f_wp_ok C f_cl flX4_ok fiX4_ok fjX4_ok (sn := none) (fun j h => by cases h) (cs := (f_cnl [(61, (1, 0, 8, pX9_next, qX9_next)), (107, (2, 3, 4, pX4_passNewName, qX4_passNewName)), (76, (2, 3, 4, pX4_isKeyword, qX4_isKeyword)), (103, (2, 3, 4, pX4_pass, qX4_pass)), (117, (2, 0, 1, pX1_addWord, qX1_addWord)), (91, (3, 1, 4, (pX4_readTag 5), qX4_readTag)), (120, (2, 0, 1, pX1_addTag, qX1_addTag))])) (cz := (fun _ => none)) (f_cnl_of (P := fun j S => f_cok pP l eP (f_rm 25) sP mP aP bP hP9 cP xY 80 a cy dC dI 5 _ _ (.invokevirtual j) true S) (List.forall_mem_cons.mpr ⟨f_cokV C (mX9_next hinj) (ci := 8) rfl (List.forall_mem_cons.mpr ⟨(mlX4_ok _ (List.mem_of_getElem? (i := 7) rfl)), kc_X9_next⟩) (by decide +kernel) ⟨Nat.le_of_ble_eq_true rfl, Nat.le_of_ble_eq_true rfl⟩, List.forall_mem_cons.mpr ⟨f_cokV C (mX4_passNewName hinj) (ci := 4) rfl (List.forall_mem_cons.mpr ⟨(mlX4_ok _ (List.mem_of_getElem? (i := 15) rfl)), kc_X4_passNewName⟩) (by decide +kernel) ⟨Nat.le_of_ble_eq_true rfl, Nat.le_of_ble_eq_true rfl⟩, List.forall_mem_cons.mpr ⟨f_cokV C (mX4_isKeyword hinj) (ci := 4) rfl (List.forall_mem_cons.mpr ⟨(mlX4_ok _ (List.mem_of_getElem? (i := 10) rfl)), kc_X4_isKeyword⟩) (by decide +kernel) ⟨Nat.le_of_ble_eq_true rfl, Nat.le_of_ble_eq_true rfl⟩, List.forall_mem_cons.mpr ⟨f_cokV C (mX4_pass hinj) (ci := 4) rfl (List.forall_mem_cons.mpr ⟨(mlX4_ok _ (List.mem_of_getElem? (i := 14) rfl)), kc_X4_pass⟩) (by decide +kernel) ⟨Nat.le_of_ble_eq_true rfl, Nat.le_of_ble_eq_true rfl⟩, List.forall_mem_cons.mpr ⟨f_cokV C (mX1_addWord hinj) (ci := 1) rfl (List.forall_mem_cons.mpr ⟨(mlX4_ok _ (List.mem_of_getElem? (i := 17) rfl)), kc_X1_addWord⟩) (by decide +kernel) ⟨Nat.le_of_ble_eq_true rfl, Nat.le_of_ble_eq_true rfl⟩, List.forall_mem_cons.mpr ⟨f_cokV C (mX4_readTag hinj 5) (ci := 4) rfl (List.forall_mem_cons.mpr ⟨(mlX4_ok _ (List.mem_of_getElem? (i := 12) rfl)), kc_X4_readTag⟩) (by decide +kernel) ⟨Nat.le_of_ble_eq_true rfl, Nat.le_of_ble_eq_true rfl⟩, List.forall_mem_cons.mpr ⟨f_cokV C (mX1_addTag hinj) (ci := 1) rfl (List.forall_mem_cons.mpr ⟨(mlX4_ok _ (List.mem_of_getElem? (i := 18) rfl)), kc_X1_addTag⟩) (by decide +kernel) ⟨Nat.le_of_ble_eq_true rfl, Nat.le_of_ble_eq_true rfl⟩, fun _ h => absurd h List.not_mem_nil⟩⟩⟩⟩⟩⟩⟩)) (fun j S h => by cases h) tX4_readWord_ok (cut := (f_cnl [(56, (fun (ls' : fLs) (st' : List Value) (I' : fM) (L' : fN) => ∃ t : Int32, (∀ q ∈ ([(4, .int t), (1, .ref 10), (0, .ref 3)] : fLs), q ∈ ls') ∧ st' = [] ∧ (xR I' ∧ f_fr [1, 3, 10, 13, 14] I I' ∧ f_fr [1, 12] L L' ∧ (1 ≤ t.toInt) ∧ (t.toInt ≤ 3) ∧ (0 ≤ (I' 3 2).toInt) ∧ (((I' 3 2).toInt = 0 → xG 10 I')) ∧ (3 - t.toInt) < n56)))])) (f_cnl_of (P := fun (tQ : Nat) (P : fLs → List Value → fM → fN → Prop) => ∀ ls' st' I' L', P ls' st' I' L' → f_W pP l eP (f_rm 25) sP mP aP bP hP9 cP xY 80 a cy dC dI 5 (f_K 0 (qX4_readWord [.ref 3, .ref 10] I L)) tQ ls' st' I' L') (List.forall_mem_cons.mpr ⟨(fun ls' st' I' L' h => by obtain ⟨t, hs, e1, h9⟩ := h; rw [e1]; exact f_W_sub hs (ih56 t I' L' h9)), fun _ h => absurd h List.not_mem_nil⟩)) 24 56 (f_seek 56 0 tX4_readWord) (f_seek_ok 56 0 tX4_readWord tX4_readWord_ok) _ _ _ _ ?_
          apply And.intro
          · intro h59
            have h59 : 3 ≤ t.toInt := h59
            exact ⟨hR56c, hF56c, hG56c, (show 0 ≤ (J56 3 2).toInt from by first | assumption | omega | rfl), (show ((J56 3 2).toInt = 0 → xG 10 J56) from by first | assumption | omega | rfl)⟩
          · intro h59
            have h59 : t.toInt < 3 := h59
            apply And.intro
            · intro h66
              have h66 : ¬ (J56 3 2).toInt = 0 := h66
              exact ⟨hR56c, hF56c, hG56c, (show 0 ≤ (J56 3 2).toInt from by first | assumption | omega | rfl), (show ((J56 3 2).toInt = 0 → xG 10 J56) from by first | assumption | omega | rfl)⟩
            · intro h66
              have h66 : (J56 3 2).toInt = 0 := h66
              have g69 := u56_4 (by omega)
              refine And.intro trivial ?_
              intro x73 I73 L73 hq73
              have hq73 : I73 = J56 ∧ L73 = M56 ∧ ((x73.toInt = 0 ∨ x73.toInt = 1)) := hq73
              obtain ⟨eI73, eL73, c73_2⟩ := hq73
              replace eI73 := eI73.symm
              subst eI73
              replace eL73 := eL73.symm
              subst eL73
              apply And.intro
              · intro h76
                have h76 : x73.toInt = 0 := h76
                exact ⟨hR56c, hF56c, hG56c, (show 0 ≤ (J56 3 2).toInt from by first | assumption | omega | rfl), (show ((J56 3 2).toInt = 0 → xG 10 J56) from by first | assumption | omega | rfl)⟩
              · intro h76
                have h76 : ¬ x73.toInt = 0 := h76
                refine And.intro hR56c ?_
                intro I83 L83 hq83
                have hq83 : xR I83 ∧ f_fr [1] J56 I83 ∧ f_fr [1] M56 L83 := hq83
                obtain ⟨c83_0, c83_1, c83_2⟩ := hq83
                have hF83 := f_fr_tr hF56c c83_1 rfl
                have hG83 := f_fr_tr hG56c c83_2 rfl
                have e90_3 : (I83 3 2).toInt = (J56 3 2).toInt := congrArg Int32.toInt (congrFun (c83_1 3 rfl) 2)
                have e90_5 : (I83 3 4).toInt = (J56 3 4).toInt := congrArg Int32.toInt (congrFun (c83_1 3 rfl) 4)
                refine And.intro ⟨(dpos_of (by omega)), (by decide), c83_0, (show (I83 3 2).toInt = 0 from by first | assumption | omega | rfl), (show ((0 : Int) = 0 ∨ 0 ≤ (I83 3 4).toInt) from by first | assumption | omega | rfl), (show 0 ≤ (0 : Int) from by first | assumption | omega), (show (0 : Int) ≤ 4 from by first | assumption | omega), (show 5 - (0 : Int) ≤ 5 from by first | assumption | omega)⟩ ?_
                intro x90 I90 L90 hq90
                have hq90 : xR I90 ∧ f_fr [1, 3] I83 I90 ∧ f_fr [1] L83 L90 ∧ ((1 ≤ (I90 3 2).toInt ∨ ((I90 3 2).toInt = 0 ∧ (I90 3 4).toInt ≤ 4 ∧ ((0 : Int) = 0 → wfK x90 0 (I90 3 4).toInt) ∧ (¬ (0 : Int) = 0 → wfK x90 (I83 3 4).toInt (I90 3 4).toInt)))) := hq90
                obtain ⟨c90_0, c90_1, c90_2, c90_3⟩ := hq90
                have hF90 := f_fr_tr hF83 c90_1 rfl
                have hG90 := f_fr_tr hG83 c90_2 rfl
                have f90 : 0 ≤ (I90 3 2).toInt := by rcases c90_3 with q | ⟨q, -⟩ <;> omega
                have g90 : xG 10 I90 := xG_fr (xG_fr g69 c83_1 rfl rfl rfl) c90_1 rfl rfl rfl
                refine And.intro ⟨(by decide), c90_0⟩ ?_
                intro I93 L93 hq93
                have hq93 : xR I93 ∧ f_fr [13, 14] I90 I93 ∧ L93 = L90 ∧ (((0 < (I90 10 5).toInt ∧ (I90 13 ((I90 10 5).toInt - 1).toNat).toInt < 3 ∧ I93 14 = upd (I90 14) (3 * ((I90 10 5).toInt - 1) + (I90 13 ((I90 10 5).toInt - 1).toNat).toInt).toNat x90 ∧ (∃ z : Int32, z.toInt = (I90 13 ((I90 10 5).toInt - 1).toNat).toInt + 1 ∧ I93 13 = upd (I90 13) ((I90 10 5).toInt - 1).toNat z)) ∨ (((I90 10 5).toInt ≤ 0 ∨ 3 ≤ (I90 13 ((I90 10 5).toInt - 1).toNat).toInt) ∧ I93 = I90))) := hq93
                obtain ⟨c93_0, c93_1, eL93, c93_3⟩ := hq93
                replace eL93 := eL93.symm
                subst eL93
                have hF93 := f_fr_tr hF90 c93_1 rfl
                have g93 : (I93 3 2).toInt = 0 → xG 10 I93 := fun h => by
                  have e93 : (I93 3 2).toInt = (I90 3 2).toInt := congrArg Int32.toInt (congrFun (c93_1 3 rfl) 2)
                  exact xG_tag (by decide) c90_0 g90 (wfK_wf ((c90_3.resolve_left (fun q => by omega)).2.2.1 rfl)) c93_1 c93_3
                intro z96 q96 _ hq96 hl96 hu96
                have hq96 : z96.toInt = t.toInt + 1 + 4294967296 * q96 := hq96
                try have hz96 : z96.toInt = t.toInt + 1 := by omega
                have e56_7 : (I93 3 2).toInt = (I90 3 2).toInt := congrArg Int32.toInt (congrFun (c93_1 3 rfl) 2)
                exact ⟨z96, (by intro q9 h9; simp only [List.mem_cons, List.not_mem_nil, or_false] at h9; rcases h9 with h9 | h9 | h9 <;> subst h9 <;> repeat (first | exact List.mem_cons_self | apply List.mem_cons_of_mem)), rfl, c93_0, hF93, hG90, (show 1 ≤ z96.toInt from by first | assumption | omega), (show z96.toInt ≤ 3 from by first | assumption | omega), (show 0 ≤ (I93 3 2).toInt from by first | assumption | omega), (show ((I93 3 2).toInt = 0 → xG 10 I93) from by first | assumption | omega | rfl), (show (3 - z96.toInt) < n56 from by omega)⟩
      refine f_wp_ok C f_cl flX4_ok fiX4_ok fjX4_ok (sn := none) (fun j h => by cases h) (cs := (f_cnl [(61, (1, 0, 8, pX9_next, qX9_next)), (107, (2, 3, 4, pX4_passNewName, qX4_passNewName)), (76, (2, 3, 4, pX4_isKeyword, qX4_isKeyword)), (103, (2, 3, 4, pX4_pass, qX4_pass)), (117, (2, 0, 1, pX1_addWord, qX1_addWord)), (91, (3, 1, 4, (pX4_readTag 5), qX4_readTag)), (120, (2, 0, 1, pX1_addTag, qX1_addTag))])) (cz := (fun _ => none)) (f_cnl_of (P := fun j S => f_cok pP l eP (f_rm 25) sP mP aP bP hP9 cP xY 80 a cy dC dI 5 _ _ (.invokevirtual j) true S) (List.forall_mem_cons.mpr ⟨f_cokV C (mX9_next hinj) (ci := 8) rfl (List.forall_mem_cons.mpr ⟨(mlX4_ok _ (List.mem_of_getElem? (i := 7) rfl)), kc_X9_next⟩) (by decide +kernel) ⟨Nat.le_of_ble_eq_true rfl, Nat.le_of_ble_eq_true rfl⟩, List.forall_mem_cons.mpr ⟨f_cokV C (mX4_passNewName hinj) (ci := 4) rfl (List.forall_mem_cons.mpr ⟨(mlX4_ok _ (List.mem_of_getElem? (i := 15) rfl)), kc_X4_passNewName⟩) (by decide +kernel) ⟨Nat.le_of_ble_eq_true rfl, Nat.le_of_ble_eq_true rfl⟩, List.forall_mem_cons.mpr ⟨f_cokV C (mX4_isKeyword hinj) (ci := 4) rfl (List.forall_mem_cons.mpr ⟨(mlX4_ok _ (List.mem_of_getElem? (i := 10) rfl)), kc_X4_isKeyword⟩) (by decide +kernel) ⟨Nat.le_of_ble_eq_true rfl, Nat.le_of_ble_eq_true rfl⟩, List.forall_mem_cons.mpr ⟨f_cokV C (mX4_pass hinj) (ci := 4) rfl (List.forall_mem_cons.mpr ⟨(mlX4_ok _ (List.mem_of_getElem? (i := 14) rfl)), kc_X4_pass⟩) (by decide +kernel) ⟨Nat.le_of_ble_eq_true rfl, Nat.le_of_ble_eq_true rfl⟩, List.forall_mem_cons.mpr ⟨f_cokV C (mX1_addWord hinj) (ci := 1) rfl (List.forall_mem_cons.mpr ⟨(mlX4_ok _ (List.mem_of_getElem? (i := 17) rfl)), kc_X1_addWord⟩) (by decide +kernel) ⟨Nat.le_of_ble_eq_true rfl, Nat.le_of_ble_eq_true rfl⟩, List.forall_mem_cons.mpr ⟨f_cokV C (mX4_readTag hinj 5) (ci := 4) rfl (List.forall_mem_cons.mpr ⟨(mlX4_ok _ (List.mem_of_getElem? (i := 12) rfl)), kc_X4_readTag⟩) (by decide +kernel) ⟨Nat.le_of_ble_eq_true rfl, Nat.le_of_ble_eq_true rfl⟩, List.forall_mem_cons.mpr ⟨f_cokV C (mX1_addTag hinj) (ci := 1) rfl (List.forall_mem_cons.mpr ⟨(mlX4_ok _ (List.mem_of_getElem? (i := 18) rfl)), kc_X1_addTag⟩) (by decide +kernel) ⟨Nat.le_of_ble_eq_true rfl, Nat.le_of_ble_eq_true rfl⟩, fun _ h => absurd h List.not_mem_nil⟩⟩⟩⟩⟩⟩⟩)) (fun j S h => by cases h) tX4_readWord_ok (cut := (f_cnl [(56, (fun (ls' : fLs) (st' : List Value) (I' : fM) (L' : fN) => ∃ t : Int32, (∀ q ∈ ([(4, .int t), (1, .ref 10), (0, .ref 3)] : fLs), q ∈ ls') ∧ st' = [] ∧ (xR I' ∧ f_fr [1, 3, 10, 13, 14] I I' ∧ f_fr [1, 12] L L' ∧ (1 ≤ t.toInt) ∧ (t.toInt ≤ 3) ∧ (0 ≤ (I' 3 2).toInt) ∧ (((I' 3 2).toInt = 0 → xG 10 I')) ∧ (3 - t.toInt) < 3)))])) (f_cnl_of (P := fun (tQ : Nat) (P : fLs → List Value → fM → fN → Prop) => ∀ ls' st' I' L', P ls' st' I' L' → f_W pP l eP (f_rm 25) sP mP aP bP hP9 cP xY 80 a cy dC dI 5 (f_K 0 (qX4_readWord [.ref 3, .ref 10] I L)) tQ ls' st' I' L') (List.forall_mem_cons.mpr ⟨(fun ls' st' I' L' h => by obtain ⟨t, hs, e1, h9⟩ := h; rw [e1]; exact f_W_sub hs (lp56 3 t I' L' h9)), fun _ h => absurd h List.not_mem_nil⟩)) 31 0 tX4_readWord tX4_readWord_ok _ _ _ _ ?_
      refine And.intro hR ?_
      intro I4 L4 hq4
      have hq4 : xR I4 ∧ f_fr [1] I I4 ∧ f_fr [1] L L4 := hq4
      obtain ⟨c4_0, c4_1, c4_2⟩ := hq4
      have hF4 := f_fr_tr hF0 c4_1 rfl
      have hG4 := f_fr_tr hG0 c4_2 rfl
      have e17_2 : (I4 3 2).toInt = (I 3 2).toInt := congrArg Int32.toInt (congrFun (c4_1 3 rfl) 2)
      refine And.intro ⟨(by decide), c4_0, (show (I4 3 2).toInt = 0 from by first | assumption | omega | rfl)⟩ ?_
      intro x17 I17 L17 hq17
      have hq17 : xR I17 ∧ f_fr [1, 3] I4 I17 ∧ f_fr [1] L4 L17 ∧ ((x17.toInt = 1 ∧ (I17 3 2).toInt = 0 ∨ x17.toInt = 0 ∧ 1 ≤ (I17 3 2).toInt)) := hq17
      obtain ⟨c17_0, c17_1, c17_2, c17_3⟩ := hq17
      have hF17 := f_fr_tr hF4 c17_1 rfl
      have hG17 := f_fr_tr hG4 c17_2 rfl
      apply And.intro
      · intro h20
        have h20 : x17.toInt = 0 := h20
        exact ⟨c17_0, hF17, hG17, (show 0 ≤ (I17 3 2).toInt from by first | assumption | omega | rfl), (fun h => by exfalso; revert h; show ¬ _ = (0 : Int); omega)⟩
      · intro h20
        have h20 : ¬ x17.toInt = 0 := h20
        refine And.intro trivial ?_
        intro x28 I28 L28 hq28
        have hq28 : I28 = I17 ∧ L28 = L17 ∧ ((x28.toInt = 0 ∨ x28.toInt = 1)) := hq28
        obtain ⟨eI28, eL28, c28_2⟩ := hq28
        replace eI28 := eI28.symm
        subst eI28
        replace eL28 := eL28.symm
        subst eL28
        refine And.intro c17_0 ?_
        intro x31 I31 L31 hq31
        have hq31 : xR I31 ∧ f_fr [1, 3] I17 I31 ∧ f_fr [1] L17 L31 ∧ (I31 3 4).toInt = (I17 3 4).toInt ∧ ((x31.toInt = 1 ∧ (I31 3 2).toInt = (I17 3 2).toInt ∧ ¬ x28.toInt = 0 ∨ x31.toInt = 0 ∧ 1 ≤ (I31 3 2).toInt)) := hq31
        obtain ⟨c31_0, c31_1, c31_2, c31_3, c31_4⟩ := hq31
        have hF31 := f_fr_tr hF17 c31_1 rfl
        have hG31 := f_fr_tr hG17 c31_2 rfl
        have g31 : xG 10 I31 := xG_fr (xG_fr (xG_fr p3 c4_1 rfl rfl rfl) c17_1 rfl rfl rfl) c31_1 rfl rfl rfl
        apply And.intro
        · intro h34
          have h34 : ¬ x31.toInt = 0 := h34
          have r40_3 : 0 ≤ (I31 10 5).toInt ∧ (I31 10 5).toInt ≤ 12 := c31_0 10 5
          have e40_4 : (I31 10 5).toInt = (I17 10 5).toInt := congrArg Int32.toInt (congrFun (c31_1 10 rfl) 5)
          have e40_5 : (I17 10 5).toInt = (I4 10 5).toInt := congrArg Int32.toInt (congrFun (c17_1 10 rfl) 5)
          have e40_6 : (I4 10 5).toInt = (I 10 5).toInt := congrArg Int32.toInt (congrFun (c4_1 10 rfl) 5)
          refine And.intro ⟨(by decide), c31_0, (show (I31 10 5).toInt < 12 from by first | assumption | omega)⟩ ?_
          intro I40 L40 hq40
          have hq40 : xR I40 ∧ f_fr [10, 13] I31 I40 ∧ f_fr [12] L31 L40 ∧ (I40 10 5).toInt = (I31 10 5).toInt + 1 ∧ I40 13 = upd (I31 13) (I31 10 5).toNatClampNeg 0 ∧ I40 10 4 = I31 10 4 ∧ I40 10 6 = I31 10 6 := hq40
          obtain ⟨c40_0, c40_1, c40_2, c40_3, c40_4, c40_5, c40_6⟩ := hq40
          have hF40 := f_fr_tr hF31 c40_1 rfl
          have hG40 := f_fr_tr hG31 c40_2 rfl
          have g40 : xG 10 I40 := xG_word g31 c40_3 c40_4 (c40_1 _ rfl) c40_6
          have e47_8 : (I40 3 2).toInt = (I31 3 2).toInt := congrArg Int32.toInt (congrFun (c40_1 3 rfl) 2)
          have e47_10 : (I40 3 4).toInt = (I31 3 4).toInt := congrArg Int32.toInt (congrFun (c40_1 3 rfl) 4)
          refine And.intro ⟨(dpos_of (by omega)), (by decide), c40_0, (show (I40 3 2).toInt = 0 from by first | assumption | omega | rfl), (show ((0 : Int) = 0 ∨ 0 ≤ (I40 3 4).toInt) from by first | assumption | omega | rfl), (show 0 ≤ (0 : Int) from by first | assumption | omega), (show (0 : Int) ≤ 4 from by first | assumption | omega), (show 5 - (0 : Int) ≤ 5 from by first | assumption | omega)⟩ ?_
          intro x47 I47 L47 hq47
          have hq47 : xR I47 ∧ f_fr [1, 3] I40 I47 ∧ f_fr [1] L40 L47 ∧ ((1 ≤ (I47 3 2).toInt ∨ ((I47 3 2).toInt = 0 ∧ (I47 3 4).toInt ≤ 4 ∧ ((0 : Int) = 0 → wfK x47 0 (I47 3 4).toInt) ∧ (¬ (0 : Int) = 0 → wfK x47 (I40 3 4).toInt (I47 3 4).toInt)))) := hq47
          obtain ⟨c47_0, c47_1, c47_2, c47_3⟩ := hq47
          have hF47 := f_fr_tr hF40 c47_1 rfl
          have hG47 := f_fr_tr hG40 c47_2 rfl
          have f47 : 0 ≤ (I47 3 2).toInt := by rcases c47_3 with q | ⟨q, -⟩ <;> omega
          have g47 : xG 10 I47 := xG_fr g40 c47_1 rfl rfl rfl
          refine And.intro ⟨(by decide), c47_0⟩ ?_
          intro I50 L50 hq50
          have hq50 : xR I50 ∧ f_fr [13, 14] I47 I50 ∧ L50 = L47 ∧ (((0 < (I47 10 5).toInt ∧ (I47 13 ((I47 10 5).toInt - 1).toNat).toInt < 3 ∧ I50 14 = upd (I47 14) (3 * ((I47 10 5).toInt - 1) + (I47 13 ((I47 10 5).toInt - 1).toNat).toInt).toNat x47 ∧ (∃ z : Int32, z.toInt = (I47 13 ((I47 10 5).toInt - 1).toNat).toInt + 1 ∧ I50 13 = upd (I47 13) ((I47 10 5).toInt - 1).toNat z)) ∨ (((I47 10 5).toInt ≤ 0 ∨ 3 ≤ (I47 13 ((I47 10 5).toInt - 1).toNat).toInt) ∧ I50 = I47))) := hq50
          obtain ⟨c50_0, c50_1, eL50, c50_3⟩ := hq50
          replace eL50 := eL50.symm
          subst eL50
          have hF50 := f_fr_tr hF47 c50_1 rfl
          have g50 : (I50 3 2).toInt = 0 → xG 10 I50 := fun h => by
            have e50 : (I50 3 2).toInt = (I47 3 2).toInt := congrArg Int32.toInt (congrFun (c50_1 3 rfl) 2)
            exact xG_tag (by decide) c47_0 g47 (wfK_wf ((c47_3.resolve_left (fun q => by omega)).2.2.1 rfl)) c50_1 c50_3
          have e56_12 : (I50 3 2).toInt = (I47 3 2).toInt := congrArg Int32.toInt (congrFun (c50_1 3 rfl) 2)
          exact ⟨Int32.ofInt 1, (by intro q9 h9; simp only [List.mem_cons, List.not_mem_nil, or_false] at h9; rcases h9 with h9 | h9 | h9 <;> subst h9 <;> repeat (first | exact List.mem_cons_self | apply List.mem_cons_of_mem)), rfl, c50_0, hF50, hG47, (show 1 ≤ (1 : Int) from by first | assumption | omega), (show (1 : Int) ≤ 3 from by first | assumption | omega), (show 0 ≤ (I50 3 2).toInt from by first | assumption | omega), (show ((I50 3 2).toInt = 0 → xG 10 I50) from by first | assumption | omega | rfl), (show (3 - (1 : Int)) < 3 from by omega)⟩
        · intro h34
          have h34 : x31.toInt = 0 := h34
          exact ⟨c31_0, hF31, hG31, (show 0 ≤ (I31 3 2).toInt from by first | assumption | omega | rfl), (fun h => by exfalso; revert h; show ¬ _ = (0 : Int); omega)⟩
    -- pat [.ref 3, .ref k]
def tX4_readLine : List (Instr × Nat) := [(.aload_n 0, 1), (.ldc2_w 74, 3), (.invokevirtual 76, 3), (.ifCond .eq 19, 3), (.aload_n 1, 1), (.getfield 80, 3), (.iconst 5, 1), (.if_icmp .ge 11, 3), (.aload_n 0, 1), (.aload_n 1, 1), (.invokevirtual 83, 3), (.goto 74, 3), (.aload_n 0, 1), (.ldc2_w 86, 3), (.invokevirtual 76, 3), (.ifCond .eq 31, 3), (.aload_n 1, 1), (.getfield 88, 3), (.iconst (-1), 1), (.if_icmp .ne 23, 3), (.aload_n 0, 1), (.getfield 21, 3), (.invokevirtual 61, 3), (.aload_n 1, 1), (.aload_n 0, 1), (.aload_n 1, 1), (.iconst 0, 1), (.invokevirtual 91, 3), (.putfield 88, 3), (.goto 36, 3), (.aload_n 0, 1), (.ldc2_w 95, 3), (.invokevirtual 76, 3), (.ifCond .eq 20, 3), (.aload_n 1, 1), (.getfield 97, 3), (.bipush 12, 2), (.if_icmp .ge 11, 3), (.aload_n 0, 1), (.aload_n 1, 1), (.invokevirtual 100, 3), (.goto 9, 3), (.aload_n 0, 1), (.iconst 2, 1), (.invokevirtual 57, 3), (.pop, 1), (.aload_n 0, 1), (.getfield 43, 3), (.ifCond .ne 25, 3), (.aload_n 0, 1), (.aload_n 0, 1), (.getfield 21, 3), (.getfield 71, 3), (.bipush 59, 2), (.if_icmp .ne 7, 3), (.iconst 1, 1), (.goto 4, 3), (.iconst 0, 1), (.invokevirtual 103, 3), (.pop, 1), (.return_, 1)]
theorem tX4_readLine_ok : f_chk cX4_readLine 0 tX4_readLine = true := by decide +kernel
def pX4_readLine (av : List Value) (I : fM) (L : fN) : Prop := match av with
  | [.ref 3, .ref k] => (k = 5 ∨ k = 10) ∧ xR I ∧ (I 3 2).toInt = 0 ∧ xG k I
  | _ => False
def qX4_readLine (av : List Value) (I : fM) (L : fN) (r : Value) (I' : fM) (L' : fN) : Prop := match av, r with
  | [.ref 3, .ref k], .null => xR I' ∧ f_fr [1, 3, k, k + 3, k + 4] I I' ∧ f_fr [1, k + 1, k + 2] L L' ∧ 0 ≤ (I' 3 2).toInt ∧ ((I' 3 2).toInt = 0 → xG k I')
  | _, _ => False
set_option maxHeartbeats 4000000 in
set_option maxRecDepth 100000 in
theorem mX4_readLine {l : Launch} {a : Nat → Nat} {cy dC : Nat → ClassId} {dI : Nat → Nat → Nat} (hinj : ∀ i j, i < 80 → j < 80 → a i = a j → i = j) : f_Met (xE a) l xY 80 a cy dC dI yX4_readLine cX4_readLine 2 0 26 pX4_readLine qX4_readLine := by
  refine f_met_of (xE_c a) hinj xY_hi (by decide) (fun av I L h => by unfold pX4_readLine at h; split at h <;> first | exact Nat.le_of_ble_eq_true rfl | exact h.elim) ?_
  intro pP eP sP mP aP bP hP9 cP C av I L hp
  unfold pX4_readLine at hp
  split at hp
  case h_2 => exact hp.elim
  case h_1 k =>
    obtain ⟨p0, hR, p2, p3⟩ := hp
    rcases p0 with rfl | rfl
    -- pat [.ref 3, .ref 5]
    · skip
      have hR : xR I := hR
      have p2 : (I 3 2).toInt = 0 := p2
      have p3 : xG 5 I := p3
      have hF0 : f_fr [1, 3, 5, 8, 9] I I := f_fr_rf
      have hG0 : f_fr [1, 6, 7] L L := f_fr_rf
      have lp97 : ∀ (J97 : fM) (M97 : fN), xR J97 ∧ f_fr [1, 3, 5, 8, 9] I J97 ∧ f_fr [1, 6, 7] L M97 ∧ (0 ≤ (J97 3 2).toInt) ∧ (((J97 3 2).toInt = 0 → xG 5 J97)) → f_W pP l eP (f_rm 26) sP mP aP bP hP9 cP xY 80 a cy dC dI 2 (f_K 0 (qX4_readLine [.ref 3, .ref 5] I L)) 97 [(1, .ref 5), (0, .ref 3)] [] J97 M97 := by
        intro J97 M97 h9
        obtain ⟨hR97c, hF97c, hG97c, u97_1, u97_2⟩ := h9
        refine f_wp_ok C f_cl flX4_ok fiX4_ok fjX4_ok (sn := none) (fun j h => by cases h) (cs := (f_cnl [(76, (2, 3, 4, pX4_isKeyword, qX4_isKeyword)), (83, (2, 0, 4, pX4_readKind, qX4_readKind)), (61, (1, 0, 8, pX9_next, qX9_next)), (91, (3, 1, 4, (pX4_readTag 5), qX4_readTag)), (100, (2, 0, 4, pX4_readWord, qX4_readWord)), (57, (2, 3, 4, pX4_refuse, qX4_refuse)), (103, (2, 3, 4, pX4_pass, qX4_pass))])) (cz := (fun _ => none)) (f_cnl_of (P := fun j S => f_cok pP l eP (f_rm 26) sP mP aP bP hP9 cP xY 80 a cy dC dI 2 _ _ (.invokevirtual j) true S) (List.forall_mem_cons.mpr ⟨f_cokV C (mX4_isKeyword hinj) (ci := 4) rfl (List.forall_mem_cons.mpr ⟨(mlX4_ok _ (List.mem_of_getElem? (i := 10) rfl)), kc_X4_isKeyword⟩) (by decide +kernel) ⟨Nat.le_of_ble_eq_true rfl, Nat.le_of_ble_eq_true rfl⟩, List.forall_mem_cons.mpr ⟨f_cokV C (mX4_readKind hinj) (ci := 4) rfl (List.forall_mem_cons.mpr ⟨(mlX4_ok _ (List.mem_of_getElem? (i := 11) rfl)), kc_X4_readKind⟩) (by decide +kernel) ⟨Nat.le_of_ble_eq_true rfl, Nat.le_of_ble_eq_true rfl⟩, List.forall_mem_cons.mpr ⟨f_cokV C (mX9_next hinj) (ci := 8) rfl (List.forall_mem_cons.mpr ⟨(mlX4_ok _ (List.mem_of_getElem? (i := 7) rfl)), kc_X9_next⟩) (by decide +kernel) ⟨Nat.le_of_ble_eq_true rfl, Nat.le_of_ble_eq_true rfl⟩, List.forall_mem_cons.mpr ⟨f_cokV C (mX4_readTag hinj 5) (ci := 4) rfl (List.forall_mem_cons.mpr ⟨(mlX4_ok _ (List.mem_of_getElem? (i := 12) rfl)), kc_X4_readTag⟩) (by decide +kernel) ⟨Nat.le_of_ble_eq_true rfl, Nat.le_of_ble_eq_true rfl⟩, List.forall_mem_cons.mpr ⟨f_cokV C (mX4_readWord hinj) (ci := 4) rfl (List.forall_mem_cons.mpr ⟨(mlX4_ok _ (List.mem_of_getElem? (i := 13) rfl)), kc_X4_readWord⟩) (by decide +kernel) ⟨Nat.le_of_ble_eq_true rfl, Nat.le_of_ble_eq_true rfl⟩, List.forall_mem_cons.mpr ⟨f_cokV C (mX4_refuse hinj) (ci := 4) rfl (List.forall_mem_cons.mpr ⟨(mlX4_ok _ (List.mem_of_getElem? (i := 6) rfl)), kc_X4_refuse⟩) (by decide +kernel) ⟨Nat.le_of_ble_eq_true rfl, Nat.le_of_ble_eq_true rfl⟩, List.forall_mem_cons.mpr ⟨f_cokV C (mX4_pass hinj) (ci := 4) rfl (List.forall_mem_cons.mpr ⟨(mlX4_ok _ (List.mem_of_getElem? (i := 14) rfl)), kc_X4_pass⟩) (by decide +kernel) ⟨Nat.le_of_ble_eq_true rfl, Nat.le_of_ble_eq_true rfl⟩, fun _ h => absurd h List.not_mem_nil⟩⟩⟩⟩⟩⟩⟩)) (fun j S h => by cases h) tX4_readLine_ok (cut := (fun _ => none)) (fun t P h => by cases h) 17 97 (f_seek 97 0 tX4_readLine) (f_seek_ok 97 0 tX4_readLine tX4_readLine_ok) _ _ _ _ ?_
        apply And.intro
        · intro h101
          have h101 : ¬ (J97 3 2).toInt = 0 := h101
          exact ⟨hR97c, hF97c, hG97c, (show 0 ≤ (J97 3 2).toInt from by first | assumption | omega | rfl), (show ((J97 3 2).toInt = 0 → xG 5 J97) from by first | assumption | omega | rfl)⟩
        · intro h101
          have h101 : (J97 3 2).toInt = 0 := h101
          apply And.intro
          · intro h114
            have h114 : ¬ (J97 1 2).toInt = 59 := h114
            refine And.intro hR97c ?_
            intro x122 I122 L122 hq122
            have hq122 : xR I122 ∧ f_fr [1, 3] J97 I122 ∧ f_fr [1] M97 L122 ∧ (I122 3 4).toInt = (J97 3 4).toInt ∧ ((x122.toInt = 1 ∧ (I122 3 2).toInt = (J97 3 2).toInt ∧ ¬ (0 : Int) = 0 ∨ x122.toInt = 0 ∧ 1 ≤ (I122 3 2).toInt)) := hq122
            obtain ⟨c122_0, c122_1, c122_2, c122_3, c122_4⟩ := hq122
            have hF122 := f_fr_tr hF97c c122_1 rfl
            have hG122 := f_fr_tr hG97c c122_2 rfl
            have g122 : (I122 3 2).toInt = 0 → xG 5 I122 := fun h => xG_fr (u97_2 (by omega)) c122_1 rfl rfl rfl
            exact ⟨c122_0, hF122, hG122, (show 0 ≤ (I122 3 2).toInt from by first | assumption | omega | rfl), (show ((I122 3 2).toInt = 0 → xG 5 I122) from by first | assumption | omega | rfl)⟩
          · intro h114
            have h114 : (J97 1 2).toInt = 59 := h114
            refine And.intro hR97c ?_
            intro x122 I122 L122 hq122
            have hq122 : xR I122 ∧ f_fr [1, 3] J97 I122 ∧ f_fr [1] M97 L122 ∧ (I122 3 4).toInt = (J97 3 4).toInt ∧ ((x122.toInt = 1 ∧ (I122 3 2).toInt = (J97 3 2).toInt ∧ ¬ (1 : Int) = 0 ∨ x122.toInt = 0 ∧ 1 ≤ (I122 3 2).toInt)) := hq122
            obtain ⟨c122_0, c122_1, c122_2, c122_3, c122_4⟩ := hq122
            have hF122 := f_fr_tr hF97c c122_1 rfl
            have hG122 := f_fr_tr hG97c c122_2 rfl
            have g122 : (I122 3 2).toInt = 0 → xG 5 I122 := fun h => xG_fr (u97_2 (by omega)) c122_1 rfl rfl rfl
            exact ⟨c122_0, hF122, hG122, (show 0 ≤ (I122 3 2).toInt from by first | assumption | omega | rfl), (show ((I122 3 2).toInt = 0 → xG 5 I122) from by first | assumption | omega | rfl)⟩
      refine f_wp_ok C f_cl flX4_ok fiX4_ok fjX4_ok (sn := none) (fun j h => by cases h) (cs := (f_cnl [(76, (2, 3, 4, pX4_isKeyword, qX4_isKeyword)), (83, (2, 0, 4, pX4_readKind, qX4_readKind)), (61, (1, 0, 8, pX9_next, qX9_next)), (91, (3, 1, 4, (pX4_readTag 5), qX4_readTag)), (100, (2, 0, 4, pX4_readWord, qX4_readWord)), (57, (2, 3, 4, pX4_refuse, qX4_refuse)), (103, (2, 3, 4, pX4_pass, qX4_pass))])) (cz := (fun _ => none)) (f_cnl_of (P := fun j S => f_cok pP l eP (f_rm 26) sP mP aP bP hP9 cP xY 80 a cy dC dI 2 _ _ (.invokevirtual j) true S) (List.forall_mem_cons.mpr ⟨f_cokV C (mX4_isKeyword hinj) (ci := 4) rfl (List.forall_mem_cons.mpr ⟨(mlX4_ok _ (List.mem_of_getElem? (i := 10) rfl)), kc_X4_isKeyword⟩) (by decide +kernel) ⟨Nat.le_of_ble_eq_true rfl, Nat.le_of_ble_eq_true rfl⟩, List.forall_mem_cons.mpr ⟨f_cokV C (mX4_readKind hinj) (ci := 4) rfl (List.forall_mem_cons.mpr ⟨(mlX4_ok _ (List.mem_of_getElem? (i := 11) rfl)), kc_X4_readKind⟩) (by decide +kernel) ⟨Nat.le_of_ble_eq_true rfl, Nat.le_of_ble_eq_true rfl⟩, List.forall_mem_cons.mpr ⟨f_cokV C (mX9_next hinj) (ci := 8) rfl (List.forall_mem_cons.mpr ⟨(mlX4_ok _ (List.mem_of_getElem? (i := 7) rfl)), kc_X9_next⟩) (by decide +kernel) ⟨Nat.le_of_ble_eq_true rfl, Nat.le_of_ble_eq_true rfl⟩, List.forall_mem_cons.mpr ⟨f_cokV C (mX4_readTag hinj 5) (ci := 4) rfl (List.forall_mem_cons.mpr ⟨(mlX4_ok _ (List.mem_of_getElem? (i := 12) rfl)), kc_X4_readTag⟩) (by decide +kernel) ⟨Nat.le_of_ble_eq_true rfl, Nat.le_of_ble_eq_true rfl⟩, List.forall_mem_cons.mpr ⟨f_cokV C (mX4_readWord hinj) (ci := 4) rfl (List.forall_mem_cons.mpr ⟨(mlX4_ok _ (List.mem_of_getElem? (i := 13) rfl)), kc_X4_readWord⟩) (by decide +kernel) ⟨Nat.le_of_ble_eq_true rfl, Nat.le_of_ble_eq_true rfl⟩, List.forall_mem_cons.mpr ⟨f_cokV C (mX4_refuse hinj) (ci := 4) rfl (List.forall_mem_cons.mpr ⟨(mlX4_ok _ (List.mem_of_getElem? (i := 6) rfl)), kc_X4_refuse⟩) (by decide +kernel) ⟨Nat.le_of_ble_eq_true rfl, Nat.le_of_ble_eq_true rfl⟩, List.forall_mem_cons.mpr ⟨f_cokV C (mX4_pass hinj) (ci := 4) rfl (List.forall_mem_cons.mpr ⟨(mlX4_ok _ (List.mem_of_getElem? (i := 14) rfl)), kc_X4_pass⟩) (by decide +kernel) ⟨Nat.le_of_ble_eq_true rfl, Nat.le_of_ble_eq_true rfl⟩, fun _ h => absurd h List.not_mem_nil⟩⟩⟩⟩⟩⟩⟩)) (fun j S h => by cases h) tX4_readLine_ok (cut := (f_cnl [(97, (fun (ls' : fLs) (st' : List Value) (I' : fM) (L' : fN) => (∀ q ∈ ([(1, .ref 5), (0, .ref 3)] : fLs), q ∈ ls') ∧ st' = [] ∧ (xR I' ∧ f_fr [1, 3, 5, 8, 9] I I' ∧ f_fr [1, 6, 7] L L' ∧ (0 ≤ (I' 3 2).toInt) ∧ (((I' 3 2).toInt = 0 → xG 5 I')))))])) (f_cnl_of (P := fun (tQ : Nat) (P : fLs → List Value → fM → fN → Prop) => ∀ ls' st' I' L', P ls' st' I' L' → f_W pP l eP (f_rm 26) sP mP aP bP hP9 cP xY 80 a cy dC dI 2 (f_K 0 (qX4_readLine [.ref 3, .ref 5] I L)) tQ ls' st' I' L') (List.forall_mem_cons.mpr ⟨(fun ls' st' I' L' h => by obtain ⟨hs, e1, h9⟩ := h; rw [e1]; exact f_W_sub hs (lp97  I' L' h9)), fun _ h => absurd h List.not_mem_nil⟩)) 31 0 tX4_readLine tX4_readLine_ok _ _ _ _ ?_
      refine And.intro trivial ?_
      intro x4 I4 L4 hq4
      have hq4 : I4 = I ∧ L4 = L ∧ ((x4.toInt = 0 ∨ x4.toInt = 1)) := hq4
      obtain ⟨eI4, eL4, c4_2⟩ := hq4
      replace eI4 := eI4.symm
      subst eI4
      replace eL4 := eL4.symm
      subst eL4
      apply And.intro
      · intro h7
        have h7 : x4.toInt = 0 := h7
        refine And.intro trivial ?_
        intro x30 I30 L30 hq30
        have hq30 : I30 = I ∧ L30 = L ∧ ((x30.toInt = 0 ∨ x30.toInt = 1)) := hq30
        obtain ⟨eI30, eL30, c30_2⟩ := hq30
        replace eI30 := eI30.symm
        subst eI30
        replace eL30 := eL30.symm
        subst eL30
        apply And.intro
        · intro h33
          have h33 : x30.toInt = 0 := h33
          refine And.intro trivial ?_
          intro x68 I68 L68 hq68
          have hq68 : I68 = I ∧ L68 = L ∧ ((x68.toInt = 0 ∨ x68.toInt = 1)) := hq68
          obtain ⟨eI68, eL68, c68_2⟩ := hq68
          replace eI68 := eI68.symm
          subst eI68
          replace eL68 := eL68.symm
          subst eL68
          apply And.intro
          · intro h71
            have h71 : x68.toInt = 0 := h71
            have g91 := p3
            refine And.intro ⟨hR, (show 1 ≤ (2 : Int) from by first | assumption | omega)⟩ ?_
            intro x93 I93 L93 hq93
            have hq93 : xR I93 ∧ f_fr [3] I I93 ∧ L93 = L ∧ x93.toInt = 0 ∧ 1 ≤ (I93 3 2).toInt ∧ (I93 3 4).toInt = (I 3 4).toInt := hq93
            obtain ⟨c93_0, c93_1, eL93, c93_3, c93_4, c93_5⟩ := hq93
            replace eL93 := eL93.symm
            subst eL93
            have hF93 := f_fr_tr hF0 c93_1 rfl
            have g93 : (I93 3 2).toInt = 0 → xG 5 I93 := fun h => by omega
            exact ⟨(by intro q9 h9; simp only [List.mem_cons, List.not_mem_nil, or_false] at h9; rcases h9 with h9 | h9 <;> subst h9 <;> repeat (first | exact List.mem_cons_self | apply List.mem_cons_of_mem)), rfl, c93_0, hF93, hG0, (show 0 ≤ (I93 3 2).toInt from by first | assumption | omega), (show ((I93 3 2).toInt = 0 → xG 5 I93) from by first | assumption | omega | rfl)⟩
          · intro h71
            have h71 : ¬ x68.toInt = 0 := h71
            have r75_1 : 0 ≤ (I 5 5).toInt ∧ (I 5 5).toInt ≤ 12 := hR 5 5
            apply And.intro
            · intro h80
              have h80 : 12 ≤ (I 5 5).toInt := h80
              have g91 := p3
              refine And.intro ⟨hR, (show 1 ≤ (2 : Int) from by first | assumption | omega)⟩ ?_
              intro x93 I93 L93 hq93
              have hq93 : xR I93 ∧ f_fr [3] I I93 ∧ L93 = L ∧ x93.toInt = 0 ∧ 1 ≤ (I93 3 2).toInt ∧ (I93 3 4).toInt = (I 3 4).toInt := hq93
              obtain ⟨c93_0, c93_1, eL93, c93_3, c93_4, c93_5⟩ := hq93
              replace eL93 := eL93.symm
              subst eL93
              have hF93 := f_fr_tr hF0 c93_1 rfl
              have g93 : (I93 3 2).toInt = 0 → xG 5 I93 := fun h => by omega
              exact ⟨(by intro q9 h9; simp only [List.mem_cons, List.not_mem_nil, or_false] at h9; rcases h9 with h9 | h9 <;> subst h9 <;> repeat (first | exact List.mem_cons_self | apply List.mem_cons_of_mem)), rfl, c93_0, hF93, hG0, (show 0 ≤ (I93 3 2).toInt from by first | assumption | omega), (show ((I93 3 2).toInt = 0 → xG 5 I93) from by first | assumption | omega | rfl)⟩
            · intro h80
              have h80 : (I 5 5).toInt < 12 := h80
              refine And.intro ⟨(by decide), hR, (show (I 3 2).toInt = 0 from by first | assumption | omega | rfl), (show xG 5 I from by first | assumption | omega), (show (I 5 5).toInt < 12 from by first | assumption | omega)⟩ ?_
              intro I85 L85 hq85
              have hq85 : xR I85 ∧ f_fr [1, 3, 5, 8, 9] I I85 ∧ f_fr [1, 7] L L85 ∧ 0 ≤ (I85 3 2).toInt ∧ (((I85 3 2).toInt = 0 → xG 5 I85)) := hq85
              obtain ⟨c85_0, c85_1, c85_2, c85_3, c85_4⟩ := hq85
              have hF85 := f_fr_tr hF0 c85_1 rfl
              have hG85 := f_fr_tr hG0 c85_2 rfl
              exact ⟨(by intro q9 h9; simp only [List.mem_cons, List.not_mem_nil, or_false] at h9; rcases h9 with h9 | h9 <;> subst h9 <;> repeat (first | exact List.mem_cons_self | apply List.mem_cons_of_mem)), rfl, c85_0, hF85, hG85, (show 0 ≤ (I85 3 2).toInt from by first | assumption | omega), (show ((I85 3 2).toInt = 0 → xG 5 I85) from by first | assumption | omega | rfl)⟩
        · intro h33
          have h33 : ¬ x30.toInt = 0 := h33
          apply And.intro
          · intro h41
            have h41 : ¬ (I 5 6).toInt = (-1) := h41
            refine And.intro trivial ?_
            intro x68 I68 L68 hq68
            have hq68 : I68 = I ∧ L68 = L ∧ ((x68.toInt = 0 ∨ x68.toInt = 1)) := hq68
            obtain ⟨eI68, eL68, c68_2⟩ := hq68
            replace eI68 := eI68.symm
            subst eI68
            replace eL68 := eL68.symm
            subst eL68
            apply And.intro
            · intro h71
              have h71 : x68.toInt = 0 := h71
              have g91 := p3
              refine And.intro ⟨hR, (show 1 ≤ (2 : Int) from by first | assumption | omega)⟩ ?_
              intro x93 I93 L93 hq93
              have hq93 : xR I93 ∧ f_fr [3] I I93 ∧ L93 = L ∧ x93.toInt = 0 ∧ 1 ≤ (I93 3 2).toInt ∧ (I93 3 4).toInt = (I 3 4).toInt := hq93
              obtain ⟨c93_0, c93_1, eL93, c93_3, c93_4, c93_5⟩ := hq93
              replace eL93 := eL93.symm
              subst eL93
              have hF93 := f_fr_tr hF0 c93_1 rfl
              have g93 : (I93 3 2).toInt = 0 → xG 5 I93 := fun h => by omega
              exact ⟨(by intro q9 h9; simp only [List.mem_cons, List.not_mem_nil, or_false] at h9; rcases h9 with h9 | h9 <;> subst h9 <;> repeat (first | exact List.mem_cons_self | apply List.mem_cons_of_mem)), rfl, c93_0, hF93, hG0, (show 0 ≤ (I93 3 2).toInt from by first | assumption | omega), (show ((I93 3 2).toInt = 0 → xG 5 I93) from by first | assumption | omega | rfl)⟩
            · intro h71
              have h71 : ¬ x68.toInt = 0 := h71
              have r75_2 : 0 ≤ (I 5 5).toInt ∧ (I 5 5).toInt ≤ 12 := hR 5 5
              apply And.intro
              · intro h80
                have h80 : 12 ≤ (I 5 5).toInt := h80
                have g91 := p3
                refine And.intro ⟨hR, (show 1 ≤ (2 : Int) from by first | assumption | omega)⟩ ?_
                intro x93 I93 L93 hq93
                have hq93 : xR I93 ∧ f_fr [3] I I93 ∧ L93 = L ∧ x93.toInt = 0 ∧ 1 ≤ (I93 3 2).toInt ∧ (I93 3 4).toInt = (I 3 4).toInt := hq93
                obtain ⟨c93_0, c93_1, eL93, c93_3, c93_4, c93_5⟩ := hq93
                replace eL93 := eL93.symm
                subst eL93
                have hF93 := f_fr_tr hF0 c93_1 rfl
                have g93 : (I93 3 2).toInt = 0 → xG 5 I93 := fun h => by omega
                exact ⟨(by intro q9 h9; simp only [List.mem_cons, List.not_mem_nil, or_false] at h9; rcases h9 with h9 | h9 <;> subst h9 <;> repeat (first | exact List.mem_cons_self | apply List.mem_cons_of_mem)), rfl, c93_0, hF93, hG0, (show 0 ≤ (I93 3 2).toInt from by first | assumption | omega), (show ((I93 3 2).toInt = 0 → xG 5 I93) from by first | assumption | omega | rfl)⟩
              · intro h80
                have h80 : (I 5 5).toInt < 12 := h80
                refine And.intro ⟨(by decide), hR, (show (I 3 2).toInt = 0 from by first | assumption | omega | rfl), (show xG 5 I from by first | assumption | omega), (show (I 5 5).toInt < 12 from by first | assumption | omega)⟩ ?_
                intro I85 L85 hq85
                have hq85 : xR I85 ∧ f_fr [1, 3, 5, 8, 9] I I85 ∧ f_fr [1, 7] L L85 ∧ 0 ≤ (I85 3 2).toInt ∧ (((I85 3 2).toInt = 0 → xG 5 I85)) := hq85
                obtain ⟨c85_0, c85_1, c85_2, c85_3, c85_4⟩ := hq85
                have hF85 := f_fr_tr hF0 c85_1 rfl
                have hG85 := f_fr_tr hG0 c85_2 rfl
                exact ⟨(by intro q9 h9; simp only [List.mem_cons, List.not_mem_nil, or_false] at h9; rcases h9 with h9 | h9 <;> subst h9 <;> repeat (first | exact List.mem_cons_self | apply List.mem_cons_of_mem)), rfl, c85_0, hF85, hG85, (show 0 ≤ (I85 3 2).toInt from by first | assumption | omega), (show ((I85 3 2).toInt = 0 → xG 5 I85) from by first | assumption | omega | rfl)⟩
          · intro h41
            have h41 : (I 5 6).toInt = (-1) := h41
            refine And.intro hR ?_
            intro I48 L48 hq48
            have hq48 : xR I48 ∧ f_fr [1] I I48 ∧ f_fr [1] L L48 := hq48
            obtain ⟨c48_0, c48_1, c48_2⟩ := hq48
            have hF48 := f_fr_tr hF0 c48_1 rfl
            have hG48 := f_fr_tr hG0 c48_2 rfl
            have e55_3 : (I48 3 2).toInt = (I 3 2).toInt := congrArg Int32.toInt (congrFun (c48_1 3 rfl) 2)
            have e55_5 : (I48 3 4).toInt = (I 3 4).toInt := congrArg Int32.toInt (congrFun (c48_1 3 rfl) 4)
            refine And.intro ⟨(dpos_of (by omega)), (by decide), c48_0, (show (I48 3 2).toInt = 0 from by first | assumption | omega | rfl), (show ((0 : Int) = 0 ∨ 0 ≤ (I48 3 4).toInt) from by first | assumption | omega | rfl), (show 0 ≤ (0 : Int) from by first | assumption | omega), (show (0 : Int) ≤ 4 from by first | assumption | omega), (show 5 - (0 : Int) ≤ 5 from by first | assumption | omega)⟩ ?_
            intro x55 I55 L55 hq55
            have hq55 : xR I55 ∧ f_fr [1, 3] I48 I55 ∧ f_fr [1] L48 L55 ∧ ((1 ≤ (I55 3 2).toInt ∨ ((I55 3 2).toInt = 0 ∧ (I55 3 4).toInt ≤ 4 ∧ ((0 : Int) = 0 → wfK x55 0 (I55 3 4).toInt) ∧ (¬ (0 : Int) = 0 → wfK x55 (I48 3 4).toInt (I55 3 4).toInt)))) := hq55
            obtain ⟨c55_0, c55_1, c55_2, c55_3⟩ := hq55
            have hF55 := f_fr_tr hF48 c55_1 rfl
            have hG55 := f_fr_tr hG48 c55_2 rfl
            have f55 : 0 ≤ (I55 3 2).toInt := by rcases c55_3 with q | ⟨q, -⟩ <;> omega
            have g55 : xG 5 I55 := xG_fr (xG_fr p3 c48_1 rfl rfl rfl) c55_1 rfl rfl rfl
            have hR58 := xR_f (k := 5) (j := 6) (x := x55) c55_0 (by exact f_rng _)
            have hF58 := f_fr_up (k := 5) (r := va_up (I55 5) 6 x55) hF55 rfl
            have g58 : (I55 3 2).toInt = 0 → xG 5 (va_up I55 5 (va_up (I55 5) 6 x55)) := fun h => xG_goal g55 rfl (wfK_wf ((c55_3.resolve_left (fun q => by omega)).2.2.1 rfl)) rfl rfl
            exact ⟨(by intro q9 h9; simp only [List.mem_cons, List.not_mem_nil, or_false] at h9; rcases h9 with h9 | h9 <;> subst h9 <;> repeat (first | exact List.mem_cons_self | apply List.mem_cons_of_mem)), rfl, hR58, hF58, hG55, (show 0 ≤ (I55 3 2).toInt from by first | assumption | omega), (show ((I55 3 2).toInt = 0 → xG 5 (va_up I55 5 (va_up (I55 5) 6 x55))) from by first | assumption | omega | rfl)⟩
      · intro h7
        have h7 : ¬ x4.toInt = 0 := h7
        have r11_1 : 0 ≤ (I 5 4).toInt ∧ (I 5 4).toInt ≤ 5 := hR 5 4
        apply And.intro
        · intro h15
          have h15 : 5 ≤ (I 5 4).toInt := h15
          refine And.intro trivial ?_
          intro x30 I30 L30 hq30
          have hq30 : I30 = I ∧ L30 = L ∧ ((x30.toInt = 0 ∨ x30.toInt = 1)) := hq30
          obtain ⟨eI30, eL30, c30_2⟩ := hq30
          replace eI30 := eI30.symm
          subst eI30
          replace eL30 := eL30.symm
          subst eL30
          apply And.intro
          · intro h33
            have h33 : x30.toInt = 0 := h33
            refine And.intro trivial ?_
            intro x68 I68 L68 hq68
            have hq68 : I68 = I ∧ L68 = L ∧ ((x68.toInt = 0 ∨ x68.toInt = 1)) := hq68
            obtain ⟨eI68, eL68, c68_2⟩ := hq68
            replace eI68 := eI68.symm
            subst eI68
            replace eL68 := eL68.symm
            subst eL68
            apply And.intro
            · intro h71
              have h71 : x68.toInt = 0 := h71
              have g91 := p3
              refine And.intro ⟨hR, (show 1 ≤ (2 : Int) from by first | assumption | omega)⟩ ?_
              intro x93 I93 L93 hq93
              have hq93 : xR I93 ∧ f_fr [3] I I93 ∧ L93 = L ∧ x93.toInt = 0 ∧ 1 ≤ (I93 3 2).toInt ∧ (I93 3 4).toInt = (I 3 4).toInt := hq93
              obtain ⟨c93_0, c93_1, eL93, c93_3, c93_4, c93_5⟩ := hq93
              replace eL93 := eL93.symm
              subst eL93
              have hF93 := f_fr_tr hF0 c93_1 rfl
              have g93 : (I93 3 2).toInt = 0 → xG 5 I93 := fun h => by omega
              exact ⟨(by intro q9 h9; simp only [List.mem_cons, List.not_mem_nil, or_false] at h9; rcases h9 with h9 | h9 <;> subst h9 <;> repeat (first | exact List.mem_cons_self | apply List.mem_cons_of_mem)), rfl, c93_0, hF93, hG0, (show 0 ≤ (I93 3 2).toInt from by first | assumption | omega), (show ((I93 3 2).toInt = 0 → xG 5 I93) from by first | assumption | omega | rfl)⟩
            · intro h71
              have h71 : ¬ x68.toInt = 0 := h71
              have r75_2 : 0 ≤ (I 5 5).toInt ∧ (I 5 5).toInt ≤ 12 := hR 5 5
              apply And.intro
              · intro h80
                have h80 : 12 ≤ (I 5 5).toInt := h80
                have g91 := p3
                refine And.intro ⟨hR, (show 1 ≤ (2 : Int) from by first | assumption | omega)⟩ ?_
                intro x93 I93 L93 hq93
                have hq93 : xR I93 ∧ f_fr [3] I I93 ∧ L93 = L ∧ x93.toInt = 0 ∧ 1 ≤ (I93 3 2).toInt ∧ (I93 3 4).toInt = (I 3 4).toInt := hq93
                obtain ⟨c93_0, c93_1, eL93, c93_3, c93_4, c93_5⟩ := hq93
                replace eL93 := eL93.symm
                subst eL93
                have hF93 := f_fr_tr hF0 c93_1 rfl
                have g93 : (I93 3 2).toInt = 0 → xG 5 I93 := fun h => by omega
                exact ⟨(by intro q9 h9; simp only [List.mem_cons, List.not_mem_nil, or_false] at h9; rcases h9 with h9 | h9 <;> subst h9 <;> repeat (first | exact List.mem_cons_self | apply List.mem_cons_of_mem)), rfl, c93_0, hF93, hG0, (show 0 ≤ (I93 3 2).toInt from by first | assumption | omega), (show ((I93 3 2).toInt = 0 → xG 5 I93) from by first | assumption | omega | rfl)⟩
              · intro h80
                have h80 : (I 5 5).toInt < 12 := h80
                refine And.intro ⟨(by decide), hR, (show (I 3 2).toInt = 0 from by first | assumption | omega | rfl), (show xG 5 I from by first | assumption | omega), (show (I 5 5).toInt < 12 from by first | assumption | omega)⟩ ?_
                intro I85 L85 hq85
                have hq85 : xR I85 ∧ f_fr [1, 3, 5, 8, 9] I I85 ∧ f_fr [1, 7] L L85 ∧ 0 ≤ (I85 3 2).toInt ∧ (((I85 3 2).toInt = 0 → xG 5 I85)) := hq85
                obtain ⟨c85_0, c85_1, c85_2, c85_3, c85_4⟩ := hq85
                have hF85 := f_fr_tr hF0 c85_1 rfl
                have hG85 := f_fr_tr hG0 c85_2 rfl
                exact ⟨(by intro q9 h9; simp only [List.mem_cons, List.not_mem_nil, or_false] at h9; rcases h9 with h9 | h9 <;> subst h9 <;> repeat (first | exact List.mem_cons_self | apply List.mem_cons_of_mem)), rfl, c85_0, hF85, hG85, (show 0 ≤ (I85 3 2).toInt from by first | assumption | omega), (show ((I85 3 2).toInt = 0 → xG 5 I85) from by first | assumption | omega | rfl)⟩
          · intro h33
            have h33 : ¬ x30.toInt = 0 := h33
            apply And.intro
            · intro h41
              have h41 : ¬ (I 5 6).toInt = (-1) := h41
              refine And.intro trivial ?_
              intro x68 I68 L68 hq68
              have hq68 : I68 = I ∧ L68 = L ∧ ((x68.toInt = 0 ∨ x68.toInt = 1)) := hq68
              obtain ⟨eI68, eL68, c68_2⟩ := hq68
              replace eI68 := eI68.symm
              subst eI68
              replace eL68 := eL68.symm
              subst eL68
              apply And.intro
              · intro h71
                have h71 : x68.toInt = 0 := h71
                have g91 := p3
                refine And.intro ⟨hR, (show 1 ≤ (2 : Int) from by first | assumption | omega)⟩ ?_
                intro x93 I93 L93 hq93
                have hq93 : xR I93 ∧ f_fr [3] I I93 ∧ L93 = L ∧ x93.toInt = 0 ∧ 1 ≤ (I93 3 2).toInt ∧ (I93 3 4).toInt = (I 3 4).toInt := hq93
                obtain ⟨c93_0, c93_1, eL93, c93_3, c93_4, c93_5⟩ := hq93
                replace eL93 := eL93.symm
                subst eL93
                have hF93 := f_fr_tr hF0 c93_1 rfl
                have g93 : (I93 3 2).toInt = 0 → xG 5 I93 := fun h => by omega
                exact ⟨(by intro q9 h9; simp only [List.mem_cons, List.not_mem_nil, or_false] at h9; rcases h9 with h9 | h9 <;> subst h9 <;> repeat (first | exact List.mem_cons_self | apply List.mem_cons_of_mem)), rfl, c93_0, hF93, hG0, (show 0 ≤ (I93 3 2).toInt from by first | assumption | omega), (show ((I93 3 2).toInt = 0 → xG 5 I93) from by first | assumption | omega | rfl)⟩
              · intro h71
                have h71 : ¬ x68.toInt = 0 := h71
                have r75_3 : 0 ≤ (I 5 5).toInt ∧ (I 5 5).toInt ≤ 12 := hR 5 5
                apply And.intro
                · intro h80
                  have h80 : 12 ≤ (I 5 5).toInt := h80
                  have g91 := p3
                  refine And.intro ⟨hR, (show 1 ≤ (2 : Int) from by first | assumption | omega)⟩ ?_
                  intro x93 I93 L93 hq93
                  have hq93 : xR I93 ∧ f_fr [3] I I93 ∧ L93 = L ∧ x93.toInt = 0 ∧ 1 ≤ (I93 3 2).toInt ∧ (I93 3 4).toInt = (I 3 4).toInt := hq93
                  obtain ⟨c93_0, c93_1, eL93, c93_3, c93_4, c93_5⟩ := hq93
                  replace eL93 := eL93.symm
                  subst eL93
                  have hF93 := f_fr_tr hF0 c93_1 rfl
                  have g93 : (I93 3 2).toInt = 0 → xG 5 I93 := fun h => by omega
                  exact ⟨(by intro q9 h9; simp only [List.mem_cons, List.not_mem_nil, or_false] at h9; rcases h9 with h9 | h9 <;> subst h9 <;> repeat (first | exact List.mem_cons_self | apply List.mem_cons_of_mem)), rfl, c93_0, hF93, hG0, (show 0 ≤ (I93 3 2).toInt from by first | assumption | omega), (show ((I93 3 2).toInt = 0 → xG 5 I93) from by first | assumption | omega | rfl)⟩
                · intro h80
                  have h80 : (I 5 5).toInt < 12 := h80
                  refine And.intro ⟨(by decide), hR, (show (I 3 2).toInt = 0 from by first | assumption | omega | rfl), (show xG 5 I from by first | assumption | omega), (show (I 5 5).toInt < 12 from by first | assumption | omega)⟩ ?_
                  intro I85 L85 hq85
                  have hq85 : xR I85 ∧ f_fr [1, 3, 5, 8, 9] I I85 ∧ f_fr [1, 7] L L85 ∧ 0 ≤ (I85 3 2).toInt ∧ (((I85 3 2).toInt = 0 → xG 5 I85)) := hq85
                  obtain ⟨c85_0, c85_1, c85_2, c85_3, c85_4⟩ := hq85
                  have hF85 := f_fr_tr hF0 c85_1 rfl
                  have hG85 := f_fr_tr hG0 c85_2 rfl
                  exact ⟨(by intro q9 h9; simp only [List.mem_cons, List.not_mem_nil, or_false] at h9; rcases h9 with h9 | h9 <;> subst h9 <;> repeat (first | exact List.mem_cons_self | apply List.mem_cons_of_mem)), rfl, c85_0, hF85, hG85, (show 0 ≤ (I85 3 2).toInt from by first | assumption | omega), (show ((I85 3 2).toInt = 0 → xG 5 I85) from by first | assumption | omega | rfl)⟩
            · intro h41
              have h41 : (I 5 6).toInt = (-1) := h41
              refine And.intro hR ?_
              intro I48 L48 hq48
              have hq48 : xR I48 ∧ f_fr [1] I I48 ∧ f_fr [1] L L48 := hq48
              obtain ⟨c48_0, c48_1, c48_2⟩ := hq48
              have hF48 := f_fr_tr hF0 c48_1 rfl
              have hG48 := f_fr_tr hG0 c48_2 rfl
              have e55_4 : (I48 3 2).toInt = (I 3 2).toInt := congrArg Int32.toInt (congrFun (c48_1 3 rfl) 2)
              have e55_6 : (I48 3 4).toInt = (I 3 4).toInt := congrArg Int32.toInt (congrFun (c48_1 3 rfl) 4)
              refine And.intro ⟨(dpos_of (by omega)), (by decide), c48_0, (show (I48 3 2).toInt = 0 from by first | assumption | omega | rfl), (show ((0 : Int) = 0 ∨ 0 ≤ (I48 3 4).toInt) from by first | assumption | omega | rfl), (show 0 ≤ (0 : Int) from by first | assumption | omega), (show (0 : Int) ≤ 4 from by first | assumption | omega), (show 5 - (0 : Int) ≤ 5 from by first | assumption | omega)⟩ ?_
              intro x55 I55 L55 hq55
              have hq55 : xR I55 ∧ f_fr [1, 3] I48 I55 ∧ f_fr [1] L48 L55 ∧ ((1 ≤ (I55 3 2).toInt ∨ ((I55 3 2).toInt = 0 ∧ (I55 3 4).toInt ≤ 4 ∧ ((0 : Int) = 0 → wfK x55 0 (I55 3 4).toInt) ∧ (¬ (0 : Int) = 0 → wfK x55 (I48 3 4).toInt (I55 3 4).toInt)))) := hq55
              obtain ⟨c55_0, c55_1, c55_2, c55_3⟩ := hq55
              have hF55 := f_fr_tr hF48 c55_1 rfl
              have hG55 := f_fr_tr hG48 c55_2 rfl
              have f55 : 0 ≤ (I55 3 2).toInt := by rcases c55_3 with q | ⟨q, -⟩ <;> omega
              have g55 : xG 5 I55 := xG_fr (xG_fr p3 c48_1 rfl rfl rfl) c55_1 rfl rfl rfl
              have hR58 := xR_f (k := 5) (j := 6) (x := x55) c55_0 (by exact f_rng _)
              have hF58 := f_fr_up (k := 5) (r := va_up (I55 5) 6 x55) hF55 rfl
              have g58 : (I55 3 2).toInt = 0 → xG 5 (va_up I55 5 (va_up (I55 5) 6 x55)) := fun h => xG_goal g55 rfl (wfK_wf ((c55_3.resolve_left (fun q => by omega)).2.2.1 rfl)) rfl rfl
              exact ⟨(by intro q9 h9; simp only [List.mem_cons, List.not_mem_nil, or_false] at h9; rcases h9 with h9 | h9 <;> subst h9 <;> repeat (first | exact List.mem_cons_self | apply List.mem_cons_of_mem)), rfl, hR58, hF58, hG55, (show 0 ≤ (I55 3 2).toInt from by first | assumption | omega), (show ((I55 3 2).toInt = 0 → xG 5 (va_up I55 5 (va_up (I55 5) 6 x55))) from by first | assumption | omega | rfl)⟩
        · intro h15
          have h15 : (I 5 4).toInt < 5 := h15
          refine And.intro ⟨(by decide), hR, (show (I 3 2).toInt = 0 from by first | assumption | omega | rfl), (show xG 5 I from by first | assumption | omega)⟩ ?_
          intro I20 L20 hq20
          have hq20 : xR I20 ∧ f_fr [1, 3, 5] I I20 ∧ f_fr [1, 6] L L20 ∧ 0 ≤ (I20 3 2).toInt ∧ (((I20 3 2).toInt = 0 → xG 5 I20)) := hq20
          obtain ⟨c20_0, c20_1, c20_2, c20_3, c20_4⟩ := hq20
          have hF20 := f_fr_tr hF0 c20_1 rfl
          have hG20 := f_fr_tr hG0 c20_2 rfl
          exact ⟨(by intro q9 h9; simp only [List.mem_cons, List.not_mem_nil, or_false] at h9; rcases h9 with h9 | h9 <;> subst h9 <;> repeat (first | exact List.mem_cons_self | apply List.mem_cons_of_mem)), rfl, c20_0, hF20, hG20, (show 0 ≤ (I20 3 2).toInt from by first | assumption | omega), (show ((I20 3 2).toInt = 0 → xG 5 I20) from by first | assumption | omega | rfl)⟩
    -- pat [.ref 3, .ref 10]
    · skip
      have hR : xR I := hR
      have p2 : (I 3 2).toInt = 0 := p2
      have p3 : xG 10 I := p3
      have hF0 : f_fr [1, 3, 10, 13, 14] I I := f_fr_rf
      have hG0 : f_fr [1, 11, 12] L L := f_fr_rf
      have lp97 : ∀ (J97 : fM) (M97 : fN), xR J97 ∧ f_fr [1, 3, 10, 13, 14] I J97 ∧ f_fr [1, 11, 12] L M97 ∧ (0 ≤ (J97 3 2).toInt) ∧ (((J97 3 2).toInt = 0 → xG 10 J97)) → f_W pP l eP (f_rm 26) sP mP aP bP hP9 cP xY 80 a cy dC dI 2 (f_K 0 (qX4_readLine [.ref 3, .ref 10] I L)) 97 [(1, .ref 10), (0, .ref 3)] [] J97 M97 := by
        intro J97 M97 h9
        obtain ⟨hR97c, hF97c, hG97c, u97_1, u97_2⟩ := h9
        refine f_wp_ok C f_cl flX4_ok fiX4_ok fjX4_ok (sn := none) (fun j h => by cases h) (cs := (f_cnl [(76, (2, 3, 4, pX4_isKeyword, qX4_isKeyword)), (83, (2, 0, 4, pX4_readKind, qX4_readKind)), (61, (1, 0, 8, pX9_next, qX9_next)), (91, (3, 1, 4, (pX4_readTag 5), qX4_readTag)), (100, (2, 0, 4, pX4_readWord, qX4_readWord)), (57, (2, 3, 4, pX4_refuse, qX4_refuse)), (103, (2, 3, 4, pX4_pass, qX4_pass))])) (cz := (fun _ => none)) (f_cnl_of (P := fun j S => f_cok pP l eP (f_rm 26) sP mP aP bP hP9 cP xY 80 a cy dC dI 2 _ _ (.invokevirtual j) true S) (List.forall_mem_cons.mpr ⟨f_cokV C (mX4_isKeyword hinj) (ci := 4) rfl (List.forall_mem_cons.mpr ⟨(mlX4_ok _ (List.mem_of_getElem? (i := 10) rfl)), kc_X4_isKeyword⟩) (by decide +kernel) ⟨Nat.le_of_ble_eq_true rfl, Nat.le_of_ble_eq_true rfl⟩, List.forall_mem_cons.mpr ⟨f_cokV C (mX4_readKind hinj) (ci := 4) rfl (List.forall_mem_cons.mpr ⟨(mlX4_ok _ (List.mem_of_getElem? (i := 11) rfl)), kc_X4_readKind⟩) (by decide +kernel) ⟨Nat.le_of_ble_eq_true rfl, Nat.le_of_ble_eq_true rfl⟩, List.forall_mem_cons.mpr ⟨f_cokV C (mX9_next hinj) (ci := 8) rfl (List.forall_mem_cons.mpr ⟨(mlX4_ok _ (List.mem_of_getElem? (i := 7) rfl)), kc_X9_next⟩) (by decide +kernel) ⟨Nat.le_of_ble_eq_true rfl, Nat.le_of_ble_eq_true rfl⟩, List.forall_mem_cons.mpr ⟨f_cokV C (mX4_readTag hinj 5) (ci := 4) rfl (List.forall_mem_cons.mpr ⟨(mlX4_ok _ (List.mem_of_getElem? (i := 12) rfl)), kc_X4_readTag⟩) (by decide +kernel) ⟨Nat.le_of_ble_eq_true rfl, Nat.le_of_ble_eq_true rfl⟩, List.forall_mem_cons.mpr ⟨f_cokV C (mX4_readWord hinj) (ci := 4) rfl (List.forall_mem_cons.mpr ⟨(mlX4_ok _ (List.mem_of_getElem? (i := 13) rfl)), kc_X4_readWord⟩) (by decide +kernel) ⟨Nat.le_of_ble_eq_true rfl, Nat.le_of_ble_eq_true rfl⟩, List.forall_mem_cons.mpr ⟨f_cokV C (mX4_refuse hinj) (ci := 4) rfl (List.forall_mem_cons.mpr ⟨(mlX4_ok _ (List.mem_of_getElem? (i := 6) rfl)), kc_X4_refuse⟩) (by decide +kernel) ⟨Nat.le_of_ble_eq_true rfl, Nat.le_of_ble_eq_true rfl⟩, List.forall_mem_cons.mpr ⟨f_cokV C (mX4_pass hinj) (ci := 4) rfl (List.forall_mem_cons.mpr ⟨(mlX4_ok _ (List.mem_of_getElem? (i := 14) rfl)), kc_X4_pass⟩) (by decide +kernel) ⟨Nat.le_of_ble_eq_true rfl, Nat.le_of_ble_eq_true rfl⟩, fun _ h => absurd h List.not_mem_nil⟩⟩⟩⟩⟩⟩⟩)) (fun j S h => by cases h) tX4_readLine_ok (cut := (fun _ => none)) (fun t P h => by cases h) 17 97 (f_seek 97 0 tX4_readLine) (f_seek_ok 97 0 tX4_readLine tX4_readLine_ok) _ _ _ _ ?_
        apply And.intro
        · intro h101
          have h101 : ¬ (J97 3 2).toInt = 0 := h101
          exact ⟨hR97c, hF97c, hG97c, (show 0 ≤ (J97 3 2).toInt from by first | assumption | omega | rfl), (show ((J97 3 2).toInt = 0 → xG 10 J97) from by first | assumption | omega | rfl)⟩
        · intro h101
          have h101 : (J97 3 2).toInt = 0 := h101
          apply And.intro
          · intro h114
            have h114 : ¬ (J97 1 2).toInt = 59 := h114
            refine And.intro hR97c ?_
            intro x122 I122 L122 hq122
            have hq122 : xR I122 ∧ f_fr [1, 3] J97 I122 ∧ f_fr [1] M97 L122 ∧ (I122 3 4).toInt = (J97 3 4).toInt ∧ ((x122.toInt = 1 ∧ (I122 3 2).toInt = (J97 3 2).toInt ∧ ¬ (0 : Int) = 0 ∨ x122.toInt = 0 ∧ 1 ≤ (I122 3 2).toInt)) := hq122
            obtain ⟨c122_0, c122_1, c122_2, c122_3, c122_4⟩ := hq122
            have hF122 := f_fr_tr hF97c c122_1 rfl
            have hG122 := f_fr_tr hG97c c122_2 rfl
            have g122 : (I122 3 2).toInt = 0 → xG 10 I122 := fun h => xG_fr (u97_2 (by omega)) c122_1 rfl rfl rfl
            exact ⟨c122_0, hF122, hG122, (show 0 ≤ (I122 3 2).toInt from by first | assumption | omega | rfl), (show ((I122 3 2).toInt = 0 → xG 10 I122) from by first | assumption | omega | rfl)⟩
          · intro h114
            have h114 : (J97 1 2).toInt = 59 := h114
            refine And.intro hR97c ?_
            intro x122 I122 L122 hq122
            have hq122 : xR I122 ∧ f_fr [1, 3] J97 I122 ∧ f_fr [1] M97 L122 ∧ (I122 3 4).toInt = (J97 3 4).toInt ∧ ((x122.toInt = 1 ∧ (I122 3 2).toInt = (J97 3 2).toInt ∧ ¬ (1 : Int) = 0 ∨ x122.toInt = 0 ∧ 1 ≤ (I122 3 2).toInt)) := hq122
            obtain ⟨c122_0, c122_1, c122_2, c122_3, c122_4⟩ := hq122
            have hF122 := f_fr_tr hF97c c122_1 rfl
            have hG122 := f_fr_tr hG97c c122_2 rfl
            have g122 : (I122 3 2).toInt = 0 → xG 10 I122 := fun h => xG_fr (u97_2 (by omega)) c122_1 rfl rfl rfl
            exact ⟨c122_0, hF122, hG122, (show 0 ≤ (I122 3 2).toInt from by first | assumption | omega | rfl), (show ((I122 3 2).toInt = 0 → xG 10 I122) from by first | assumption | omega | rfl)⟩
      refine f_wp_ok C f_cl flX4_ok fiX4_ok fjX4_ok (sn := none) (fun j h => by cases h) (cs := (f_cnl [(76, (2, 3, 4, pX4_isKeyword, qX4_isKeyword)), (83, (2, 0, 4, pX4_readKind, qX4_readKind)), (61, (1, 0, 8, pX9_next, qX9_next)), (91, (3, 1, 4, (pX4_readTag 5), qX4_readTag)), (100, (2, 0, 4, pX4_readWord, qX4_readWord)), (57, (2, 3, 4, pX4_refuse, qX4_refuse)), (103, (2, 3, 4, pX4_pass, qX4_pass))])) (cz := (fun _ => none)) (f_cnl_of (P := fun j S => f_cok pP l eP (f_rm 26) sP mP aP bP hP9 cP xY 80 a cy dC dI 2 _ _ (.invokevirtual j) true S) (List.forall_mem_cons.mpr ⟨f_cokV C (mX4_isKeyword hinj) (ci := 4) rfl (List.forall_mem_cons.mpr ⟨(mlX4_ok _ (List.mem_of_getElem? (i := 10) rfl)), kc_X4_isKeyword⟩) (by decide +kernel) ⟨Nat.le_of_ble_eq_true rfl, Nat.le_of_ble_eq_true rfl⟩, List.forall_mem_cons.mpr ⟨f_cokV C (mX4_readKind hinj) (ci := 4) rfl (List.forall_mem_cons.mpr ⟨(mlX4_ok _ (List.mem_of_getElem? (i := 11) rfl)), kc_X4_readKind⟩) (by decide +kernel) ⟨Nat.le_of_ble_eq_true rfl, Nat.le_of_ble_eq_true rfl⟩, List.forall_mem_cons.mpr ⟨f_cokV C (mX9_next hinj) (ci := 8) rfl (List.forall_mem_cons.mpr ⟨(mlX4_ok _ (List.mem_of_getElem? (i := 7) rfl)), kc_X9_next⟩) (by decide +kernel) ⟨Nat.le_of_ble_eq_true rfl, Nat.le_of_ble_eq_true rfl⟩, List.forall_mem_cons.mpr ⟨f_cokV C (mX4_readTag hinj 5) (ci := 4) rfl (List.forall_mem_cons.mpr ⟨(mlX4_ok _ (List.mem_of_getElem? (i := 12) rfl)), kc_X4_readTag⟩) (by decide +kernel) ⟨Nat.le_of_ble_eq_true rfl, Nat.le_of_ble_eq_true rfl⟩, List.forall_mem_cons.mpr ⟨f_cokV C (mX4_readWord hinj) (ci := 4) rfl (List.forall_mem_cons.mpr ⟨(mlX4_ok _ (List.mem_of_getElem? (i := 13) rfl)), kc_X4_readWord⟩) (by decide +kernel) ⟨Nat.le_of_ble_eq_true rfl, Nat.le_of_ble_eq_true rfl⟩, List.forall_mem_cons.mpr ⟨f_cokV C (mX4_refuse hinj) (ci := 4) rfl (List.forall_mem_cons.mpr ⟨(mlX4_ok _ (List.mem_of_getElem? (i := 6) rfl)), kc_X4_refuse⟩) (by decide +kernel) ⟨Nat.le_of_ble_eq_true rfl, Nat.le_of_ble_eq_true rfl⟩, List.forall_mem_cons.mpr ⟨f_cokV C (mX4_pass hinj) (ci := 4) rfl (List.forall_mem_cons.mpr ⟨(mlX4_ok _ (List.mem_of_getElem? (i := 14) rfl)), kc_X4_pass⟩) (by decide +kernel) ⟨Nat.le_of_ble_eq_true rfl, Nat.le_of_ble_eq_true rfl⟩, fun _ h => absurd h List.not_mem_nil⟩⟩⟩⟩⟩⟩⟩)) (fun j S h => by cases h) tX4_readLine_ok (cut := (f_cnl [(97, (fun (ls' : fLs) (st' : List Value) (I' : fM) (L' : fN) => (∀ q ∈ ([(1, .ref 10), (0, .ref 3)] : fLs), q ∈ ls') ∧ st' = [] ∧ (xR I' ∧ f_fr [1, 3, 10, 13, 14] I I' ∧ f_fr [1, 11, 12] L L' ∧ (0 ≤ (I' 3 2).toInt) ∧ (((I' 3 2).toInt = 0 → xG 10 I')))))])) (f_cnl_of (P := fun (tQ : Nat) (P : fLs → List Value → fM → fN → Prop) => ∀ ls' st' I' L', P ls' st' I' L' → f_W pP l eP (f_rm 26) sP mP aP bP hP9 cP xY 80 a cy dC dI 2 (f_K 0 (qX4_readLine [.ref 3, .ref 10] I L)) tQ ls' st' I' L') (List.forall_mem_cons.mpr ⟨(fun ls' st' I' L' h => by obtain ⟨hs, e1, h9⟩ := h; rw [e1]; exact f_W_sub hs (lp97  I' L' h9)), fun _ h => absurd h List.not_mem_nil⟩)) 31 0 tX4_readLine tX4_readLine_ok _ _ _ _ ?_
      refine And.intro trivial ?_
      intro x4 I4 L4 hq4
      have hq4 : I4 = I ∧ L4 = L ∧ ((x4.toInt = 0 ∨ x4.toInt = 1)) := hq4
      obtain ⟨eI4, eL4, c4_2⟩ := hq4
      replace eI4 := eI4.symm
      subst eI4
      replace eL4 := eL4.symm
      subst eL4
      apply And.intro
      · intro h7
        have h7 : x4.toInt = 0 := h7
        refine And.intro trivial ?_
        intro x30 I30 L30 hq30
        have hq30 : I30 = I ∧ L30 = L ∧ ((x30.toInt = 0 ∨ x30.toInt = 1)) := hq30
        obtain ⟨eI30, eL30, c30_2⟩ := hq30
        replace eI30 := eI30.symm
        subst eI30
        replace eL30 := eL30.symm
        subst eL30
        apply And.intro
        · intro h33
          have h33 : x30.toInt = 0 := h33
          refine And.intro trivial ?_
          intro x68 I68 L68 hq68
          have hq68 : I68 = I ∧ L68 = L ∧ ((x68.toInt = 0 ∨ x68.toInt = 1)) := hq68
          obtain ⟨eI68, eL68, c68_2⟩ := hq68
          replace eI68 := eI68.symm
          subst eI68
          replace eL68 := eL68.symm
          subst eL68
          apply And.intro
          · intro h71
            have h71 : x68.toInt = 0 := h71
            have g91 := p3
            refine And.intro ⟨hR, (show 1 ≤ (2 : Int) from by first | assumption | omega)⟩ ?_
            intro x93 I93 L93 hq93
            have hq93 : xR I93 ∧ f_fr [3] I I93 ∧ L93 = L ∧ x93.toInt = 0 ∧ 1 ≤ (I93 3 2).toInt ∧ (I93 3 4).toInt = (I 3 4).toInt := hq93
            obtain ⟨c93_0, c93_1, eL93, c93_3, c93_4, c93_5⟩ := hq93
            replace eL93 := eL93.symm
            subst eL93
            have hF93 := f_fr_tr hF0 c93_1 rfl
            have g93 : (I93 3 2).toInt = 0 → xG 10 I93 := fun h => by omega
            exact ⟨(by intro q9 h9; simp only [List.mem_cons, List.not_mem_nil, or_false] at h9; rcases h9 with h9 | h9 <;> subst h9 <;> repeat (first | exact List.mem_cons_self | apply List.mem_cons_of_mem)), rfl, c93_0, hF93, hG0, (show 0 ≤ (I93 3 2).toInt from by first | assumption | omega), (show ((I93 3 2).toInt = 0 → xG 10 I93) from by first | assumption | omega | rfl)⟩
          · intro h71
            have h71 : ¬ x68.toInt = 0 := h71
            have r75_1 : 0 ≤ (I 10 5).toInt ∧ (I 10 5).toInt ≤ 12 := hR 10 5
            apply And.intro
            · intro h80
              have h80 : 12 ≤ (I 10 5).toInt := h80
              have g91 := p3
              refine And.intro ⟨hR, (show 1 ≤ (2 : Int) from by first | assumption | omega)⟩ ?_
              intro x93 I93 L93 hq93
              have hq93 : xR I93 ∧ f_fr [3] I I93 ∧ L93 = L ∧ x93.toInt = 0 ∧ 1 ≤ (I93 3 2).toInt ∧ (I93 3 4).toInt = (I 3 4).toInt := hq93
              obtain ⟨c93_0, c93_1, eL93, c93_3, c93_4, c93_5⟩ := hq93
              replace eL93 := eL93.symm
              subst eL93
              have hF93 := f_fr_tr hF0 c93_1 rfl
              have g93 : (I93 3 2).toInt = 0 → xG 10 I93 := fun h => by omega
              exact ⟨(by intro q9 h9; simp only [List.mem_cons, List.not_mem_nil, or_false] at h9; rcases h9 with h9 | h9 <;> subst h9 <;> repeat (first | exact List.mem_cons_self | apply List.mem_cons_of_mem)), rfl, c93_0, hF93, hG0, (show 0 ≤ (I93 3 2).toInt from by first | assumption | omega), (show ((I93 3 2).toInt = 0 → xG 10 I93) from by first | assumption | omega | rfl)⟩
            · intro h80
              have h80 : (I 10 5).toInt < 12 := h80
              refine And.intro ⟨(by decide), hR, (show (I 3 2).toInt = 0 from by first | assumption | omega | rfl), (show xG 10 I from by first | assumption | omega), (show (I 10 5).toInt < 12 from by first | assumption | omega)⟩ ?_
              intro I85 L85 hq85
              have hq85 : xR I85 ∧ f_fr [1, 3, 10, 13, 14] I I85 ∧ f_fr [1, 12] L L85 ∧ 0 ≤ (I85 3 2).toInt ∧ (((I85 3 2).toInt = 0 → xG 10 I85)) := hq85
              obtain ⟨c85_0, c85_1, c85_2, c85_3, c85_4⟩ := hq85
              have hF85 := f_fr_tr hF0 c85_1 rfl
              have hG85 := f_fr_tr hG0 c85_2 rfl
              exact ⟨(by intro q9 h9; simp only [List.mem_cons, List.not_mem_nil, or_false] at h9; rcases h9 with h9 | h9 <;> subst h9 <;> repeat (first | exact List.mem_cons_self | apply List.mem_cons_of_mem)), rfl, c85_0, hF85, hG85, (show 0 ≤ (I85 3 2).toInt from by first | assumption | omega), (show ((I85 3 2).toInt = 0 → xG 10 I85) from by first | assumption | omega | rfl)⟩
        · intro h33
          have h33 : ¬ x30.toInt = 0 := h33
          apply And.intro
          · intro h41
            have h41 : ¬ (I 10 6).toInt = (-1) := h41
            refine And.intro trivial ?_
            intro x68 I68 L68 hq68
            have hq68 : I68 = I ∧ L68 = L ∧ ((x68.toInt = 0 ∨ x68.toInt = 1)) := hq68
            obtain ⟨eI68, eL68, c68_2⟩ := hq68
            replace eI68 := eI68.symm
            subst eI68
            replace eL68 := eL68.symm
            subst eL68
            apply And.intro
            · intro h71
              have h71 : x68.toInt = 0 := h71
              have g91 := p3
              refine And.intro ⟨hR, (show 1 ≤ (2 : Int) from by first | assumption | omega)⟩ ?_
              intro x93 I93 L93 hq93
              have hq93 : xR I93 ∧ f_fr [3] I I93 ∧ L93 = L ∧ x93.toInt = 0 ∧ 1 ≤ (I93 3 2).toInt ∧ (I93 3 4).toInt = (I 3 4).toInt := hq93
              obtain ⟨c93_0, c93_1, eL93, c93_3, c93_4, c93_5⟩ := hq93
              replace eL93 := eL93.symm
              subst eL93
              have hF93 := f_fr_tr hF0 c93_1 rfl
              have g93 : (I93 3 2).toInt = 0 → xG 10 I93 := fun h => by omega
              exact ⟨(by intro q9 h9; simp only [List.mem_cons, List.not_mem_nil, or_false] at h9; rcases h9 with h9 | h9 <;> subst h9 <;> repeat (first | exact List.mem_cons_self | apply List.mem_cons_of_mem)), rfl, c93_0, hF93, hG0, (show 0 ≤ (I93 3 2).toInt from by first | assumption | omega), (show ((I93 3 2).toInt = 0 → xG 10 I93) from by first | assumption | omega | rfl)⟩
            · intro h71
              have h71 : ¬ x68.toInt = 0 := h71
              have r75_2 : 0 ≤ (I 10 5).toInt ∧ (I 10 5).toInt ≤ 12 := hR 10 5
              apply And.intro
              · intro h80
                have h80 : 12 ≤ (I 10 5).toInt := h80
                have g91 := p3
                refine And.intro ⟨hR, (show 1 ≤ (2 : Int) from by first | assumption | omega)⟩ ?_
                intro x93 I93 L93 hq93
                have hq93 : xR I93 ∧ f_fr [3] I I93 ∧ L93 = L ∧ x93.toInt = 0 ∧ 1 ≤ (I93 3 2).toInt ∧ (I93 3 4).toInt = (I 3 4).toInt := hq93
                obtain ⟨c93_0, c93_1, eL93, c93_3, c93_4, c93_5⟩ := hq93
                replace eL93 := eL93.symm
                subst eL93
                have hF93 := f_fr_tr hF0 c93_1 rfl
                have g93 : (I93 3 2).toInt = 0 → xG 10 I93 := fun h => by omega
                exact ⟨(by intro q9 h9; simp only [List.mem_cons, List.not_mem_nil, or_false] at h9; rcases h9 with h9 | h9 <;> subst h9 <;> repeat (first | exact List.mem_cons_self | apply List.mem_cons_of_mem)), rfl, c93_0, hF93, hG0, (show 0 ≤ (I93 3 2).toInt from by first | assumption | omega), (show ((I93 3 2).toInt = 0 → xG 10 I93) from by first | assumption | omega | rfl)⟩
              · intro h80
                have h80 : (I 10 5).toInt < 12 := h80
                refine And.intro ⟨(by decide), hR, (show (I 3 2).toInt = 0 from by first | assumption | omega | rfl), (show xG 10 I from by first | assumption | omega), (show (I 10 5).toInt < 12 from by first | assumption | omega)⟩ ?_
                intro I85 L85 hq85
                have hq85 : xR I85 ∧ f_fr [1, 3, 10, 13, 14] I I85 ∧ f_fr [1, 12] L L85 ∧ 0 ≤ (I85 3 2).toInt ∧ (((I85 3 2).toInt = 0 → xG 10 I85)) := hq85
                obtain ⟨c85_0, c85_1, c85_2, c85_3, c85_4⟩ := hq85
                have hF85 := f_fr_tr hF0 c85_1 rfl
                have hG85 := f_fr_tr hG0 c85_2 rfl
                exact ⟨(by intro q9 h9; simp only [List.mem_cons, List.not_mem_nil, or_false] at h9; rcases h9 with h9 | h9 <;> subst h9 <;> repeat (first | exact List.mem_cons_self | apply List.mem_cons_of_mem)), rfl, c85_0, hF85, hG85, (show 0 ≤ (I85 3 2).toInt from by first | assumption | omega), (show ((I85 3 2).toInt = 0 → xG 10 I85) from by first | assumption | omega | rfl)⟩
          · intro h41
            have h41 : (I 10 6).toInt = (-1) := h41
            refine And.intro hR ?_
            intro I48 L48 hq48
            have hq48 : xR I48 ∧ f_fr [1] I I48 ∧ f_fr [1] L L48 := hq48
            obtain ⟨c48_0, c48_1, c48_2⟩ := hq48
            have hF48 := f_fr_tr hF0 c48_1 rfl
            have hG48 := f_fr_tr hG0 c48_2 rfl
            have e55_3 : (I48 3 2).toInt = (I 3 2).toInt := congrArg Int32.toInt (congrFun (c48_1 3 rfl) 2)
            have e55_5 : (I48 3 4).toInt = (I 3 4).toInt := congrArg Int32.toInt (congrFun (c48_1 3 rfl) 4)
            refine And.intro ⟨(dpos_of (by omega)), (by decide), c48_0, (show (I48 3 2).toInt = 0 from by first | assumption | omega | rfl), (show ((0 : Int) = 0 ∨ 0 ≤ (I48 3 4).toInt) from by first | assumption | omega | rfl), (show 0 ≤ (0 : Int) from by first | assumption | omega), (show (0 : Int) ≤ 4 from by first | assumption | omega), (show 5 - (0 : Int) ≤ 5 from by first | assumption | omega)⟩ ?_
            intro x55 I55 L55 hq55
            have hq55 : xR I55 ∧ f_fr [1, 3] I48 I55 ∧ f_fr [1] L48 L55 ∧ ((1 ≤ (I55 3 2).toInt ∨ ((I55 3 2).toInt = 0 ∧ (I55 3 4).toInt ≤ 4 ∧ ((0 : Int) = 0 → wfK x55 0 (I55 3 4).toInt) ∧ (¬ (0 : Int) = 0 → wfK x55 (I48 3 4).toInt (I55 3 4).toInt)))) := hq55
            obtain ⟨c55_0, c55_1, c55_2, c55_3⟩ := hq55
            have hF55 := f_fr_tr hF48 c55_1 rfl
            have hG55 := f_fr_tr hG48 c55_2 rfl
            have f55 : 0 ≤ (I55 3 2).toInt := by rcases c55_3 with q | ⟨q, -⟩ <;> omega
            have g55 : xG 10 I55 := xG_fr (xG_fr p3 c48_1 rfl rfl rfl) c55_1 rfl rfl rfl
            have hR58 := xR_f (k := 10) (j := 6) (x := x55) c55_0 (by exact f_rng _)
            have hF58 := f_fr_up (k := 10) (r := va_up (I55 10) 6 x55) hF55 rfl
            have g58 : (I55 3 2).toInt = 0 → xG 10 (va_up I55 10 (va_up (I55 10) 6 x55)) := fun h => xG_goal g55 rfl (wfK_wf ((c55_3.resolve_left (fun q => by omega)).2.2.1 rfl)) rfl rfl
            exact ⟨(by intro q9 h9; simp only [List.mem_cons, List.not_mem_nil, or_false] at h9; rcases h9 with h9 | h9 <;> subst h9 <;> repeat (first | exact List.mem_cons_self | apply List.mem_cons_of_mem)), rfl, hR58, hF58, hG55, (show 0 ≤ (I55 3 2).toInt from by first | assumption | omega), (show ((I55 3 2).toInt = 0 → xG 10 (va_up I55 10 (va_up (I55 10) 6 x55))) from by first | assumption | omega | rfl)⟩
      · intro h7
        have h7 : ¬ x4.toInt = 0 := h7
        have r11_1 : 0 ≤ (I 10 4).toInt ∧ (I 10 4).toInt ≤ 5 := hR 10 4
        apply And.intro
        · intro h15
          have h15 : 5 ≤ (I 10 4).toInt := h15
          refine And.intro trivial ?_
          intro x30 I30 L30 hq30
          have hq30 : I30 = I ∧ L30 = L ∧ ((x30.toInt = 0 ∨ x30.toInt = 1)) := hq30
          obtain ⟨eI30, eL30, c30_2⟩ := hq30
          replace eI30 := eI30.symm
          subst eI30
          replace eL30 := eL30.symm
          subst eL30
          apply And.intro
          · intro h33
            have h33 : x30.toInt = 0 := h33
            refine And.intro trivial ?_
            intro x68 I68 L68 hq68
            have hq68 : I68 = I ∧ L68 = L ∧ ((x68.toInt = 0 ∨ x68.toInt = 1)) := hq68
            obtain ⟨eI68, eL68, c68_2⟩ := hq68
            replace eI68 := eI68.symm
            subst eI68
            replace eL68 := eL68.symm
            subst eL68
            apply And.intro
            · intro h71
              have h71 : x68.toInt = 0 := h71
              have g91 := p3
              refine And.intro ⟨hR, (show 1 ≤ (2 : Int) from by first | assumption | omega)⟩ ?_
              intro x93 I93 L93 hq93
              have hq93 : xR I93 ∧ f_fr [3] I I93 ∧ L93 = L ∧ x93.toInt = 0 ∧ 1 ≤ (I93 3 2).toInt ∧ (I93 3 4).toInt = (I 3 4).toInt := hq93
              obtain ⟨c93_0, c93_1, eL93, c93_3, c93_4, c93_5⟩ := hq93
              replace eL93 := eL93.symm
              subst eL93
              have hF93 := f_fr_tr hF0 c93_1 rfl
              have g93 : (I93 3 2).toInt = 0 → xG 10 I93 := fun h => by omega
              exact ⟨(by intro q9 h9; simp only [List.mem_cons, List.not_mem_nil, or_false] at h9; rcases h9 with h9 | h9 <;> subst h9 <;> repeat (first | exact List.mem_cons_self | apply List.mem_cons_of_mem)), rfl, c93_0, hF93, hG0, (show 0 ≤ (I93 3 2).toInt from by first | assumption | omega), (show ((I93 3 2).toInt = 0 → xG 10 I93) from by first | assumption | omega | rfl)⟩
            · intro h71
              have h71 : ¬ x68.toInt = 0 := h71
              have r75_2 : 0 ≤ (I 10 5).toInt ∧ (I 10 5).toInt ≤ 12 := hR 10 5
              apply And.intro
              · intro h80
                have h80 : 12 ≤ (I 10 5).toInt := h80
                have g91 := p3
                refine And.intro ⟨hR, (show 1 ≤ (2 : Int) from by first | assumption | omega)⟩ ?_
                intro x93 I93 L93 hq93
                have hq93 : xR I93 ∧ f_fr [3] I I93 ∧ L93 = L ∧ x93.toInt = 0 ∧ 1 ≤ (I93 3 2).toInt ∧ (I93 3 4).toInt = (I 3 4).toInt := hq93
                obtain ⟨c93_0, c93_1, eL93, c93_3, c93_4, c93_5⟩ := hq93
                replace eL93 := eL93.symm
                subst eL93
                have hF93 := f_fr_tr hF0 c93_1 rfl
                have g93 : (I93 3 2).toInt = 0 → xG 10 I93 := fun h => by omega
                exact ⟨(by intro q9 h9; simp only [List.mem_cons, List.not_mem_nil, or_false] at h9; rcases h9 with h9 | h9 <;> subst h9 <;> repeat (first | exact List.mem_cons_self | apply List.mem_cons_of_mem)), rfl, c93_0, hF93, hG0, (show 0 ≤ (I93 3 2).toInt from by first | assumption | omega), (show ((I93 3 2).toInt = 0 → xG 10 I93) from by first | assumption | omega | rfl)⟩
              · intro h80
                have h80 : (I 10 5).toInt < 12 := h80
                refine And.intro ⟨(by decide), hR, (show (I 3 2).toInt = 0 from by first | assumption | omega | rfl), (show xG 10 I from by first | assumption | omega), (show (I 10 5).toInt < 12 from by first | assumption | omega)⟩ ?_
                intro I85 L85 hq85
                have hq85 : xR I85 ∧ f_fr [1, 3, 10, 13, 14] I I85 ∧ f_fr [1, 12] L L85 ∧ 0 ≤ (I85 3 2).toInt ∧ (((I85 3 2).toInt = 0 → xG 10 I85)) := hq85
                obtain ⟨c85_0, c85_1, c85_2, c85_3, c85_4⟩ := hq85
                have hF85 := f_fr_tr hF0 c85_1 rfl
                have hG85 := f_fr_tr hG0 c85_2 rfl
                exact ⟨(by intro q9 h9; simp only [List.mem_cons, List.not_mem_nil, or_false] at h9; rcases h9 with h9 | h9 <;> subst h9 <;> repeat (first | exact List.mem_cons_self | apply List.mem_cons_of_mem)), rfl, c85_0, hF85, hG85, (show 0 ≤ (I85 3 2).toInt from by first | assumption | omega), (show ((I85 3 2).toInt = 0 → xG 10 I85) from by first | assumption | omega | rfl)⟩
          · intro h33
            have h33 : ¬ x30.toInt = 0 := h33
            apply And.intro
            · intro h41
              have h41 : ¬ (I 10 6).toInt = (-1) := h41
              refine And.intro trivial ?_
              intro x68 I68 L68 hq68
              have hq68 : I68 = I ∧ L68 = L ∧ ((x68.toInt = 0 ∨ x68.toInt = 1)) := hq68
              obtain ⟨eI68, eL68, c68_2⟩ := hq68
              replace eI68 := eI68.symm
              subst eI68
              replace eL68 := eL68.symm
              subst eL68
              apply And.intro
              · intro h71
                have h71 : x68.toInt = 0 := h71
                have g91 := p3
                refine And.intro ⟨hR, (show 1 ≤ (2 : Int) from by first | assumption | omega)⟩ ?_
                intro x93 I93 L93 hq93
                have hq93 : xR I93 ∧ f_fr [3] I I93 ∧ L93 = L ∧ x93.toInt = 0 ∧ 1 ≤ (I93 3 2).toInt ∧ (I93 3 4).toInt = (I 3 4).toInt := hq93
                obtain ⟨c93_0, c93_1, eL93, c93_3, c93_4, c93_5⟩ := hq93
                replace eL93 := eL93.symm
                subst eL93
                have hF93 := f_fr_tr hF0 c93_1 rfl
                have g93 : (I93 3 2).toInt = 0 → xG 10 I93 := fun h => by omega
                exact ⟨(by intro q9 h9; simp only [List.mem_cons, List.not_mem_nil, or_false] at h9; rcases h9 with h9 | h9 <;> subst h9 <;> repeat (first | exact List.mem_cons_self | apply List.mem_cons_of_mem)), rfl, c93_0, hF93, hG0, (show 0 ≤ (I93 3 2).toInt from by first | assumption | omega), (show ((I93 3 2).toInt = 0 → xG 10 I93) from by first | assumption | omega | rfl)⟩
              · intro h71
                have h71 : ¬ x68.toInt = 0 := h71
                have r75_3 : 0 ≤ (I 10 5).toInt ∧ (I 10 5).toInt ≤ 12 := hR 10 5
                apply And.intro
                · intro h80
                  have h80 : 12 ≤ (I 10 5).toInt := h80
                  have g91 := p3
                  refine And.intro ⟨hR, (show 1 ≤ (2 : Int) from by first | assumption | omega)⟩ ?_
                  intro x93 I93 L93 hq93
                  have hq93 : xR I93 ∧ f_fr [3] I I93 ∧ L93 = L ∧ x93.toInt = 0 ∧ 1 ≤ (I93 3 2).toInt ∧ (I93 3 4).toInt = (I 3 4).toInt := hq93
                  obtain ⟨c93_0, c93_1, eL93, c93_3, c93_4, c93_5⟩ := hq93
                  replace eL93 := eL93.symm
                  subst eL93
                  have hF93 := f_fr_tr hF0 c93_1 rfl
                  have g93 : (I93 3 2).toInt = 0 → xG 10 I93 := fun h => by omega
                  exact ⟨(by intro q9 h9; simp only [List.mem_cons, List.not_mem_nil, or_false] at h9; rcases h9 with h9 | h9 <;> subst h9 <;> repeat (first | exact List.mem_cons_self | apply List.mem_cons_of_mem)), rfl, c93_0, hF93, hG0, (show 0 ≤ (I93 3 2).toInt from by first | assumption | omega), (show ((I93 3 2).toInt = 0 → xG 10 I93) from by first | assumption | omega | rfl)⟩
                · intro h80
                  have h80 : (I 10 5).toInt < 12 := h80
                  refine And.intro ⟨(by decide), hR, (show (I 3 2).toInt = 0 from by first | assumption | omega | rfl), (show xG 10 I from by first | assumption | omega), (show (I 10 5).toInt < 12 from by first | assumption | omega)⟩ ?_
                  intro I85 L85 hq85
                  have hq85 : xR I85 ∧ f_fr [1, 3, 10, 13, 14] I I85 ∧ f_fr [1, 12] L L85 ∧ 0 ≤ (I85 3 2).toInt ∧ (((I85 3 2).toInt = 0 → xG 10 I85)) := hq85
                  obtain ⟨c85_0, c85_1, c85_2, c85_3, c85_4⟩ := hq85
                  have hF85 := f_fr_tr hF0 c85_1 rfl
                  have hG85 := f_fr_tr hG0 c85_2 rfl
                  exact ⟨(by intro q9 h9; simp only [List.mem_cons, List.not_mem_nil, or_false] at h9; rcases h9 with h9 | h9 <;> subst h9 <;> repeat (first | exact List.mem_cons_self | apply List.mem_cons_of_mem)), rfl, c85_0, hF85, hG85, (show 0 ≤ (I85 3 2).toInt from by first | assumption | omega), (show ((I85 3 2).toInt = 0 → xG 10 I85) from by first | assumption | omega | rfl)⟩
            · intro h41
              have h41 : (I 10 6).toInt = (-1) := h41
              refine And.intro hR ?_
              intro I48 L48 hq48
              have hq48 : xR I48 ∧ f_fr [1] I I48 ∧ f_fr [1] L L48 := hq48
              obtain ⟨c48_0, c48_1, c48_2⟩ := hq48
              have hF48 := f_fr_tr hF0 c48_1 rfl
              have hG48 := f_fr_tr hG0 c48_2 rfl
              have e55_4 : (I48 3 2).toInt = (I 3 2).toInt := congrArg Int32.toInt (congrFun (c48_1 3 rfl) 2)
              have e55_6 : (I48 3 4).toInt = (I 3 4).toInt := congrArg Int32.toInt (congrFun (c48_1 3 rfl) 4)
              refine And.intro ⟨(dpos_of (by omega)), (by decide), c48_0, (show (I48 3 2).toInt = 0 from by first | assumption | omega | rfl), (show ((0 : Int) = 0 ∨ 0 ≤ (I48 3 4).toInt) from by first | assumption | omega | rfl), (show 0 ≤ (0 : Int) from by first | assumption | omega), (show (0 : Int) ≤ 4 from by first | assumption | omega), (show 5 - (0 : Int) ≤ 5 from by first | assumption | omega)⟩ ?_
              intro x55 I55 L55 hq55
              have hq55 : xR I55 ∧ f_fr [1, 3] I48 I55 ∧ f_fr [1] L48 L55 ∧ ((1 ≤ (I55 3 2).toInt ∨ ((I55 3 2).toInt = 0 ∧ (I55 3 4).toInt ≤ 4 ∧ ((0 : Int) = 0 → wfK x55 0 (I55 3 4).toInt) ∧ (¬ (0 : Int) = 0 → wfK x55 (I48 3 4).toInt (I55 3 4).toInt)))) := hq55
              obtain ⟨c55_0, c55_1, c55_2, c55_3⟩ := hq55
              have hF55 := f_fr_tr hF48 c55_1 rfl
              have hG55 := f_fr_tr hG48 c55_2 rfl
              have f55 : 0 ≤ (I55 3 2).toInt := by rcases c55_3 with q | ⟨q, -⟩ <;> omega
              have g55 : xG 10 I55 := xG_fr (xG_fr p3 c48_1 rfl rfl rfl) c55_1 rfl rfl rfl
              have hR58 := xR_f (k := 10) (j := 6) (x := x55) c55_0 (by exact f_rng _)
              have hF58 := f_fr_up (k := 10) (r := va_up (I55 10) 6 x55) hF55 rfl
              have g58 : (I55 3 2).toInt = 0 → xG 10 (va_up I55 10 (va_up (I55 10) 6 x55)) := fun h => xG_goal g55 rfl (wfK_wf ((c55_3.resolve_left (fun q => by omega)).2.2.1 rfl)) rfl rfl
              exact ⟨(by intro q9 h9; simp only [List.mem_cons, List.not_mem_nil, or_false] at h9; rcases h9 with h9 | h9 <;> subst h9 <;> repeat (first | exact List.mem_cons_self | apply List.mem_cons_of_mem)), rfl, hR58, hF58, hG55, (show 0 ≤ (I55 3 2).toInt from by first | assumption | omega), (show ((I55 3 2).toInt = 0 → xG 10 (va_up I55 10 (va_up (I55 10) 6 x55))) from by first | assumption | omega | rfl)⟩
        · intro h15
          have h15 : (I 10 4).toInt < 5 := h15
          refine And.intro ⟨(by decide), hR, (show (I 3 2).toInt = 0 from by first | assumption | omega | rfl), (show xG 10 I from by first | assumption | omega)⟩ ?_
          intro I20 L20 hq20
          have hq20 : xR I20 ∧ f_fr [1, 3, 10] I I20 ∧ f_fr [1, 11] L L20 ∧ 0 ≤ (I20 3 2).toInt ∧ (((I20 3 2).toInt = 0 → xG 10 I20)) := hq20
          obtain ⟨c20_0, c20_1, c20_2, c20_3, c20_4⟩ := hq20
          have hF20 := f_fr_tr hF0 c20_1 rfl
          have hG20 := f_fr_tr hG0 c20_2 rfl
          exact ⟨(by intro q9 h9; simp only [List.mem_cons, List.not_mem_nil, or_false] at h9; rcases h9 with h9 | h9 <;> subst h9 <;> repeat (first | exact List.mem_cons_self | apply List.mem_cons_of_mem)), rfl, c20_0, hF20, hG20, (show 0 ≤ (I20 3 2).toInt from by first | assumption | omega), (show ((I20 3 2).toInt = 0 → xG 10 I20) from by first | assumption | omega | rfl)⟩
    -- pat [.ref 3, .ref k]
def tX4_readLexicon : List (Instr × Nat) := [(.aload_n 0, 1), (.invokevirtual 25, 3), (.aload_n 1, 1), (.invokevirtual 28, 3), (.iconst 0, 1), (.istore_n 2, 1), (.iload_n 2, 1), (.sipush 1600, 3), (.if_icmp .ge 21, 3), (.aload_n 0, 1), (.invokevirtual 35, 3), (.ifCond .eq 14, 3), (.aload_n 0, 1), (.aload_n 1, 1), (.invokevirtual 39, 3), (.iinc 2 1, 3), (.goto (-22), 3), (.aload_n 0, 1), (.getfield 43, 3), (.ifCond .ne 7, 3), (.iconst 1, 1), (.goto 4, 3), (.iconst 0, 1), (.ireturn, 1)]
theorem tX4_readLexicon_ok : f_chk cX4_readLexicon 0 tX4_readLexicon = true := by decide +kernel
def pX4_readLexicon (av : List Value) (I : fM) (L : fN) : Prop := match av with
  | [.ref 3, .ref k] => (k = 5 ∨ k = 10) ∧ xR I
  | _ => False
def qX4_readLexicon (av : List Value) (I : fM) (L : fN) (r : Value) (I' : fM) (L' : fN) : Prop := match av, r with
  | [.ref 3, .ref k], .int x => xR I' ∧ f_fr [1, 3, k, k + 3, k + 4] I I' ∧ f_fr [1, k + 1, k + 2] L L' ∧ (x.toInt = 1 → xG k I') ∧ (x.toInt = 0 ∨ x.toInt = 1)
  | _, _ => False
set_option maxHeartbeats 4000000 in
set_option maxRecDepth 100000 in
theorem mX4_readLexicon {l : Launch} {a : Nat → Nat} {cy dC : Nat → ClassId} {dI : Nat → Nat → Nat} (hinj : ∀ i j, i < 80 → j < 80 → a i = a j → i = j) : f_Met (xE a) l xY 80 a cy dC dI yX4_readLexicon cX4_readLexicon 3 3 27 pX4_readLexicon qX4_readLexicon := by
  refine f_met_of (xE_c a) hinj xY_hi (by decide) (fun av I L h => by unfold pX4_readLexicon at h; split at h <;> first | exact Nat.le_of_ble_eq_true rfl | exact h.elim) ?_
  intro pP eP sP mP aP bP hP9 cP C av I L hp
  unfold pX4_readLexicon at hp
  split at hp
  case h_2 => exact hp.elim
  case h_1 k =>
    obtain ⟨p0, hR⟩ := hp
    rcases p0 with rfl | rfl
    -- pat [.ref 3, .ref 5]
    · skip
      have hR : xR I := hR
      have hF0 : f_fr [1, 3, 5, 8, 9] I I := f_fr_rf
      have hG0 : f_fr [1, 6, 7] L L := f_fr_rf
      have lp10 : ∀ (n10 : Nat), ∀ (n : Int32) (J10 : fM) (M10 : fN), xR J10 ∧ f_fr [1, 3, 5, 8, 9] I J10 ∧ f_fr [1, 6, 7] L M10 ∧ (0 ≤ n.toInt) ∧ (n.toInt ≤ 1600) ∧ (0 ≤ (J10 3 2).toInt) ∧ (((J10 3 2).toInt = 0 → xG 5 J10)) ∧ (1600 - n.toInt) < n10 → f_W pP l eP (f_rm 27) sP mP aP bP hP9 cP xY 80 a cy dC dI 3 (f_K 3 (qX4_readLexicon [.ref 3, .ref 5] I L)) 10 [(2, .int n), (1, .ref 5), (0, .ref 3)] [] J10 M10 := by
        intro n10
        induction n10 with
        | zero =>
          intro n J10 M10 h9
          obtain ⟨hR10c, hF10c, hG10c, u10_1, u10_2, u10_3, u10_4, hm10⟩ := h9
          omega
        | succ n10 ih10 =>
          intro n J10 M10 h9
          obtain ⟨hR10c, hF10c, hG10c, u10_1, u10_2, u10_3, u10_4, hm10⟩ := h9
          refine f_wp_ok C f_cl flX4_ok fiX4_ok fjX4_ok (sn := none) (fun j h => by cases h) (cs := (f_cnl [(25, (1, 0, 4, pX4_begin, qX4_begin)), (28, (1, 0, 1, pX1_clear, qX1_clear)), (35, (1, 3, 4, pX4_isOpen, qX4_isOpen)), (39, (2, 0, 4, pX4_readLine, qX4_readLine))])) (cz := (fun _ => none)) (f_cnl_of (P := fun j S => f_cok pP l eP (f_rm 27) sP mP aP bP hP9 cP xY 80 a cy dC dI 3 _ _ (.invokevirtual j) true S) (List.forall_mem_cons.mpr ⟨f_cokV C (mX4_begin hinj) (ci := 4) rfl (List.forall_mem_cons.mpr ⟨(mlX4_ok _ (List.mem_of_getElem? (i := 0) rfl)), kc_X4_begin⟩) (by decide +kernel) ⟨Nat.le_of_ble_eq_true rfl, Nat.le_of_ble_eq_true rfl⟩, List.forall_mem_cons.mpr ⟨f_cokV C (mX1_clear hinj) (ci := 1) rfl (List.forall_mem_cons.mpr ⟨(mlX4_ok _ (List.mem_of_getElem? (i := 1) rfl)), kc_X1_clear⟩) (by decide +kernel) ⟨Nat.le_of_ble_eq_true rfl, Nat.le_of_ble_eq_true rfl⟩, List.forall_mem_cons.mpr ⟨f_cokV C (mX4_isOpen hinj) (ci := 4) rfl (List.forall_mem_cons.mpr ⟨(mlX4_ok _ (List.mem_of_getElem? (i := 2) rfl)), kc_X4_isOpen⟩) (by decide +kernel) ⟨Nat.le_of_ble_eq_true rfl, Nat.le_of_ble_eq_true rfl⟩, List.forall_mem_cons.mpr ⟨f_cokV C (mX4_readLine hinj) (ci := 4) rfl (List.forall_mem_cons.mpr ⟨(mlX4_ok _ (List.mem_of_getElem? (i := 3) rfl)), kc_X4_readLine⟩) (by decide +kernel) ⟨Nat.le_of_ble_eq_true rfl, Nat.le_of_ble_eq_true rfl⟩, fun _ h => absurd h List.not_mem_nil⟩⟩⟩⟩)) (fun j S h => by cases h) tX4_readLexicon_ok (cut := (f_cnl [(10, (fun (ls' : fLs) (st' : List Value) (I' : fM) (L' : fN) => ∃ n : Int32, (∀ q ∈ ([(2, .int n), (1, .ref 5), (0, .ref 3)] : fLs), q ∈ ls') ∧ st' = [] ∧ (xR I' ∧ f_fr [1, 3, 5, 8, 9] I I' ∧ f_fr [1, 6, 7] L L' ∧ (0 ≤ n.toInt) ∧ (n.toInt ≤ 1600) ∧ (0 ≤ (I' 3 2).toInt) ∧ (((I' 3 2).toInt = 0 → xG 5 I')) ∧ (1600 - n.toInt) < n10)))])) (f_cnl_of (P := fun (tQ : Nat) (P : fLs → List Value → fM → fN → Prop) => ∀ ls' st' I' L', P ls' st' I' L' → f_W pP l eP (f_rm 27) sP mP aP bP hP9 cP xY 80 a cy dC dI 3 (f_K 3 (qX4_readLexicon [.ref 3, .ref 5] I L)) tQ ls' st' I' L') (List.forall_mem_cons.mpr ⟨(fun ls' st' I' L' h => by obtain ⟨n, hs, e1, h9⟩ := h; rw [e1]; exact f_W_sub hs (ih10 n I' L' h9)), fun _ h => absurd h List.not_mem_nil⟩)) 15 10 (f_seek 10 0 tX4_readLexicon) (f_seek_ok 10 0 tX4_readLexicon tX4_readLexicon_ok) _ _ _ _ ?_
          apply And.intro
          · intro h14
            have h14 : 1600 ≤ n.toInt := h14
            apply And.intro
            · intro h39
              have h39 : ¬ (J10 3 2).toInt = 0 := h39
              exact ⟨Or.inl rfl, hR10c, hF10c, hG10c, (show ((0 : Int) = 1 → xG 5 J10) from fun h => by first | (exact u10_4 (by omega)) | (exfalso; omega)), (show ((0 : Int) = 0 ∨ (0 : Int) = 1) from by first | assumption | omega | rfl)⟩
            · intro h39
              have h39 : (J10 3 2).toInt = 0 := h39
              exact ⟨Or.inr rfl, hR10c, hF10c, hG10c, (show ((1 : Int) = 1 → xG 5 J10) from fun h => by first | (exact u10_4 (by omega)) | (exfalso; omega)), (show ((1 : Int) = 0 ∨ (1 : Int) = 1) from by first | assumption | omega | rfl)⟩
          · intro h14
            have h14 : n.toInt < 1600 := h14
            refine And.intro trivial ?_
            intro x18 I18 L18 hq18
            have hq18 : I18 = J10 ∧ L18 = M10 ∧ (((J10 3 2).toInt = 0 ∨ x18.toInt = 0)) ∧ ((x18.toInt = 0 ∨ x18.toInt = 1)) := hq18
            obtain ⟨eI18, eL18, c18_2, c18_3⟩ := hq18
            replace eI18 := eI18.symm
            subst eI18
            replace eL18 := eL18.symm
            subst eL18
            apply And.intro
            · intro h21
              have h21 : x18.toInt = 0 := h21
              apply And.intro
              · intro h39
                have h39 : ¬ (J10 3 2).toInt = 0 := h39
                exact ⟨Or.inl rfl, hR10c, hF10c, hG10c, (show ((0 : Int) = 1 → xG 5 J10) from fun h => by first | (exact u10_4 (by omega)) | (exfalso; omega)), (show ((0 : Int) = 0 ∨ (0 : Int) = 1) from by first | assumption | omega | rfl)⟩
              · intro h39
                have h39 : (J10 3 2).toInt = 0 := h39
                exact ⟨Or.inr rfl, hR10c, hF10c, hG10c, (show ((1 : Int) = 1 → xG 5 J10) from fun h => by first | (exact u10_4 (by omega)) | (exfalso; omega)), (show ((1 : Int) = 0 ∨ (1 : Int) = 1) from by first | assumption | omega | rfl)⟩
            · intro h21
              have h21 : ¬ x18.toInt = 0 := h21
              have g24 := u10_4 (by omega)
              refine And.intro ⟨(by decide), hR10c, (show (J10 3 2).toInt = 0 from by first | assumption | omega | rfl), (show xG 5 J10 from by first | assumption | omega)⟩ ?_
              intro I26 L26 hq26
              have hq26 : xR I26 ∧ f_fr [1, 3, 5, 8, 9] J10 I26 ∧ f_fr [1, 6, 7] M10 L26 ∧ 0 ≤ (I26 3 2).toInt ∧ (((I26 3 2).toInt = 0 → xG 5 I26)) := hq26
              obtain ⟨c26_0, c26_1, c26_2, c26_3, c26_4⟩ := hq26
              have hF26 := f_fr_tr hF10c c26_1 rfl
              have hG26 := f_fr_tr hG10c c26_2 rfl
              intro z29 q29 _ hq29 hl29 hu29
              have hq29 : z29.toInt = n.toInt + 1 + 4294967296 * q29 := hq29
              try have hz29 : z29.toInt = n.toInt + 1 := by omega
              exact ⟨z29, (by intro q9 h9; simp only [List.mem_cons, List.not_mem_nil, or_false] at h9; rcases h9 with h9 | h9 | h9 <;> subst h9 <;> repeat (first | exact List.mem_cons_self | apply List.mem_cons_of_mem)), rfl, c26_0, hF26, hG26, (show 0 ≤ z29.toInt from by first | assumption | omega), (show z29.toInt ≤ 1600 from by first | assumption | omega), (show 0 ≤ (I26 3 2).toInt from by first | assumption | omega), (show ((I26 3 2).toInt = 0 → xG 5 I26) from by first | assumption | omega | rfl), (show (1600 - z29.toInt) < n10 from by omega)⟩
      refine f_wp_ok C f_cl flX4_ok fiX4_ok fjX4_ok (sn := none) (fun j h => by cases h) (cs := (f_cnl [(25, (1, 0, 4, pX4_begin, qX4_begin)), (28, (1, 0, 1, pX1_clear, qX1_clear)), (35, (1, 3, 4, pX4_isOpen, qX4_isOpen)), (39, (2, 0, 4, pX4_readLine, qX4_readLine))])) (cz := (fun _ => none)) (f_cnl_of (P := fun j S => f_cok pP l eP (f_rm 27) sP mP aP bP hP9 cP xY 80 a cy dC dI 3 _ _ (.invokevirtual j) true S) (List.forall_mem_cons.mpr ⟨f_cokV C (mX4_begin hinj) (ci := 4) rfl (List.forall_mem_cons.mpr ⟨(mlX4_ok _ (List.mem_of_getElem? (i := 0) rfl)), kc_X4_begin⟩) (by decide +kernel) ⟨Nat.le_of_ble_eq_true rfl, Nat.le_of_ble_eq_true rfl⟩, List.forall_mem_cons.mpr ⟨f_cokV C (mX1_clear hinj) (ci := 1) rfl (List.forall_mem_cons.mpr ⟨(mlX4_ok _ (List.mem_of_getElem? (i := 1) rfl)), kc_X1_clear⟩) (by decide +kernel) ⟨Nat.le_of_ble_eq_true rfl, Nat.le_of_ble_eq_true rfl⟩, List.forall_mem_cons.mpr ⟨f_cokV C (mX4_isOpen hinj) (ci := 4) rfl (List.forall_mem_cons.mpr ⟨(mlX4_ok _ (List.mem_of_getElem? (i := 2) rfl)), kc_X4_isOpen⟩) (by decide +kernel) ⟨Nat.le_of_ble_eq_true rfl, Nat.le_of_ble_eq_true rfl⟩, List.forall_mem_cons.mpr ⟨f_cokV C (mX4_readLine hinj) (ci := 4) rfl (List.forall_mem_cons.mpr ⟨(mlX4_ok _ (List.mem_of_getElem? (i := 3) rfl)), kc_X4_readLine⟩) (by decide +kernel) ⟨Nat.le_of_ble_eq_true rfl, Nat.le_of_ble_eq_true rfl⟩, fun _ h => absurd h List.not_mem_nil⟩⟩⟩⟩)) (fun j S h => by cases h) tX4_readLexicon_ok (cut := (f_cnl [(10, (fun (ls' : fLs) (st' : List Value) (I' : fM) (L' : fN) => ∃ n : Int32, (∀ q ∈ ([(2, .int n), (1, .ref 5), (0, .ref 3)] : fLs), q ∈ ls') ∧ st' = [] ∧ (xR I' ∧ f_fr [1, 3, 5, 8, 9] I I' ∧ f_fr [1, 6, 7] L L' ∧ (0 ≤ n.toInt) ∧ (n.toInt ≤ 1600) ∧ (0 ≤ (I' 3 2).toInt) ∧ (((I' 3 2).toInt = 0 → xG 5 I')) ∧ (1600 - n.toInt) < 1601)))])) (f_cnl_of (P := fun (tQ : Nat) (P : fLs → List Value → fM → fN → Prop) => ∀ ls' st' I' L', P ls' st' I' L' → f_W pP l eP (f_rm 27) sP mP aP bP hP9 cP xY 80 a cy dC dI 3 (f_K 3 (qX4_readLexicon [.ref 3, .ref 5] I L)) tQ ls' st' I' L') (List.forall_mem_cons.mpr ⟨(fun ls' st' I' L' h => by obtain ⟨n, hs, e1, h9⟩ := h; rw [e1]; exact f_W_sub hs (lp10 1601 n I' L' h9)), fun _ h => absurd h List.not_mem_nil⟩)) 9 0 tX4_readLexicon tX4_readLexicon_ok _ _ _ _ ?_
      refine And.intro hR ?_
      intro I1 L1 hq1
      have hq1 : xR I1 ∧ f_fr [1, 3] I I1 ∧ f_fr [1] L L1 ∧ (I1 3 2).toInt = 0 := hq1
      obtain ⟨c1_0, c1_1, c1_2, c1_3⟩ := hq1
      have hF1 := f_fr_tr hF0 c1_1 rfl
      have hG1 := f_fr_tr hG0 c1_2 rfl
      refine And.intro ⟨(by decide), c1_0⟩ ?_
      intro I5 L5 hq5
      have hq5 : xR I5 ∧ f_fr [5] I1 I5 ∧ L5 = L1 ∧ (I5 5 4).toInt = 0 ∧ (I5 5 5).toInt = 0 ∧ (I5 5 6).toInt = -1 := hq5
      obtain ⟨c5_0, c5_1, eL5, c5_3, c5_4, c5_5⟩ := hq5
      replace eL5 := eL5.symm
      subst eL5
      have hF5 := f_fr_tr hF1 c5_1 rfl
      have g5 : (I5 3 2).toInt = 0 → xG 5 I5 := fun _ => xG_0 c5_4 c5_5
      have e10_2 : (I5 3 2).toInt = (I1 3 2).toInt := congrArg Int32.toInt (congrFun (c5_1 3 rfl) 2)
      exact ⟨Int32.ofInt 0, (by intro q9 h9; simp only [List.mem_cons, List.not_mem_nil, or_false] at h9; rcases h9 with h9 | h9 | h9 <;> subst h9 <;> repeat (first | exact List.mem_cons_self | apply List.mem_cons_of_mem)), rfl, c5_0, hF5, hG1, (show 0 ≤ (0 : Int) from by first | assumption | omega), (show (0 : Int) ≤ 1600 from by first | assumption | omega), (show 0 ≤ (I5 3 2).toInt from by first | assumption | omega), (show ((I5 3 2).toInt = 0 → xG 5 I5) from by first | assumption | omega | rfl), (show (1600 - (0 : Int)) < 1601 from by omega)⟩
    -- pat [.ref 3, .ref 10]
    · skip
      have hR : xR I := hR
      have hF0 : f_fr [1, 3, 10, 13, 14] I I := f_fr_rf
      have hG0 : f_fr [1, 11, 12] L L := f_fr_rf
      have lp10 : ∀ (n10 : Nat), ∀ (n : Int32) (J10 : fM) (M10 : fN), xR J10 ∧ f_fr [1, 3, 10, 13, 14] I J10 ∧ f_fr [1, 11, 12] L M10 ∧ (0 ≤ n.toInt) ∧ (n.toInt ≤ 1600) ∧ (0 ≤ (J10 3 2).toInt) ∧ (((J10 3 2).toInt = 0 → xG 10 J10)) ∧ (1600 - n.toInt) < n10 → f_W pP l eP (f_rm 27) sP mP aP bP hP9 cP xY 80 a cy dC dI 3 (f_K 3 (qX4_readLexicon [.ref 3, .ref 10] I L)) 10 [(2, .int n), (1, .ref 10), (0, .ref 3)] [] J10 M10 := by
        intro n10
        induction n10 with
        | zero =>
          intro n J10 M10 h9
          obtain ⟨hR10c, hF10c, hG10c, u10_1, u10_2, u10_3, u10_4, hm10⟩ := h9
          omega
        | succ n10 ih10 =>
          intro n J10 M10 h9
          obtain ⟨hR10c, hF10c, hG10c, u10_1, u10_2, u10_3, u10_4, hm10⟩ := h9
          refine f_wp_ok C f_cl flX4_ok fiX4_ok fjX4_ok (sn := none) (fun j h => by cases h) (cs := (f_cnl [(25, (1, 0, 4, pX4_begin, qX4_begin)), (28, (1, 0, 1, pX1_clear, qX1_clear)), (35, (1, 3, 4, pX4_isOpen, qX4_isOpen)), (39, (2, 0, 4, pX4_readLine, qX4_readLine))])) (cz := (fun _ => none)) (f_cnl_of (P := fun j S => f_cok pP l eP (f_rm 27) sP mP aP bP hP9 cP xY 80 a cy dC dI 3 _ _ (.invokevirtual j) true S) (List.forall_mem_cons.mpr ⟨f_cokV C (mX4_begin hinj) (ci := 4) rfl (List.forall_mem_cons.mpr ⟨(mlX4_ok _ (List.mem_of_getElem? (i := 0) rfl)), kc_X4_begin⟩) (by decide +kernel) ⟨Nat.le_of_ble_eq_true rfl, Nat.le_of_ble_eq_true rfl⟩, List.forall_mem_cons.mpr ⟨f_cokV C (mX1_clear hinj) (ci := 1) rfl (List.forall_mem_cons.mpr ⟨(mlX4_ok _ (List.mem_of_getElem? (i := 1) rfl)), kc_X1_clear⟩) (by decide +kernel) ⟨Nat.le_of_ble_eq_true rfl, Nat.le_of_ble_eq_true rfl⟩, List.forall_mem_cons.mpr ⟨f_cokV C (mX4_isOpen hinj) (ci := 4) rfl (List.forall_mem_cons.mpr ⟨(mlX4_ok _ (List.mem_of_getElem? (i := 2) rfl)), kc_X4_isOpen⟩) (by decide +kernel) ⟨Nat.le_of_ble_eq_true rfl, Nat.le_of_ble_eq_true rfl⟩, List.forall_mem_cons.mpr ⟨f_cokV C (mX4_readLine hinj) (ci := 4) rfl (List.forall_mem_cons.mpr ⟨(mlX4_ok _ (List.mem_of_getElem? (i := 3) rfl)), kc_X4_readLine⟩) (by decide +kernel) ⟨Nat.le_of_ble_eq_true rfl, Nat.le_of_ble_eq_true rfl⟩, fun _ h => absurd h List.not_mem_nil⟩⟩⟩⟩)) (fun j S h => by cases h) tX4_readLexicon_ok (cut := (f_cnl [(10, (fun (ls' : fLs) (st' : List Value) (I' : fM) (L' : fN) => ∃ n : Int32, (∀ q ∈ ([(2, .int n), (1, .ref 10), (0, .ref 3)] : fLs), q ∈ ls') ∧ st' = [] ∧ (xR I' ∧ f_fr [1, 3, 10, 13, 14] I I' ∧ f_fr [1, 11, 12] L L' ∧ (0 ≤ n.toInt) ∧ (n.toInt ≤ 1600) ∧ (0 ≤ (I' 3 2).toInt) ∧ (((I' 3 2).toInt = 0 → xG 10 I')) ∧ (1600 - n.toInt) < n10)))])) (f_cnl_of (P := fun (tQ : Nat) (P : fLs → List Value → fM → fN → Prop) => ∀ ls' st' I' L', P ls' st' I' L' → f_W pP l eP (f_rm 27) sP mP aP bP hP9 cP xY 80 a cy dC dI 3 (f_K 3 (qX4_readLexicon [.ref 3, .ref 10] I L)) tQ ls' st' I' L') (List.forall_mem_cons.mpr ⟨(fun ls' st' I' L' h => by obtain ⟨n, hs, e1, h9⟩ := h; rw [e1]; exact f_W_sub hs (ih10 n I' L' h9)), fun _ h => absurd h List.not_mem_nil⟩)) 15 10 (f_seek 10 0 tX4_readLexicon) (f_seek_ok 10 0 tX4_readLexicon tX4_readLexicon_ok) _ _ _ _ ?_
          apply And.intro
          · intro h14
            have h14 : 1600 ≤ n.toInt := h14
            apply And.intro
            · intro h39
              have h39 : ¬ (J10 3 2).toInt = 0 := h39
              exact ⟨Or.inl rfl, hR10c, hF10c, hG10c, (show ((0 : Int) = 1 → xG 10 J10) from fun h => by first | (exact u10_4 (by omega)) | (exfalso; omega)), (show ((0 : Int) = 0 ∨ (0 : Int) = 1) from by first | assumption | omega | rfl)⟩
            · intro h39
              have h39 : (J10 3 2).toInt = 0 := h39
              exact ⟨Or.inr rfl, hR10c, hF10c, hG10c, (show ((1 : Int) = 1 → xG 10 J10) from fun h => by first | (exact u10_4 (by omega)) | (exfalso; omega)), (show ((1 : Int) = 0 ∨ (1 : Int) = 1) from by first | assumption | omega | rfl)⟩
          · intro h14
            have h14 : n.toInt < 1600 := h14
            refine And.intro trivial ?_
            intro x18 I18 L18 hq18
            have hq18 : I18 = J10 ∧ L18 = M10 ∧ (((J10 3 2).toInt = 0 ∨ x18.toInt = 0)) ∧ ((x18.toInt = 0 ∨ x18.toInt = 1)) := hq18
            obtain ⟨eI18, eL18, c18_2, c18_3⟩ := hq18
            replace eI18 := eI18.symm
            subst eI18
            replace eL18 := eL18.symm
            subst eL18
            apply And.intro
            · intro h21
              have h21 : x18.toInt = 0 := h21
              apply And.intro
              · intro h39
                have h39 : ¬ (J10 3 2).toInt = 0 := h39
                exact ⟨Or.inl rfl, hR10c, hF10c, hG10c, (show ((0 : Int) = 1 → xG 10 J10) from fun h => by first | (exact u10_4 (by omega)) | (exfalso; omega)), (show ((0 : Int) = 0 ∨ (0 : Int) = 1) from by first | assumption | omega | rfl)⟩
              · intro h39
                have h39 : (J10 3 2).toInt = 0 := h39
                exact ⟨Or.inr rfl, hR10c, hF10c, hG10c, (show ((1 : Int) = 1 → xG 10 J10) from fun h => by first | (exact u10_4 (by omega)) | (exfalso; omega)), (show ((1 : Int) = 0 ∨ (1 : Int) = 1) from by first | assumption | omega | rfl)⟩
            · intro h21
              have h21 : ¬ x18.toInt = 0 := h21
              have g24 := u10_4 (by omega)
              refine And.intro ⟨(by decide), hR10c, (show (J10 3 2).toInt = 0 from by first | assumption | omega | rfl), (show xG 10 J10 from by first | assumption | omega)⟩ ?_
              intro I26 L26 hq26
              have hq26 : xR I26 ∧ f_fr [1, 3, 10, 13, 14] J10 I26 ∧ f_fr [1, 11, 12] M10 L26 ∧ 0 ≤ (I26 3 2).toInt ∧ (((I26 3 2).toInt = 0 → xG 10 I26)) := hq26
              obtain ⟨c26_0, c26_1, c26_2, c26_3, c26_4⟩ := hq26
              have hF26 := f_fr_tr hF10c c26_1 rfl
              have hG26 := f_fr_tr hG10c c26_2 rfl
              intro z29 q29 _ hq29 hl29 hu29
              have hq29 : z29.toInt = n.toInt + 1 + 4294967296 * q29 := hq29
              try have hz29 : z29.toInt = n.toInt + 1 := by omega
              exact ⟨z29, (by intro q9 h9; simp only [List.mem_cons, List.not_mem_nil, or_false] at h9; rcases h9 with h9 | h9 | h9 <;> subst h9 <;> repeat (first | exact List.mem_cons_self | apply List.mem_cons_of_mem)), rfl, c26_0, hF26, hG26, (show 0 ≤ z29.toInt from by first | assumption | omega), (show z29.toInt ≤ 1600 from by first | assumption | omega), (show 0 ≤ (I26 3 2).toInt from by first | assumption | omega), (show ((I26 3 2).toInt = 0 → xG 10 I26) from by first | assumption | omega | rfl), (show (1600 - z29.toInt) < n10 from by omega)⟩
      refine f_wp_ok C f_cl flX4_ok fiX4_ok fjX4_ok (sn := none) (fun j h => by cases h) (cs := (f_cnl [(25, (1, 0, 4, pX4_begin, qX4_begin)), (28, (1, 0, 1, pX1_clear, qX1_clear)), (35, (1, 3, 4, pX4_isOpen, qX4_isOpen)), (39, (2, 0, 4, pX4_readLine, qX4_readLine))])) (cz := (fun _ => none)) (f_cnl_of (P := fun j S => f_cok pP l eP (f_rm 27) sP mP aP bP hP9 cP xY 80 a cy dC dI 3 _ _ (.invokevirtual j) true S) (List.forall_mem_cons.mpr ⟨f_cokV C (mX4_begin hinj) (ci := 4) rfl (List.forall_mem_cons.mpr ⟨(mlX4_ok _ (List.mem_of_getElem? (i := 0) rfl)), kc_X4_begin⟩) (by decide +kernel) ⟨Nat.le_of_ble_eq_true rfl, Nat.le_of_ble_eq_true rfl⟩, List.forall_mem_cons.mpr ⟨f_cokV C (mX1_clear hinj) (ci := 1) rfl (List.forall_mem_cons.mpr ⟨(mlX4_ok _ (List.mem_of_getElem? (i := 1) rfl)), kc_X1_clear⟩) (by decide +kernel) ⟨Nat.le_of_ble_eq_true rfl, Nat.le_of_ble_eq_true rfl⟩, List.forall_mem_cons.mpr ⟨f_cokV C (mX4_isOpen hinj) (ci := 4) rfl (List.forall_mem_cons.mpr ⟨(mlX4_ok _ (List.mem_of_getElem? (i := 2) rfl)), kc_X4_isOpen⟩) (by decide +kernel) ⟨Nat.le_of_ble_eq_true rfl, Nat.le_of_ble_eq_true rfl⟩, List.forall_mem_cons.mpr ⟨f_cokV C (mX4_readLine hinj) (ci := 4) rfl (List.forall_mem_cons.mpr ⟨(mlX4_ok _ (List.mem_of_getElem? (i := 3) rfl)), kc_X4_readLine⟩) (by decide +kernel) ⟨Nat.le_of_ble_eq_true rfl, Nat.le_of_ble_eq_true rfl⟩, fun _ h => absurd h List.not_mem_nil⟩⟩⟩⟩)) (fun j S h => by cases h) tX4_readLexicon_ok (cut := (f_cnl [(10, (fun (ls' : fLs) (st' : List Value) (I' : fM) (L' : fN) => ∃ n : Int32, (∀ q ∈ ([(2, .int n), (1, .ref 10), (0, .ref 3)] : fLs), q ∈ ls') ∧ st' = [] ∧ (xR I' ∧ f_fr [1, 3, 10, 13, 14] I I' ∧ f_fr [1, 11, 12] L L' ∧ (0 ≤ n.toInt) ∧ (n.toInt ≤ 1600) ∧ (0 ≤ (I' 3 2).toInt) ∧ (((I' 3 2).toInt = 0 → xG 10 I')) ∧ (1600 - n.toInt) < 1601)))])) (f_cnl_of (P := fun (tQ : Nat) (P : fLs → List Value → fM → fN → Prop) => ∀ ls' st' I' L', P ls' st' I' L' → f_W pP l eP (f_rm 27) sP mP aP bP hP9 cP xY 80 a cy dC dI 3 (f_K 3 (qX4_readLexicon [.ref 3, .ref 10] I L)) tQ ls' st' I' L') (List.forall_mem_cons.mpr ⟨(fun ls' st' I' L' h => by obtain ⟨n, hs, e1, h9⟩ := h; rw [e1]; exact f_W_sub hs (lp10 1601 n I' L' h9)), fun _ h => absurd h List.not_mem_nil⟩)) 9 0 tX4_readLexicon tX4_readLexicon_ok _ _ _ _ ?_
      refine And.intro hR ?_
      intro I1 L1 hq1
      have hq1 : xR I1 ∧ f_fr [1, 3] I I1 ∧ f_fr [1] L L1 ∧ (I1 3 2).toInt = 0 := hq1
      obtain ⟨c1_0, c1_1, c1_2, c1_3⟩ := hq1
      have hF1 := f_fr_tr hF0 c1_1 rfl
      have hG1 := f_fr_tr hG0 c1_2 rfl
      refine And.intro ⟨(by decide), c1_0⟩ ?_
      intro I5 L5 hq5
      have hq5 : xR I5 ∧ f_fr [10] I1 I5 ∧ L5 = L1 ∧ (I5 10 4).toInt = 0 ∧ (I5 10 5).toInt = 0 ∧ (I5 10 6).toInt = -1 := hq5
      obtain ⟨c5_0, c5_1, eL5, c5_3, c5_4, c5_5⟩ := hq5
      replace eL5 := eL5.symm
      subst eL5
      have hF5 := f_fr_tr hF1 c5_1 rfl
      have g5 : (I5 3 2).toInt = 0 → xG 10 I5 := fun _ => xG_0 c5_4 c5_5
      have e10_2 : (I5 3 2).toInt = (I1 3 2).toInt := congrArg Int32.toInt (congrFun (c5_1 3 rfl) 2)
      exact ⟨Int32.ofInt 0, (by intro q9 h9; simp only [List.mem_cons, List.not_mem_nil, or_false] at h9; rcases h9 with h9 | h9 | h9 <;> subst h9 <;> repeat (first | exact List.mem_cons_self | apply List.mem_cons_of_mem)), rfl, c5_0, hF5, hG1, (show 0 ≤ (0 : Int) from by first | assumption | omega), (show (0 : Int) ≤ 1600 from by first | assumption | omega), (show 0 ≤ (I5 3 2).toInt from by first | assumption | omega), (show ((I5 3 2).toInt = 0 → xG 10 I5) from by first | assumption | omega | rfl), (show (1600 - (0 : Int)) < 1601 from by omega)⟩
    -- pat [.ref 3, .ref k]
def tX4_readRow : List (Instr × Nat) := [(.aload_n 0, 1), (.invokevirtual 25, 3), (.iconst 0, 1), (.istore_n 3, 1), (.iconst 0, 1), (.istore 4, 2), (.iload 4, 2), (.sipush 1600, 3), (.if_icmp .ge 84, 3), (.aload_n 0, 1), (.invokevirtual 35, 3), (.ifCond .eq 77, 3), (.aload_n 1, 1), (.aload_n 0, 1), (.getfield 21, 3), (.getfield 46, 3), (.invokevirtual 50, 3), (.istore 5, 2), (.aload_n 0, 1), (.invokevirtual 54, 3), (.ifCond .eq 9, 3), (.iload_n 3, 1), (.bipush 8, 2), (.if_icmp .lt 12, 3), (.aload_n 0, 1), (.iconst 2, 1), (.invokevirtual 57, 3), (.pop, 1), (.goto 36, 3), (.iload 5, 2), (.iconst (-1), 1), (.if_icmp .ne 12, 3), (.aload_n 0, 1), (.iconst 5, 1), (.invokevirtual 57, 3), (.pop, 1), (.goto 21, 3), (.aload_n 0, 1), (.getfield 11, 3), (.iload_n 3, 1), (.iload 5, 2), (.iastore, 1), (.iinc 3 1, 3), (.aload_n 0, 1), (.getfield 21, 3), (.invokevirtual 61, 3), (.iinc 4 1, 3), (.goto (-86), 3), (.aload_n 0, 1), (.getfield 43, 3), (.ifCond .ne 12, 3), (.aload_n 2, 1), (.aload_n 0, 1), (.getfield 11, 3), (.iload_n 3, 1), (.invokevirtual 64, 3), (.aload_n 0, 1), (.getfield 43, 3), (.ifCond .ne 7, 3), (.iconst 1, 1), (.goto 4, 3), (.iconst 0, 1), (.ireturn, 1)]
theorem tX4_readRow_ok : f_chk cX4_readRow 0 tX4_readRow = true := by decide +kernel
def pX4_readRow (av : List Value) (I : fM) (L : fN) : Prop := match av with
  | [.ref 3, .ref k, .ref 40] => (k = 5 ∨ k = 10) ∧ xR I
  | _ => False
def qX4_readRow (av : List Value) (I : fM) (L : fN) (r : Value) (I' : fM) (L' : fN) : Prop := match av, r with
  | [.ref 3, .ref k, .ref 40], .int x => xR I' ∧ f_fr [1, 3, 4, 40, 41] I I' ∧ f_fr [1] L L' ∧ (x.toInt = 0 ∨ x.toInt = 1)
  | _, _ => False
set_option maxHeartbeats 4000000 in
set_option maxRecDepth 100000 in
theorem mX4_readRow {l : Launch} {a : Nat → Nat} {cy dC : Nat → ClassId} {dI : Nat → Nat → Nat} (hinj : ∀ i j, i < 80 → j < 80 → a i = a j → i = j) : f_Met (xE a) l xY 80 a cy dC dI yX4_readRow cX4_readRow 6 3 8 pX4_readRow qX4_readRow := by
  refine f_met_of (xE_c a) hinj xY_hi (by decide) (fun av I L h => by unfold pX4_readRow at h; split at h <;> first | exact Nat.le_of_ble_eq_true rfl | exact h.elim) ?_
  intro pP eP sP mP aP bP hP9 cP C av I L hp
  unfold pX4_readRow at hp
  split at hp
  case h_2 => exact hp.elim
  case h_1 k =>
    obtain ⟨p0, hR⟩ := hp
    rcases p0 with rfl | rfl
    -- pat [.ref 3, .ref 5, .ref 40]
    · skip
      have hR : xR I := hR
      have hw12 : (I 5 5).toInt ≤ 12 := (hR 5 5).2
      have hF0 : f_fr [1, 3, 4, 40, 41] I I := f_fr_rf
      have hG0 : f_fr [1] L L := f_fr_rf
      have lp9 : ∀ (n9 : Nat), ∀ (n : Int32) (i : Int32) (J9 : fM) (M9 : fN), xR J9 ∧ f_fr [1, 3, 4, 40, 41] I J9 ∧ f_fr [1] L M9 ∧ (0 ≤ n.toInt) ∧ (n.toInt ≤ 8) ∧ (0 ≤ i.toInt) ∧ (i.toInt ≤ 1600) ∧ (1600 - i.toInt) < n9 → f_W pP l eP (f_rm 8) sP mP aP bP hP9 cP xY 80 a cy dC dI 6 (f_K 3 (qX4_readRow [.ref 3, .ref 5, .ref 40] I L)) 9 [(4, .int i), (3, .int n), (2, .ref 40), (1, .ref 5), (0, .ref 3)] [] J9 M9 := by
        intro n9
        induction n9 with
        | zero =>
          intro n i J9 M9 h9
          obtain ⟨hR9c, hF9c, hG9c, u9_1, u9_2, u9_3, u9_4, hm9⟩ := h9
          omega
        | succ n9 ih9 =>
          intro n i J9 M9 h9
          obtain ⟨hR9c, hF9c, hG9c, u9_1, u9_2, u9_3, u9_4, hm9⟩ := h9
          refine f_wp_ok C f_cl flX4_ok fiX4_ok fjX4_ok (sn := none) (fun j h => by cases h) (cs := (f_cnl [(25, (1, 0, 4, pX4_begin, qX4_begin)), (35, (1, 3, 4, pX4_isOpen, qX4_isOpen)), (50, (2, 1, 1, pX1_wordCalled, qX1_wordCalled)), (54, (1, 3, 4, pX4_isName, qX4_isName)), (57, (2, 3, 4, pX4_refuse, qX4_refuse)), (61, (1, 0, 8, pX9_next, qX9_next)), (64, (3, 0, 2, pX2_setRow, qX2_setRow))])) (cz := (fun _ => none)) (f_cnl_of (P := fun j S => f_cok pP l eP (f_rm 8) sP mP aP bP hP9 cP xY 80 a cy dC dI 6 _ _ (.invokevirtual j) true S) (List.forall_mem_cons.mpr ⟨f_cokV C (mX4_begin hinj) (ci := 4) rfl (List.forall_mem_cons.mpr ⟨(mlX4_ok _ (List.mem_of_getElem? (i := 0) rfl)), kc_X4_begin⟩) (by decide +kernel) ⟨Nat.le_of_ble_eq_true rfl, Nat.le_of_ble_eq_true rfl⟩, List.forall_mem_cons.mpr ⟨f_cokV C (mX4_isOpen hinj) (ci := 4) rfl (List.forall_mem_cons.mpr ⟨(mlX4_ok _ (List.mem_of_getElem? (i := 2) rfl)), kc_X4_isOpen⟩) (by decide +kernel) ⟨Nat.le_of_ble_eq_true rfl, Nat.le_of_ble_eq_true rfl⟩, List.forall_mem_cons.mpr ⟨f_cokV C (mX1_wordCalled hinj) (ci := 1) rfl (List.forall_mem_cons.mpr ⟨(mlX4_ok _ (List.mem_of_getElem? (i := 4) rfl)), kc_X1_wordCalled⟩) (by decide +kernel) ⟨Nat.le_of_ble_eq_true rfl, Nat.le_of_ble_eq_true rfl⟩, List.forall_mem_cons.mpr ⟨f_cokV C (mX4_isName hinj) (ci := 4) rfl (List.forall_mem_cons.mpr ⟨(mlX4_ok _ (List.mem_of_getElem? (i := 5) rfl)), kc_X4_isName⟩) (by decide +kernel) ⟨Nat.le_of_ble_eq_true rfl, Nat.le_of_ble_eq_true rfl⟩, List.forall_mem_cons.mpr ⟨f_cokV C (mX4_refuse hinj) (ci := 4) rfl (List.forall_mem_cons.mpr ⟨(mlX4_ok _ (List.mem_of_getElem? (i := 6) rfl)), kc_X4_refuse⟩) (by decide +kernel) ⟨Nat.le_of_ble_eq_true rfl, Nat.le_of_ble_eq_true rfl⟩, List.forall_mem_cons.mpr ⟨f_cokV C (mX9_next hinj) (ci := 8) rfl (List.forall_mem_cons.mpr ⟨(mlX4_ok _ (List.mem_of_getElem? (i := 7) rfl)), kc_X9_next⟩) (by decide +kernel) ⟨Nat.le_of_ble_eq_true rfl, Nat.le_of_ble_eq_true rfl⟩, List.forall_mem_cons.mpr ⟨f_cokV C (mX2_setRow hinj) (ci := 2) rfl (List.forall_mem_cons.mpr ⟨(mlX4_ok _ (List.mem_of_getElem? (i := 8) rfl)), kc_X2_setRow⟩) (by decide +kernel) ⟨Nat.le_of_ble_eq_true rfl, Nat.le_of_ble_eq_true rfl⟩, fun _ h => absurd h List.not_mem_nil⟩⟩⟩⟩⟩⟩⟩)) (fun j S h => by cases h) tX4_readRow_ok (cut := (f_cnl [(9, (fun (ls' : fLs) (st' : List Value) (I' : fM) (L' : fN) => ∃ n : Int32, ∃ i : Int32, (∀ q ∈ ([(4, .int i), (3, .int n), (2, .ref 40), (1, .ref 5), (0, .ref 3)] : fLs), q ∈ ls') ∧ st' = [] ∧ (xR I' ∧ f_fr [1, 3, 4, 40, 41] I I' ∧ f_fr [1] L L' ∧ (0 ≤ n.toInt) ∧ (n.toInt ≤ 8) ∧ (0 ≤ i.toInt) ∧ (i.toInt ≤ 1600) ∧ (1600 - i.toInt) < n9)))])) (f_cnl_of (P := fun (tQ : Nat) (P : fLs → List Value → fM → fN → Prop) => ∀ ls' st' I' L', P ls' st' I' L' → f_W pP l eP (f_rm 8) sP mP aP bP hP9 cP xY 80 a cy dC dI 6 (f_K 3 (qX4_readRow [.ref 3, .ref 5, .ref 40] I L)) tQ ls' st' I' L') (List.forall_mem_cons.mpr ⟨(fun ls' st' I' L' h => by obtain ⟨n, i, hs, e1, h9⟩ := h; rw [e1]; exact f_W_sub hs (ih9 n i I' L' h9)), fun _ h => absurd h List.not_mem_nil⟩)) 35 9 (f_seek 9 0 tX4_readRow) (f_seek_ok 9 0 tX4_readRow tX4_readRow_ok) _ _ _ _ ?_
          apply And.intro
          · intro h14
            have h14 : 1600 ≤ i.toInt := h14
            apply And.intro
            · intro h102
              have h102 : ¬ (J9 3 2).toInt = 0 := h102
              apply And.intro
              · intro h118
                have h118 : ¬ (J9 3 2).toInt = 0 := h118
                exact ⟨Or.inl rfl, hR9c, hF9c, hG9c, (show ((0 : Int) = 0 ∨ (0 : Int) = 1) from by first | assumption | omega | rfl)⟩
              · intro h118
                have h118 : (J9 3 2).toInt = 0 := h118
                exfalso
                omega
            · intro h102
              have h102 : (J9 3 2).toInt = 0 := h102
              refine And.intro ⟨hR9c, (show 0 ≤ n.toInt from by first | assumption | omega), (show n.toInt ≤ 8 from by first | assumption | omega)⟩ ?_
              intro I111 L111 hq111
              have hq111 : xR I111 ∧ f_fr [40, 41] J9 I111 ∧ L111 = M9 ∧ (I111 40 6).toInt = n.toInt ∧ I111 40 7 = J9 40 7 ∧ I111 40 8 = J9 40 8 ∧ (∀ j : Nat, (j : Int) < n.toInt → I111 41 j = J9 4 j) := hq111
              obtain ⟨c111_0, c111_1, eL111, c111_3, c111_4, c111_5, c111_6⟩ := hq111
              replace eL111 := eL111.symm
              subst eL111
              have hF111 := f_fr_tr hF9c c111_1 rfl
              have e115_3 : (I111 3 2).toInt = (J9 3 2).toInt := congrArg Int32.toInt (congrFun (c111_1 3 rfl) 2)
              apply And.intro
              · intro h118
                have h118 : ¬ (I111 3 2).toInt = 0 := h118
                exact ⟨Or.inl rfl, c111_0, hF111, hG9c, (show ((0 : Int) = 0 ∨ (0 : Int) = 1) from by first | assumption | omega | rfl)⟩
              · intro h118
                have h118 : (I111 3 2).toInt = 0 := h118
                exact ⟨Or.inr rfl, c111_0, hF111, hG9c, (show ((1 : Int) = 0 ∨ (1 : Int) = 1) from by first | assumption | omega | rfl)⟩
          · intro h14
            have h14 : i.toInt < 1600 := h14
            refine And.intro trivial ?_
            intro x18 I18 L18 hq18
            have hq18 : I18 = J9 ∧ L18 = M9 ∧ (((J9 3 2).toInt = 0 ∨ x18.toInt = 0)) ∧ ((x18.toInt = 0 ∨ x18.toInt = 1)) := hq18
            obtain ⟨eI18, eL18, c18_2, c18_3⟩ := hq18
            replace eI18 := eI18.symm
            subst eI18
            replace eL18 := eL18.symm
            subst eL18
            apply And.intro
            · intro h21
              have h21 : x18.toInt = 0 := h21
              apply And.intro
              · intro h102
                have h102 : ¬ (J9 3 2).toInt = 0 := h102
                apply And.intro
                · intro h118
                  have h118 : ¬ (J9 3 2).toInt = 0 := h118
                  exact ⟨Or.inl rfl, hR9c, hF9c, hG9c, (show ((0 : Int) = 0 ∨ (0 : Int) = 1) from by first | assumption | omega | rfl)⟩
                · intro h118
                  have h118 : (J9 3 2).toInt = 0 := h118
                  exfalso
                  omega
              · intro h102
                have h102 : (J9 3 2).toInt = 0 := h102
                refine And.intro ⟨hR9c, (show 0 ≤ n.toInt from by first | assumption | omega), (show n.toInt ≤ 8 from by first | assumption | omega)⟩ ?_
                intro I111 L111 hq111
                have hq111 : xR I111 ∧ f_fr [40, 41] J9 I111 ∧ L111 = M9 ∧ (I111 40 6).toInt = n.toInt ∧ I111 40 7 = J9 40 7 ∧ I111 40 8 = J9 40 8 ∧ (∀ j : Nat, (j : Int) < n.toInt → I111 41 j = J9 4 j) := hq111
                obtain ⟨c111_0, c111_1, eL111, c111_3, c111_4, c111_5, c111_6⟩ := hq111
                replace eL111 := eL111.symm
                subst eL111
                have hF111 := f_fr_tr hF9c c111_1 rfl
                have e115_3 : (I111 3 2).toInt = (J9 3 2).toInt := congrArg Int32.toInt (congrFun (c111_1 3 rfl) 2)
                apply And.intro
                · intro h118
                  have h118 : ¬ (I111 3 2).toInt = 0 := h118
                  exact ⟨Or.inl rfl, c111_0, hF111, hG9c, (show ((0 : Int) = 0 ∨ (0 : Int) = 1) from by first | assumption | omega | rfl)⟩
                · intro h118
                  have h118 : (I111 3 2).toInt = 0 := h118
                  exact ⟨Or.inr rfl, c111_0, hF111, hG9c, (show ((1 : Int) = 0 ∨ (1 : Int) = 1) from by first | assumption | omega | rfl)⟩
            · intro h21
              have h21 : ¬ x18.toInt = 0 := h21
              have e24 : (J9 5 5).toInt ≤ 12 := (hR9c 5 5).2
              refine And.intro ⟨(by decide), hR9c⟩ ?_
              intro x32 I32 L32 hq32
              have hq32 : I32 = J9 ∧ L32 = M9 ∧ -1 ≤ x32.toInt ∧ x32.toInt < (J9 5 5).toInt := hq32
              obtain ⟨eI32, eL32, c32_2, c32_3⟩ := hq32
              replace eI32 := eI32.symm
              subst eI32
              replace eL32 := eL32.symm
              subst eL32
              refine And.intro trivial ?_
              intro x38 I38 L38 hq38
              have hq38 : I38 = J9 ∧ L38 = M9 ∧ ((x38.toInt = 0 ∨ x38.toInt = 1)) := hq38
              obtain ⟨eI38, eL38, c38_2⟩ := hq38
              replace eI38 := eI38.symm
              subst eI38
              replace eL38 := eL38.symm
              subst eL38
              apply And.intro
              · intro h41
                have h41 : x38.toInt = 0 := h41
                refine And.intro ⟨hR9c, (show 1 ≤ (2 : Int) from by first | assumption | omega)⟩ ?_
                intro x52 I52 L52 hq52
                have hq52 : xR I52 ∧ f_fr [3] J9 I52 ∧ L52 = M9 ∧ x52.toInt = 0 ∧ 1 ≤ (I52 3 2).toInt ∧ (I52 3 4).toInt = (J9 3 4).toInt := hq52
                obtain ⟨c52_0, c52_1, eL52, c52_3, c52_4, c52_5⟩ := hq52
                replace eL52 := eL52.symm
                subst eL52
                have hF52 := f_fr_tr hF9c c52_1 rfl
                intro z92 q92 _ hq92 hl92 hu92
                have hq92 : z92.toInt = i.toInt + 1 + 4294967296 * q92 := hq92
                try have hz92 : z92.toInt = i.toInt + 1 := by omega
                exact ⟨n, z92, (by intro q9 h9; simp only [List.mem_cons, List.not_mem_nil, or_false] at h9; rcases h9 with h9 | h9 | h9 | h9 | h9 <;> subst h9 <;> repeat (first | exact List.mem_cons_self | apply List.mem_cons_of_mem)), rfl, c52_0, hF52, hG9c, (show 0 ≤ n.toInt from by first | assumption | omega), (show n.toInt ≤ 8 from by first | assumption | omega), (show 0 ≤ z92.toInt from by first | assumption | omega), (show z92.toInt ≤ 1600 from by first | assumption | omega), (show (1600 - z92.toInt) < n9 from by omega)⟩
              · intro h41
                have h41 : ¬ x38.toInt = 0 := h41
                apply And.intro
                · intro h47
                  have h47 : n.toInt < 8 := h47
                  apply And.intro
                  · intro h62
                    have h62 : ¬ x32.toInt = (-1) := h62
                    refine And.intro (show f_in n 8 from ⟨show 0 ≤ n.toInt from by omega, show n.toInt < 8 from by omega⟩) ?_
                    have hR81 := xR_a (k := 4) (j := n.toInt.toNat) (x := x32) hR9c (show 0 ≤ x32.toInt ∧ x32.toInt ≤ 11 from ⟨by omega, by omega⟩)
                    have hF81 := f_fr_up (k := 4) (r := upd (J9 4) (n.toInt.toNat) x32) hF9c rfl
                    intro z82 q82 _ hq82 hl82 hu82
                    have hq82 : z82.toInt = n.toInt + 1 + 4294967296 * q82 := hq82
                    try have hz82 : z82.toInt = n.toInt + 1 := by omega
                    refine And.intro hR81 ?_
                    intro I89 L89 hq89
                    have hq89 : xR I89 ∧ f_fr [1] (va_up J9 4 (upd (J9 4) (n.toInt.toNat) x32)) I89 ∧ f_fr [1] M9 L89 := hq89
                    obtain ⟨c89_0, c89_1, c89_2⟩ := hq89
                    have hF89 := f_fr_tr hF81 c89_1 rfl
                    have hG89 := f_fr_tr hG9c c89_2 rfl
                    intro z92 q92 _ hq92 hl92 hu92
                    have hq92 : z92.toInt = i.toInt + 1 + 4294967296 * q92 := hq92
                    try have hz92 : z92.toInt = i.toInt + 1 := by omega
                    exact ⟨z82, z92, (by intro q9 h9; simp only [List.mem_cons, List.not_mem_nil, or_false] at h9; rcases h9 with h9 | h9 | h9 | h9 | h9 <;> subst h9 <;> repeat (first | exact List.mem_cons_self | apply List.mem_cons_of_mem)), rfl, c89_0, hF89, hG89, (show 0 ≤ z82.toInt from by first | assumption | omega), (show z82.toInt ≤ 8 from by first | assumption | omega), (show 0 ≤ z92.toInt from by first | assumption | omega), (show z92.toInt ≤ 1600 from by first | assumption | omega), (show (1600 - z92.toInt) < n9 from by omega)⟩
                  · intro h62
                    have h62 : x32.toInt = (-1) := h62
                    refine And.intro ⟨hR9c, (show 1 ≤ (5 : Int) from by first | assumption | omega)⟩ ?_
                    intro x67 I67 L67 hq67
                    have hq67 : xR I67 ∧ f_fr [3] J9 I67 ∧ L67 = M9 ∧ x67.toInt = 0 ∧ 1 ≤ (I67 3 2).toInt ∧ (I67 3 4).toInt = (J9 3 4).toInt := hq67
                    obtain ⟨c67_0, c67_1, eL67, c67_3, c67_4, c67_5⟩ := hq67
                    replace eL67 := eL67.symm
                    subst eL67
                    have hF67 := f_fr_tr hF9c c67_1 rfl
                    intro z92 q92 _ hq92 hl92 hu92
                    have hq92 : z92.toInt = i.toInt + 1 + 4294967296 * q92 := hq92
                    try have hz92 : z92.toInt = i.toInt + 1 := by omega
                    exact ⟨n, z92, (by intro q9 h9; simp only [List.mem_cons, List.not_mem_nil, or_false] at h9; rcases h9 with h9 | h9 | h9 | h9 | h9 <;> subst h9 <;> repeat (first | exact List.mem_cons_self | apply List.mem_cons_of_mem)), rfl, c67_0, hF67, hG9c, (show 0 ≤ n.toInt from by first | assumption | omega), (show n.toInt ≤ 8 from by first | assumption | omega), (show 0 ≤ z92.toInt from by first | assumption | omega), (show z92.toInt ≤ 1600 from by first | assumption | omega), (show (1600 - z92.toInt) < n9 from by omega)⟩
                · intro h47
                  have h47 : 8 ≤ n.toInt := h47
                  refine And.intro ⟨hR9c, (show 1 ≤ (2 : Int) from by first | assumption | omega)⟩ ?_
                  intro x52 I52 L52 hq52
                  have hq52 : xR I52 ∧ f_fr [3] J9 I52 ∧ L52 = M9 ∧ x52.toInt = 0 ∧ 1 ≤ (I52 3 2).toInt ∧ (I52 3 4).toInt = (J9 3 4).toInt := hq52
                  obtain ⟨c52_0, c52_1, eL52, c52_3, c52_4, c52_5⟩ := hq52
                  replace eL52 := eL52.symm
                  subst eL52
                  have hF52 := f_fr_tr hF9c c52_1 rfl
                  intro z92 q92 _ hq92 hl92 hu92
                  have hq92 : z92.toInt = i.toInt + 1 + 4294967296 * q92 := hq92
                  try have hz92 : z92.toInt = i.toInt + 1 := by omega
                  exact ⟨n, z92, (by intro q9 h9; simp only [List.mem_cons, List.not_mem_nil, or_false] at h9; rcases h9 with h9 | h9 | h9 | h9 | h9 <;> subst h9 <;> repeat (first | exact List.mem_cons_self | apply List.mem_cons_of_mem)), rfl, c52_0, hF52, hG9c, (show 0 ≤ n.toInt from by first | assumption | omega), (show n.toInt ≤ 8 from by first | assumption | omega), (show 0 ≤ z92.toInt from by first | assumption | omega), (show z92.toInt ≤ 1600 from by first | assumption | omega), (show (1600 - z92.toInt) < n9 from by omega)⟩
      refine f_wp_ok C f_cl flX4_ok fiX4_ok fjX4_ok (sn := none) (fun j h => by cases h) (cs := (f_cnl [(25, (1, 0, 4, pX4_begin, qX4_begin)), (35, (1, 3, 4, pX4_isOpen, qX4_isOpen)), (50, (2, 1, 1, pX1_wordCalled, qX1_wordCalled)), (54, (1, 3, 4, pX4_isName, qX4_isName)), (57, (2, 3, 4, pX4_refuse, qX4_refuse)), (61, (1, 0, 8, pX9_next, qX9_next)), (64, (3, 0, 2, pX2_setRow, qX2_setRow))])) (cz := (fun _ => none)) (f_cnl_of (P := fun j S => f_cok pP l eP (f_rm 8) sP mP aP bP hP9 cP xY 80 a cy dC dI 6 _ _ (.invokevirtual j) true S) (List.forall_mem_cons.mpr ⟨f_cokV C (mX4_begin hinj) (ci := 4) rfl (List.forall_mem_cons.mpr ⟨(mlX4_ok _ (List.mem_of_getElem? (i := 0) rfl)), kc_X4_begin⟩) (by decide +kernel) ⟨Nat.le_of_ble_eq_true rfl, Nat.le_of_ble_eq_true rfl⟩, List.forall_mem_cons.mpr ⟨f_cokV C (mX4_isOpen hinj) (ci := 4) rfl (List.forall_mem_cons.mpr ⟨(mlX4_ok _ (List.mem_of_getElem? (i := 2) rfl)), kc_X4_isOpen⟩) (by decide +kernel) ⟨Nat.le_of_ble_eq_true rfl, Nat.le_of_ble_eq_true rfl⟩, List.forall_mem_cons.mpr ⟨f_cokV C (mX1_wordCalled hinj) (ci := 1) rfl (List.forall_mem_cons.mpr ⟨(mlX4_ok _ (List.mem_of_getElem? (i := 4) rfl)), kc_X1_wordCalled⟩) (by decide +kernel) ⟨Nat.le_of_ble_eq_true rfl, Nat.le_of_ble_eq_true rfl⟩, List.forall_mem_cons.mpr ⟨f_cokV C (mX4_isName hinj) (ci := 4) rfl (List.forall_mem_cons.mpr ⟨(mlX4_ok _ (List.mem_of_getElem? (i := 5) rfl)), kc_X4_isName⟩) (by decide +kernel) ⟨Nat.le_of_ble_eq_true rfl, Nat.le_of_ble_eq_true rfl⟩, List.forall_mem_cons.mpr ⟨f_cokV C (mX4_refuse hinj) (ci := 4) rfl (List.forall_mem_cons.mpr ⟨(mlX4_ok _ (List.mem_of_getElem? (i := 6) rfl)), kc_X4_refuse⟩) (by decide +kernel) ⟨Nat.le_of_ble_eq_true rfl, Nat.le_of_ble_eq_true rfl⟩, List.forall_mem_cons.mpr ⟨f_cokV C (mX9_next hinj) (ci := 8) rfl (List.forall_mem_cons.mpr ⟨(mlX4_ok _ (List.mem_of_getElem? (i := 7) rfl)), kc_X9_next⟩) (by decide +kernel) ⟨Nat.le_of_ble_eq_true rfl, Nat.le_of_ble_eq_true rfl⟩, List.forall_mem_cons.mpr ⟨f_cokV C (mX2_setRow hinj) (ci := 2) rfl (List.forall_mem_cons.mpr ⟨(mlX4_ok _ (List.mem_of_getElem? (i := 8) rfl)), kc_X2_setRow⟩) (by decide +kernel) ⟨Nat.le_of_ble_eq_true rfl, Nat.le_of_ble_eq_true rfl⟩, fun _ h => absurd h List.not_mem_nil⟩⟩⟩⟩⟩⟩⟩)) (fun j S h => by cases h) tX4_readRow_ok (cut := (f_cnl [(9, (fun (ls' : fLs) (st' : List Value) (I' : fM) (L' : fN) => ∃ n : Int32, ∃ i : Int32, (∀ q ∈ ([(4, .int i), (3, .int n), (2, .ref 40), (1, .ref 5), (0, .ref 3)] : fLs), q ∈ ls') ∧ st' = [] ∧ (xR I' ∧ f_fr [1, 3, 4, 40, 41] I I' ∧ f_fr [1] L L' ∧ (0 ≤ n.toInt) ∧ (n.toInt ≤ 8) ∧ (0 ≤ i.toInt) ∧ (i.toInt ≤ 1600) ∧ (1600 - i.toInt) < 1601)))])) (f_cnl_of (P := fun (tQ : Nat) (P : fLs → List Value → fM → fN → Prop) => ∀ ls' st' I' L', P ls' st' I' L' → f_W pP l eP (f_rm 8) sP mP aP bP hP9 cP xY 80 a cy dC dI 6 (f_K 3 (qX4_readRow [.ref 3, .ref 5, .ref 40] I L)) tQ ls' st' I' L') (List.forall_mem_cons.mpr ⟨(fun ls' st' I' L' h => by obtain ⟨n, i, hs, e1, h9⟩ := h; rw [e1]; exact f_W_sub hs (lp9 1601 n i I' L' h9)), fun _ h => absurd h List.not_mem_nil⟩)) 9 0 tX4_readRow tX4_readRow_ok _ _ _ _ ?_
      refine And.intro hR ?_
      intro I1 L1 hq1
      have hq1 : xR I1 ∧ f_fr [1, 3] I I1 ∧ f_fr [1] L L1 ∧ (I1 3 2).toInt = 0 := hq1
      obtain ⟨c1_0, c1_1, c1_2, c1_3⟩ := hq1
      have hF1 := f_fr_tr hF0 c1_1 rfl
      have hG1 := f_fr_tr hG0 c1_2 rfl
      exact ⟨Int32.ofInt 0, Int32.ofInt 0, (by intro q9 h9; simp only [List.mem_cons, List.not_mem_nil, or_false] at h9; rcases h9 with h9 | h9 | h9 | h9 | h9 <;> subst h9 <;> repeat (first | exact List.mem_cons_self | apply List.mem_cons_of_mem)), rfl, c1_0, hF1, hG1, (show 0 ≤ (0 : Int) from by first | assumption | omega), (show (0 : Int) ≤ 8 from by first | assumption | omega), (show 0 ≤ (0 : Int) from by first | assumption | omega), (show (0 : Int) ≤ 1600 from by first | assumption | omega), (show (1600 - (0 : Int)) < 1601 from by omega)⟩
    -- pat [.ref 3, .ref 10, .ref 40]
    · skip
      have hR : xR I := hR
      have hw12 : (I 10 5).toInt ≤ 12 := (hR 10 5).2
      have hF0 : f_fr [1, 3, 4, 40, 41] I I := f_fr_rf
      have hG0 : f_fr [1] L L := f_fr_rf
      have lp9 : ∀ (n9 : Nat), ∀ (n : Int32) (i : Int32) (J9 : fM) (M9 : fN), xR J9 ∧ f_fr [1, 3, 4, 40, 41] I J9 ∧ f_fr [1] L M9 ∧ (0 ≤ n.toInt) ∧ (n.toInt ≤ 8) ∧ (0 ≤ i.toInt) ∧ (i.toInt ≤ 1600) ∧ (1600 - i.toInt) < n9 → f_W pP l eP (f_rm 8) sP mP aP bP hP9 cP xY 80 a cy dC dI 6 (f_K 3 (qX4_readRow [.ref 3, .ref 10, .ref 40] I L)) 9 [(4, .int i), (3, .int n), (2, .ref 40), (1, .ref 10), (0, .ref 3)] [] J9 M9 := by
        intro n9
        induction n9 with
        | zero =>
          intro n i J9 M9 h9
          obtain ⟨hR9c, hF9c, hG9c, u9_1, u9_2, u9_3, u9_4, hm9⟩ := h9
          omega
        | succ n9 ih9 =>
          intro n i J9 M9 h9
          obtain ⟨hR9c, hF9c, hG9c, u9_1, u9_2, u9_3, u9_4, hm9⟩ := h9
          refine f_wp_ok C f_cl flX4_ok fiX4_ok fjX4_ok (sn := none) (fun j h => by cases h) (cs := (f_cnl [(25, (1, 0, 4, pX4_begin, qX4_begin)), (35, (1, 3, 4, pX4_isOpen, qX4_isOpen)), (50, (2, 1, 1, pX1_wordCalled, qX1_wordCalled)), (54, (1, 3, 4, pX4_isName, qX4_isName)), (57, (2, 3, 4, pX4_refuse, qX4_refuse)), (61, (1, 0, 8, pX9_next, qX9_next)), (64, (3, 0, 2, pX2_setRow, qX2_setRow))])) (cz := (fun _ => none)) (f_cnl_of (P := fun j S => f_cok pP l eP (f_rm 8) sP mP aP bP hP9 cP xY 80 a cy dC dI 6 _ _ (.invokevirtual j) true S) (List.forall_mem_cons.mpr ⟨f_cokV C (mX4_begin hinj) (ci := 4) rfl (List.forall_mem_cons.mpr ⟨(mlX4_ok _ (List.mem_of_getElem? (i := 0) rfl)), kc_X4_begin⟩) (by decide +kernel) ⟨Nat.le_of_ble_eq_true rfl, Nat.le_of_ble_eq_true rfl⟩, List.forall_mem_cons.mpr ⟨f_cokV C (mX4_isOpen hinj) (ci := 4) rfl (List.forall_mem_cons.mpr ⟨(mlX4_ok _ (List.mem_of_getElem? (i := 2) rfl)), kc_X4_isOpen⟩) (by decide +kernel) ⟨Nat.le_of_ble_eq_true rfl, Nat.le_of_ble_eq_true rfl⟩, List.forall_mem_cons.mpr ⟨f_cokV C (mX1_wordCalled hinj) (ci := 1) rfl (List.forall_mem_cons.mpr ⟨(mlX4_ok _ (List.mem_of_getElem? (i := 4) rfl)), kc_X1_wordCalled⟩) (by decide +kernel) ⟨Nat.le_of_ble_eq_true rfl, Nat.le_of_ble_eq_true rfl⟩, List.forall_mem_cons.mpr ⟨f_cokV C (mX4_isName hinj) (ci := 4) rfl (List.forall_mem_cons.mpr ⟨(mlX4_ok _ (List.mem_of_getElem? (i := 5) rfl)), kc_X4_isName⟩) (by decide +kernel) ⟨Nat.le_of_ble_eq_true rfl, Nat.le_of_ble_eq_true rfl⟩, List.forall_mem_cons.mpr ⟨f_cokV C (mX4_refuse hinj) (ci := 4) rfl (List.forall_mem_cons.mpr ⟨(mlX4_ok _ (List.mem_of_getElem? (i := 6) rfl)), kc_X4_refuse⟩) (by decide +kernel) ⟨Nat.le_of_ble_eq_true rfl, Nat.le_of_ble_eq_true rfl⟩, List.forall_mem_cons.mpr ⟨f_cokV C (mX9_next hinj) (ci := 8) rfl (List.forall_mem_cons.mpr ⟨(mlX4_ok _ (List.mem_of_getElem? (i := 7) rfl)), kc_X9_next⟩) (by decide +kernel) ⟨Nat.le_of_ble_eq_true rfl, Nat.le_of_ble_eq_true rfl⟩, List.forall_mem_cons.mpr ⟨f_cokV C (mX2_setRow hinj) (ci := 2) rfl (List.forall_mem_cons.mpr ⟨(mlX4_ok _ (List.mem_of_getElem? (i := 8) rfl)), kc_X2_setRow⟩) (by decide +kernel) ⟨Nat.le_of_ble_eq_true rfl, Nat.le_of_ble_eq_true rfl⟩, fun _ h => absurd h List.not_mem_nil⟩⟩⟩⟩⟩⟩⟩)) (fun j S h => by cases h) tX4_readRow_ok (cut := (f_cnl [(9, (fun (ls' : fLs) (st' : List Value) (I' : fM) (L' : fN) => ∃ n : Int32, ∃ i : Int32, (∀ q ∈ ([(4, .int i), (3, .int n), (2, .ref 40), (1, .ref 10), (0, .ref 3)] : fLs), q ∈ ls') ∧ st' = [] ∧ (xR I' ∧ f_fr [1, 3, 4, 40, 41] I I' ∧ f_fr [1] L L' ∧ (0 ≤ n.toInt) ∧ (n.toInt ≤ 8) ∧ (0 ≤ i.toInt) ∧ (i.toInt ≤ 1600) ∧ (1600 - i.toInt) < n9)))])) (f_cnl_of (P := fun (tQ : Nat) (P : fLs → List Value → fM → fN → Prop) => ∀ ls' st' I' L', P ls' st' I' L' → f_W pP l eP (f_rm 8) sP mP aP bP hP9 cP xY 80 a cy dC dI 6 (f_K 3 (qX4_readRow [.ref 3, .ref 10, .ref 40] I L)) tQ ls' st' I' L') (List.forall_mem_cons.mpr ⟨(fun ls' st' I' L' h => by obtain ⟨n, i, hs, e1, h9⟩ := h; rw [e1]; exact f_W_sub hs (ih9 n i I' L' h9)), fun _ h => absurd h List.not_mem_nil⟩)) 35 9 (f_seek 9 0 tX4_readRow) (f_seek_ok 9 0 tX4_readRow tX4_readRow_ok) _ _ _ _ ?_
          apply And.intro
          · intro h14
            have h14 : 1600 ≤ i.toInt := h14
            apply And.intro
            · intro h102
              have h102 : ¬ (J9 3 2).toInt = 0 := h102
              apply And.intro
              · intro h118
                have h118 : ¬ (J9 3 2).toInt = 0 := h118
                exact ⟨Or.inl rfl, hR9c, hF9c, hG9c, (show ((0 : Int) = 0 ∨ (0 : Int) = 1) from by first | assumption | omega | rfl)⟩
              · intro h118
                have h118 : (J9 3 2).toInt = 0 := h118
                exfalso
                omega
            · intro h102
              have h102 : (J9 3 2).toInt = 0 := h102
              refine And.intro ⟨hR9c, (show 0 ≤ n.toInt from by first | assumption | omega), (show n.toInt ≤ 8 from by first | assumption | omega)⟩ ?_
              intro I111 L111 hq111
              have hq111 : xR I111 ∧ f_fr [40, 41] J9 I111 ∧ L111 = M9 ∧ (I111 40 6).toInt = n.toInt ∧ I111 40 7 = J9 40 7 ∧ I111 40 8 = J9 40 8 ∧ (∀ j : Nat, (j : Int) < n.toInt → I111 41 j = J9 4 j) := hq111
              obtain ⟨c111_0, c111_1, eL111, c111_3, c111_4, c111_5, c111_6⟩ := hq111
              replace eL111 := eL111.symm
              subst eL111
              have hF111 := f_fr_tr hF9c c111_1 rfl
              have e115_3 : (I111 3 2).toInt = (J9 3 2).toInt := congrArg Int32.toInt (congrFun (c111_1 3 rfl) 2)
              apply And.intro
              · intro h118
                have h118 : ¬ (I111 3 2).toInt = 0 := h118
                exact ⟨Or.inl rfl, c111_0, hF111, hG9c, (show ((0 : Int) = 0 ∨ (0 : Int) = 1) from by first | assumption | omega | rfl)⟩
              · intro h118
                have h118 : (I111 3 2).toInt = 0 := h118
                exact ⟨Or.inr rfl, c111_0, hF111, hG9c, (show ((1 : Int) = 0 ∨ (1 : Int) = 1) from by first | assumption | omega | rfl)⟩
          · intro h14
            have h14 : i.toInt < 1600 := h14
            refine And.intro trivial ?_
            intro x18 I18 L18 hq18
            have hq18 : I18 = J9 ∧ L18 = M9 ∧ (((J9 3 2).toInt = 0 ∨ x18.toInt = 0)) ∧ ((x18.toInt = 0 ∨ x18.toInt = 1)) := hq18
            obtain ⟨eI18, eL18, c18_2, c18_3⟩ := hq18
            replace eI18 := eI18.symm
            subst eI18
            replace eL18 := eL18.symm
            subst eL18
            apply And.intro
            · intro h21
              have h21 : x18.toInt = 0 := h21
              apply And.intro
              · intro h102
                have h102 : ¬ (J9 3 2).toInt = 0 := h102
                apply And.intro
                · intro h118
                  have h118 : ¬ (J9 3 2).toInt = 0 := h118
                  exact ⟨Or.inl rfl, hR9c, hF9c, hG9c, (show ((0 : Int) = 0 ∨ (0 : Int) = 1) from by first | assumption | omega | rfl)⟩
                · intro h118
                  have h118 : (J9 3 2).toInt = 0 := h118
                  exfalso
                  omega
              · intro h102
                have h102 : (J9 3 2).toInt = 0 := h102
                refine And.intro ⟨hR9c, (show 0 ≤ n.toInt from by first | assumption | omega), (show n.toInt ≤ 8 from by first | assumption | omega)⟩ ?_
                intro I111 L111 hq111
                have hq111 : xR I111 ∧ f_fr [40, 41] J9 I111 ∧ L111 = M9 ∧ (I111 40 6).toInt = n.toInt ∧ I111 40 7 = J9 40 7 ∧ I111 40 8 = J9 40 8 ∧ (∀ j : Nat, (j : Int) < n.toInt → I111 41 j = J9 4 j) := hq111
                obtain ⟨c111_0, c111_1, eL111, c111_3, c111_4, c111_5, c111_6⟩ := hq111
                replace eL111 := eL111.symm
                subst eL111
                have hF111 := f_fr_tr hF9c c111_1 rfl
                have e115_3 : (I111 3 2).toInt = (J9 3 2).toInt := congrArg Int32.toInt (congrFun (c111_1 3 rfl) 2)
                apply And.intro
                · intro h118
                  have h118 : ¬ (I111 3 2).toInt = 0 := h118
                  exact ⟨Or.inl rfl, c111_0, hF111, hG9c, (show ((0 : Int) = 0 ∨ (0 : Int) = 1) from by first | assumption | omega | rfl)⟩
                · intro h118
                  have h118 : (I111 3 2).toInt = 0 := h118
                  exact ⟨Or.inr rfl, c111_0, hF111, hG9c, (show ((1 : Int) = 0 ∨ (1 : Int) = 1) from by first | assumption | omega | rfl)⟩
            · intro h21
              have h21 : ¬ x18.toInt = 0 := h21
              have e24 : (J9 10 5).toInt ≤ 12 := (hR9c 10 5).2
              refine And.intro ⟨(by decide), hR9c⟩ ?_
              intro x32 I32 L32 hq32
              have hq32 : I32 = J9 ∧ L32 = M9 ∧ -1 ≤ x32.toInt ∧ x32.toInt < (J9 10 5).toInt := hq32
              obtain ⟨eI32, eL32, c32_2, c32_3⟩ := hq32
              replace eI32 := eI32.symm
              subst eI32
              replace eL32 := eL32.symm
              subst eL32
              refine And.intro trivial ?_
              intro x38 I38 L38 hq38
              have hq38 : I38 = J9 ∧ L38 = M9 ∧ ((x38.toInt = 0 ∨ x38.toInt = 1)) := hq38
              obtain ⟨eI38, eL38, c38_2⟩ := hq38
              replace eI38 := eI38.symm
              subst eI38
              replace eL38 := eL38.symm
              subst eL38
              apply And.intro
              · intro h41
                have h41 : x38.toInt = 0 := h41
                refine And.intro ⟨hR9c, (show 1 ≤ (2 : Int) from by first | assumption | omega)⟩ ?_
                intro x52 I52 L52 hq52
                have hq52 : xR I52 ∧ f_fr [3] J9 I52 ∧ L52 = M9 ∧ x52.toInt = 0 ∧ 1 ≤ (I52 3 2).toInt ∧ (I52 3 4).toInt = (J9 3 4).toInt := hq52
                obtain ⟨c52_0, c52_1, eL52, c52_3, c52_4, c52_5⟩ := hq52
                replace eL52 := eL52.symm
                subst eL52
                have hF52 := f_fr_tr hF9c c52_1 rfl
                intro z92 q92 _ hq92 hl92 hu92
                have hq92 : z92.toInt = i.toInt + 1 + 4294967296 * q92 := hq92
                try have hz92 : z92.toInt = i.toInt + 1 := by omega
                exact ⟨n, z92, (by intro q9 h9; simp only [List.mem_cons, List.not_mem_nil, or_false] at h9; rcases h9 with h9 | h9 | h9 | h9 | h9 <;> subst h9 <;> repeat (first | exact List.mem_cons_self | apply List.mem_cons_of_mem)), rfl, c52_0, hF52, hG9c, (show 0 ≤ n.toInt from by first | assumption | omega), (show n.toInt ≤ 8 from by first | assumption | omega), (show 0 ≤ z92.toInt from by first | assumption | omega), (show z92.toInt ≤ 1600 from by first | assumption | omega), (show (1600 - z92.toInt) < n9 from by omega)⟩
              · intro h41
                have h41 : ¬ x38.toInt = 0 := h41
                apply And.intro
                · intro h47
                  have h47 : n.toInt < 8 := h47
                  apply And.intro
                  · intro h62
                    have h62 : ¬ x32.toInt = (-1) := h62
                    refine And.intro (show f_in n 8 from ⟨show 0 ≤ n.toInt from by omega, show n.toInt < 8 from by omega⟩) ?_
                    have hR81 := xR_a (k := 4) (j := n.toInt.toNat) (x := x32) hR9c (show 0 ≤ x32.toInt ∧ x32.toInt ≤ 11 from ⟨by omega, by omega⟩)
                    have hF81 := f_fr_up (k := 4) (r := upd (J9 4) (n.toInt.toNat) x32) hF9c rfl
                    intro z82 q82 _ hq82 hl82 hu82
                    have hq82 : z82.toInt = n.toInt + 1 + 4294967296 * q82 := hq82
                    try have hz82 : z82.toInt = n.toInt + 1 := by omega
                    refine And.intro hR81 ?_
                    intro I89 L89 hq89
                    have hq89 : xR I89 ∧ f_fr [1] (va_up J9 4 (upd (J9 4) (n.toInt.toNat) x32)) I89 ∧ f_fr [1] M9 L89 := hq89
                    obtain ⟨c89_0, c89_1, c89_2⟩ := hq89
                    have hF89 := f_fr_tr hF81 c89_1 rfl
                    have hG89 := f_fr_tr hG9c c89_2 rfl
                    intro z92 q92 _ hq92 hl92 hu92
                    have hq92 : z92.toInt = i.toInt + 1 + 4294967296 * q92 := hq92
                    try have hz92 : z92.toInt = i.toInt + 1 := by omega
                    exact ⟨z82, z92, (by intro q9 h9; simp only [List.mem_cons, List.not_mem_nil, or_false] at h9; rcases h9 with h9 | h9 | h9 | h9 | h9 <;> subst h9 <;> repeat (first | exact List.mem_cons_self | apply List.mem_cons_of_mem)), rfl, c89_0, hF89, hG89, (show 0 ≤ z82.toInt from by first | assumption | omega), (show z82.toInt ≤ 8 from by first | assumption | omega), (show 0 ≤ z92.toInt from by first | assumption | omega), (show z92.toInt ≤ 1600 from by first | assumption | omega), (show (1600 - z92.toInt) < n9 from by omega)⟩
                  · intro h62
                    have h62 : x32.toInt = (-1) := h62
                    refine And.intro ⟨hR9c, (show 1 ≤ (5 : Int) from by first | assumption | omega)⟩ ?_
                    intro x67 I67 L67 hq67
                    have hq67 : xR I67 ∧ f_fr [3] J9 I67 ∧ L67 = M9 ∧ x67.toInt = 0 ∧ 1 ≤ (I67 3 2).toInt ∧ (I67 3 4).toInt = (J9 3 4).toInt := hq67
                    obtain ⟨c67_0, c67_1, eL67, c67_3, c67_4, c67_5⟩ := hq67
                    replace eL67 := eL67.symm
                    subst eL67
                    have hF67 := f_fr_tr hF9c c67_1 rfl
                    intro z92 q92 _ hq92 hl92 hu92
                    have hq92 : z92.toInt = i.toInt + 1 + 4294967296 * q92 := hq92
                    try have hz92 : z92.toInt = i.toInt + 1 := by omega
                    exact ⟨n, z92, (by intro q9 h9; simp only [List.mem_cons, List.not_mem_nil, or_false] at h9; rcases h9 with h9 | h9 | h9 | h9 | h9 <;> subst h9 <;> repeat (first | exact List.mem_cons_self | apply List.mem_cons_of_mem)), rfl, c67_0, hF67, hG9c, (show 0 ≤ n.toInt from by first | assumption | omega), (show n.toInt ≤ 8 from by first | assumption | omega), (show 0 ≤ z92.toInt from by first | assumption | omega), (show z92.toInt ≤ 1600 from by first | assumption | omega), (show (1600 - z92.toInt) < n9 from by omega)⟩
                · intro h47
                  have h47 : 8 ≤ n.toInt := h47
                  refine And.intro ⟨hR9c, (show 1 ≤ (2 : Int) from by first | assumption | omega)⟩ ?_
                  intro x52 I52 L52 hq52
                  have hq52 : xR I52 ∧ f_fr [3] J9 I52 ∧ L52 = M9 ∧ x52.toInt = 0 ∧ 1 ≤ (I52 3 2).toInt ∧ (I52 3 4).toInt = (J9 3 4).toInt := hq52
                  obtain ⟨c52_0, c52_1, eL52, c52_3, c52_4, c52_5⟩ := hq52
                  replace eL52 := eL52.symm
                  subst eL52
                  have hF52 := f_fr_tr hF9c c52_1 rfl
                  intro z92 q92 _ hq92 hl92 hu92
                  have hq92 : z92.toInt = i.toInt + 1 + 4294967296 * q92 := hq92
                  try have hz92 : z92.toInt = i.toInt + 1 := by omega
                  exact ⟨n, z92, (by intro q9 h9; simp only [List.mem_cons, List.not_mem_nil, or_false] at h9; rcases h9 with h9 | h9 | h9 | h9 | h9 <;> subst h9 <;> repeat (first | exact List.mem_cons_self | apply List.mem_cons_of_mem)), rfl, c52_0, hF52, hG9c, (show 0 ≤ n.toInt from by first | assumption | omega), (show n.toInt ≤ 8 from by first | assumption | omega), (show 0 ≤ z92.toInt from by first | assumption | omega), (show z92.toInt ≤ 1600 from by first | assumption | omega), (show (1600 - z92.toInt) < n9 from by omega)⟩
      refine f_wp_ok C f_cl flX4_ok fiX4_ok fjX4_ok (sn := none) (fun j h => by cases h) (cs := (f_cnl [(25, (1, 0, 4, pX4_begin, qX4_begin)), (35, (1, 3, 4, pX4_isOpen, qX4_isOpen)), (50, (2, 1, 1, pX1_wordCalled, qX1_wordCalled)), (54, (1, 3, 4, pX4_isName, qX4_isName)), (57, (2, 3, 4, pX4_refuse, qX4_refuse)), (61, (1, 0, 8, pX9_next, qX9_next)), (64, (3, 0, 2, pX2_setRow, qX2_setRow))])) (cz := (fun _ => none)) (f_cnl_of (P := fun j S => f_cok pP l eP (f_rm 8) sP mP aP bP hP9 cP xY 80 a cy dC dI 6 _ _ (.invokevirtual j) true S) (List.forall_mem_cons.mpr ⟨f_cokV C (mX4_begin hinj) (ci := 4) rfl (List.forall_mem_cons.mpr ⟨(mlX4_ok _ (List.mem_of_getElem? (i := 0) rfl)), kc_X4_begin⟩) (by decide +kernel) ⟨Nat.le_of_ble_eq_true rfl, Nat.le_of_ble_eq_true rfl⟩, List.forall_mem_cons.mpr ⟨f_cokV C (mX4_isOpen hinj) (ci := 4) rfl (List.forall_mem_cons.mpr ⟨(mlX4_ok _ (List.mem_of_getElem? (i := 2) rfl)), kc_X4_isOpen⟩) (by decide +kernel) ⟨Nat.le_of_ble_eq_true rfl, Nat.le_of_ble_eq_true rfl⟩, List.forall_mem_cons.mpr ⟨f_cokV C (mX1_wordCalled hinj) (ci := 1) rfl (List.forall_mem_cons.mpr ⟨(mlX4_ok _ (List.mem_of_getElem? (i := 4) rfl)), kc_X1_wordCalled⟩) (by decide +kernel) ⟨Nat.le_of_ble_eq_true rfl, Nat.le_of_ble_eq_true rfl⟩, List.forall_mem_cons.mpr ⟨f_cokV C (mX4_isName hinj) (ci := 4) rfl (List.forall_mem_cons.mpr ⟨(mlX4_ok _ (List.mem_of_getElem? (i := 5) rfl)), kc_X4_isName⟩) (by decide +kernel) ⟨Nat.le_of_ble_eq_true rfl, Nat.le_of_ble_eq_true rfl⟩, List.forall_mem_cons.mpr ⟨f_cokV C (mX4_refuse hinj) (ci := 4) rfl (List.forall_mem_cons.mpr ⟨(mlX4_ok _ (List.mem_of_getElem? (i := 6) rfl)), kc_X4_refuse⟩) (by decide +kernel) ⟨Nat.le_of_ble_eq_true rfl, Nat.le_of_ble_eq_true rfl⟩, List.forall_mem_cons.mpr ⟨f_cokV C (mX9_next hinj) (ci := 8) rfl (List.forall_mem_cons.mpr ⟨(mlX4_ok _ (List.mem_of_getElem? (i := 7) rfl)), kc_X9_next⟩) (by decide +kernel) ⟨Nat.le_of_ble_eq_true rfl, Nat.le_of_ble_eq_true rfl⟩, List.forall_mem_cons.mpr ⟨f_cokV C (mX2_setRow hinj) (ci := 2) rfl (List.forall_mem_cons.mpr ⟨(mlX4_ok _ (List.mem_of_getElem? (i := 8) rfl)), kc_X2_setRow⟩) (by decide +kernel) ⟨Nat.le_of_ble_eq_true rfl, Nat.le_of_ble_eq_true rfl⟩, fun _ h => absurd h List.not_mem_nil⟩⟩⟩⟩⟩⟩⟩)) (fun j S h => by cases h) tX4_readRow_ok (cut := (f_cnl [(9, (fun (ls' : fLs) (st' : List Value) (I' : fM) (L' : fN) => ∃ n : Int32, ∃ i : Int32, (∀ q ∈ ([(4, .int i), (3, .int n), (2, .ref 40), (1, .ref 10), (0, .ref 3)] : fLs), q ∈ ls') ∧ st' = [] ∧ (xR I' ∧ f_fr [1, 3, 4, 40, 41] I I' ∧ f_fr [1] L L' ∧ (0 ≤ n.toInt) ∧ (n.toInt ≤ 8) ∧ (0 ≤ i.toInt) ∧ (i.toInt ≤ 1600) ∧ (1600 - i.toInt) < 1601)))])) (f_cnl_of (P := fun (tQ : Nat) (P : fLs → List Value → fM → fN → Prop) => ∀ ls' st' I' L', P ls' st' I' L' → f_W pP l eP (f_rm 8) sP mP aP bP hP9 cP xY 80 a cy dC dI 6 (f_K 3 (qX4_readRow [.ref 3, .ref 10, .ref 40] I L)) tQ ls' st' I' L') (List.forall_mem_cons.mpr ⟨(fun ls' st' I' L' h => by obtain ⟨n, i, hs, e1, h9⟩ := h; rw [e1]; exact f_W_sub hs (lp9 1601 n i I' L' h9)), fun _ h => absurd h List.not_mem_nil⟩)) 9 0 tX4_readRow tX4_readRow_ok _ _ _ _ ?_
      refine And.intro hR ?_
      intro I1 L1 hq1
      have hq1 : xR I1 ∧ f_fr [1, 3] I I1 ∧ f_fr [1] L L1 ∧ (I1 3 2).toInt = 0 := hq1
      obtain ⟨c1_0, c1_1, c1_2, c1_3⟩ := hq1
      have hF1 := f_fr_tr hF0 c1_1 rfl
      have hG1 := f_fr_tr hG0 c1_2 rfl
      exact ⟨Int32.ofInt 0, Int32.ofInt 0, (by intro q9 h9; simp only [List.mem_cons, List.not_mem_nil, or_false] at h9; rcases h9 with h9 | h9 | h9 | h9 | h9 <;> subst h9 <;> repeat (first | exact List.mem_cons_self | apply List.mem_cons_of_mem)), rfl, c1_0, hF1, hG1, (show 0 ≤ (0 : Int) from by first | assumption | omega), (show (0 : Int) ≤ 8 from by first | assumption | omega), (show 0 ≤ (0 : Int) from by first | assumption | omega), (show (0 : Int) ≤ 1600 from by first | assumption | omega), (show (1600 - (0 : Int)) < 1601 from by omega)⟩
    -- pat [.ref 3, .ref k, .ref 40]
