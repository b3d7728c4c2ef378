theorem f_w0 {z : Int32} {v q : Int} (h : z.toInt = v + 4294967296 * q) (hl : -2147483648 ≤ z.toInt) (hu : z.toInt ≤ 2147483647) (h1 : -2147483648 ≤ v) (h2 : v ≤ 2147483647) : z.toInt = v := by omega
theorem f_tn (x : Int32) : x.toNatClampNeg = x.toInt.toNat := rfl
def tX1_clear : List (Instr × Nat) := [(.aload_n 0, 1), (.iconst 0, 1), (.putfield 29, 3), (.aload_n 0, 1), (.iconst 0, 1), (.putfield 32, 3), (.aload_n 0, 1), (.iconst (-1), 1), (.putfield 25, 3), (.return_, 1)]
theorem tX1_clear_ok : f_chk cX1_clear 0 tX1_clear = true := by decide +kernel
def pX1_clear (av : List Value) (I : fM) (L : fN) : Prop := match av with
  | [.ref k] => (k = 5 ∨ k = 10) ∧ xR I
  | _ => False
def qX1_clear (av : List Value) (I : fM) (L : fN) (r : Value) (I' : fM) (L' : fN) : Prop := match av, r with
  | [.ref k], .null => xR I' ∧ f_fr [k] I I' ∧ L' = L ∧ (I' k 4).toInt = 0 ∧ (I' k 5).toInt = 0 ∧ (I' k 6).toInt = -1
  | _, _ => False
set_option maxHeartbeats 4000000 in
set_option maxRecDepth 100000 in
theorem mX1_clear {l : Launch} {a : Nat → Nat} {cy dC : Nat → ClassId} {dI : Nat → Nat → Nat} (hinj : ∀ i j, i < 80 → j < 80 → a i = a j → i = j) : f_Met (xE a) l xY 80 a cy dC dI yX1_clear cX1_clear 1 0 0 pX1_clear qX1_clear := by
  refine f_met_of (xE_c a) hinj xY_hi (by decide) (fun av I L h => by unfold pX1_clear at h; split at h <;> first | exact Nat.le_of_ble_eq_true rfl | exact h.elim) ?_
  intro pP eP sP mP aP bP hP9 cP C av I L hp
  unfold pX1_clear at hp
  split at hp
  case h_2 => exact hp.elim
  case h_1 k =>
    obtain ⟨hk, hR⟩ := hp
    refine f_wp_ok C f_cl flX1_ok fiX1_ok fjX1_ok (sn := none) (fun j h => by cases h) (cs := (fun _ => none)) (cz := (fun _ => none)) (fun j S h => by cases h) (fun j S h => by cases h) tX1_clear_ok (cut := (fun _ => none)) (fun t P h => by cases h) 30 0 tX1_clear tX1_clear_ok _ _ _ _ ?_
    rcases hk with rfl | rfl
    all_goals
      refine ⟨xR_f (xR_f (xR_f hR ?_) ?_) ?_, f_fr_up (f_fr_up (f_fr_up f_fr_rf rfl) rfl) rfl, rfl, rfl, rfl, rfl⟩
      · exact ⟨by decide, by decide⟩
      · exact ⟨by decide, by decide⟩
      · exact ⟨by decide, by decide⟩
def jX1_called (k sl : Nat) (nm : Int64) (I0 : fM) (L0 : fN) (n : Nat) (ls : fLs) (st : List Value) (I : fM) (L : fN) : Prop := ∃ (i : Int32), ls = [(3, .int i), (0, .ref k), (1, .long nm)] ∧ st = [] ∧ 0 ≤ i.toInt ∧ i.toInt ≤ (I0 k sl).toInt ∧ (I0 k sl).toInt - i.toInt < n ∧ I = I0 ∧ L = L0
def tX1_kindCalled : List (Instr × Nat) := [(.iconst 0, 1), (.istore_n 3, 1), (.iload_n 3, 1), (.aload_n 0, 1), (.getfield 29, 3), (.if_icmp .ge 22, 3), (.aload_n 0, 1), (.getfield 11, 3), (.iload_n 3, 1), (.laload, 1), (.lload_n 1, 1), (.lcmp, 1), (.ifCond .ne 5, 3), (.iload_n 3, 1), (.ireturn, 1), (.iinc 3 1, 3), (.goto (-24), 3), (.iconst (-1), 1), (.ireturn, 1)]
theorem tX1_kindCalled_ok : f_chk cX1_kindCalled 0 tX1_kindCalled = true := by decide +kernel
def pX1_kindCalled (av : List Value) (I : fM) (L : fN) : Prop := match av with
  | [.ref k, .long nm] => (k = 5 ∨ k = 10) ∧ xR I
  | _ => False
def qX1_kindCalled (av : List Value) (I : fM) (L : fN) (r : Value) (I' : fM) (L' : fN) : Prop := match av, r with
  | [.ref k, .long nm], .int x => I' = I ∧ L' = L ∧ -1 ≤ x.toInt ∧ x.toInt < (I k 4).toInt
  | _, _ => False
set_option maxHeartbeats 4000000 in
set_option maxRecDepth 100000 in
theorem mX1_kindCalled {l : Launch} {a : Nat → Nat} {cy dC : Nat → ClassId} {dI : Nat → Nat → Nat} (hinj : ∀ i j, i < 80 → j < 80 → a i = a j → i = j) : f_Met (xE a) l xY 80 a cy dC dI yX1_kindCalled cX1_kindCalled 4 1 0 pX1_kindCalled qX1_kindCalled := by
  refine f_met_of (xE_c a) hinj xY_hi (by decide) (fun av I L h => by unfold pX1_kindCalled at h; split at h <;> first | exact Nat.le_of_ble_eq_true rfl | exact h.elim) ?_
  intro pP eP sP mP aP bP hP9 cP C av I L hp
  unfold pX1_kindCalled at hp
  split at hp
  case h_2 => exact hp.elim
  case h_1 k nm =>
    obtain ⟨hk, hR⟩ := hp
    have hB : 0 ≤ (I k 4).toInt ∧ (I k 4).toInt ≤ 5 := by rcases hk with rfl | rfl <;> exact hR _ 4
    have lp : ∀ (nn : Nat) (ls' : fLs) (st' : List Value) (I' : fM) (L' : fN), jX1_called k 4 nm I L nn ls' st' I' L' → f_W pP l eP (f_rm 0) sP mP aP bP hP9 cP xY 80 a cy dC dI 4 (f_K 1 (qX1_kindCalled [.ref k, .long nm] I L)) 2 ls' st' I' L' := by
      intro n
      induction n with
      | zero =>
        intro ls' st' I' L' h
        obtain ⟨i, -, -, h1, h2, hm, -⟩ := h
        omega
      | succ n ih =>
        intro ls' st' I' L' h
        obtain ⟨i, rfl, rfl, h1, h2, hm, hI, hL⟩ := h
        refine f_wp_ok C f_cl flX1_ok fiX1_ok fjX1_ok (sn := none) (fun j h => by cases h) (cs := (fun _ => none)) (cz := (fun _ => none)) (fun j S h => by cases h) (fun j S h => by cases h) tX1_kindCalled_ok (cut := (f_cnl [(2, jX1_called k 4 nm I L n)])) (f_cnl_of (P := fun (tQ : Nat) (P : fLs → List Value → fM → fN → Prop) => ∀ ls' st' I' L', P ls' st' I' L' → f_W pP l eP (f_rm 0) sP mP aP bP hP9 cP xY 80 a cy dC dI 4 (f_K 1 (qX1_kindCalled [.ref k, .long nm] I L)) tQ ls' st' I' L') (List.forall_mem_cons.mpr ⟨ih, fun _ h => absurd h List.not_mem_nil⟩)) 40 2 (f_seek 2 0 tX1_kindCalled) (f_seek_ok 2 0 tX1_kindCalled tX1_kindCalled_ok) _ _ _ _ ?_
        rw [hI, hL]
        rcases hk with rfl | rfl
        all_goals
          apply And.intro
          · intro h3
            exact ⟨rfl, rfl, by decide, by show (-1 : Int) < _; omega⟩
          · intro h3
            apply And.intro
            · refine ⟨h1, ?_⟩
              show i.toInt < 5
              omega
            · apply And.intro
              · intro h4
                intro z q hz hq hl hu
                exact ⟨z, rfl, rfl, by omega, by omega, by omega, rfl, rfl⟩
              · intro h4
                exact ⟨rfl, rfl, by omega, h3⟩
    refine f_wp_ok C f_cl flX1_ok fiX1_ok fjX1_ok (sn := none) (fun j h => by cases h) (cs := (fun _ => none)) (cz := (fun _ => none)) (fun j S h => by cases h) (fun j S h => by cases h) tX1_kindCalled_ok (cut := (f_cnl [(2, jX1_called k 4 nm I L 6)])) (f_cnl_of (P := fun (tQ : Nat) (P : fLs → List Value → fM → fN → Prop) => ∀ ls' st' I' L', P ls' st' I' L' → f_W pP l eP (f_rm 0) sP mP aP bP hP9 cP xY 80 a cy dC dI 4 (f_K 1 (qX1_kindCalled [.ref k, .long nm] I L)) tQ ls' st' I' L') (List.forall_mem_cons.mpr ⟨lp 6, fun _ h => absurd h List.not_mem_nil⟩)) 40 0 tX1_kindCalled tX1_kindCalled_ok _ _ _ _ ?_
    exact ⟨Int32.ofInt 0, rfl, rfl, by decide, by show 0 ≤ _; omega, by show _ - 0 < _; omega, rfl, rfl⟩
def tX1_wordCalled : List (Instr × Nat) := [(.iconst 0, 1), (.istore_n 3, 1), (.iload_n 3, 1), (.aload_n 0, 1), (.getfield 32, 3), (.if_icmp .ge 22, 3), (.aload_n 0, 1), (.getfield 15, 3), (.iload_n 3, 1), (.laload, 1), (.lload_n 1, 1), (.lcmp, 1), (.ifCond .ne 5, 3), (.iload_n 3, 1), (.ireturn, 1), (.iinc 3 1, 3), (.goto (-24), 3), (.iconst (-1), 1), (.ireturn, 1)]
theorem tX1_wordCalled_ok : f_chk cX1_wordCalled 0 tX1_wordCalled = true := by decide +kernel
def pX1_wordCalled (av : List Value) (I : fM) (L : fN) : Prop := match av with
  | [.ref k, .long nm] => (k = 5 ∨ k = 10) ∧ xR I
  | _ => False
def qX1_wordCalled (av : List Value) (I : fM) (L : fN) (r : Value) (I' : fM) (L' : fN) : Prop := match av, r with
  | [.ref k, .long nm], .int x => I' = I ∧ L' = L ∧ -1 ≤ x.toInt ∧ x.toInt < (I k 5).toInt
  | _, _ => False
set_option maxHeartbeats 4000000 in
set_option maxRecDepth 100000 in
theorem mX1_wordCalled {l : Launch} {a : Nat → Nat} {cy dC : Nat → ClassId} {dI : Nat → Nat → Nat} (hinj : ∀ i j, i < 80 → j < 80 → a i = a j → i = j) : f_Met (xE a) l xY 80 a cy dC dI yX1_wordCalled cX1_wordCalled 4 1 0 pX1_wordCalled qX1_wordCalled := by
  refine f_met_of (xE_c a) hinj xY_hi (by decide) (fun av I L h => by unfold pX1_wordCalled at h; split at h <;> first | exact Nat.le_of_ble_eq_true rfl | exact h.elim) ?_
  intro pP eP sP mP aP bP hP9 cP C av I L hp
  unfold pX1_wordCalled at hp
  split at hp
  case h_2 => exact hp.elim
  case h_1 k nm =>
    obtain ⟨hk, hR⟩ := hp
    have hB : 0 ≤ (I k 5).toInt ∧ (I k 5).toInt ≤ 12 := by rcases hk with rfl | rfl <;> exact hR _ 5
    have lp : ∀ (nn : Nat) (ls' : fLs) (st' : List Value) (I' : fM) (L' : fN), jX1_called k 5 nm I L nn ls' st' I' L' → f_W pP l eP (f_rm 0) sP mP aP bP hP9 cP xY 80 a cy dC dI 4 (f_K 1 (qX1_wordCalled [.ref k, .long nm] I L)) 2 ls' st' I' L' := by
      intro n
      induction n with
      | zero =>
        intro ls' st' I' L' h
        obtain ⟨i, -, -, h1, h2, hm, -⟩ := h
        omega
      | succ n ih =>
        intro ls' st' I' L' h
        obtain ⟨i, rfl, rfl, h1, h2, hm, hI, hL⟩ := h
        refine f_wp_ok C f_cl flX1_ok fiX1_ok fjX1_ok (sn := none) (fun j h => by cases h) (cs := (fun _ => none)) (cz := (fun _ => none)) (fun j S h => by cases h) (fun j S h => by cases h) tX1_wordCalled_ok (cut := (f_cnl [(2, jX1_called k 5 nm I L n)])) (f_cnl_of (P := fun (tQ : Nat) (P : fLs → List Value → fM → fN → Prop) => ∀ ls' st' I' L', P ls' st' I' L' → f_W pP l eP (f_rm 0) sP mP aP bP hP9 cP xY 80 a cy dC dI 4 (f_K 1 (qX1_wordCalled [.ref k, .long nm] I L)) tQ ls' st' I' L') (List.forall_mem_cons.mpr ⟨ih, fun _ h => absurd h List.not_mem_nil⟩)) 40 2 (f_seek 2 0 tX1_wordCalled) (f_seek_ok 2 0 tX1_wordCalled tX1_wordCalled_ok) _ _ _ _ ?_
        rw [hI, hL]
        rcases hk with rfl | rfl
        all_goals
          apply And.intro
          · intro h3
            exact ⟨rfl, rfl, by decide, by show (-1 : Int) < _; omega⟩
          · intro h3
            apply And.intro
            · refine ⟨h1, ?_⟩
              show i.toInt < 12
              omega
            · apply And.intro
              · intro h4
                intro z q hz hq hl hu
                exact ⟨z, rfl, rfl, by omega, by omega, by omega, rfl, rfl⟩
              · intro h4
                exact ⟨rfl, rfl, by omega, h3⟩
    refine f_wp_ok C f_cl flX1_ok fiX1_ok fjX1_ok (sn := none) (fun j h => by cases h) (cs := (fun _ => none)) (cz := (fun _ => none)) (fun j S h => by cases h) (fun j S h => by cases h) tX1_wordCalled_ok (cut := (f_cnl [(2, jX1_called k 5 nm I L 13)])) (f_cnl_of (P := fun (tQ : Nat) (P : fLs → List Value → fM → fN → Prop) => ∀ ls' st' I' L', P ls' st' I' L' → f_W pP l eP (f_rm 0) sP mP aP bP hP9 cP xY 80 a cy dC dI 4 (f_K 1 (qX1_wordCalled [.ref k, .long nm] I L)) tQ ls' st' I' L') (List.forall_mem_cons.mpr ⟨lp 13, fun _ h => absurd h List.not_mem_nil⟩)) 40 0 tX1_wordCalled tX1_wordCalled_ok _ _ _ _ ?_
    exact ⟨Int32.ofInt 0, rfl, rfl, by decide, by show 0 ≤ _; omega, by show _ - 0 < _; omega, rfl, rfl⟩
def tX1_addKind : List (Instr × Nat) := [(.aload_n 0, 1), (.getfield 29, 3), (.iconst 5, 1), (.if_icmp .ge 23, 3), (.aload_n 0, 1), (.getfield 11, 3), (.aload_n 0, 1), (.getfield 29, 3), (.lload_n 1, 1), (.lastore, 1), (.aload_n 0, 1), (.dup, 1), (.getfield 29, 3), (.iconst 1, 1), (.iadd, 1), (.putfield 29, 3), (.return_, 1)]
theorem tX1_addKind_ok : f_chk cX1_addKind 0 tX1_addKind = true := by decide +kernel
def pX1_addKind (av : List Value) (I : fM) (L : fN) : Prop := match av with
  | [.ref k, .long nm] => (k = 5 ∨ k = 10) ∧ xR I
  | _ => False
def qX1_addKind (av : List Value) (I : fM) (L : fN) (r : Value) (I' : fM) (L' : fN) : Prop := match av, r with
  | [.ref k, .long nm], .null => xR I' ∧ f_fr [k] I I' ∧ f_fr [k + 1] L L' ∧ (I k 4).toInt ≤ (I' k 4).toInt ∧ I' k 5 = I k 5 ∧ I' k 6 = I k 6
  | _, _ => False
set_option maxHeartbeats 4000000 in
set_option maxRecDepth 100000 in
theorem mX1_addKind {l : Launch} {a : Nat → Nat} {cy dC : Nat → ClassId} {dI : Nat → Nat → Nat} (hinj : ∀ i j, i < 80 → j < 80 → a i = a j → i = j) : f_Met (xE a) l xY 80 a cy dC dI yX1_addKind cX1_addKind 3 0 0 pX1_addKind qX1_addKind := by
  refine f_met_of (xE_c a) hinj xY_hi (by decide) (fun av I L h => by unfold pX1_addKind at h; split at h <;> first | exact Nat.le_of_ble_eq_true rfl | exact h.elim) ?_
  intro pP eP sP mP aP bP hP9 cP C av I L hp
  unfold pX1_addKind at hp
  split at hp
  case h_2 => exact hp.elim
  case h_1 k nm =>
    obtain ⟨hk, hR⟩ := hp
    have hB : 0 ≤ (I k 4).toInt ∧ (I k 4).toInt ≤ 5 := by rcases hk with rfl | rfl <;> exact hR _ 4
    refine f_wp_ok C f_cl flX1_ok fiX1_ok fjX1_ok (sn := none) (fun j h => by cases h) (cs := (fun _ => none)) (cz := (fun _ => none)) (fun j S h => by cases h) (fun j S h => by cases h) tX1_addKind_ok (cut := (fun _ => none)) (fun t P h => by cases h) 40 0 tX1_addKind tX1_addKind_ok _ _ _ _ ?_
    rcases hk with rfl | rfl
    all_goals
      apply And.intro
      · intro h1
        exact ⟨hR, f_fr_rf, f_fr_rf, Int.le_refl _, rfl, rfl⟩
      · intro h1
        apply And.intro
        · refine ⟨hB.1, ?_⟩
          simp (disch := omega) only [f_ci, va_up, upd, reduceIte, Nat.reduceEqDiff, xB] at *
          omega
        · intro z q hz hq hl hu
          refine ⟨xR_f hR ?_, f_fr_up f_fr_rf rfl, f_fr_up f_fr_rf rfl, ?_, rfl, rfl⟩
          · simp (disch := omega) only [f_ci, va_up, upd, reduceIte, Nat.reduceEqDiff, xB] at *
            omega
          · simp (disch := omega) only [f_ci, va_up, upd, reduceIte, Nat.reduceEqDiff, xB] at *
            omega
def tX1_addWord : List (Instr × Nat) := [(.aload_n 0, 1), (.getfield 32, 3), (.bipush 12, 2), (.if_icmp .ge 33, 3), (.aload_n 0, 1), (.getfield 15, 3), (.aload_n 0, 1), (.getfield 32, 3), (.lload_n 1, 1), (.lastore, 1), (.aload_n 0, 1), (.getfield 18, 3), (.aload_n 0, 1), (.getfield 32, 3), (.iconst 0, 1), (.iastore, 1), (.aload_n 0, 1), (.dup, 1), (.getfield 32, 3), (.iconst 1, 1), (.iadd, 1), (.putfield 32, 3), (.return_, 1)]
theorem tX1_addWord_ok : f_chk cX1_addWord 0 tX1_addWord = true := by decide +kernel
def pX1_addWord (av : List Value) (I : fM) (L : fN) : Prop := match av with
  | [.ref k, .long nm] => (k = 5 ∨ k = 10) ∧ xR I ∧ (I k 5).toInt < 12
  | _ => False
def qX1_addWord (av : List Value) (I : fM) (L : fN) (r : Value) (I' : fM) (L' : fN) : Prop := match av, r with
  | [.ref k, .long nm], .null => xR I' ∧ f_fr [k, k + 3] I I' ∧ f_fr [k + 2] L L' ∧ (I' k 5).toInt = (I k 5).toInt + 1 ∧ I' (k + 3) = upd (I (k + 3)) (I k 5).toNatClampNeg 0 ∧ I' k 4 = I k 4 ∧ I' k 6 = I k 6
  | _, _ => False
set_option maxHeartbeats 4000000 in
set_option maxRecDepth 100000 in
theorem mX1_addWord {l : Launch} {a : Nat → Nat} {cy dC : Nat → ClassId} {dI : Nat → Nat → Nat} (hinj : ∀ i j, i < 80 → j < 80 → a i = a j → i = j) : f_Met (xE a) l xY 80 a cy dC dI yX1_addWord cX1_addWord 3 0 0 pX1_addWord qX1_addWord := by
  refine f_met_of (xE_c a) hinj xY_hi (by decide) (fun av I L h => by unfold pX1_addWord at h; split at h <;> first | exact Nat.le_of_ble_eq_true rfl | exact h.elim) ?_
  intro pP eP sP mP aP bP hP9 cP C av I L hp
  unfold pX1_addWord at hp
  split at hp
  case h_2 => exact hp.elim
  case h_1 k nm =>
    obtain ⟨hk, hR, h12⟩ := hp
    have hB : 0 ≤ (I k 5).toInt ∧ (I k 5).toInt ≤ 12 := by rcases hk with rfl | rfl <;> exact hR _ 5
    refine f_wp_ok C f_cl flX1_ok fiX1_ok fjX1_ok (sn := none) (fun j h => by cases h) (cs := (fun _ => none)) (cz := (fun _ => none)) (fun j S h => by cases h) (fun j S h => by cases h) tX1_addWord_ok (cut := (fun _ => none)) (fun t P h => by cases h) 40 0 tX1_addWord tX1_addWord_ok _ _ _ _ ?_
    rcases hk with rfl | rfl
    all_goals
      apply And.intro
      · intro h1
        exfalso
        simp (disch := omega) only [f_ci, va_up, upd, reduceIte, Nat.reduceEqDiff, xB] at *
        omega
      · intro h1
        apply And.intro
        · refine ⟨hB.1, h12⟩
        · apply And.intro
          · refine ⟨hB.1, h12⟩
          · intro z q hz hq hl hu
            refine ⟨xR_f (xR_a hR ⟨(by first | (simp (disch := omega) only [xB, f_ci] at *; omega) | (simp (disch := omega) only [xB, f_ci]; done) | decide), (by first | (simp (disch := omega) only [xB, f_ci] at *; omega) | (simp (disch := omega) only [xB, f_ci]; done) | decide)⟩) ?_, f_fr_up (f_fr_up f_fr_rf rfl) rfl, f_fr_up f_fr_rf rfl, ?_, rfl, rfl, rfl⟩
            · simp (disch := omega) only [f_ci, va_up, upd, reduceIte, Nat.reduceEqDiff, xB] at *
              omega
            · simp (disch := omega) only [f_ci, va_up, upd, reduceIte, Nat.reduceEqDiff, xB] at *
              omega
def tX1_hasRoomForTag : List (Instr × Nat) := [(.aload_n 0, 1), (.getfield 32, 3), (.ifCond .le 22, 3), (.aload_n 0, 1), (.getfield 18, 3), (.aload_n 0, 1), (.getfield 32, 3), (.iconst 1, 1), (.isub, 1), (.iaload, 1), (.iconst 3, 1), (.if_icmp .ge 7, 3), (.iconst 1, 1), (.goto 4, 3), (.iconst 0, 1), (.ireturn, 1)]
theorem tX1_hasRoomForTag_ok : f_chk cX1_hasRoomForTag 0 tX1_hasRoomForTag = true := by decide +kernel
def pX1_hasRoomForTag (av : List Value) (I : fM) (L : fN) : Prop := match av with
  | [.ref k] => (k = 5 ∨ k = 10) ∧ xR I
  | _ => False
def qX1_hasRoomForTag (av : List Value) (I : fM) (L : fN) (r : Value) (I' : fM) (L' : fN) : Prop := match av, r with
  | [.ref k], .int x => I' = I ∧ L' = L ∧ (x.toInt = 1 ∧ 0 < (I k 5).toInt ∧ (I (k + 3) ((I k 5).toInt - 1).toNat).toInt < 3 ∨ x.toInt = 0 ∧ ((I k 5).toInt ≤ 0 ∨ 3 ≤ (I (k + 3) ((I k 5).toInt - 1).toNat).toInt))
  | _, _ => False
set_option maxHeartbeats 4000000 in
set_option maxRecDepth 100000 in
theorem mX1_hasRoomForTag {l : Launch} {a : Nat → Nat} {cy dC : Nat → ClassId} {dI : Nat → Nat → Nat} (hinj : ∀ i j, i < 80 → j < 80 → a i = a j → i = j) : f_Met (xE a) l xY 80 a cy dC dI yX1_hasRoomForTag cX1_hasRoomForTag 1 3 0 pX1_hasRoomForTag qX1_hasRoomForTag := by
  refine f_met_of (xE_c a) hinj xY_hi (by decide) (fun av I L h => by unfold pX1_hasRoomForTag at h; split at h <;> first | exact Nat.le_of_ble_eq_true rfl | exact h.elim) ?_
  intro pP eP sP mP aP bP hP9 cP C av I L hp
  unfold pX1_hasRoomForTag at hp
  split at hp
  case h_2 => exact hp.elim
  case h_1 k =>
    obtain ⟨hk, hR⟩ := hp
    have hB : 0 ≤ (I k 5).toInt ∧ (I k 5).toInt ≤ 12 := by rcases hk with rfl | rfl <;> exact hR _ 5
    have key : ∀ (z : Int32) (q : Int), z.toInt = (I k 5).toInt - (Int32.ofInt 1).toInt + 4294967296 * q → -2147483648 ≤ z.toInt → z.toInt ≤ 2147483647 → z.toInt = (I k 5).toInt - 1 := by
      intro z q h1 h2 h3
      rw [f_ci (by omega) (by omega)] at h1
      omega
    refine f_wp_ok C f_cl flX1_ok fiX1_ok fjX1_ok (sn := none) (fun j h => by cases h) (cs := (fun _ => none)) (cz := (fun _ => none)) (fun j S h => by cases h) (fun j S h => by cases h) tX1_hasRoomForTag_ok (cut := (fun _ => none)) (fun t P h => by cases h) 40 0 tX1_hasRoomForTag tX1_hasRoomForTag_ok _ _ _ _ ?_
    rcases hk with rfl | rfl
    all_goals
      apply And.intro
      · intro h1
        exact ⟨Or.inl rfl, rfl, rfl, Or.inr ⟨rfl, Or.inl h1⟩⟩
      · intro h1
        intro z q hz hq hl hu
        have hz' := key z q hq hl hu
        have ez := (f_tn z).trans (congrArg Int.toNat hz')
        apply And.intro
        · refine ⟨?_, ?_⟩
          · simp (disch := omega) only [f_ci, va_up, upd, reduceIte, Nat.reduceEqDiff, xB] at *
            omega
          · show z.toInt < 12
            omega
        · rw [ez]
          apply And.intro
          · intro h2
            exact ⟨Or.inl rfl, rfl, rfl, Or.inr ⟨rfl, Or.inr h2⟩⟩
          · intro h2
            exact ⟨Or.inr rfl, rfl, rfl, Or.inl ⟨rfl, h1, h2⟩⟩
def tX1_tagAt : List (Instr × Nat) := [(.aload_n 0, 1), (.getfield 22, 3), (.iload_n 1, 1), (.iconst 3, 1), (.imul, 1), (.iload_n 2, 1), (.iadd, 1), (.iaload, 1), (.ireturn, 1)]
theorem tX1_tagAt_ok : f_chk cX1_tagAt 0 tX1_tagAt = true := by decide +kernel
def pX1_tagAt (av : List Value) (I : fM) (L : fN) : Prop := match av with
  | [.ref k, .int w, .int t] => (k = 5 ∨ k = 10) ∧ xR I ∧ 0 ≤ w.toInt ∧ w.toInt ≤ 11 ∧ 0 ≤ t.toInt ∧ t.toInt ≤ 2
  | _ => False
def qX1_tagAt (av : List Value) (I : fM) (L : fN) (r : Value) (I' : fM) (L' : fN) : Prop := match av, r with
  | [.ref k, .int w, .int t], .int x => I' = I ∧ L' = L ∧ x = I (k + 4) (3 * w.toInt + t.toInt).toNat
  | _, _ => False
set_option maxHeartbeats 4000000 in
set_option maxRecDepth 100000 in
theorem mX1_tagAt {l : Launch} {a : Nat → Nat} {cy dC : Nat → ClassId} {dI : Nat → Nat → Nat} (hinj : ∀ i j, i < 80 → j < 80 → a i = a j → i = j) : f_Met (xE a) l xY 80 a cy dC dI yX1_tagAt cX1_tagAt 3 1 0 pX1_tagAt qX1_tagAt := by
  refine f_met_of (xE_c a) hinj xY_hi (by decide) (fun av I L h => by unfold pX1_tagAt at h; split at h <;> first | exact Nat.le_of_ble_eq_true rfl | exact h.elim) ?_
  intro pP eP sP mP aP bP hP9 cP C av I L hp
  unfold pX1_tagAt at hp
  split at hp
  case h_2 => exact hp.elim
  case h_1 k w t =>
    obtain ⟨hk, hR, h1, h2, h3, h4⟩ := hp
    refine f_wp_ok C f_cl flX1_ok fiX1_ok fjX1_ok (sn := none) (fun j h => by cases h) (cs := (fun _ => none)) (cz := (fun _ => none)) (fun j S h => by cases h) (fun j S h => by cases h) tX1_tagAt_ok (cut := (fun _ => none)) (fun t P h => by cases h) 40 0 tX1_tagAt tX1_tagAt_ok _ _ _ _ ?_
    rcases hk with rfl | rfl
    all_goals
      intro z q hz hq hl hu
      intro z2 q2 hz2 hq2 hl2 hu2
      rw [f_ci (by omega) (by omega)] at hq
      have e : z2.toInt = 3 * w.toInt + t.toInt := by omega
      apply And.intro
      · refine ⟨by omega, ?_⟩
        show z2.toInt < 36
        omega
      · refine ⟨rfl, rfl, ?_⟩
        rw [← e]
        rfl
def tX1_addTag : List (Instr × Nat) := [(.aload_n 0, 1), (.invokevirtual 35, 3), (.ifCond .eq 36, 3), (.aload_n 0, 1), (.getfield 32, 3), (.iconst 1, 1), (.isub, 1), (.istore_n 2, 1), (.aload_n 0, 1), (.getfield 22, 3), (.iload_n 2, 1), (.iconst 3, 1), (.imul, 1), (.aload_n 0, 1), (.getfield 18, 3), (.iload_n 2, 1), (.iaload, 1), (.iadd, 1), (.iload_n 1, 1), (.iastore, 1), (.aload_n 0, 1), (.getfield 18, 3), (.iload_n 2, 1), (.dup2, 1), (.iaload, 1), (.iconst 1, 1), (.iadd, 1), (.iastore, 1), (.return_, 1)]
theorem tX1_addTag_ok : f_chk cX1_addTag 0 tX1_addTag = true := by decide +kernel
def pX1_addTag (av : List Value) (I : fM) (L : fN) : Prop := match av with
  | [.ref k, .int g] => (k = 5 ∨ k = 10) ∧ xR I
  | _ => False
def qX1_addTag (av : List Value) (I : fM) (L : fN) (r : Value) (I' : fM) (L' : fN) : Prop := match av, r with
  | [.ref k, .int g], .null => xR I' ∧ f_fr [k + 3, k + 4] I I' ∧ L' = L ∧ ((0 < (I k 5).toInt ∧ (I (k + 3) ((I k 5).toInt - 1).toNat).toInt < 3 ∧ I' (k + 4) = upd (I (k + 4)) (3 * ((I k 5).toInt - 1) + (I (k + 3) ((I k 5).toInt - 1).toNat).toInt).toNat g ∧ (∃ z : Int32, z.toInt = (I (k + 3) ((I k 5).toInt - 1).toNat).toInt + 1 ∧ I' (k + 3) = upd (I (k + 3)) ((I k 5).toInt - 1).toNat z)) ∨ (((I k 5).toInt ≤ 0 ∨ 3 ≤ (I (k + 3) ((I k 5).toInt - 1).toNat).toInt) ∧ I' = I))
  | _, _ => False
set_option maxHeartbeats 4000000 in
set_option maxRecDepth 100000 in
theorem mX1_addTag {l : Launch} {a : Nat → Nat} {cy dC : Nat → ClassId} {dI : Nat → Nat → Nat} (hinj : ∀ i j, i < 80 → j < 80 → a i = a j → i = j) : f_Met (xE a) l xY 80 a cy dC dI yX1_addTag cX1_addTag 3 0 1 pX1_addTag qX1_addTag := by
  refine f_met_of (xE_c a) hinj xY_hi (by decide) (fun av I L h => by unfold pX1_addTag at h; split at h <;> first | exact Nat.le_of_ble_eq_true rfl | exact h.elim) ?_
  intro pP eP sP mP aP bP hP9 cP C av I L hp
  unfold pX1_addTag at hp
  split at hp
  case h_2 => exact hp.elim
  case h_1 k g =>
    obtain ⟨hk, hR⟩ := hp
    have hB : 0 ≤ (I k 5).toInt ∧ (I k 5).toInt ≤ 12 := by rcases hk with rfl | rfl <;> exact hR _ 5
    have hB3 : ∀ j, 0 ≤ (I (k + 3) j).toInt ∧ (I (k + 3) j).toInt ≤ 3 := by intro j; rcases hk with rfl | rfl <;> exact hR _ j
    have key : ∀ (z : Int32) (q : Int), z.toInt = (I k 5).toInt - (Int32.ofInt 1).toInt + 4294967296 * q → -2147483648 ≤ z.toInt → z.toInt ≤ 2147483647 → z.toInt = (I k 5).toInt - 1 := by
      intro z q h1 h2 h3
      rw [f_ci (by omega) (by omega)] at h1
      omega
    refine f_wp_ok C f_cl flX1_ok fiX1_ok fjX1_ok (sn := none) (fun j h => by cases h) (cs := (f_cnl [(35, (1, 3, 1, pX1_hasRoomForTag, qX1_hasRoomForTag))])) (cz := (fun _ => none)) (f_cnl_of (P := fun j S => f_cok pP l eP (f_rm 1) sP mP aP bP hP9 cP xY 80 a cy dC dI 3 _ _ (.invokevirtual j) true S) (List.forall_mem_cons.mpr ⟨f_cokV C (mX1_hasRoomForTag hinj) (ci := 1) rfl (List.forall_mem_cons.mpr ⟨(mlX1_ok _ (List.mem_of_getElem? (i := 0) rfl)), kc_X1_hasRoomForTag⟩) (by decide +kernel) ⟨Nat.le_of_ble_eq_true rfl, Nat.le_of_ble_eq_true rfl⟩, fun _ h => absurd h List.not_mem_nil⟩)) (fun j S h => by cases h) tX1_addTag_ok (cut := (fun _ => none)) (fun t P h => by cases h) 60 0 tX1_addTag tX1_addTag_ok _ _ _ _ ?_
    rcases hk with rfl | rfl
    all_goals
      apply And.intro
      · exact ⟨by first | exact Or.inl rfl | exact Or.inr rfl, hR⟩
      · intro x I1 L1 hq
        obtain ⟨rfl, rfl, hx⟩ := hq
        apply And.intro
        · intro h1
          refine ⟨hR, f_fr_rf, rfl, Or.inr ⟨?_, rfl⟩⟩
          rcases hx with ⟨hx, -⟩ | ⟨-, hx⟩
          · omega
          · exact hx
        · intro h1
          rcases hx with ⟨hx, hw, ht⟩ | ⟨hx, -⟩
          · intro z q hz hq hl hu
            have hz' := key z q hq hl hu
            have ez := (f_tn z).trans (congrArg Int.toNat hz')
            have hj := hB3 z.toNatClampNeg
            have ht2 := ht
            rw [← ez] at ht2
            intro z2 q2 hz2 hq2 hl2 hu2
            rw [f_ci (by omega) (by omega)] at hq2
            have e2 : z2.toInt = 3 * z.toInt := by omega
            have g0 : f_in z 12 := ⟨by omega, by show z.toInt < 12; omega⟩
            refine And.intro g0 ?_
            intro z3 q3 hz3 hq3 hl3 hu3
            have hj3 := hB3 z.toNatClampNeg
            simp only [Nat.reduceAdd] at hq3 hj3 ht2
            have e3 := f_w0 hq3 hl3 hu3 (by omega) (by omega)
            rw [e2] at e3
            refine And.intro ⟨by omega, by show z3.toInt < 36; omega⟩ ?_
            refine And.intro g0 ?_
            intro z4 q4 hz4 hq4 hl4 hu4
            simp (disch := omega) only [va_up, Nat.reduceEqDiff, reduceIte, f_ci] at hq4
            refine And.intro g0 ?_
            refine ⟨xR_a (xR_a hR (by exact f_rng _)) ⟨by show 0 ≤ z4.toInt; omega, by show z4.toInt ≤ 3; omega⟩, f_fr_up (f_fr_up f_fr_rf rfl) rfl, rfl, Or.inl ⟨hw, ht, ?_, z4, ?_, ?_⟩⟩
            · rw [← hz', ← f_tn]
              simp only [Nat.reduceAdd]
              rw [← e3]
              rfl
            · rw [← ez]
              simp only [Nat.reduceAdd]
              omega
            · rw [← ez]
              rfl
          · omega
