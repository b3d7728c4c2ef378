theorem xR_c {I : fM} (h : xR I) {ks kd : Nat} {sp dp n : Nat} (h1 : ∀ j j', (xB kd j).1 ≤ (xB ks j').1 ∧ (xB ks j').2 ≤ (xB kd j).2) : xR (va_up I kd (va_cpy (I ks) (I kd) sp dp n)) := by
  intro k' j'
  by_cases e : k' = kd
  · subst e
    rw [va_up_self]
    unfold va_cpy
    split
    · have q := h ks (sp + (j' - dp))
      have r := h1 j' (sp + (j' - dp))
      exact ⟨Int.le_trans r.1 q.1, Int.le_trans q.2 r.2⟩
    · exact h k' j'
  · rw [va_up_ne _ _ e]; exact h k' j'
def tX2_clear : List (Instr × Nat) := [(.aload_n 0, 1), (.iconst 0, 1), (.putfield 31, 3), (.aload_n 0, 1), (.iconst 0, 1), (.putfield 35, 3), (.return_, 1)]
theorem tX2_clear_ok : f_chk cX2_clear 0 tX2_clear = true := by decide +kernel
def pX2_clear (av : List Value) (I : fM) (L : fN) : Prop := match av with
  | [.ref 40] => xR I
  | _ => False
def qX2_clear (av : List Value) (I : fM) (L : fN) (r : Value) (I' : fM) (L' : fN) : Prop := match av, r with
  | [.ref 40], .null => xR I' ∧ f_fr [40] I I' ∧ L' = L ∧ (I' 40 6).toInt = 0 ∧ (I' 40 7).toInt = 0 ∧ I' 40 8 = I 40 8
  | _, _ => False
set_option maxHeartbeats 4000000 in
set_option maxRecDepth 100000 in
theorem mX2_clear {l : Launch} {a : Nat → Nat} {cy dC : Nat → ClassId} {dI : Nat → Nat → Nat} (hinj : ∀ i j, i < 80 → j < 80 → a i = a j → i = j) : f_Met (xE a) l xY 80 a cy dC dI yX2_clear cX2_clear 1 0 0 pX2_clear qX2_clear := by
  refine f_met_of (xE_c a) hinj xY_hi (by decide) (fun av I L h => by unfold pX2_clear at h; split at h <;> first | exact Nat.le_of_ble_eq_true rfl | exact h.elim) ?_
  intro pP eP sP mP aP bP hP9 cP C av I L hp
  unfold pX2_clear at hp
  split at hp
  case h_2 => exact hp.elim
  case h_1 =>
    refine f_wp_ok C f_cl flX2_ok fiX2_ok fjX2_ok (sn := none) (fun j h => by cases h) (cs := (fun _ => none)) (cz := (fun _ => none)) (fun j S h => by cases h) (fun j S h => by cases h) tX2_clear_ok (cut := (fun _ => none)) (fun t P h => by cases h) 20 0 tX2_clear tX2_clear_ok _ _ _ _ ?_
    exact ⟨xR_f (xR_f hp ⟨(by first | (simp (disch := omega) only [xB, f_ci] at *; omega) | (simp (disch := omega) only [xB, f_ci]; done) | decide), (by first | (simp (disch := omega) only [xB, f_ci] at *; omega) | (simp (disch := omega) only [xB, f_ci]; done) | decide)⟩) ⟨(by first | (simp (disch := omega) only [xB, f_ci] at *; omega) | (simp (disch := omega) only [xB, f_ci]; done) | decide), (by first | (simp (disch := omega) only [xB, f_ci] at *; omega) | (simp (disch := omega) only [xB, f_ci]; done) | decide)⟩, f_fr_up (f_fr_up f_fr_rf rfl) rfl, rfl, rfl, rfl, rfl⟩
def tX2_setRow : List (Instr × Nat) := [(.aload_n 0, 1), (.iload_n 2, 1), (.bipush 8, 2), (.invokestatic 38, 3), (.putfield 31, 3), (.aload_n 1, 1), (.iconst 0, 1), (.aload_n 0, 1), (.getfield 11, 3), (.iconst 0, 1), (.aload_n 0, 1), (.getfield 31, 3), (.invokestatic 44, 3), (.return_, 1)]
theorem tX2_setRow_ok : f_chk cX2_setRow 0 tX2_setRow = true := by decide +kernel
def pX2_setRow (av : List Value) (I : fM) (L : fN) : Prop := match av with
  | [.ref 40, .ref 4, .int n] => xR I ∧ 0 ≤ n.toInt ∧ n.toInt ≤ 8
  | _ => False
def qX2_setRow (av : List Value) (I : fM) (L : fN) (r : Value) (I' : fM) (L' : fN) : Prop := match av, r with
  | [.ref 40, .ref 4, .int n], .null => xR I' ∧ f_fr [40, 41] I I' ∧ L' = L ∧ (I' 40 6).toInt = n.toInt ∧ I' 40 7 = I 40 7 ∧ I' 40 8 = I 40 8 ∧ ∀ j : Nat, (j : Int) < n.toInt → I' 41 j = I 4 j
  | _, _ => False
set_option maxHeartbeats 4000000 in
set_option maxRecDepth 100000 in
theorem mX2_setRow {l : Launch} {a : Nat → Nat} {cy dC : Nat → ClassId} {dI : Nat → Nat → Nat} (hinj : ∀ i j, i < 80 → j < 80 → a i = a j → i = j) : f_Met (xE a) l xY 80 a cy dC dI yX2_setRow cX2_setRow 3 0 1 pX2_setRow qX2_setRow := by
  refine f_met_of (xE_c a) hinj xY_hi (by decide) (fun av I L h => by unfold pX2_setRow at h; split at h <;> first | exact Nat.le_of_ble_eq_true rfl | exact h.elim) ?_
  intro pP eP sP mP aP bP hP9 cP C av I L hp
  unfold pX2_setRow at hp
  split at hp
  case h_2 => exact hp.elim
  case h_1 n =>
    obtain ⟨hR, h0, h8⟩ := hp
    refine f_wp_ok C f_cl flX2_ok fiX2_ok fjX2_ok (sn := none) (fun j h => by cases h) (cs := (fun _ => none)) (cz := (f_cnl [(38, (2, 1, 0, pJ9_min_7cf53, qJ9_min_7cf53)), (44, (5, 0, 99, p_copy xY, q_copy xY))])) (fun j S h => by cases h) (f_cnl_of (P := fun j S => f_cok pP l eP (f_rm 1) sP mP aP bP hP9 cP xY 80 a cy dC dI 3 _ _ (.invokestatic j) false S) (List.forall_mem_cons.mpr ⟨f_cokMin C (mlX2_ok _ (List.mem_of_getElem? (i := 0) rfl)) ⟨Nat.le_of_ble_eq_true rfl, Nat.le_of_ble_eq_true rfl⟩, List.forall_mem_cons.mpr ⟨f_cokC C mlX2_copy kc_copy ⟨Nat.le_of_ble_eq_true rfl, Nat.le_of_ble_eq_true rfl⟩, fun _ h => absurd h List.not_mem_nil⟩⟩)) tX2_setRow_ok (cut := (fun _ => none)) (fun t P h => by cases h) 40 0 tX2_setRow tX2_setRow_ok _ _ _ _ ?_
    apply And.intro
    · trivial
    · intro x I1 L1 hq
      obtain ⟨rfl, rfl, hx, hx1, hx2⟩ := hq
      have ex : x.toInt = n.toInt := by
        rcases hx with rfl | rfl
        · rfl
        · rw [f_ci (by omega) (by omega)] at hx1 hx2 ⊢
          omega
      apply And.intro
      · exact ⟨0, 8, 8, Or.inl rfl, rfl, rfl, by decide, by decide, by show 0 ≤ x.toInt; omega, by show 0 + x.toInt ≤ 8; omega, by show 0 + x.toInt ≤ 8; omega⟩
      · intro I2 L2 hq
        obtain ⟨rfl, rfl⟩ := hq
        refine ⟨xR_c (xR_f hR ⟨by show 0 ≤ x.toInt; omega, by show x.toInt ≤ 8; omega⟩) (fun j j' => ⟨Int.le_refl _, Int.le_refl _⟩), f_fr_up (f_fr_up f_fr_rf rfl) rfl, rfl, ex, rfl, rfl, fun j hj => ?_⟩
        show va_cpy (I1 4) (I1 41) 0 0 x.toNatClampNeg j = _
        rw [pk_cpy_in (Nat.zero_le _) (by rw [f_tn]; omega)]
        congr 1
        omega
def tX2_tell : List (Instr × Nat) := [(.aload_n 0, 1), (.getfield 31, 3), (.iconst 1, 1), (.if_icmp .lt 21, 3), (.aload_n 0, 1), (.getfield 31, 3), (.bipush 6, 2), (.if_icmp .gt 12, 3), (.aload_n 0, 1), (.getfield 35, 3), (.bipush 12, 2), (.if_icmp .lt 5, 3), (.iconst (-1), 1), (.ireturn, 1), (.aload_n 0, 1), (.getfield 35, 3), (.istore_n 3, 1), (.aload_n 0, 1), (.getfield 11, 3), (.iconst 0, 1), (.aload_n 0, 1), (.getfield 15, 3), (.iload_n 3, 1), (.bipush 6, 2), (.imul, 1), (.aload_n 0, 1), (.getfield 31, 3), (.invokestatic 44, 3), (.aload_n 0, 1), (.getfield 18, 3), (.iload_n 3, 1), (.aload_n 0, 1), (.getfield 31, 3), (.iastore, 1), (.aload_n 0, 1), (.getfield 21, 3), (.iload_n 3, 1), (.iload_n 1, 1), (.ifCond .eq 7, 3), (.iconst 1, 1), (.goto 4, 3), (.iconst 0, 1), (.iastore, 1), (.aload_n 0, 1), (.getfield 24, 3), (.iload_n 3, 1), (.iload_n 2, 1), (.i2l, 1), (.lastore, 1), (.aload_n 0, 1), (.getfield 28, 3), (.iload_n 3, 1), (.ldc2_w 50, 3), (.lastore, 1), (.aload_n 0, 1), (.dup, 1), (.getfield 35, 3), (.iconst 1, 1), (.iadd, 1), (.putfield 35, 3), (.iload_n 3, 1), (.ireturn, 1)]
theorem tX2_tell_ok : f_chk cX2_tell 0 tX2_tell = true := by decide +kernel
def pX2_tell (av : List Value) (I : fM) (L : fN) : Prop := match av with
  | [.ref 40, .int r, .int t] => xR I
  | _ => False
def qX2_tell (av : List Value) (I : fM) (L : fN) (r : Value) (I' : fM) (L' : fN) : Prop := match av, r with
  | [.ref 40, .int r, .int t], .int x => xR I' ∧ f_fr [40, 42, 43, 44] I I' ∧ f_fr [45, 46] L L' ∧ I' 40 6 = I 40 6 ∧ I' 40 8 = I 40 8 ∧ (I' = I ∨ (1 ≤ (I 40 6).toInt ∧ (I 40 6).toInt ≤ 6 ∧ (I 40 7).toInt < 12 ∧ (I' 40 7).toInt = (I 40 7).toInt + 1 ∧ I' 43 = upd (I 43) (I 40 7).toNatClampNeg (I 40 6) ∧ I' 42 = va_cpy (I 41) (I 42) 0 (6 * (I 40 7).toInt).toNat (I 40 6).toNatClampNeg))
  | _, _ => False
set_option maxHeartbeats 4000000 in
set_option maxRecDepth 100000 in
theorem mX2_tell {l : Launch} {a : Nat → Nat} {cy dC : Nat → ClassId} {dI : Nat → Nat → Nat} (hinj : ∀ i j, i < 80 → j < 80 → a i = a j → i = j) : f_Met (xE a) l xY 80 a cy dC dI yX2_tell cX2_tell 4 1 1 pX2_tell qX2_tell := by
  refine f_met_of (xE_c a) hinj xY_hi (by decide) (fun av I L h => by unfold pX2_tell at h; split at h <;> first | exact Nat.le_of_ble_eq_true rfl | exact h.elim) ?_
  intro pP eP sP mP aP bP hP9 cP C av I L hp
  unfold pX2_tell at hp
  split at hp
  case h_2 => exact hp.elim
  case h_1 r t =>
    have h6 : 0 ≤ (I 40 6).toInt ∧ (I 40 6).toInt ≤ 8 := hp 40 6
    have h7 : 0 ≤ (I 40 7).toInt ∧ (I 40 7).toInt ≤ 12 := hp 40 7
    refine f_wp_ok C f_cl flX2_ok fiX2_ok fjX2_ok (sn := none) (fun j h => by cases h) (cs := (fun _ => none)) (cz := (f_cnl [(44, (5, 0, 99, p_copy xY, q_copy xY))])) (fun j S h => by cases h) (f_cnl_of (P := fun j S => f_cok pP l eP (f_rm 1) sP mP aP bP hP9 cP xY 80 a cy dC dI 4 _ _ (.invokestatic j) false S) (List.forall_mem_cons.mpr ⟨f_cokC C mlX2_copy kc_copy ⟨Nat.le_of_ble_eq_true rfl, Nat.le_of_ble_eq_true rfl⟩, fun _ h => absurd h List.not_mem_nil⟩)) tX2_tell_ok (cut := (fun _ => none)) (fun t P h => by cases h) 90 0 tX2_tell tX2_tell_ok _ _ _ _ ?_
    apply And.intro
    · intro h1
      exact ⟨hp, f_fr_rf, f_fr_rf, rfl, rfl, Or.inl rfl⟩
    · intro h1
      rw [f_ci (by omega) (by omega)] at h1
      apply And.intro
      · intro h2
        exact ⟨hp, f_fr_rf, f_fr_rf, rfl, rfl, Or.inl rfl⟩
      · intro h2
        rw [f_ci (by omega) (by omega)] at h2
        apply And.intro
        · intro h3
          rw [f_ci (by omega) (by omega)] at h3
          intro z q hz hq hl hu
          rw [f_ci (by omega) (by omega)] at hq
          have ez : z.toInt = 6 * (I 40 7).toInt := by omega
          apply And.intro
          · exact ⟨0, 8, 72, Or.inl rfl, rfl, rfl, by decide, by show 0 ≤ z.toInt; omega, h6.1, by show 0 + (I 40 6).toInt ≤ 8; omega, by show z.toInt + (I 40 6).toInt ≤ 72; omega⟩
          · intro I2 L2 hq2
            obtain ⟨rfl, rfl⟩ := hq2
            have gx : f_in (I 40 7) 12 := ⟨h7.1, h3⟩
            refine And.intro gx ?_
            have fin : ∀ (b : Int32), (xB 44 0).1 ≤ b.toInt ∧ b.toInt ≤ (xB 44 0).2 → ∀ (z2 : Int32) (q2 : Int), z2.toInt = (I 40 7).toInt + (Int32.ofInt 1).toInt + 4294967296 * q2 → -2147483648 ≤ z2.toInt → z2.toInt ≤ 2147483647 → z2.toInt = (I 40 7).toInt + 1 := by
              intro b hb z2 q2 e1 e2 e3
              rw [f_ci (by omega) (by omega)] at e1
              omega
            apply And.intro
            all_goals
              intro h4
              refine And.intro gx ?_
              refine And.intro gx ?_
              refine And.intro gx ?_
              intro z2 q2 hz2 hq2 hl2 hu2
              have e2 := fin 0 ⟨by decide, by decide⟩ z2 q2 hq2 hl2 hu2
              refine ⟨?_, f_fr_up (f_fr_up (f_fr_up (f_fr_up f_fr_rf rfl) rfl) rfl) rfl, f_fr_up (f_fr_up f_fr_rf rfl) rfl, rfl, rfl, Or.inr ⟨h1, h2, h3, e2, rfl, ?_⟩⟩
              · refine xR_f (xR_a (xR_a (xR_c hp (fun j j' => ⟨Int.le_refl _, Int.le_refl _⟩)) ?_) ?_) ?_
                · exact ⟨h6.1, h2⟩
                · exact f_rng _
                · exact ⟨by show 0 ≤ z2.toInt; omega, by show z2.toInt ≤ 12; omega⟩
              · show va_cpy (I 41) (I 42) 0 z.toNatClampNeg (I 40 6).toNatClampNeg = _
                rw [f_tn z, ez]
        · intro h3
          exact ⟨hp, f_fr_rf, f_fr_rf, rfl, rfl, Or.inl rfl⟩
def tX2_takeBack : List (Instr × Nat) := [(.iload_n 1, 1), (.ifCond .lt 24, 3), (.iload_n 1, 1), (.aload_n 0, 1), (.getfield 35, 3), (.if_icmp .ge 16, 3), (.aload_n 0, 1), (.getfield 28, 3), (.iload_n 1, 1), (.laload, 1), (.ldc2_w 50, 3), (.lcmp, 1), (.ifCond .eq 5, 3), (.iconst 0, 1), (.ireturn, 1), (.aload_n 0, 1), (.getfield 28, 3), (.iload_n 1, 1), (.iload_n 2, 1), (.i2l, 1), (.lastore, 1), (.iconst 1, 1), (.ireturn, 1)]
theorem tX2_takeBack_ok : f_chk cX2_takeBack 0 tX2_takeBack = true := by decide +kernel
def pX2_takeBack (av : List Value) (I : fM) (L : fN) : Prop := match av with
  | [.ref 40, .int n, .int t] => xR I
  | _ => False
def qX2_takeBack (av : List Value) (I : fM) (L : fN) (r : Value) (I' : fM) (L' : fN) : Prop := match av, r with
  | [.ref 40, .int n, .int t], .int x => I' = I ∧ f_fr [46] L L'
  | _, _ => False
set_option maxHeartbeats 4000000 in
set_option maxRecDepth 100000 in
theorem mX2_takeBack {l : Launch} {a : Nat → Nat} {cy dC : Nat → ClassId} {dI : Nat → Nat → Nat} (hinj : ∀ i j, i < 80 → j < 80 → a i = a j → i = j) : f_Met (xE a) l xY 80 a cy dC dI yX2_takeBack cX2_takeBack 3 3 0 pX2_takeBack qX2_takeBack := by
  refine f_met_of (xE_c a) hinj xY_hi (by decide) (fun av I L h => by unfold pX2_takeBack at h; split at h <;> first | exact Nat.le_of_ble_eq_true rfl | exact h.elim) ?_
  intro pP eP sP mP aP bP hP9 cP C av I L hp
  unfold pX2_takeBack at hp
  split at hp
  case h_2 => exact hp.elim
  case h_1 n t =>
    have h7 : 0 ≤ (I 40 7).toInt ∧ (I 40 7).toInt ≤ 12 := hp 40 7
    refine f_wp_ok C f_cl flX2_ok fiX2_ok fjX2_ok (sn := none) (fun j h => by cases h) (cs := (fun _ => none)) (cz := (fun _ => none)) (fun j S h => by cases h) (fun j S h => by cases h) tX2_takeBack_ok (cut := (fun _ => none)) (fun t P h => by cases h) 40 0 tX2_takeBack tX2_takeBack_ok _ _ _ _ ?_
    apply And.intro
    · intro h1
      exact ⟨Or.inl rfl, rfl, f_fr_rf⟩
    · intro h1
      apply And.intro
      · intro h2
        exact ⟨Or.inl rfl, rfl, f_fr_rf⟩
      · intro h2
        have g : f_in n 12 := ⟨h1, by have h2 : n.toInt < (I 40 7).toInt := h2; show n.toInt < 12; omega⟩
        refine And.intro g ?_
        apply And.intro
        · intro h3
          refine And.intro g ?_
          exact ⟨Or.inr rfl, rfl, f_fr_up f_fr_rf rfl⟩
        · intro h3
          exact ⟨Or.inl rfl, rfl, f_fr_rf⟩
def tX2_counts : List (Instr × Nat) := [(.aload_n 0, 1), (.getfield 24, 3), (.iload_n 1, 1), (.laload, 1), (.iload_n 2, 1), (.i2l, 1), (.lcmp, 1), (.ifCond .gt 19, 3), (.aload_n 0, 1), (.getfield 28, 3), (.iload_n 1, 1), (.laload, 1), (.iload_n 2, 1), (.i2l, 1), (.lcmp, 1), (.ifCond .le 7, 3), (.iconst 1, 1), (.goto 4, 3), (.iconst 0, 1), (.ireturn, 1)]
theorem tX2_counts_ok : f_chk cX2_counts 0 tX2_counts = true := by decide +kernel
def pX2_counts (av : List Value) (I : fM) (L : fN) : Prop := match av with
  | [.ref 40, .int n, .int k] => 0 ≤ n.toInt ∧ n.toInt ≤ 11
  | _ => False
def qX2_counts (av : List Value) (I : fM) (L : fN) (r : Value) (I' : fM) (L' : fN) : Prop := match av, r with
  | [.ref 40, .int n, .int k], .int x => I' = I ∧ L' = L ∧ (x.toInt = 0 ∨ x.toInt = 1)
  | _, _ => False
set_option maxHeartbeats 4000000 in
set_option maxRecDepth 100000 in
theorem mX2_counts {l : Launch} {a : Nat → Nat} {cy dC : Nat → ClassId} {dI : Nat → Nat → Nat} (hinj : ∀ i j, i < 80 → j < 80 → a i = a j → i = j) : f_Met (xE a) l xY 80 a cy dC dI yX2_counts cX2_counts 3 3 0 pX2_counts qX2_counts := by
  refine f_met_of (xE_c a) hinj xY_hi (by decide) (fun av I L h => by unfold pX2_counts at h; split at h <;> first | exact Nat.le_of_ble_eq_true rfl | exact h.elim) ?_
  intro pP eP sP mP aP bP hP9 cP C av I L hp
  unfold pX2_counts at hp
  split at hp
  case h_2 => exact hp.elim
  case h_1 n k =>
    have g : f_in n 12 := ⟨hp.1, by show n.toInt < 12; omega⟩
    refine f_wp_ok C f_cl flX2_ok fiX2_ok fjX2_ok (sn := none) (fun j h => by cases h) (cs := (fun _ => none)) (cz := (fun _ => none)) (fun j S h => by cases h) (fun j S h => by cases h) tX2_counts_ok (cut := (fun _ => none)) (fun t P h => by cases h) 40 0 tX2_counts tX2_counts_ok _ _ _ _ ?_
    refine And.intro g ?_
    apply And.intro
    · intro h
      exact ⟨Or.inl rfl, rfl, rfl, Or.inl rfl⟩
    · intro h
      refine And.intro g ?_
      apply And.intro
      · intro h
        exact ⟨Or.inl rfl, rfl, rfl, Or.inl rfl⟩
      · intro h
        exact ⟨Or.inr rfl, rfl, rfl, Or.inr rfl⟩
def tX2_isRight : List (Instr × Nat) := [(.aload_n 0, 1), (.getfield 21, 3), (.iload_n 1, 1), (.iaload, 1), (.ifCond .eq 7, 3), (.iconst 1, 1), (.goto 4, 3), (.iconst 0, 1), (.ireturn, 1)]
theorem tX2_isRight_ok : f_chk cX2_isRight 0 tX2_isRight = true := by decide +kernel
def pX2_isRight (av : List Value) (I : fM) (L : fN) : Prop := match av with
  | [.ref 40, .int n] => 0 ≤ n.toInt ∧ n.toInt ≤ 11
  | _ => False
def qX2_isRight (av : List Value) (I : fM) (L : fN) (r : Value) (I' : fM) (L' : fN) : Prop := match av, r with
  | [.ref 40, .int n], .int x => I' = I ∧ L' = L ∧ (x.toInt = 0 ∨ x.toInt = 1)
  | _, _ => False
set_option maxHeartbeats 4000000 in
set_option maxRecDepth 100000 in
theorem mX2_isRight {l : Launch} {a : Nat → Nat} {cy dC : Nat → ClassId} {dI : Nat → Nat → Nat} (hinj : ∀ i j, i < 80 → j < 80 → a i = a j → i = j) : f_Met (xE a) l xY 80 a cy dC dI yX2_isRight cX2_isRight 2 3 0 pX2_isRight qX2_isRight := by
  refine f_met_of (xE_c a) hinj xY_hi (by decide) (fun av I L h => by unfold pX2_isRight at h; split at h <;> first | exact Nat.le_of_ble_eq_true rfl | exact h.elim) ?_
  intro pP eP sP mP aP bP hP9 cP C av I L hp
  unfold pX2_isRight at hp
  split at hp
  case h_2 => exact hp.elim
  case h_1 n =>
    have g : f_in n 12 := ⟨hp.1, by show n.toInt < 12; omega⟩
    refine f_wp_ok C f_cl flX2_ok fiX2_ok fjX2_ok (sn := none) (fun j h => by cases h) (cs := (fun _ => none)) (cz := (fun _ => none)) (fun j S h => by cases h) (fun j S h => by cases h) tX2_isRight_ok (cut := (fun _ => none)) (fun t P h => by cases h) 40 0 tX2_isRight tX2_isRight_ok _ _ _ _ ?_
    refine And.intro g ?_
    apply And.intro
    · intro h
      exact ⟨Or.inl rfl, rfl, rfl, Or.inl rfl⟩
    · intro h
      exact ⟨Or.inr rfl, rfl, rfl, Or.inr rfl⟩
def tX2_wordOf : List (Instr × Nat) := [(.aload_n 0, 1), (.getfield 15, 3), (.iload_n 1, 1), (.bipush 6, 2), (.imul, 1), (.iload_n 2, 1), (.iadd, 1), (.iaload, 1), (.ireturn, 1)]
theorem tX2_wordOf_ok : f_chk cX2_wordOf 0 tX2_wordOf = true := by decide +kernel
def pX2_wordOf (av : List Value) (I : fM) (L : fN) : Prop := match av with
  | [.ref 40, .int n, .int i] => 0 ≤ n.toInt ∧ n.toInt ≤ 11 ∧ 0 ≤ i.toInt ∧ i.toInt ≤ 5
  | _ => False
def qX2_wordOf (av : List Value) (I : fM) (L : fN) (r : Value) (I' : fM) (L' : fN) : Prop := match av, r with
  | [.ref 40, .int n, .int i], .int x => I' = I ∧ L' = L ∧ x = I 42 (6 * n.toInt + i.toInt).toNat
  | _, _ => False
set_option maxHeartbeats 4000000 in
set_option maxRecDepth 100000 in
theorem mX2_wordOf {l : Launch} {a : Nat → Nat} {cy dC : Nat → ClassId} {dI : Nat → Nat → Nat} (hinj : ∀ i j, i < 80 → j < 80 → a i = a j → i = j) : f_Met (xE a) l xY 80 a cy dC dI yX2_wordOf cX2_wordOf 3 1 0 pX2_wordOf qX2_wordOf := by
  refine f_met_of (xE_c a) hinj xY_hi (by decide) (fun av I L h => by unfold pX2_wordOf at h; split at h <;> first | exact Nat.le_of_ble_eq_true rfl | exact h.elim) ?_
  intro pP eP sP mP aP bP hP9 cP C av I L hp
  unfold pX2_wordOf at hp
  split at hp
  case h_2 => exact hp.elim
  case h_1 n i =>
    obtain ⟨h1, h2, h3, h4⟩ := hp
    refine f_wp_ok C f_cl flX2_ok fiX2_ok fjX2_ok (sn := none) (fun j h => by cases h) (cs := (fun _ => none)) (cz := (fun _ => none)) (fun j S h => by cases h) (fun j S h => by cases h) tX2_wordOf_ok (cut := (fun _ => none)) (fun t P h => by cases h) 40 0 tX2_wordOf tX2_wordOf_ok _ _ _ _ ?_
    intro z q hz hq hl hu
    rw [f_ci (by omega) (by omega)] at hq
    have e1 : z.toInt = 6 * n.toInt := by omega
    intro z2 q2 hz2 hq2 hl2 hu2
    have e2 : z2.toInt = 6 * n.toInt + i.toInt := by omega
    refine And.intro ⟨by omega, by show z2.toInt < 72; omega⟩ ⟨rfl, rfl, ?_⟩
    rw [← e2]
    rfl
def tX2_highestWord : List (Instr × Nat) := [(.iconst (-1), 1), (.istore_n 2, 1), (.iconst 0, 1), (.istore_n 3, 1), (.iload_n 3, 1), (.aload_n 0, 1), (.getfield 18, 3), (.iload_n 1, 1), (.iaload, 1), (.if_icmp .ge 20, 3), (.iload_n 2, 1), (.aload_n 0, 1), (.iload_n 1, 1), (.iload_n 3, 1), (.invokevirtual 52, 3), (.invokestatic 55, 3), (.istore_n 2, 1), (.iinc 3 1, 3), (.goto (-24), 3), (.iload_n 2, 1), (.ireturn, 1)]
theorem tX2_highestWord_ok : f_chk cX2_highestWord 0 tX2_highestWord = true := by decide +kernel
def pX2_highestWord (av : List Value) (I : fM) (L : fN) : Prop := match av with
  | [.ref 40, .int n] => xR I ∧ 0 ≤ n.toInt ∧ n.toInt ≤ 11
  | _ => False
def qX2_highestWord (av : List Value) (I : fM) (L : fN) (r : Value) (I' : fM) (L' : fN) : Prop := match av, r with
  | [.ref 40, .int n], .int x => I' = I ∧ L' = L ∧ (∀ i : Nat, (i : Int) < (I 43 n.toInt.toNat).toInt → (I 42 (6 * n.toInt.toNat + i)).toInt ≤ x.toInt)
  | _, _ => False
set_option maxHeartbeats 4000000 in
set_option maxRecDepth 100000 in
theorem mX2_highestWord {l : Launch} {a : Nat → Nat} {cy dC : Nat → ClassId} {dI : Nat → Nat → Nat} (hinj : ∀ i j, i < 80 → j < 80 → a i = a j → i = j) : f_Met (xE a) l xY 80 a cy dC dI yX2_highestWord cX2_highestWord 4 1 1 pX2_highestWord qX2_highestWord := by
  refine f_met_of (xE_c a) hinj xY_hi (by decide) (fun av I L h => by unfold pX2_highestWord at h; split at h <;> first | exact Nat.le_of_ble_eq_true rfl | exact h.elim) ?_
  intro pP eP sP mP aP bP hP9 cP C av I L hp
  unfold pX2_highestWord at hp
  split at hp
  case h_2 => exact hp.elim
  case h_1 n =>
    obtain ⟨hR, p1, p2⟩ := hp
    have hB : 0 ≤ (I 43 n.toInt.toNat).toInt ∧ (I 43 n.toInt.toNat).toInt ≤ 6 := hR 43 _
    have lp4 : ∀ (n4 : Nat), ∀ (h : Int32) (i : Int32), (0 ≤ i.toInt) ∧ (i.toInt ≤ (I 43 n.toInt.toNat).toInt) ∧ ((∀ j : Nat, (j : Int) < i.toInt → (I 42 (6 * n.toInt.toNat + j)).toInt ≤ h.toInt)) ∧ ((I 43 n.toInt.toNat).toInt - i.toInt) < n4 → f_W pP l eP (f_rm 1) sP mP aP bP hP9 cP xY 80 a cy dC dI 4 (f_K 1 (qX2_highestWord [.ref 40, .int n] I L)) 4 [(3, .int i), (2, .int h), (1, .int n), (0, .ref 40)] [] I L := by
      intro n4
      induction n4 with
      | zero =>
        intro h i h9
        obtain ⟨u4_1, u4_2, u4_3, hm4⟩ := h9
        omega
      | succ n4 ih4 =>
        intro h i h9
        obtain ⟨u4_1, u4_2, u4_3, hm4⟩ := h9
        refine f_wp_ok C f_cl flX2_ok fiX2_ok fjX2_ok (sn := none) (fun j h => by cases h) (cs := (f_cnl [(52, (3, 1, 2, pX2_wordOf, qX2_wordOf))])) (cz := (f_cnl [(55, (2, 1, 0, pJ9_max_7cf53, qJ9_max_7cf53))])) (f_cnl_of (P := fun j S => f_cok pP l eP (f_rm 1) sP mP aP bP hP9 cP xY 80 a cy dC dI 4 _ _ (.invokevirtual j) true S) (List.forall_mem_cons.mpr ⟨f_cokV C (mX2_wordOf hinj) (ci := 2) rfl (List.forall_mem_cons.mpr ⟨(mlX2_ok _ (List.mem_of_getElem? (i := 1) rfl)), kc_X2_wordOf⟩) (by decide +kernel) ⟨Nat.le_of_ble_eq_true rfl, Nat.le_of_ble_eq_true rfl⟩, fun _ h => absurd h List.not_mem_nil⟩)) (f_cnl_of (P := fun j S => f_cok pP l eP (f_rm 1) sP mP aP bP hP9 cP xY 80 a cy dC dI 4 _ _ (.invokestatic j) false S) (List.forall_mem_cons.mpr ⟨f_cokMax C (mlX2_ok _ (List.mem_of_getElem? (i := 2) rfl)) ⟨Nat.le_of_ble_eq_true rfl, Nat.le_of_ble_eq_true rfl⟩, fun _ h => absurd h List.not_mem_nil⟩)) tX2_highestWord_ok (cut := (f_cnl [(4, (fun (ls' : fLs) (st' : List Value) (I' : fM) (L' : fN) => ∃ h : Int32, ∃ i : Int32, (∀ q ∈ ([(3, .int i), (2, .int h), (1, .int n), (0, .ref 40)] : fLs), q ∈ ls') ∧ st' = [] ∧ I' = I ∧ L' = L ∧ ((0 ≤ i.toInt) ∧ (i.toInt ≤ (I 43 n.toInt.toNat).toInt) ∧ ((∀ j : Nat, (j : Int) < i.toInt → (I 42 (6 * n.toInt.toNat + j)).toInt ≤ h.toInt)) ∧ ((I 43 n.toInt.toNat).toInt - i.toInt) < n4)))])) (f_cnl_of (P := fun (tQ : Nat) (P : fLs → List Value → fM → fN → Prop) => ∀ ls' st' I' L', P ls' st' I' L' → f_W pP l eP (f_rm 1) sP mP aP bP hP9 cP xY 80 a cy dC dI 4 (f_K 1 (qX2_highestWord [.ref 40, .int n] I L)) tQ ls' st' I' L') (List.forall_mem_cons.mpr ⟨(fun ls' st' I' L' h => by obtain ⟨h, i, hs, e1, e2, e3, h9⟩ := h; rw [e1, e2, e3]; exact f_W_sub hs (ih4 h i h9)), fun _ h => absurd h List.not_mem_nil⟩)) 18 4 (f_seek 4 0 tX2_highestWord) (f_seek_ok 4 0 tX2_highestWord tX2_highestWord_ok) _ _ _ _ ?_
        refine And.intro (show f_in n 12 from ⟨show 0 ≤ n.toInt from by omega, show n.toInt < 12 from by omega⟩) ?_
        have r10_1 : 0 ≤ (I 43 (n.toInt.toNat)).toInt ∧ (I 43 (n.toInt.toNat)).toInt ≤ 6 := hR 43 (n.toInt.toNat)
        apply And.intro
        · intro h11
          have h11 : (I 43 (n.toInt.toNat)).toInt ≤ i.toInt := h11
          exact ⟨rfl, rfl, (fun j hj => u4_3 j (by omega))⟩
        · intro h11
          have h11 : i.toInt < (I 43 (n.toInt.toNat)).toInt := h11
          refine And.intro ⟨(show 0 ≤ n.toInt from by first | assumption | omega), (show n.toInt ≤ 11 from by first | assumption | omega), (show 0 ≤ i.toInt from by first | assumption | omega), (show i.toInt ≤ 5 from by first | assumption | omega)⟩ ?_
          intro x18 I18 L18 hq18
          have hq18 : I18 = I ∧ L18 = L ∧ x18 = I 42 (6 * n.toInt + i.toInt).toNat := hq18
          obtain ⟨eI18, eL18, c18_2⟩ := hq18
          replace eI18 := eI18.symm
          subst eI18
          replace eL18 := eL18.symm
          subst eL18
          refine And.intro trivial ?_
          intro x21 I21 L21 hq21
          have hq21 : I21 = I ∧ L21 = L ∧ ((x21 = h ∨ x21 = x18)) ∧ h.toInt ≤ x21.toInt ∧ x18.toInt ≤ x21.toInt := hq21
          obtain ⟨eI21, eL21, c21_2, c21_3, c21_4⟩ := hq21
          replace eI21 := eI21.symm
          subst eI21
          replace eL21 := eL21.symm
          subst eL21
          intro z25 q25 _ hq25 hl25 hu25
          have hq25 : z25.toInt = i.toInt + 1 + 4294967296 * q25 := hq25
          try have hz25 : z25.toInt = i.toInt + 1 := by omega
          have q25 : ∀ j : Nat, (j : Int) < z25.toInt → (I 42 (6 * n.toInt.toNat + j)).toInt ≤ x21.toInt := fun j hj => by
            by_cases q : j = i.toInt.toNat
            · have e : (6 * n.toInt + i.toInt).toNat = 6 * n.toInt.toNat + j := by omega
              rw [e] at c18_2
              rw [← c18_2]
              omega
            · have := u4_3 j (by omega)
              omega
          exact ⟨x21, z25, (by intro q9 h9; simp only [List.mem_cons, List.not_mem_nil, or_false] at h9; rcases h9 with h9 | h9 | h9 | h9 <;> subst h9 <;> repeat (first | exact List.mem_cons_self | apply List.mem_cons_of_mem)), rfl, rfl, rfl, (show 0 ≤ z25.toInt from by first | assumption | omega), (show z25.toInt ≤ (I 43 n.toInt.toNat).toInt from by first | assumption | omega), (show (∀ j : Nat, (j : Int) < z25.toInt → (I 42 (6 * n.toInt.toNat + j)).toInt ≤ x21.toInt) from by first | assumption | omega | exact fun _ _ => rfl | exact fun _ _ => ⟨rfl, rfl⟩ | exact fun _ _ => ⟨rfl, rfl, rfl⟩ | (intro j9 hj9; omega)), (show ((I 43 n.toInt.toNat).toInt - z25.toInt) < n4 from by omega)⟩
    refine f_wp_ok C f_cl flX2_ok fiX2_ok fjX2_ok (sn := none) (fun j h => by cases h) (cs := (f_cnl [(52, (3, 1, 2, pX2_wordOf, qX2_wordOf))])) (cz := (f_cnl [(55, (2, 1, 0, pJ9_max_7cf53, qJ9_max_7cf53))])) (f_cnl_of (P := fun j S => f_cok pP l eP (f_rm 1) sP mP aP bP hP9 cP xY 80 a cy dC dI 4 _ _ (.invokevirtual j) true S) (List.forall_mem_cons.mpr ⟨f_cokV C (mX2_wordOf hinj) (ci := 2) rfl (List.forall_mem_cons.mpr ⟨(mlX2_ok _ (List.mem_of_getElem? (i := 1) rfl)), kc_X2_wordOf⟩) (by decide +kernel) ⟨Nat.le_of_ble_eq_true rfl, Nat.le_of_ble_eq_true rfl⟩, fun _ h => absurd h List.not_mem_nil⟩)) (f_cnl_of (P := fun j S => f_cok pP l eP (f_rm 1) sP mP aP bP hP9 cP xY 80 a cy dC dI 4 _ _ (.invokestatic j) false S) (List.forall_mem_cons.mpr ⟨f_cokMax C (mlX2_ok _ (List.mem_of_getElem? (i := 2) rfl)) ⟨Nat.le_of_ble_eq_true rfl, Nat.le_of_ble_eq_true rfl⟩, fun _ h => absurd h List.not_mem_nil⟩)) tX2_highestWord_ok (cut := (f_cnl [(4, (fun (ls' : fLs) (st' : List Value) (I' : fM) (L' : fN) => ∃ h : Int32, ∃ i : Int32, (∀ q ∈ ([(3, .int i), (2, .int h), (1, .int n), (0, .ref 40)] : fLs), q ∈ ls') ∧ st' = [] ∧ I' = I ∧ L' = L ∧ ((0 ≤ i.toInt) ∧ (i.toInt ≤ (I 43 n.toInt.toNat).toInt) ∧ ((∀ j : Nat, (j : Int) < i.toInt → (I 42 (6 * n.toInt.toNat + j)).toInt ≤ h.toInt)) ∧ ((I 43 n.toInt.toNat).toInt - i.toInt) < 7)))])) (f_cnl_of (P := fun (tQ : Nat) (P : fLs → List Value → fM → fN → Prop) => ∀ ls' st' I' L', P ls' st' I' L' → f_W pP l eP (f_rm 1) sP mP aP bP hP9 cP xY 80 a cy dC dI 4 (f_K 1 (qX2_highestWord [.ref 40, .int n] I L)) tQ ls' st' I' L') (List.forall_mem_cons.mpr ⟨(fun ls' st' I' L' h => by obtain ⟨h, i, hs, e1, e2, e3, h9⟩ := h; rw [e1, e2, e3]; exact f_W_sub hs (lp4 7 h i h9)), fun _ h => absurd h List.not_mem_nil⟩)) 7 0 tX2_highestWord tX2_highestWord_ok _ _ _ _ ?_
    have r4_1 : 0 ≤ (I 43 (n.toInt.toNat)).toInt ∧ (I 43 (n.toInt.toNat)).toInt ≤ 6 := hR 43 (n.toInt.toNat)
    exact ⟨Int32.ofInt (-1), Int32.ofInt 0, (by intro q9 h9; simp only [List.mem_cons, List.not_mem_nil, or_false] at h9; rcases h9 with h9 | h9 | h9 | h9 <;> subst h9 <;> repeat (first | exact List.mem_cons_self | apply List.mem_cons_of_mem)), rfl, rfl, rfl, (show 0 ≤ (0 : Int) from by first | assumption | omega), (show (0 : Int) ≤ (I 43 n.toInt.toNat).toInt from by first | assumption | omega), (show (∀ j : Nat, (j : Int) < (0 : Int) → (I 42 (6 * n.toInt.toNat + j)).toInt ≤ (Int32.ofInt (-1)).toInt) from by first | assumption | omega | exact fun _ _ => rfl | exact fun _ _ => ⟨rfl, rfl⟩ | exact fun _ _ => ⟨rfl, rfl, rfl⟩ | (intro j9 hj9; omega)), (show ((I 43 n.toInt.toNat).toInt - (0 : Int)) < 7 from by omega)⟩
def tX2_copyFrom : List (Instr × Nat) := [(.aload_n 0, 1), (.aload_n 1, 1), (.getfield 31, 3), (.putfield 31, 3), (.aload_n 0, 1), (.aload_n 1, 1), (.getfield 35, 3), (.putfield 35, 3), (.aload_n 1, 1), (.getfield 11, 3), (.iconst 0, 1), (.aload_n 0, 1), (.getfield 11, 3), (.iconst 0, 1), (.bipush 8, 2), (.invokestatic 44, 3), (.aload_n 1, 1), (.getfield 15, 3), (.iconst 0, 1), (.aload_n 0, 1), (.getfield 15, 3), (.iconst 0, 1), (.aload_n 0, 1), (.getfield 15, 3), (.arraylength, 1), (.invokestatic 44, 3), (.aload_n 1, 1), (.getfield 18, 3), (.iconst 0, 1), (.aload_n 0, 1), (.getfield 18, 3), (.iconst 0, 1), (.bipush 12, 2), (.invokestatic 44, 3), (.aload_n 1, 1), (.getfield 21, 3), (.iconst 0, 1), (.aload_n 0, 1), (.getfield 21, 3), (.iconst 0, 1), (.bipush 12, 2), (.invokestatic 44, 3), (.aload_n 1, 1), (.getfield 24, 3), (.iconst 0, 1), (.aload_n 0, 1), (.getfield 24, 3), (.iconst 0, 1), (.bipush 12, 2), (.invokestatic 44, 3), (.aload_n 1, 1), (.getfield 28, 3), (.iconst 0, 1), (.aload_n 0, 1), (.getfield 28, 3), (.iconst 0, 1), (.bipush 12, 2), (.invokestatic 44, 3), (.return_, 1)]
theorem tX2_copyFrom_ok : f_chk cX2_copyFrom 0 tX2_copyFrom = true := by decide +kernel
def pX2_copyFrom (av : List Value) (I : fM) (L : fN) : Prop := match av with
  | [.ref d, .ref s] => ((d = 40 ∧ (s = 47 ∨ s = 54 ∨ s = 61)) ∨ (s = 40 ∧ (d = 47 ∨ d = 54 ∨ d = 61))) ∧ xR I
  | _ => False
def qX2_copyFrom (av : List Value) (I : fM) (L : fN) (r : Value) (I' : fM) (L' : fN) : Prop := match av, r with
  | [.ref d, .ref s], .null => xR I' ∧ f_fr [d, d + 1, d + 2, d + 3, d + 4] I I' ∧ f_fr [d + 5, d + 6] L L' ∧ I' d 6 = I s 6 ∧ I' d 7 = I s 7 ∧ I' d 8 = I d 8 ∧ I' (d + 1) = va_cpy (I (s + 1)) (I (d + 1)) 0 0 8 ∧ I' (d + 2) = va_cpy (I (s + 2)) (I (d + 2)) 0 0 72 ∧ I' (d + 3) = va_cpy (I (s + 3)) (I (d + 3)) 0 0 12
  | _, _ => False
set_option maxHeartbeats 4000000 in
set_option maxRecDepth 100000 in
theorem mX2_copyFrom {l : Launch} {a : Nat → Nat} {cy dC : Nat → ClassId} {dI : Nat → Nat → Nat} (hinj : ∀ i j, i < 80 → j < 80 → a i = a j → i = j) : f_Met (xE a) l xY 80 a cy dC dI yX2_copyFrom cX2_copyFrom 2 0 1 pX2_copyFrom qX2_copyFrom := by
  refine f_met_of (xE_c a) hinj xY_hi (by decide) (fun av I L h => by unfold pX2_copyFrom at h; split at h <;> first | exact Nat.le_of_ble_eq_true rfl | exact h.elim) ?_
  intro pP eP sP mP aP bP hP9 cP C av I L hp
  unfold pX2_copyFrom at hp
  split at hp
  case h_2 => exact hp.elim
  case h_1 d s =>
    obtain ⟨hk, hR⟩ := hp
    refine f_wp_ok C f_cl flX2_ok fiX2_ok fjX2_ok (sn := none) (fun j h => by cases h) (cs := (fun _ => none)) (cz := (f_cnl [(44, (5, 0, 99, p_copy xY, q_copy xY))])) (fun j S h => by cases h) (f_cnl_of (P := fun j S => f_cok pP l eP (f_rm 1) sP mP aP bP hP9 cP xY 80 a cy dC dI 2 _ _ (.invokestatic j) false S) (List.forall_mem_cons.mpr ⟨f_cokC C mlX2_copy kc_copy ⟨Nat.le_of_ble_eq_true rfl, Nat.le_of_ble_eq_true rfl⟩, fun _ h => absurd h List.not_mem_nil⟩)) tX2_copyFrom_ok (cut := (fun _ => none)) (fun t P h => by cases h) 120 0 tX2_copyFrom tX2_copyFrom_ok _ _ _ _ ?_
    rcases hk with ⟨rfl, rfl | rfl | rfl⟩ | ⟨rfl, rfl | rfl | rfl⟩
    all_goals
      refine And.intro ⟨0, 8, 8, Or.inl rfl, rfl, rfl, by decide, by decide, by decide, by decide, by decide⟩ ?_
      intro I1 L1 hq
      obtain ⟨rfl, rfl⟩ := hq
      refine And.intro ⟨0, 72, 72, Or.inl rfl, rfl, rfl, by decide, by decide, by decide, by decide, by decide⟩ ?_
      intro I1 L1 hq
      obtain ⟨rfl, rfl⟩ := hq
      refine And.intro ⟨0, 12, 12, Or.inl rfl, rfl, rfl, by decide, by decide, by decide, by decide, by decide⟩ ?_
      intro I1 L1 hq
      obtain ⟨rfl, rfl⟩ := hq
      refine And.intro ⟨0, 12, 12, Or.inl rfl, rfl, rfl, by decide, by decide, by decide, by decide, by decide⟩ ?_
      intro I1 L1 hq
      obtain ⟨rfl, rfl⟩ := hq
      refine And.intro ⟨1, 12, 12, Or.inr rfl, rfl, rfl, by decide, by decide, by decide, by decide, by decide⟩ ?_
      intro I1 L1 hq
      obtain ⟨rfl, rfl⟩ := hq
      refine And.intro ⟨1, 12, 12, Or.inr rfl, rfl, rfl, by decide, by decide, by decide, by decide, by decide⟩ ?_
      intro I1 L1 hq
      obtain ⟨rfl, rfl⟩ := hq
      refine ⟨xR_c (xR_c (xR_c (xR_c (xR_f (xR_f hR ?_) ?_) ?_) ?_) ?_) ?_, f_fr_up (f_fr_up (f_fr_up (f_fr_up (f_fr_up (f_fr_up f_fr_rf rfl) rfl) rfl) rfl) rfl) rfl, f_fr_up (f_fr_up f_fr_rf rfl) rfl, rfl, rfl, rfl, rfl, rfl, rfl⟩
      · exact hR _ 6
      · exact hR _ 7
      · exact fun _ _ => ⟨Int.le_refl _, Int.le_refl _⟩
      · exact fun _ _ => ⟨Int.le_refl _, Int.le_refl _⟩
      · exact fun _ _ => ⟨Int.le_refl _, Int.le_refl _⟩
      · exact fun _ _ => ⟨Int.le_refl _, Int.le_refl _⟩
