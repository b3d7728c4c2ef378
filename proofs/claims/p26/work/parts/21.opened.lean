def dpos : Nat → Prop
  | 0 => False
  | _ + 1 => True
theorem dpos_of {d : Nat} (h : 0 < d) : dpos d := by
  cases d with
  | zero => omega
  | succ d => trivial
/-- a slot of opened ends: whom each hangs on, the first that hangs on it, the next beside it -/
def os1 (P C B : Nat → Int32) (b : Nat) (n : Int) : Prop := ∀ i : Nat, (i : Int) < n → (P (b + i)).toInt < n ∧ (C (b + i)).toInt < n ∧ (B (b + i)).toInt < n ∧ (0 ≤ (C (b + i)).toInt → (P (b + (C (b + i)).toInt.toNat)).toInt = i) ∧ (0 ≤ (B (b + i)).toInt → 0 ≤ (P (b + i)).toInt ∧ (P (b + (B (b + i)).toInt.toNat)).toInt = (P (b + i)).toInt)
theorem os1_add {P C B : Nat → Int32} {b : Nat} {n : Int} (h : os1 P C B b n) (h0 : 0 ≤ n) {k : Nat} (hk : k = b + n.toNat) {x y z : Int32} (hx : x.toInt = -1) (hy : y.toInt = -1) (hz : z.toInt = -1) : os1 (upd P k x) (upd C k y) (upd B k z) b (n + 1) := by
  intro i hi
  subst hk
  by_cases e : i = n.toNat
  · subst e
    rw [pk_us, pk_us, pk_us, hx, hy, hz]
    exact ⟨by omega, by omega, by omega, fun q => by omega, fun q => by omega⟩
  · have ei : (i : Int) < n := by omega
    obtain ⟨h1, h2, h3, h4, h5⟩ := h i ei
    have nb : b + i ≠ b + n.toNat := by omega
    rw [pk_un nb, pk_un nb, pk_un nb]
    refine ⟨by omega, by omega, by omega, fun q => ?_, fun q => ?_⟩
    · rw [pk_un (by omega)]
      exact h4 q
    · rw [pk_un (by omega)]
      exact h5 q
theorem os1_link {P C B : Nat → Int32} {b : Nat} {n : Int} (h : os1 P C B b n) {u v : Nat} (hu : (u : Int) < n) (hv : (v : Int) < n) (huv : u ≠ v) (hp : (P (b + v)).toInt = -1) {x y : Int32} (hx : x.toInt = u) (hy : y.toInt = v) : os1 (upd P (b + v) x) (upd C (b + u) y) (upd B (b + v) (C (b + u))) b n := by
  intro i hi
  obtain ⟨h1, h2, h3, h4, h5⟩ := h i hi
  obtain ⟨u1, u2, u3, u4, u5⟩ := h u hu
  obtain ⟨v1, v2, v3, v4, v5⟩ := h v hv
  -- nobody lists v
  have nc : ∀ j : Nat, (j : Int) < n → ¬ (C (b + j)).toInt = v := by
    intro j hj e
    have q := (h j hj).2.2.2.1 (by omega)
    rw [e, show ((v : Int)).toNat = v by omega, hp] at q
    omega
  have ns : ∀ j : Nat, (j : Int) < n → ¬ (B (b + j)).toInt = v := by
    intro j hj e
    have q := (h j hj).2.2.2.2 (by omega)
    rw [e, show ((v : Int)).toNat = v by omega, hp] at q
    omega
  by_cases ev : i = v
  · subst ev
    rw [pk_us, pk_us, pk_un (by omega : b + i ≠ b + u)]
    refine ⟨by omega, h2, u2, fun q => ?_, fun q => ⟨by omega, ?_⟩⟩
    · rw [pk_un (by have := nc i hi; omega)]
      exact h4 q
    · rw [pk_un (by have := nc u hu; omega), u4 q, hx]
  · rw [pk_un (by omega : b + i ≠ b + v), pk_un (by omega : b + i ≠ b + v)]
    by_cases eu : i = u
    · subst eu
      rw [pk_us]
      refine ⟨h1, by omega, h3, fun q => ?_, fun q => ⟨(h5 q).1, ?_⟩⟩
      · rw [hy, show ((v : Int)).toNat = v by omega, pk_us, hx]
      · rw [pk_un (by have := ns i hi; omega)]
        exact (h5 q).2
    · rw [pk_un (by omega : b + i ≠ b + u)]
      refine ⟨h1, h2, h3, fun q => ?_, fun q => ⟨(h5 q).1, ?_⟩⟩
      · rw [pk_un (by have := nc i hi; omega)]
        exact h4 q
      · rw [pk_un (by have := ns i hi; omega)]
        exact (h5 q).2
/-- the ends that hang on one are a row without a ring -/
def osr (B : Nat → Int32) (b : Nat) (n : Int) : Prop := ∃ rk : Nat → Nat, ∀ i : Nat, (i : Int) < n → 0 ≤ (B (b + i)).toInt → rk (B (b + i)).toInt.toNat < rk i
def osl (P C B : Nat → Int32) (b : Nat) (n : Int) : Prop := os1 P C B b n ∧ osr B b n
theorem osl_add {P C B : Nat → Int32} {b : Nat} {n : Int} (h : osl P C B b n) (h0 : 0 ≤ n) {k : Nat} (hk : k = b + n.toNat) {x y z : Int32} (hx : x.toInt = -1) (hy : y.toInt = -1) (hz : z.toInt = -1) : osl (upd P k x) (upd C k y) (upd B k z) b (n + 1) := by
  refine ⟨os1_add h.1 h0 hk hx hy hz, ?_⟩
  obtain ⟨rk, hr⟩ := h.2
  refine ⟨rk, fun i hi hB => ?_⟩
  subst hk
  by_cases e : i = n.toNat
  · subst e
    rw [pk_us] at hB
    omega
  · rw [pk_un (by omega)] at hB ⊢
    exact hr i (by omega) hB
theorem osl_link {P C B : Nat → Int32} {b : Nat} {n : Int} (h : osl P C B b n) {u v : Nat} (hu : (u : Int) < n) (hv : (v : Int) < n) (huv : u ≠ v) (hp : (P (b + v)).toInt = -1) {x y : Int32} (hx : x.toInt = u) (hy : y.toInt = v) : osl (upd P (b + v) x) (upd C (b + u) y) (upd B (b + v) (C (b + u))) b n := by
  refine ⟨os1_link h.1 hu hv huv hp hx hy, ?_⟩
  obtain ⟨rk, hr⟩ := h.2
  have ns : ∀ j : Nat, (j : Int) < n → ¬ (B (b + j)).toInt = v := by
    intro j hj e
    have q := (h.1 j hj).2.2.2.2 (by omega)
    rw [e, show ((v : Int)).toNat = v by omega, hp] at q
    omega
  have nc : ¬ (C (b + u)).toInt = v := by
    intro e
    have q := (h.1 u hu).2.2.2.1 (by omega)
    rw [e, show ((v : Int)).toNat = v by omega, hp] at q
    omega
  refine ⟨fun i => if i = v then rk (C (b + u)).toInt.toNat + 1 else rk i, fun i hi hB => ?_⟩
  by_cases e : i = v
  · subst e
    rw [pk_us] at hB ⊢
    show (if (C (b + u)).toInt.toNat = i then _ else _) < (if i = i then _ else _)
    rw [if_neg (by omega), if_pos rfl]
    omega
  · rw [pk_un (by omega)] at hB ⊢
    have q := ns i hi
    show (if (B (b + i)).toInt.toNat = v then _ else _) < (if i = v then _ else _)
    rw [if_neg (by omega), if_neg e]
    exact hr i hi hB
/-- what stays of the opened ends, but those of slot s from place n on -/
def oout (s n : Nat) (I I' : fM) : Prop := (∀ j, j ≠ s → I' 16 j = I 16 j) ∧ ∀ j, (j < 4 * s + n ∨ 4 * s + 4 ≤ j) → I' 21 j = I 21 j ∧ I' 22 j = I 22 j ∧ I' 23 j = I 23 j
theorem oout_tr {s n m : Nat} {I J K : fM} (h : oout s n I J) (h' : oout s m J K) (hm : n ≤ m) : oout s n I K := by
  refine ⟨fun j hj => by rw [h'.1 j hj, h.1 j hj], fun j hj => ?_⟩
  obtain ⟨a1, a2, a3⟩ := h.2 j hj
  obtain ⟨b1, b2, b3⟩ := h'.2 j (by omega)
  exact ⟨by rw [b1, a1], by rw [b2, a2], by rw [b3, a3]⟩
def tX3_givenOf : List (Instr × Nat) := [(.lload_n 0, 1), (.ldc2_w 110, 3), (.ladd, 1), (.bipush 8, 2), (.iload_n 2, 1), (.imul, 1), (.lshr, 1), (.ldc2_w 112, 3), (.land, 1), (.l2i, 1), (.bipush 64, 2), (.isub, 1), (.ireturn, 1)]
theorem tX3_givenOf_ok : f_chk cX3_givenOf 0 tX3_givenOf = true := by decide +kernel
def pX3_givenOf (av : List Value) (I : fM) (L : fN) : Prop := match av with
  | [.long s, .int k] => True
  | _ => False
def qX3_givenOf (av : List Value) (I : fM) (L : fN) (r : Value) (I' : fM) (L' : fN) : Prop := match av, r with
  | [.long s, .int k], .int x => I' = I ∧ L' = L
  | _, _ => False
set_option maxHeartbeats 4000000 in
set_option maxRecDepth 100000 in
theorem mX3_givenOf {l : Launch} {a : Nat → Nat} {cy dC : Nat → ClassId} {dI : Nat → Nat → Nat} (hinj : ∀ i j, i < 80 → j < 80 → a i = a j → i = j) : f_Met (xE a) l xY 80 a cy dC dI yX3_givenOf cX3_givenOf 3 1 0 pX3_givenOf qX3_givenOf := by
  refine f_met_of (xE_c a) hinj xY_hi (by decide) (fun av I L h => by unfold pX3_givenOf at h; split at h <;> first | exact Nat.le_of_ble_eq_true rfl | exact h.elim) ?_
  intro pP eP sP mP aP bP hP9 cP C av I L hp
  unfold pX3_givenOf at hp
  split at hp
  case h_2 => exact hp.elim
  case h_1 s k =>
    refine f_wp_ok C f_cl flX3_ok fiX3_ok fjX3_ok (sn := none) (fun j h => by cases h) (cs := (fun _ => none)) (cz := (fun _ => none)) (fun j S h => by cases h) (fun j S h => by cases h) tX3_givenOf_ok (cut := (fun _ => none)) (fun t P h => by cases h) 20 0 tX3_givenOf tX3_givenOf_ok _ _ _ _ ?_
    intro _ _ _ _ _ _
    intro _ _ _ _ _ _
    exact ⟨rfl, rfl⟩
def tX3_addEnd : List (Instr × Nat) := [(.aload_n 0, 1), (.getfield 13, 3), (.iload_n 1, 1), (.iaload, 1), (.iconst 3, 1), (.invokestatic 72, 3), (.istore 4, 2), (.iload_n 1, 1), (.iconst 4, 1), (.imul, 1), (.iload 4, 2), (.iadd, 1), (.istore 5, 2), (.aload_n 0, 1), (.getfield 27, 3), (.iload 5, 2), (.iconst 2, 1), (.iload_n 2, 1), (.imul, 1), (.iload_n 3, 1), (.ifCond .eq 7, 3), (.iconst 1, 1), (.goto 4, 3), (.iconst 0, 1), (.iadd, 1), (.iastore, 1), (.aload_n 0, 1), (.getfield 30, 3), (.iload 5, 2), (.iconst (-1), 1), (.iastore, 1), (.aload_n 0, 1), (.getfield 33, 3), (.iload 5, 2), (.iconst (-1), 1), (.iastore, 1), (.aload_n 0, 1), (.getfield 36, 3), (.iload 5, 2), (.iconst (-1), 1), (.iastore, 1), (.aload_n 0, 1), (.getfield 13, 3), (.iload_n 1, 1), (.iload 4, 2), (.iconst 1, 1), (.iadd, 1), (.iastore, 1), (.aload_n 0, 1), (.getfield 17, 3), (.iload_n 1, 1), (.dup2, 1), (.laload, 1), (.iload_n 3, 1), (.ifCond .eq 9, 3), (.ldc2_w 108, 3), (.goto 4, 3), (.lconst 1, 1), (.bipush 8, 2), (.iload_n 2, 1), (.imul, 1), (.lshl, 1), (.ladd, 1), (.lastore, 1), (.iload 4, 2), (.ireturn, 1)]
theorem tX3_addEnd_ok : f_chk cX3_addEnd 0 tX3_addEnd = true := by decide +kernel
def pX3_addEnd (av : List Value) (I : fM) (L : fN) : Prop := match av with
  | [.ref 15, .int s, .int k, .int w] => xR I ∧ 0 ≤ s.toInt ∧ s.toInt ≤ 52 ∧ 0 ≤ k.toInt ∧ k.toInt ≤ 4 ∧ (I 16 s.toInt.toNat).toInt ≤ 3 ∧ osl (I 21) (I 22) (I 23) (4 * s.toInt.toNat) (I 16 s.toInt.toNat).toInt
  | _ => False
def qX3_addEnd (av : List Value) (I : fM) (L : fN) (r : Value) (I' : fM) (L' : fN) : Prop := match av, r with
  | [.ref 15, .int s, .int k, .int w], .int x => xR I' ∧ f_fr [16, 20, 21, 22, 23] I I' ∧ f_fr [17] L L' ∧ x.toInt = (I 16 s.toInt.toNat).toInt ∧ (I' 16 s.toInt.toNat).toInt = (I 16 s.toInt.toNat).toInt + 1 ∧ osl (I' 21) (I' 22) (I' 23) (4 * s.toInt.toNat) ((I 16 s.toInt.toNat).toInt + 1) ∧ (I' 21 (4 * s.toInt.toNat + x.toInt.toNat)).toInt = -1 ∧ oout s.toInt.toNat (I 16 s.toInt.toNat).toInt.toNat I I'
  | _, _ => False
set_option maxHeartbeats 4000000 in
set_option maxRecDepth 100000 in
theorem mX3_addEnd {l : Launch} {a : Nat → Nat} {cy dC : Nat → ClassId} {dI : Nat → Nat → Nat} (hinj : ∀ i j, i < 80 → j < 80 → a i = a j → i = j) : f_Met (xE a) l xY 80 a cy dC dI yX3_addEnd cX3_addEnd 6 1 1 pX3_addEnd qX3_addEnd := by
  refine f_met_of (xE_c a) hinj xY_hi (by decide) (fun av I L h => by unfold pX3_addEnd at h; split at h <;> first | exact Nat.le_of_ble_eq_true rfl | exact h.elim) ?_
  intro pP eP sP mP aP bP hP9 cP C av I L hp
  unfold pX3_addEnd at hp
  split at hp
  case h_2 => exact hp.elim
  case h_1 s k w =>
    obtain ⟨hR, s0, s52, k0, k4, hn3, hO⟩ := hp
    have es : s.toNatClampNeg = s.toInt.toNat := rfl
    have hn : 0 ≤ (I 16 s.toInt.toNat).toInt ∧ (I 16 s.toInt.toNat).toInt ≤ 4 := hR 16 _
    have gs : f_in s 53 := ⟨s0, by show s.toInt < 53; omega⟩
    have cm1 : (Int32.ofInt (-1)).toInt = -1 := by decide
    have fin : ∀ (e z2 z4 z5 : Int32) (Lx : fN), f_fr [17] L Lx → e.toInt = (I 16 s.toInt.toNat).toInt → z2.toInt = 4 * s.toInt + e.toInt → 0 ≤ z4.toInt → z4.toInt ≤ 9 → z5.toInt = e.toInt + 1 → qX3_addEnd [.ref 15, .int s, .int k, .int w] I L (.int e) (va_up (va_up (va_up (va_up (va_up I 20 (upd (I 20) z2.toNatClampNeg z4)) 21 (upd (I 21) z2.toNatClampNeg (Int32.ofInt (-1)))) 22 (upd (I 22) z2.toNatClampNeg (Int32.ofInt (-1)))) 23 (upd (I 23) z2.toNatClampNeg (Int32.ofInt (-1)))) 16 (upd (I 16) s.toNatClampNeg z5)) Lx := by
      intro e z2 z4 z5 Lx hL ee e2 h40 h49 e5
      have i2 : z2.toNatClampNeg = 4 * s.toInt.toNat + (I 16 s.toInt.toNat).toInt.toNat := by rw [f_tn]; omega
      refine ⟨?_, f_fr_up (f_fr_up (f_fr_up (f_fr_up (f_fr_up f_fr_rf rfl) rfl) rfl) rfl) rfl, hL, ee, ?_, ?_, ?_, ?_, ?_⟩
      · refine xR_a (k := 16) (xR_a (k := 23) (xR_a (k := 22) (xR_a (k := 21) (xR_a (k := 20) hR ?_) ?_) ?_) ?_) ?_
        · exact ⟨h40, h49⟩
        · exact ⟨by show -1 ≤ _; rw [cm1]; omega, by show _ ≤ 3; rw [cm1]; omega⟩
        · exact ⟨by show -1 ≤ _; rw [cm1]; omega, by show _ ≤ 3; rw [cm1]; omega⟩
        · exact ⟨by show -1 ≤ _; rw [cm1]; omega, by show _ ≤ 3; rw [cm1]; omega⟩
        · exact ⟨by show 0 ≤ z5.toInt; omega, by show z5.toInt ≤ 4; omega⟩
      · show (upd (I 16) s.toNatClampNeg z5 s.toInt.toNat).toInt = _
        rw [es, pk_us]
        omega
      · exact osl_add hO hn.1 i2 cm1 cm1 cm1
      · show (upd (I 21) z2.toNatClampNeg (Int32.ofInt (-1)) (4 * s.toInt.toNat + e.toInt.toNat)).toInt = -1
        rw [i2, ee, pk_us]
        exact cm1
      · intro j hj
        show upd (I 16) s.toNatClampNeg z5 j = I 16 j
        rw [es, pk_un hj]
      · intro j hj
        have nj : j ≠ z2.toNatClampNeg := by rw [i2]; omega
        exact ⟨pk_un nj, pk_un nj, pk_un nj⟩
    refine f_wp_ok C f_cl flX3_ok fiX3_ok fjX3_ok (sn := none) (fun j h => by cases h) (cs := (fun _ => none)) (cz := (f_cnl [(72, (2, 1, 0, pJ9_min_7cf53, qJ9_min_7cf53))])) (fun j S h => by cases h) (f_cnl_of (P := fun j S => f_cok pP l eP (f_rm 1) sP mP aP bP hP9 cP xY 80 a cy dC dI 6 _ _ (.invokestatic j) false S) (List.forall_mem_cons.mpr ⟨f_cokMin C (mlX3_ok _ (List.mem_of_getElem? (i := 4) rfl)) ⟨Nat.le_of_ble_eq_true rfl, Nat.le_of_ble_eq_true rfl⟩, fun _ h => absurd h List.not_mem_nil⟩)) tX3_addEnd_ok (cut := (fun _ => none)) (fun t P h => by cases h) 90 0 tX3_addEnd tX3_addEnd_ok _ _ _ _ ?_
    refine And.intro gs ?_
    refine And.intro trivial ?_
    intro e I1 L1 hq1
    obtain ⟨rfl, rfl, he, he1, he2⟩ := hq1
    rw [f_ci (by omega) (by omega)] at he2
    have ee : e.toInt = (I1 16 s.toInt.toNat).toInt := by
      rcases he with rfl | rfl
      · rfl
      · rw [f_ci (by omega) (by omega)] at he1 ⊢
        have he1 : 3 ≤ (I1 16 s.toInt.toNat).toInt := he1
        omega
    intro z q hz hq hl hu
    rw [f_ci (by omega) (by omega)] at hq
    have e1 := f_w0 hq hl hu (by omega) (by omega)
    intro z2 q2 hz2 hq2 hl2 hu2
    have e2 := f_w0 hq2 hl2 hu2 (by omega) (by omega)
    intro z3 q3 hz3 hq3 hl3 hu3
    rw [f_ci (by omega) (by omega)] at hq3
    have e3 := f_w0 hq3 hl3 hu3 (by omega) (by omega)
    have g2 : f_in z2 212 := ⟨by omega, by show z2.toInt < 212; omega⟩
    apply And.intro
    all_goals
      intro hw
      intro z4 q4 hz4 hq4 hl4 hu4
      rw [f_ci (by omega) (by omega)] at hq4
      have e4 := f_w0 hq4 hl4 hu4 (by omega) (by omega)
      refine And.intro g2 ?_
      refine And.intro g2 ?_
      refine And.intro g2 ?_
      refine And.intro g2 ?_
      intro z5 q5 hz5 hq5 hl5 hu5
      rw [f_ci (by omega) (by omega)] at hq5
      have e5 := f_w0 hq5 hl5 hu5 (by omega) (by omega)
      refine And.intro gs ?_
      refine And.intro gs ?_
      apply And.intro
      all_goals
        intro hw2
        intro z6 q6 hz6 hq6 hl6 hu6
        refine And.intro gs ?_
        exact fin e z2 z4 z5 _ (f_fr_up f_fr_rf rfl) ee (by omega) (by omega) (by omega) (by omega)
