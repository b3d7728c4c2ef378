theorem fa_or (a b : Nat) : nI a ||| nI b = nI (a ||| b) := by
  apply Int32.toBitVec_inj.1
  show BitVec.ofNat 32 a ||| BitVec.ofNat 32 b = BitVec.ofNat 32 (a ||| b)
  apply BitVec.eq_of_getLsbD_eq
  intro i hi
  simp [hi]
theorem fa_or_sum {a k : Nat} (b : Nat) (h : a < 2 ^ k) : nI (2 ^ k * b) ||| nI a = nI (2 ^ k * b + a) := by rw [fa_or, Nat.two_pow_add_eq_or_of_lt h]
theorem t_or2 {a k : Nat} (b : Nat) (h : a < 2 ^ k) : nI a ||| nI (b * 2 ^ k) = nI (a + 2 ^ k * b) := by
  rw [fa_or, Nat.mul_comm b, Nat.or_comm, ← Nat.two_pow_add_eq_or_of_lt h, Nat.add_comm]
theorem dg_0 {g X : Nat} (h : g < 8) : dg (g + 8 * X) 0 = g := by
  unfold dg
  rw [Nat.pow_zero, Nat.div_one]
  omega
theorem dg_s {g X j : Nat} (h : g < 8) : dg (g + 8 * X) (j + 1) = dg X j := by
  unfold dg
  rw [Nat.pow_succ, Nat.mul_comm (8 ^ j) 8, ← Nat.div_div_eq_div_mul, show (g + 8 * X) / 8 = X by omega]
theorem dg_lo {A B n j : Nat} (h : j < n) : dg (A + 8 ^ n * B) j = dg A j := by
  unfold dg
  have e : 8 ^ n = 8 ^ j * (8 * 8 ^ (n - j - 1)) := by
    rw [← Nat.pow_succ', ← Nat.pow_add]
    congr 1
    omega
  rw [e, Nat.mul_assoc, Nat.add_mul_div_left _ _ (Nat.pow_pos (by decide)), Nat.mul_assoc, Nat.add_mul_mod_self_left]
theorem dg_up {A B n j : Nat} (h : A < 8 ^ n) : dg (A + 8 ^ n * B) (n + j) = dg B j := by
  unfold dg
  rw [Nat.pow_add, ← Nat.div_div_eq_div_mul, Nat.add_mul_div_left _ _ (Nat.pow_pos (by decide)), Nat.div_eq_of_lt h, Nat.zero_add]
theorem t_join {g Sa Sb na nb : Nat} (hg5 : 5 ≤ g) (hg : g < 8) (ha : Sa < 8 ^ na) (hb : Sb < 8 ^ nb) (ta : tsub (dg Sa) 0 na) (tb : tsub (dg Sb) 0 nb) : g + 8 * (Sa + 8 ^ na * Sb) < 8 ^ (1 + na + nb) ∧ tsub (dg (g + 8 * (Sa + 8 ^ na * Sb))) 0 (1 + na + nb) := by
  have hX : Sa + 8 ^ na * Sb < 8 ^ (na + nb) := by
    rw [Nat.pow_add]
    have h1 : 8 ^ na * (Sb + 1) ≤ 8 ^ na * 8 ^ nb := Nat.mul_le_mul_left _ hb
    rw [Nat.mul_succ] at h1
    omega
  refine ⟨?_, ?_⟩
  · rw [Nat.add_assoc 1, Nat.add_comm 1, Nat.pow_succ]
    omega
  · refine tsub_join (by rw [dg_0 hg]; exact hg5) ?_ ?_
    · refine tsub_congr ta (fun k hk => ?_)
      rw [show 0 + 1 + k = k + 1 by omega, dg_s hg, dg_lo hk, Nat.zero_add]
    · refine tsub_congr tb (fun k hk => ?_)
      rw [show 0 + 1 + na + k = (na + k) + 1 by omega, dg_s hg, dg_up ha, Nat.zero_add]
theorem t_p3 (n : Nat) : 2 ^ (3 + 3 * n) = 8 * 8 ^ n := by
  rw [Nat.pow_add, Nat.pow_mul]
theorem t_s8 {n S : Nat} (hn : n ≤ 7) (h : S < 8 ^ n) : S < 2097152 := by
  have : 8 ^ n ≤ 8 ^ 7 := Nat.pow_le_pow_right (by decide) hn
  have e : (8 : Nat) ^ 7 = 2097152 := by decide
  omega
theorem wfT_nI {n S : Nat} (hn : n ≤ 7) (h : S < 8 ^ n) : (nI (S + 16777216 * n)).toInt = (S : Int) + 16777216 * n := by
  have := t_s8 hn h
  rw [nI_toInt (by omega)]
  omega
theorem t_ok : ∀ k, k < 5 → nI k ||| 16777216 = nI (k + 16777216 * 1) := by decide
theorem t_kd : ∀ k, k < 5 → k < 8 ^ 1 := by decide
def tX8_ofKind : List (Instr × Nat) := [(.iload_n 0, 1), (.ldc 11, 2), (.ior, 1), (.ireturn, 1)]
theorem tX8_ofKind_ok : f_chk cX8_ofKind 0 tX8_ofKind = true := by decide +kernel
def pX8_ofKind (av : List Value) (I : fM) (L : fN) : Prop := match av with
  | [.int k] => 0 ≤ k.toInt ∧ k.toInt ≤ 4
  | _ => False
def qX8_ofKind (av : List Value) (I : fM) (L : fN) (r : Value) (I' : fM) (L' : fN) : Prop := match av, r with
  | [.int k], .int x => I' = I ∧ L' = L ∧ wfT x 1
  | _, _ => False
set_option maxHeartbeats 4000000 in
set_option maxRecDepth 100000 in
theorem mX8_ofKind {l : Launch} {a : Nat → Nat} {cy dC : Nat → ClassId} {dI : Nat → Nat → Nat} (hinj : ∀ i j, i < 80 → j < 80 → a i = a j → i = j) : f_Met (xE a) l xY 80 a cy dC dI yX8_ofKind cX8_ofKind 1 1 0 pX8_ofKind qX8_ofKind := by
  refine f_met_of (xE_c a) hinj xY_hi (by decide) (fun av I L h => by unfold pX8_ofKind at h; split at h <;> first | exact Nat.le_of_ble_eq_true rfl | exact h.elim) ?_
  intro pP eP sP mP aP bP hP9 cP C av I L hp
  unfold pX8_ofKind at hp
  split at hp
  case h_2 => exact hp.elim
  case h_1 k =>
    refine f_wp_ok C f_cl flX8_ok fiX8_ok fjX8_ok (sn := none) (fun j h => by cases h) (cs := (fun _ => none)) (cz := (fun _ => none)) (fun j S h => by cases h) (fun j S h => by cases h) tX8_ofKind_ok (cut := (fun _ => none)) (fun t P h => by cases h) 20 0 tX8_ofKind tX8_ofKind_ok _ _ _ _ ?_
    refine ⟨rfl, rfl, k.toInt.toNat, ?_, by decide, by omega, ?_⟩
    · show (k ||| 16777216).toInt = _
      rw [t_nI hp.1, t_ok _ (by omega), wfT_nI (by decide) (by omega), ← t_nI hp.1]
    · refine tsub_mk ?_
      unfold dg
      rw [Nat.pow_zero, Nat.div_one]
      omega
def tX8_join : List (Instr × Nat) := [(.iload_n 1, 1), (.bipush 24, 2), (.ishr, 1), (.istore_n 3, 1), (.iconst 1, 1), (.iload_n 3, 1), (.iadd, 1), (.iload_n 2, 1), (.bipush 24, 2), (.ishr, 1), (.iadd, 1), (.istore 4, 2), (.ldc 12, 2), (.istore 5, 2), (.iload_n 0, 1), (.iload_n 1, 1), (.iload 5, 2), (.iand, 1), (.iconst 3, 1), (.ishl, 1), (.ior, 1), (.iload_n 2, 1), (.iload 5, 2), (.iand, 1), (.iconst 3, 1), (.iconst 3, 1), (.iload_n 3, 1), (.imul, 1), (.iadd, 1), (.ishl, 1), (.ior, 1), (.iload 4, 2), (.bipush 24, 2), (.ishl, 1), (.ior, 1), (.ireturn, 1)]
theorem tX8_join_ok : f_chk cX8_join 0 tX8_join = true := by decide +kernel
def pX8_join (av : List Value) (I : fM) (L : fN) : Prop := match av with
  | [.int g, .int u, .int v] => (g.toInt = 5 ∨ g.toInt = 6) ∧ ∃ na nb, wfT u na ∧ wfT v nb ∧ 1 + na + nb ≤ 7
  | _ => False
def qX8_join (av : List Value) (I : fM) (L : fN) (r : Value) (I' : fM) (L' : fN) : Prop := match av, r with
  | [.int g, .int u, .int v], .int x => I' = I ∧ L' = L ∧ ∀ na nb, wfT u na → wfT v nb → wfT x (1 + na + nb)
  | _, _ => False
set_option maxHeartbeats 4000000 in
set_option maxRecDepth 100000 in
theorem mX8_join {l : Launch} {a : Nat → Nat} {cy dC : Nat → ClassId} {dI : Nat → Nat → Nat} (hinj : ∀ i j, i < 80 → j < 80 → a i = a j → i = j) : f_Met (xE a) l xY 80 a cy dC dI yX8_join cX8_join 6 1 0 pX8_join qX8_join := by
  refine f_met_of (xE_c a) hinj xY_hi (by decide) (fun av I L h => by unfold pX8_join at h; split at h <;> first | exact Nat.le_of_ble_eq_true rfl | exact h.elim) ?_
  intro pP eP sP mP aP bP hP9 cP C av I L hp
  unfold pX8_join at hp
  split at hp
  case h_2 => exact hp.elim
  case h_1 g u v =>
    obtain ⟨hg, na, nb, ⟨Sa, a1, a2, a3, a4⟩, ⟨Sb, b1, b2, b3, b4⟩, h7⟩ := hp
    have A8 := t_s8 a2 a3
    have B8 := t_s8 b2 b3
    have eu : u = nI (Sa + 16777216 * na) := by rw [t_nI (x := u) (by omega), a1]; congr 1
    have ev : v = nI (Sb + 16777216 * nb) := by rw [t_nI (x := v) (by omega), b1]; congr 1
    obtain ⟨gv, hgv, eg⟩ : ∃ gv : Nat, g.toInt = gv ∧ g = nI gv := ⟨g.toInt.toNat, by omega, t_nI (by omega)⟩
    have su : u >>> (Int32.ofInt 24 &&& 31) = nI na := by
      rw [eu, pk_shrN (by omega) _ 24 (by decide)]
      congr 1
      omega
    have sv : v >>> (Int32.ofInt 24 &&& 31) = nI nb := by
      rw [ev, pk_shrN (by omega) _ 24 (by decide)]
      congr 1
      omega
    refine f_wp_ok C f_cl flX8_ok fiX8_ok fjX8_ok (sn := none) (fun j h => by cases h) (cs := (fun _ => none)) (cz := (fun _ => none)) (fun j S h => by cases h) (fun j S h => by cases h) tX8_join_ok (cut := (fun _ => none)) (fun t P h => by cases h) 60 0 tX8_join tX8_join_ok _ _ _ _ ?_
    intro z q hz hq hl hu
    intro z2 q2 hz2 hq2 hl2 hu2
    intro z3 q3 hz3 hq3 hl3 hu3
    intro z4 q4 hz4 hq4 hl4 hu4
    have hq : z.toInt = (Int32.ofInt 1).toInt + (u >>> (Int32.ofInt 24 &&& 31)).toInt + 4294967296 * q := hq
    have hq2 : z2.toInt = z.toInt + (v >>> (Int32.ofInt 24 &&& 31)).toInt + 4294967296 * q2 := hq2
    have hq3 : z3.toInt = (Int32.ofInt 3).toInt * (u >>> (Int32.ofInt 24 &&& 31)).toInt + 4294967296 * q3 := hq3
    have hq4 : z4.toInt = (Int32.ofInt 3).toInt + z3.toInt + 4294967296 * q4 := hq4
    rw [su, nI_toInt (by omega), f_ci (by omega) (by omega)] at hq hq3
    rw [sv, nI_toInt (by omega)] at hq2
    rw [f_ci (by omega) (by omega)] at hq4
    have e1 := f_w0 hq hl hu (by omega) (by omega)
    have e2 := f_w0 hq2 hl2 hu2 (by omega) (by omega)
    have e3 := f_w0 hq3 hl3 hu3 (by omega) (by omega)
    have e4 := f_w0 hq4 hl4 hu4 (by omega) (by omega)
    clear hq hq2 hq3 hq4
    have ez2 : z2 = nI (1 + na + nb) := by rw [t_nI (x := z2) (by omega)]; congr 1; omega
    have ez4 : z4 = nI (3 + 3 * na) := by rw [t_nI (x := z4) (by omega)]; congr 1; omega
    have e8 := t_p3 na
    have ha3 : Sa * 8 < 8 * 8 ^ na := by omega
    have hx : (((g ||| ((u &&& 16777215) <<< (Int32.ofInt 3 &&& 31))) ||| ((v &&& 16777215) <<< (z4 &&& 31))) ||| (z2 <<< (Int32.ofInt 24 &&& 31))) = nI (gv + 8 * (Sa + 8 ^ na * Sb) + 16777216 * (1 + na + nb)) := by
      have hj := (t_join (g := gv) (by omega) (by omega) a3 b3 a4 b4).1
      have h21 := t_s8 h7 hj
      have c1 : (u &&& 16777215) <<< (Int32.ofInt 3 &&& 31) = nI (Sa * 2 ^ 3) := by
        rw [eu, pk_andN (by omega) 24 (by decide), show (Sa + 16777216 * na) % 2 ^ 24 = Sa by omega, pk_shlN _ 3 (by decide) (by omega)]
      have hm : 8 * (8 ^ na * Sb) = Sb * 2 ^ (3 + 3 * na) := by rw [e8, Nat.mul_comm Sb, Nat.mul_assoc]
      have c2 : (v &&& 16777215) <<< (z4 &&& 31) = nI (Sb * 2 ^ (3 + 3 * na)) := by
        rw [ev, pk_andN (by omega) 24 (by decide), show (Sb + 16777216 * nb) % 2 ^ 24 = Sb by omega, ez4, pk_shlN _ (3 + 3 * na) (t_sl _ (by omega)) (by rw [← hm]; omega)]
      have c3 : z2 <<< (Int32.ofInt 24 &&& 31) = nI ((1 + na + nb) * 2 ^ 24) := by
        rw [ez2, pk_shlN _ 24 (by decide) (by omega)]
      rw [c1, c2, c3, eg, t_or2 (k := 3) Sa (by omega), t_or2 (k := 3 + 3 * na) Sb (by rw [e8]; omega), t_or2 (k := 24) (1 + na + nb) (by rw [e8, Nat.mul_assoc]; omega)]
      congr 1
      rw [e8, Nat.mul_assoc]
      omega
    refine ⟨rfl, rfl, fun na' nb' hu' hv' => ?_⟩
    obtain ⟨Sa', a1', a2', a3', a4'⟩ := hu'
    obtain ⟨Sb', b1', b2', b3', b4'⟩ := hv'
    have A8' := t_s8 a2' a3'
    have B8' := t_s8 b2' b3'
    obtain rfl : na' = na := by omega
    obtain rfl : nb' = nb := by omega
    have hj := t_join (g := gv) (by omega) (by omega) a3 b3 a4 b4
    refine ⟨_, ?_, h7, hj.1, hj.2⟩
    show (((g ||| ((u &&& 16777215) <<< (Int32.ofInt 3 &&& 31))) ||| ((v &&& 16777215) <<< (z4 &&& 31))) ||| (z2 <<< (Int32.ofInt 24 &&& 31))).toInt = _
    rw [hx, wfT_nI h7 hj.1]
