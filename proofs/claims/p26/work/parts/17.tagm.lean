theorem t_sl : ∀ n, n < 32 → ((nI n &&& 31).toBitVec.smod 32).toNat = n := by decide
theorem t_nI {x : Int32} (h : 0 ≤ x.toInt) : x = nI x.toInt.toNat := by
  apply Int32.toInt_inj.mp
  have h2 := (f_rng x).2
  rw [nI_toInt (by omega)]
  omega
theorem t_and7 (x : Int32) : 0 ≤ (x &&& Int32.ofInt 7).toInt ∧ (x &&& Int32.ofInt 7).toInt ≤ 7 := by
  have h := vp_in_iff.mp (pk_andIn x (m := Int32.ofInt 7) 3 (by decide) (by decide))
  have h2 : (x &&& Int32.ofInt 7).toInt < 8 := h.2
  exact ⟨h.1, by omega⟩
theorem t_node {t z : Int32} {j : Nat} (ht : 0 ≤ t.toInt) (hz : z.toInt = 3 * j) (hj : j ≤ 9) : ((t >>> (z &&& 31)) &&& Int32.ofInt 7).toInt = dgT t j := by
  have h2 := (f_rng t).2
  have ez : z = nI (3 * j) := by
    have := t_nI (x := z) (by omega)
    rw [this, hz]
    congr 1
  rw [t_nI ht, ez, pk_shrN (by omega) _ (3 * j) (t_sl _ (by omega)), pk_andN (by
    have : t.toInt.toNat / 2 ^ (3 * j) ≤ t.toInt.toNat := Nat.div_le_self _ _
    omega) 3 (by decide)]
  have hm : t.toInt.toNat / 2 ^ (3 * j) % 2 ^ 3 < 8 := Nat.mod_lt _ (by decide)
  rw [nI_toInt (by omega)]
  unfold dgT dg
  rw [← t_nI ht, Nat.pow_mul]
def tX8_nodeAt : List (Instr × Nat) := [(.iload_n 0, 1), (.iconst 3, 1), (.iload_n 1, 1), (.imul, 1), (.ishr, 1), (.bipush 7, 2), (.iand, 1), (.ireturn, 1)]
theorem tX8_nodeAt_ok : f_chk cX8_nodeAt 0 tX8_nodeAt = true := by decide +kernel
def pX8_nodeAt (av : List Value) (I : fM) (L : fN) : Prop := match av with
  | [.int t, .int j] => True
  | _ => False
def qX8_nodeAt (av : List Value) (I : fM) (L : fN) (r : Value) (I' : fM) (L' : fN) : Prop := match av, r with
  | [.int t, .int j], .int x => I' = I ∧ L' = L ∧ 0 ≤ x.toInt ∧ x.toInt ≤ 7 ∧ (0 ≤ t.toInt → 0 ≤ j.toInt → j.toInt ≤ 9 → x.toInt = dgT t j.toInt.toNat)
  | _, _ => False
set_option maxHeartbeats 4000000 in
set_option maxRecDepth 100000 in
theorem mX8_nodeAt {l : Launch} {a : Nat → Nat} {cy dC : Nat → ClassId} {dI : Nat → Nat → Nat} (hinj : ∀ i j, i < 80 → j < 80 → a i = a j → i = j) : f_Met (xE a) l xY 80 a cy dC dI yX8_nodeAt cX8_nodeAt 2 1 0 pX8_nodeAt qX8_nodeAt := by
  refine f_met_of (xE_c a) hinj xY_hi (by decide) (fun av I L h => by unfold pX8_nodeAt at h; split at h <;> first | exact Nat.le_of_ble_eq_true rfl | exact h.elim) ?_
  intro pP eP sP mP aP bP hP9 cP C av I L hp
  unfold pX8_nodeAt at hp
  split at hp
  case h_2 => exact hp.elim
  case h_1 t j =>
    refine f_wp_ok C f_cl flX8_ok fiX8_ok fjX8_ok (sn := none) (fun j h => by cases h) (cs := (fun _ => none)) (cz := (fun _ => none)) (fun j S h => by cases h) (fun j S h => by cases h) tX8_nodeAt_ok (cut := (fun _ => none)) (fun t P h => by cases h) 20 0 tX8_nodeAt tX8_nodeAt_ok _ _ _ _ ?_
    intro z q hz hq hl hu
    refine ⟨rfl, rfl, (t_and7 _).1, (t_and7 _).2, fun h1 h2 h3 => ?_⟩
    rw [f_ci (by omega) (by omega)] at hq
    exact t_node h1 (by omega) (by omega)
def iX8_behind (t j : Int32) (n : Nat) (o i : Int32) : Prop := j.toInt ≤ i.toInt ∧ i.toInt ≤ 7 ∧ 7 - i.toInt < n ∧ -8 ≤ o.toInt ∧ o.toInt ≤ 9 + i.toInt ∧ (0 ≤ t.toInt → o.toInt = cn (dgT t) j.toInt.toNat (i.toInt - j.toInt).toNat ∧ ∀ k : Nat, (k : Int) < i.toInt - j.toInt → 0 < cn (dgT t) j.toInt.toNat k)
abbrev lX8_behind (t j o i : Int32) : fLs := [(3, .int i), (2, .int o), (0, .int t), (1, .int j)]
def tX8_behind : List (Instr × Nat) := [(.iconst 1, 1), (.istore_n 2, 1), (.iload_n 1, 1), (.istore_n 3, 1), (.iload_n 2, 1), (.ifCond .le 32, 3), (.iload_n 3, 1), (.bipush 7, 2), (.if_icmp .ge 26, 3), (.iload_n 2, 1), (.iload_n 0, 1), (.iload_n 3, 1), (.invokestatic 13, 3), (.iconst 5, 1), (.if_icmp .ge 7, 3), (.iconst (-1), 1), (.goto 4, 3), (.iconst 1, 1), (.iadd, 1), (.istore_n 2, 1), (.iinc 3 1, 3), (.goto (-30), 3), (.iload_n 3, 1), (.ireturn, 1)]
theorem tX8_behind_ok : f_chk cX8_behind 0 tX8_behind = true := by decide +kernel
def pX8_behind (av : List Value) (I : fM) (L : fN) : Prop := match av with
  | [.int t, .int j] => 0 ≤ j.toInt ∧ j.toInt ≤ 7
  | _ => False
def qX8_behind (av : List Value) (I : fM) (L : fN) (r : Value) (I' : fM) (L' : fN) : Prop := match av, r with
  | [.int t, .int j], .int x => I' = I ∧ L' = L ∧ j.toInt ≤ x.toInt ∧ x.toInt ≤ 7 ∧ (0 ≤ t.toInt → ∀ n, tsub (dgT t) j.toInt.toNat n → j.toInt + n ≤ 7 → x.toInt = j.toInt + n)
  | _, _ => False
set_option maxHeartbeats 4000000 in
set_option maxRecDepth 100000 in
theorem mX8_behind {l : Launch} {a : Nat → Nat} {cy dC : Nat → ClassId} {dI : Nat → Nat → Nat} (hinj : ∀ i j, i < 80 → j < 80 → a i = a j → i = j) : f_Met (xE a) l xY 80 a cy dC dI yX8_behind cX8_behind 4 1 1 pX8_behind qX8_behind := by
  refine f_met_of (xE_c a) hinj xY_hi (by decide) (fun av I L h => by unfold pX8_behind at h; split at h <;> first | exact Nat.le_of_ble_eq_true rfl | exact h.elim) ?_
  intro pP eP sP mP aP bP hP9 cP C av I L hp
  unfold pX8_behind at hp
  split at hp
  case h_2 => exact hp.elim
  case h_1 t j =>
    obtain ⟨h1, h2⟩ := hp
    have lp : ∀ (n : Nat) (o i : Int32), iX8_behind t j n o i → f_W pP l eP (f_rm 1) sP mP aP bP hP9 cP xY 80 a cy dC dI 4 (f_K 1 (qX8_behind [.int t, .int j] I L)) 4 (lX8_behind t j o i) [] I L := by
      intro n
      induction n with
      | zero =>
        intro o i h
        obtain ⟨g1, g2, g3, -⟩ := h
        omega
      | succ n ih =>
        intro o i h
        obtain ⟨g1, g2, g3, g4, g5, g6⟩ := h
        have endd : (o.toInt ≤ 0 ∨ 7 ≤ i.toInt) → (0 ≤ t.toInt → ∀ n, tsub (dgT t) j.toInt.toNat n → j.toInt + n ≤ 7 → i.toInt = j.toInt + n) := by
          intro hc ht n hs hn
          obtain ⟨e1, e2⟩ := g6 ht
          -- n is where it comes to nought first
          rcases Classical.em (i.toInt - j.toInt < (n : Int)) with w | w
          · exfalso
            have p := hs.2.1 (i.toInt - j.toInt).toNat (by omega)
            rcases hc with hc | hc <;> omega
          · rcases Classical.em ((n : Int) < i.toInt - j.toInt) with w2 | w2
            · exfalso
              have p := e2 n (by omega)
              have p2 := hs.2.2
              omega
            · omega
        refine f_wp_ok C f_cl flX8_ok fiX8_ok fjX8_ok (sn := none) (fun j h => by cases h) (cs := (fun _ => none)) (cz := (f_cnl [(13, (2, 1, 0, pX8_nodeAt, qX8_nodeAt))])) (fun j S h => by cases h) (f_cnl_of (P := fun j S => f_cok pP l eP (f_rm 1) sP mP aP bP hP9 cP xY 80 a cy dC dI 4 _ _ (.invokestatic j) false S) (List.forall_mem_cons.mpr ⟨f_cokS C (mX8_nodeAt hinj) (List.forall_mem_cons.mpr ⟨(mlX8_ok _ (List.mem_of_getElem? (i := 0) rfl)), kc_X8_nodeAt⟩) (by decide +kernel) ⟨Nat.le_of_ble_eq_true rfl, Nat.le_of_ble_eq_true rfl⟩, fun _ h => absurd h List.not_mem_nil⟩)) tX8_behind_ok (cut := (f_cnl [(4, (fun ls' st' I' L' => ∃ o i, (∀ q ∈ lX8_behind t j o i, q ∈ ls') ∧ st' = [] ∧ I' = I ∧ L' = L ∧ iX8_behind t j n o i))])) (f_cnl_of (P := fun (tQ : Nat) (P : fLs → List Value → fM → fN → Prop) => ∀ ls' st' I' L', P ls' st' I' L' → f_W pP l eP (f_rm 1) sP mP aP bP hP9 cP xY 80 a cy dC dI 4 (f_K 1 (qX8_behind [.int t, .int j] I L)) tQ ls' st' I' L') (List.forall_mem_cons.mpr ⟨(fun ls' st' I' L' h => by obtain ⟨o, i, hs, e1, e2, e3, h4⟩ := h; rw [e1, e2, e3]; exact f_W_sub hs (ih o i h4)), fun _ h => absurd h List.not_mem_nil⟩)) 40 4 (f_seek 4 0 tX8_behind) (f_seek_ok 4 0 tX8_behind tX8_behind_ok) _ _ _ _ ?_
        apply And.intro
        · intro h3
          exact ⟨rfl, rfl, g1, g2, endd (Or.inl h3)⟩
        · intro h3
          apply And.intro
          · intro h4
            rw [f_ci (by omega) (by omega)] at h4
            exact ⟨rfl, rfl, g1, g2, endd (Or.inr h4)⟩
          · intro h4
            rw [f_ci (by omega) (by omega)] at h4
            refine And.intro trivial ?_
            intro x I1 L1 hq
            obtain ⟨rfl, rfl, x0, x7, hx⟩ := hq
            have step : ∀ (c : Int), (c = if x.toInt < 5 then -1 else 1) → ∀ (z z2 : Int32), z.toInt = o.toInt + c → z2.toInt = i.toInt + 1 → iX8_behind t j n z z2 := by
              intro c hc z z2 ez ez2
              have hc2 : -1 ≤ c ∧ c ≤ 1 := by split at hc <;> omega
              refine ⟨by omega, by omega, by omega, by omega, by omega, fun ht => ?_⟩
              obtain ⟨e1, e2⟩ := g6 ht
              have ex := hx ht (by omega) (by omega)
              have ed : (z2.toInt - j.toInt).toNat = (i.toInt - j.toInt).toNat + 1 := by omega
              refine ⟨?_, fun k hk => ?_⟩
              · rw [ed]
                show z.toInt = cn (dgT t) j.toInt.toNat (i.toInt - j.toInt).toNat + (if dgT t (j.toInt.toNat + (i.toInt - j.toInt).toNat) < 5 then -1 else 1)
                rw [show j.toInt.toNat + (i.toInt - j.toInt).toNat = i.toInt.toNat by omega, ← e1, ez, hc]
                congr 1
                by_cases w : x.toInt < 5
                · rw [if_pos w, if_pos (by omega)]
                · rw [if_neg w, if_neg (by omega)]
              · rcases Classical.em ((k : Int) < i.toInt - j.toInt) with w | w
                · exact e2 k w
                · rw [show k = (i.toInt - j.toInt).toNat by omega, ← e1]
                  exact h3
            apply And.intro
            · intro h5
              rw [f_ci (by omega) (by omega)] at h5
              intro z q hz hq hl hu
              rw [f_ci (by omega) (by omega)] at hq
              intro z2 q2 hz2 hq2 hl2 hu2
              exact ⟨z, z2, (by intro q9 h9; simp only [List.mem_cons, List.not_mem_nil, or_false] at h9; rcases h9 with h9 | h9 | h9 | h9 <;> subst h9 <;> repeat (first | exact List.mem_cons_self | apply List.mem_cons_of_mem)), rfl, rfl, rfl, step 1 (by rw [if_neg (by omega)]) z z2 (by omega) (by omega)⟩
            · intro h5
              rw [f_ci (by omega) (by omega)] at h5
              intro z q hz hq hl hu
              rw [f_ci (by omega) (by omega)] at hq
              intro z2 q2 hz2 hq2 hl2 hu2
              exact ⟨z, z2, (by intro q9 h9; simp only [List.mem_cons, List.not_mem_nil, or_false] at h9; rcases h9 with h9 | h9 | h9 | h9 <;> subst h9 <;> repeat (first | exact List.mem_cons_self | apply List.mem_cons_of_mem)), rfl, rfl, rfl, step (-1) (by rw [if_pos (by omega)]) z z2 (by omega) (by omega)⟩
    refine f_wp_ok C f_cl flX8_ok fiX8_ok fjX8_ok (sn := none) (fun j h => by cases h) (cs := (fun _ => none)) (cz := (f_cnl [(13, (2, 1, 0, pX8_nodeAt, qX8_nodeAt))])) (fun j S h => by cases h) (f_cnl_of (P := fun j S => f_cok pP l eP (f_rm 1) sP mP aP bP hP9 cP xY 80 a cy dC dI 4 _ _ (.invokestatic j) false S) (List.forall_mem_cons.mpr ⟨f_cokS C (mX8_nodeAt hinj) (List.forall_mem_cons.mpr ⟨(mlX8_ok _ (List.mem_of_getElem? (i := 0) rfl)), kc_X8_nodeAt⟩) (by decide +kernel) ⟨Nat.le_of_ble_eq_true rfl, Nat.le_of_ble_eq_true rfl⟩, fun _ h => absurd h List.not_mem_nil⟩)) tX8_behind_ok (cut := (f_cnl [(4, (fun ls' st' I' L' => ∃ o i, (∀ q ∈ lX8_behind t j o i, q ∈ ls') ∧ st' = [] ∧ I' = I ∧ L' = L ∧ iX8_behind t j 9 o i))])) (f_cnl_of (P := fun (tQ : Nat) (P : fLs → List Value → fM → fN → Prop) => ∀ ls' st' I' L', P ls' st' I' L' → f_W pP l eP (f_rm 1) sP mP aP bP hP9 cP xY 80 a cy dC dI 4 (f_K 1 (qX8_behind [.int t, .int j] I L)) tQ ls' st' I' L') (List.forall_mem_cons.mpr ⟨(fun ls' st' I' L' h => by obtain ⟨o, i, hs, e1, e2, e3, h4⟩ := h; rw [e1, e2, e3]; exact f_W_sub hs (lp 9 o i h4)), fun _ h => absurd h List.not_mem_nil⟩)) 40 0 tX8_behind tX8_behind_ok _ _ _ _ ?_
    refine ⟨Int32.ofInt 1, j, (by intro q9 h9; simp only [List.mem_cons, List.not_mem_nil, or_false] at h9; rcases h9 with h9 | h9 | h9 | h9 <;> subst h9 <;> repeat (first | exact List.mem_cons_self | apply List.mem_cons_of_mem)), rfl, rfl, rfl, Int.le_refl _, h2, by omega, by decide, by show (1 : Int) ≤ _; omega, fun _ => ⟨?_, fun k hk => by omega⟩⟩
    rw [Int.sub_self]
    rfl
def tX8_simpleNumber : List (Instr × Nat) := [(.iload_n 0, 1), (.iload_n 1, 1), (.invokestatic 13, 3), (.istore_n 3, 1), (.iload_n 3, 1), (.iconst 5, 1), (.if_icmp .ge 5, 3), (.iload_n 3, 1), (.ireturn, 1), (.iload_n 3, 1), (.iconst 5, 1), (.if_icmp .ne 7, 3), (.iload_n 2, 1), (.goto 8, 3), (.iload_n 2, 1), (.iload_n 2, 1), (.iload_n 2, 1), (.imul, 1), (.iadd, 1), (.istore 4, 2), (.iload 4, 2), (.iload_n 0, 1), (.iload_n 1, 1), (.iconst 1, 1), (.iadd, 1), (.invokestatic 13, 3), (.iload_n 2, 1), (.imul, 1), (.iadd, 1), (.iload_n 0, 1), (.iload_n 1, 1), (.iconst 2, 1), (.iadd, 1), (.invokestatic 13, 3), (.iadd, 1), (.ireturn, 1)]
theorem tX8_simpleNumber_ok : f_chk cX8_simpleNumber 0 tX8_simpleNumber = true := by decide +kernel
def pX8_simpleNumber (av : List Value) (I : fM) (L : fN) : Prop := match av with
  | [.int t, .int j, .int k] => True
  | _ => False
def qX8_simpleNumber (av : List Value) (I : fM) (L : fN) (r : Value) (I' : fM) (L' : fN) : Prop := match av, r with
  | [.int t, .int j, .int k], .int x => I' = I ∧ L' = L
  | _, _ => False
set_option maxHeartbeats 4000000 in
set_option maxRecDepth 100000 in
theorem mX8_simpleNumber {l : Launch} {a : Nat → Nat} {cy dC : Nat → ClassId} {dI : Nat → Nat → Nat} (hinj : ∀ i j, i < 80 → j < 80 → a i = a j → i = j) : f_Met (xE a) l xY 80 a cy dC dI yX8_simpleNumber cX8_simpleNumber 5 1 1 pX8_simpleNumber qX8_simpleNumber := by
  refine f_met_of (xE_c a) hinj xY_hi (by decide) (fun av I L h => by unfold pX8_simpleNumber at h; split at h <;> first | exact Nat.le_of_ble_eq_true rfl | exact h.elim) ?_
  intro pP eP sP mP aP bP hP9 cP C av I L hp
  unfold pX8_simpleNumber at hp
  split at hp
  case h_2 => exact hp.elim
  case h_1 t j k =>
    refine f_wp_ok C f_cl flX8_ok fiX8_ok fjX8_ok (sn := none) (fun j h => by cases h) (cs := (fun _ => none)) (cz := (f_cnl [(13, (2, 1, 0, pX8_nodeAt, qX8_nodeAt))])) (fun j S h => by cases h) (f_cnl_of (P := fun j S => f_cok pP l eP (f_rm 1) sP mP aP bP hP9 cP xY 80 a cy dC dI 5 _ _ (.invokestatic j) false S) (List.forall_mem_cons.mpr ⟨f_cokS C (mX8_nodeAt hinj) (List.forall_mem_cons.mpr ⟨(mlX8_ok _ (List.mem_of_getElem? (i := 0) rfl)), kc_X8_nodeAt⟩) (by decide +kernel) ⟨Nat.le_of_ble_eq_true rfl, Nat.le_of_ble_eq_true rfl⟩, fun _ h => absurd h List.not_mem_nil⟩)) tX8_simpleNumber_ok (cut := (fun _ => none)) (fun t P h => by cases h) 60 0 tX8_simpleNumber tX8_simpleNumber_ok _ _ _ _ ?_
    refine And.intro trivial ?_
    intro x I1 L1 hq
    obtain ⟨rfl, rfl, -⟩ := hq
    apply And.intro
    · intro h
      apply And.intro
      · intro h
        intro z q _ _ _ _ z2 q2 _ _ _ _ z3 q3 _ _ _ _
        refine And.intro trivial ?_
        intro x2 I2 L2 hq
        obtain ⟨rfl, rfl, -⟩ := hq
        intro z4 q4 _ _ _ _ z5 q5 _ _ _ _ z6 q6 _ _ _ _
        refine And.intro trivial ?_
        intro x3 I3 L3 hq
        obtain ⟨rfl, rfl, -⟩ := hq
        intro z7 q7 _ _ _ _
        exact ⟨rfl, rfl⟩
      · intro h
        intro z3 q3 _ _ _ _
        refine And.intro trivial ?_
        intro x2 I2 L2 hq
        obtain ⟨rfl, rfl, -⟩ := hq
        intro z4 q4 _ _ _ _ z5 q5 _ _ _ _ z6 q6 _ _ _ _
        refine And.intro trivial ?_
        intro x3 I3 L3 hq
        obtain ⟨rfl, rfl, -⟩ := hq
        intro z7 q7 _ _ _ _
        exact ⟨rfl, rfl⟩
    · intro h
      exact ⟨rfl, rfl⟩
