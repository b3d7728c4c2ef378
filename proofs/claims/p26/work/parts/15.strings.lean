theorem f_x1d : ∀ k, k < 10 → 0 ≤ (nI k ^^^ Int32.ofInt 1).toInt ∧ (nI k ^^^ Int32.ofInt 1).toInt < 10 := by decide
theorem f_x1 {m : Int32} (h0 : 0 ≤ m.toInt) (h9 : m.toInt ≤ 9) : f_in (m ^^^ Int32.ofInt 1) 10 := by
  obtain ⟨j, hj, e⟩ := vp_in_of (n := 10) (vp_in_iff.mpr ⟨h0, by show m.toInt < 10; omega⟩) (by decide)
  rw [e]
  exact f_x1d j hj
def tX7_moved : List (Instr × Nat) := [(.iload_n 0, 1), (.iconst (-1), 1), (.if_icmp .ne 7, 3), (.iconst (-1), 1), (.goto 6, 3), (.iload_n 1, 1), (.iload_n 0, 1), (.iadd, 1), (.ireturn, 1)]
theorem tX7_moved_ok : f_chk cX7_moved 0 tX7_moved = true := by decide +kernel
def pX7_moved (av : List Value) (I : fM) (L : fN) : Prop := match av with
  | [.int e, .int b] => -1 ≤ e.toInt ∧ e.toInt ≤ 3 ∧ 0 ≤ b.toInt ∧ b.toInt ≤ 20
  | _ => False
def qX7_moved (av : List Value) (I : fM) (L : fN) (r : Value) (I' : fM) (L' : fN) : Prop := match av, r with
  | [.int e, .int b], .int x => I' = I ∧ L' = L ∧ ((e.toInt = -1 ∧ x.toInt = -1) ∨ (0 ≤ e.toInt ∧ x.toInt = b.toInt + e.toInt))
  | _, _ => False
set_option maxHeartbeats 4000000 in
set_option maxRecDepth 100000 in
theorem mX7_moved {l : Launch} {a : Nat → Nat} {cy dC : Nat → ClassId} {dI : Nat → Nat → Nat} (hinj : ∀ i j, i < 80 → j < 80 → a i = a j → i = j) : f_Met (xE a) l xY 80 a cy dC dI yX7_moved cX7_moved 2 1 0 pX7_moved qX7_moved := by
  refine f_met_of (xE_c a) hinj xY_hi (by decide) (fun av I L h => by unfold pX7_moved at h; split at h <;> first | exact Nat.le_of_ble_eq_true rfl | exact h.elim) ?_
  intro pP eP sP mP aP bP hP9 cP C av I L hp
  unfold pX7_moved at hp
  split at hp
  case h_2 => exact hp.elim
  case h_1 e b =>
    refine f_wp_ok C f_cl flX7_ok fiX7_ok fjX7_ok (sn := none) (fun j h => by cases h) (cs := (fun _ => none)) (cz := (fun _ => none)) (fun j S h => by cases h) (fun j S h => by cases h) tX7_moved_ok (cut := (fun _ => none)) (fun t P h => by cases h) 20 0 tX7_moved tX7_moved_ok _ _ _ _ ?_
    apply And.intro
    · intro h
      rw [f_ci (by omega) (by omega)] at h
      intro z q hz hq hl hu
      exact ⟨rfl, rfl, Or.inr ⟨by omega, by omega⟩⟩
    · intro h
      rw [f_ci (by omega) (by omega)] at h
      exact ⟨rfl, rfl, Or.inl ⟨h, by decide⟩⟩
def tX7_isFlat : List (Instr × Nat) := [(.aload_n 0, 1), (.getfield 35, 3), (.aload_n 0, 1), (.getfield 48, 3), (.iaload, 1), (.iconst 1, 1), (.iand, 1), (.ifCond .eq 7, 3), (.iconst 1, 1), (.goto 4, 3), (.iconst 0, 1), (.ireturn, 1)]
theorem tX7_isFlat_ok : f_chk cX7_isFlat 0 tX7_isFlat = true := by decide +kernel
def pX7_isFlat (av : List Value) (I : fM) (L : fN) : Prop := match av with
  | [.ref 31] => xR I
  | _ => False
def qX7_isFlat (av : List Value) (I : fM) (L : fN) (r : Value) (I' : fM) (L' : fN) : Prop := match av, r with
  | [.ref 31], .int x => I' = I ∧ L' = L ∧ (x.toInt = 0 ∨ x.toInt = 1)
  | _, _ => False
set_option maxHeartbeats 4000000 in
set_option maxRecDepth 100000 in
theorem mX7_isFlat {l : Launch} {a : Nat → Nat} {cy dC : Nat → ClassId} {dI : Nat → Nat → Nat} (hinj : ∀ i j, i < 80 → j < 80 → a i = a j → i = j) : f_Met (xE a) l xY 80 a cy dC dI yX7_isFlat cX7_isFlat 1 3 0 pX7_isFlat qX7_isFlat := by
  refine f_met_of (xE_c a) hinj xY_hi (by decide) (fun av I L h => by unfold pX7_isFlat at h; split at h <;> first | exact Nat.le_of_ble_eq_true rfl | exact h.elim) ?_
  intro pP eP sP mP aP bP hP9 cP C av I L hp
  unfold pX7_isFlat at hp
  split at hp
  case h_2 => exact hp.elim
  case h_1 =>
    have hB : 0 ≤ (I 31 9).toInt ∧ (I 31 9).toInt ≤ 20 := hp 31 9
    refine f_wp_ok C f_cl flX7_ok fiX7_ok fjX7_ok (sn := none) (fun j h => by cases h) (cs := (fun _ => none)) (cz := (fun _ => none)) (fun j S h => by cases h) (fun j S h => by cases h) tX7_isFlat_ok (cut := (fun _ => none)) (fun t P h => by cases h) 20 0 tX7_isFlat tX7_isFlat_ok _ _ _ _ ?_
    refine And.intro ⟨hB.1, by show (I 31 9).toInt < 21; omega⟩ ?_
    apply And.intro
    · intro h
      exact ⟨Or.inl rfl, rfl, rfl, Or.inl rfl⟩
    · intro h
      exact ⟨Or.inr rfl, rfl, rfl, Or.inr rfl⟩
def tX7_leavesFlat : List (Instr × Nat) := [(.aload_n 0, 1), (.getfield 13, 3), (.iload_n 1, 1), (.iaload, 1), (.aload_n 0, 1), (.getfield 13, 3), (.iload_n 2, 1), (.iaload, 1), (.ixor, 1), (.iconst 1, 1), (.if_icmp .ne 37, 3), (.aload_n 0, 1), (.getfield 35, 3), (.iload_n 2, 1), (.iaload, 1), (.iload_n 1, 1), (.iconst 1, 1), (.iadd, 1), (.ishr, 1), (.iconst 1, 1), (.iand, 1), (.ifCond .eq 22, 3), (.aload_n 0, 1), (.getfield 35, 3), (.iload_n 3, 1), (.iaload, 1), (.iload_n 2, 1), (.iconst 1, 1), (.iadd, 1), (.ishr, 1), (.iconst 1, 1), (.iand, 1), (.ifCond .eq 7, 3), (.iconst 1, 1), (.goto 4, 3), (.iconst 0, 1), (.ireturn, 1)]
theorem tX7_leavesFlat_ok : f_chk cX7_leavesFlat 0 tX7_leavesFlat = true := by decide +kernel
def pX7_leavesFlat (av : List Value) (I : fM) (L : fN) : Prop := match av with
  | [.ref 31, .int u, .int v, .int w] => 0 ≤ u.toInt ∧ u.toInt ≤ 19 ∧ 0 ≤ v.toInt ∧ v.toInt ≤ 19 ∧ 0 ≤ w.toInt ∧ w.toInt ≤ 20
  | _ => False
def qX7_leavesFlat (av : List Value) (I : fM) (L : fN) (r : Value) (I' : fM) (L' : fN) : Prop := match av, r with
  | [.ref 31, .int u, .int v, .int w], .int x => I' = I ∧ L' = L ∧ (x.toInt = 0 ∨ x.toInt = 1)
  | _, _ => False
set_option maxHeartbeats 4000000 in
set_option maxRecDepth 100000 in
theorem mX7_leavesFlat {l : Launch} {a : Nat → Nat} {cy dC : Nat → ClassId} {dI : Nat → Nat → Nat} (hinj : ∀ i j, i < 80 → j < 80 → a i = a j → i = j) : f_Met (xE a) l xY 80 a cy dC dI yX7_leavesFlat cX7_leavesFlat 4 3 0 pX7_leavesFlat qX7_leavesFlat := by
  refine f_met_of (xE_c a) hinj xY_hi (by decide) (fun av I L h => by unfold pX7_leavesFlat at h; split at h <;> first | exact Nat.le_of_ble_eq_true rfl | exact h.elim) ?_
  intro pP eP sP mP aP bP hP9 cP C av I L hp
  unfold pX7_leavesFlat at hp
  split at hp
  case h_2 => exact hp.elim
  case h_1 u v w =>
    obtain ⟨h1, h2, h3, h4, h5, h6⟩ := hp
    refine f_wp_ok C f_cl flX7_ok fiX7_ok fjX7_ok (sn := none) (fun j h => by cases h) (cs := (fun _ => none)) (cz := (fun _ => none)) (fun j S h => by cases h) (fun j S h => by cases h) tX7_leavesFlat_ok (cut := (fun _ => none)) (fun t P h => by cases h) 50 0 tX7_leavesFlat tX7_leavesFlat_ok _ _ _ _ ?_
    refine And.intro ⟨h1, by show u.toInt < 20; omega⟩ ?_
    refine And.intro ⟨h3, by show v.toInt < 20; omega⟩ ?_
    apply And.intro
    · intro h
      exact ⟨Or.inl rfl, rfl, rfl, Or.inl rfl⟩
    · intro h
      refine And.intro ⟨h3, by show v.toInt < 21; omega⟩ ?_
      intro z q hz hq hl hu
      apply And.intro
      · intro h
        exact ⟨Or.inl rfl, rfl, rfl, Or.inl rfl⟩
      · intro h
        refine And.intro ⟨h5, by show w.toInt < 21; omega⟩ ?_
        intro z2 q2 hz2 hq2 hl2 hu2
        apply And.intro
        · intro h
          exact ⟨Or.inl rfl, rfl, rfl, Or.inl rfl⟩
        · intro h
          exact ⟨Or.inr rfl, rfl, rfl, Or.inr rfl⟩
def jX7_liftTo (b w : Int32) (I0 : fM) (L0 : fN) (n : Nat) (ls : fLs) (st : List Value) (I : fM) (L : fN) : Prop := ∃ (i : Int32), ls = [(3, .int i), (2, .int w), (0, .ref 31), (1, .int b)] ∧ st = [] ∧ 0 ≤ i.toInt ∧ i.toInt ≤ 10 ∧ 10 - i.toInt < n ∧ xR I ∧ f_fr [31, 38] I0 I ∧ I 31 9 = b ∧ L = L0
def tX7_liftTo : List (Instr × Nat) := [(.aload_n 0, 1), (.iload_n 1, 1), (.putfield 48, 3), (.iconst 1, 1), (.iload_n 1, 1), (.ishl, 1), (.iconst 1, 1), (.isub, 1), (.istore_n 2, 1), (.iconst 0, 1), (.istore_n 3, 1), (.iload_n 3, 1), (.bipush 10, 2), (.if_icmp .ge 19, 3), (.aload_n 0, 1), (.getfield 32, 3), (.iload_n 3, 1), (.dup2, 1), (.iaload, 1), (.iload_n 2, 1), (.iand, 1), (.iastore, 1), (.iinc 3 1, 3), (.goto (-19), 3), (.return_, 1)]
theorem tX7_liftTo_ok : f_chk cX7_liftTo 0 tX7_liftTo = true := by decide +kernel
def pX7_liftTo (av : List Value) (I : fM) (L : fN) : Prop := match av with
  | [.ref 31, .int b] => xR I ∧ 0 ≤ b.toInt ∧ b.toInt ≤ 20
  | _ => False
def qX7_liftTo (av : List Value) (I : fM) (L : fN) (r : Value) (I' : fM) (L' : fN) : Prop := match av, r with
  | [.ref 31, .int b], .null => xR I' ∧ f_fr [31, 38] I I' ∧ L' = L ∧ I' 31 9 = b
  | _, _ => False
set_option maxHeartbeats 4000000 in
set_option maxRecDepth 100000 in
theorem mX7_liftTo {l : Launch} {a : Nat → Nat} {cy dC : Nat → ClassId} {dI : Nat → Nat → Nat} (hinj : ∀ i j, i < 80 → j < 80 → a i = a j → i = j) : f_Met (xE a) l xY 80 a cy dC dI yX7_liftTo cX7_liftTo 4 0 0 pX7_liftTo qX7_liftTo := by
  refine f_met_of (xE_c a) hinj xY_hi (by decide) (fun av I L h => by unfold pX7_liftTo at h; split at h <;> first | exact Nat.le_of_ble_eq_true rfl | exact h.elim) ?_
  intro pP eP sP mP aP bP hP9 cP C av I L hp
  unfold pX7_liftTo at hp
  split at hp
  case h_2 => exact hp.elim
  case h_1 b =>
    obtain ⟨hR, h1, h2⟩ := hp
    have lp : ∀ w : Int32, ∀ (nn : Nat) (ls' : fLs) (st' : List Value) (I' : fM) (L' : fN), jX7_liftTo b w I L nn ls' st' I' L' → f_W pP l eP (f_rm 0) sP mP aP bP hP9 cP xY 80 a cy dC dI 4 (f_K 0 (qX7_liftTo [.ref 31, .int b] I L)) 13 ls' st' I' L' := by
      intro w n
      induction n with
      | zero =>
        intro ls' st' I' L' h
        obtain ⟨i, -, -, h3, h4, hm, -⟩ := h
        omega
      | succ n ih =>
        intro ls' st' I' L' h
        obtain ⟨i, rfl, rfl, h3, h4, hm, hR', hF, hb, hL⟩ := h
        refine f_wp_ok C f_cl flX7_ok fiX7_ok fjX7_ok (sn := none) (fun j h => by cases h) (cs := (fun _ => none)) (cz := (fun _ => none)) (fun j S h => by cases h) (fun j S h => by cases h) tX7_liftTo_ok (cut := (f_cnl [(13, jX7_liftTo b w I L n)])) (f_cnl_of (P := fun (tQ : Nat) (P : fLs → List Value → fM → fN → Prop) => ∀ ls' st' I' L', P ls' st' I' L' → f_W pP l eP (f_rm 0) sP mP aP bP hP9 cP xY 80 a cy dC dI 4 (f_K 0 (qX7_liftTo [.ref 31, .int b] I L)) tQ ls' st' I' L') (List.forall_mem_cons.mpr ⟨ih, fun _ h => absurd h List.not_mem_nil⟩)) 50 13 (f_seek 13 0 tX7_liftTo) (f_seek_ok 13 0 tX7_liftTo tX7_liftTo_ok) _ _ _ _ ?_
        apply And.intro
        · intro h5
          exact ⟨hR', hF, hL, hb⟩
        · intro h5
          rw [f_ci (by omega) (by omega)] at h5
          have g : f_in i 10 := ⟨h3, h5⟩
          refine And.intro g ?_
          refine And.intro g ?_
          intro z q hz hq hl hu
          exact ⟨z, rfl, rfl, by omega, by omega, by omega, xR_a hR' (by exact f_rng _), f_fr_up hF rfl, hb, hL⟩
    refine f_wp_ok C f_cl flX7_ok fiX7_ok fjX7_ok (sn := none) (fun j h => by cases h) (cs := (fun _ => none)) (cz := (fun _ => none)) (fun j S h => by cases h) (fun j S h => by cases h) tX7_liftTo_ok (cut := (f_cnl [(13, jX7_liftTo b ((Int32.ofInt 1 <<< (b &&& 31)) - Int32.ofInt 1) I L 11)])) (f_cnl_of (P := fun (tQ : Nat) (P : fLs → List Value → fM → fN → Prop) => ∀ ls' st' I' L', P ls' st' I' L' → f_W pP l eP (f_rm 0) sP mP aP bP hP9 cP xY 80 a cy dC dI 4 (f_K 0 (qX7_liftTo [.ref 31, .int b] I L)) tQ ls' st' I' L') (List.forall_mem_cons.mpr ⟨lp _ 11, fun _ h => absurd h List.not_mem_nil⟩)) 50 0 tX7_liftTo tX7_liftTo_ok _ _ _ _ ?_
    intro z q hz hq hl hu
    refine ⟨Int32.ofInt 0, ?_, rfl, by decide, by decide, by decide, xR_f hR (by exact ⟨h1, h2⟩), f_fr_up f_fr_rf rfl, rfl, rfl⟩
    rw [hz]
    rfl
def jX7_stretch (m w : Int32) (I0 : fM) (L0 : fN) (n : Nat) (ls : fLs) (st : List Value) (I : fM) (L : fN) : Prop := ∃ (i r : Int32), ls = [(4, .int i), (3, .int r), (2, .int w), (1, .int m), (0, .ref 31)] ∧ st = [] ∧ -2 ≤ i.toInt ∧ i.toInt ≤ 19 ∧ i.toInt + 2 < n ∧ I = I0 ∧ L = L0
def tX7_stretch : List (Instr × Nat) := [(.aload_n 0, 1), (.getfield 13, 3), (.aload_n 0, 1), (.getfield 48, 3), (.iaload, 1), (.istore_n 1, 1), (.aload_n 0, 1), (.getfield 35, 3), (.aload_n 0, 1), (.getfield 48, 3), (.iaload, 1), (.iconst 1, 1), (.ishr, 1), (.aload_n 0, 1), (.getfield 32, 3), (.iload_n 1, 1), (.iconst 1, 1), (.ixor, 1), (.iaload, 1), (.iand, 1), (.istore_n 2, 1), (.iconst 2, 1), (.aload_n 0, 1), (.getfield 48, 3), (.ishl, 1), (.istore_n 3, 1), (.aload_n 0, 1), (.getfield 48, 3), (.iconst 1, 1), (.isub, 1), (.istore 4, 2), (.iload 4, 2), (.ifCond .lt 28, 3), (.iload_n 2, 1), (.iload 4, 2), (.ishr, 1), (.iconst 1, 1), (.iand, 1), (.ifCond .eq 13, 3), (.iload_n 3, 1), (.aload_n 0, 1), (.getfield 35, 3), (.iload 4, 2), (.iaload, 1), (.ior, 1), (.istore_n 3, 1), (.iinc 4 (-2), 3), (.goto (-27), 3), (.aload_n 0, 1), (.getfield 32, 3), (.iload_n 1, 1), (.dup2, 1), (.iaload, 1), (.iconst 1, 1), (.aload_n 0, 1), (.getfield 48, 3), (.ishl, 1), (.ior, 1), (.iastore, 1), (.aload_n 0, 1), (.dup, 1), (.getfield 48, 3), (.iconst 1, 1), (.iadd, 1), (.putfield 48, 3), (.aload_n 0, 1), (.getfield 35, 3), (.aload_n 0, 1), (.getfield 48, 3), (.iload_n 3, 1), (.iastore, 1), (.return_, 1)]
theorem tX7_stretch_ok : f_chk cX7_stretch 0 tX7_stretch = true := by decide +kernel
def pX7_stretch (av : List Value) (I : fM) (L : fN) : Prop := match av with
  | [.ref 31] => xR I ∧ (I 31 9).toInt < 20
  | _ => False
def qX7_stretch (av : List Value) (I : fM) (L : fN) (r : Value) (I' : fM) (L' : fN) : Prop := match av, r with
  | [.ref 31], .null => xR I' ∧ f_fr [31, 38, 39] I I' ∧ L' = L ∧ (I' 31 9).toInt = (I 31 9).toInt + 1
  | _, _ => False
set_option maxHeartbeats 4000000 in
set_option maxRecDepth 100000 in
theorem mX7_stretch {l : Launch} {a : Nat → Nat} {cy dC : Nat → ClassId} {dI : Nat → Nat → Nat} (hinj : ∀ i j, i < 80 → j < 80 → a i = a j → i = j) : f_Met (xE a) l xY 80 a cy dC dI yX7_stretch cX7_stretch 5 0 0 pX7_stretch qX7_stretch := by
  refine f_met_of (xE_c a) hinj xY_hi (by decide) (fun av I L h => by unfold pX7_stretch at h; split at h <;> first | exact Nat.le_of_ble_eq_true rfl | exact h.elim) ?_
  intro pP eP sP mP aP bP hP9 cP C av I L hp
  unfold pX7_stretch at hp
  split at hp
  case h_2 => exact hp.elim
  case h_1 =>
    obtain ⟨hR, h20⟩ := hp
    have hB : 0 ≤ (I 31 9).toInt ∧ (I 31 9).toInt ≤ 20 := hR 31 9
    have hM : 0 ≤ (I 32 (I 31 9).toNatClampNeg).toInt ∧ (I 32 (I 31 9).toNatClampNeg).toInt ≤ 9 := hR 32 _
    have lp : ∀ w : Int32, ∀ (nn : Nat) (ls' : fLs) (st' : List Value) (I' : fM) (L' : fN), jX7_stretch (I 32 (I 31 9).toNatClampNeg) w I L nn ls' st' I' L' → f_W pP l eP (f_rm 0) sP mP aP bP hP9 cP xY 80 a cy dC dI 5 (f_K 0 (qX7_stretch [.ref 31] I L)) 46 ls' st' I' L' := by
      intro w n
      induction n with
      | zero =>
        intro ls' st' I' L' h
        obtain ⟨i, r, -, -, h3, h4, hm, -⟩ := h
        omega
      | succ n ih =>
        intro ls' st' I' L' h
        obtain ⟨i, r, rfl, rfl, h3, h4, hm, hI, hL⟩ := h
        refine f_wp_ok C f_cl flX7_ok fiX7_ok fjX7_ok (sn := none) (fun j h => by cases h) (cs := (fun _ => none)) (cz := (fun _ => none)) (fun j S h => by cases h) (fun j S h => by cases h) tX7_stretch_ok (cut := (f_cnl [(46, jX7_stretch (I 32 (I 31 9).toNatClampNeg) w I L n)])) (f_cnl_of (P := fun (tQ : Nat) (P : fLs → List Value → fM → fN → Prop) => ∀ ls' st' I' L', P ls' st' I' L' → f_W pP l eP (f_rm 0) sP mP aP bP hP9 cP xY 80 a cy dC dI 5 (f_K 0 (qX7_stretch [.ref 31] I L)) tQ ls' st' I' L') (List.forall_mem_cons.mpr ⟨ih, fun _ h => absurd h List.not_mem_nil⟩)) 70 46 (f_seek 46 0 tX7_stretch) (f_seek_ok 46 0 tX7_stretch tX7_stretch_ok) _ _ _ _ ?_
        rw [hI, hL]
        have gm : f_in (I 32 (I 31 9).toNatClampNeg) 10 := ⟨hM.1, by have := hM.2; show (I 32 (I 31 9).toNatClampNeg).toInt < 10; omega⟩
        apply And.intro
        · intro h5
          refine And.intro gm ?_
          refine And.intro gm ?_
          intro z q hz hq hl hu
          have hq : z.toInt = (I 31 9).toInt + (Int32.ofInt 1).toInt + 4294967296 * q := hq
          rw [f_ci (by omega) (by omega)] at hq
          have ez : z.toInt = (I 31 9).toInt + 1 := by omega
          refine And.intro ⟨by show 0 ≤ z.toInt; omega, by show z.toInt < 21; omega⟩ ?_
          refine ⟨xR_a (xR_f (xR_a hR (by exact f_rng _)) ⟨by show 0 ≤ z.toInt; omega, by show z.toInt ≤ 20; omega⟩) (by exact f_rng _), f_fr_up (f_fr_up (f_fr_up f_fr_rf rfl) rfl) rfl, rfl, ez⟩
        · intro h5
          apply And.intro
          · intro h6
            intro z q hz hq hl hu
            exact ⟨z, r, rfl, rfl, by omega, by omega, by omega, rfl, rfl⟩
          · intro h6
            refine And.intro ⟨h5, by show i.toInt < 21; omega⟩ ?_
            intro z q hz hq hl hu
            exact ⟨z, _, rfl, rfl, by omega, by omega, by omega, rfl, rfl⟩
    have hj : ∀ (ls' : fLs) (st' : List Value) (I' : fM) (L' : fN), (∃ w, jX7_stretch (I 32 (I 31 9).toNatClampNeg) w I L 30 ls' st' I' L') → f_W pP l eP (f_rm 0) sP mP aP bP hP9 cP xY 80 a cy dC dI 5 (f_K 0 (qX7_stretch [.ref 31] I L)) 46 ls' st' I' L' := by
      intro ls' st' I' L' h
      obtain ⟨w, h⟩ := h
      exact lp w 30 ls' st' I' L' h
    refine f_wp_ok C f_cl flX7_ok fiX7_ok fjX7_ok (sn := none) (fun j h => by cases h) (cs := (fun _ => none)) (cz := (fun _ => none)) (fun j S h => by cases h) (fun j S h => by cases h) tX7_stretch_ok (cut := (f_cnl [(46, (fun ls' st' I' L' => ∃ w, jX7_stretch (I 32 (I 31 9).toNatClampNeg) w I L 30 ls' st' I' L'))])) (f_cnl_of (P := fun (tQ : Nat) (P : fLs → List Value → fM → fN → Prop) => ∀ ls' st' I' L', P ls' st' I' L' → f_W pP l eP (f_rm 0) sP mP aP bP hP9 cP xY 80 a cy dC dI 5 (f_K 0 (qX7_stretch [.ref 31] I L)) tQ ls' st' I' L') (List.forall_mem_cons.mpr ⟨hj, fun _ h => absurd h List.not_mem_nil⟩)) 70 0 tX7_stretch tX7_stretch_ok _ _ _ _ ?_
    refine And.intro ⟨hB.1, h20⟩ ?_
    refine And.intro ⟨hB.1, by show (I 31 9).toInt < 21; omega⟩ ?_
    refine And.intro (f_x1 hM.1 hM.2) ?_
    intro z q hz hq hl hu
    have hq : z.toInt = (I 31 9).toInt - (Int32.ofInt 1).toInt + 4294967296 * q := hq
    rw [f_ci (by omega) (by omega)] at hq
    exact ⟨_, z, _, rfl, rfl, by omega, by omega, by omega, rfl, rfl⟩
def iX7_mayTie (I : fM) (n : Nat) (g e s : Int32) : Prop := 0 ≤ g.toInt ∧ g.toInt ≤ 19 ∧ 0 ≤ e.toInt ∧ e.toInt ≤ 19 ∧ 0 ≤ s.toInt ∧ s.toInt ≤ (I 31 9).toInt + 1 ∧ (I 31 9).toInt + 1 - s.toInt < n
abbrev lX7_mayTie (b g e s : Int32) : fLs := [(7, .int s), (6, .int e), (5, .int b), (4, .int g), (0, .ref 31)]
def tX7_mayTie : List (Instr × Nat) := [(.aload_n 0, 1), (.getfield 13, 3), (.iload_n 1, 1), (.iaload, 1), (.iconst 1, 1), (.iand, 1), (.ifCond .eq 7, 3), (.iload_n 1, 1), (.goto 4, 3), (.iload_n 2, 1), (.istore_n 3, 1), (.iload_n 1, 1), (.iload_n 2, 1), (.iadd, 1), (.iload_n 3, 1), (.isub, 1), (.istore 4, 2), (.aload_n 0, 1), (.getfield 17, 3), (.iload 4, 2), (.iaload, 1), (.istore 5, 2), (.iload_n 3, 1), (.iload 5, 2), (.if_icmp .ne 16, 3), (.aload_n 0, 1), (.getfield 20, 3), (.iload 4, 2), (.iaload, 1), (.iconst (-1), 1), (.if_icmp .ne 5, 3), (.iconst 0, 1), (.ireturn, 1), (.iload_n 3, 1), (.istore 6, 2), (.iconst 0, 1), (.istore 7, 2), (.iload 7, 2), (.aload_n 0, 1), (.getfield 48, 3), (.if_icmp .gt 71, 3), (.aload_n 0, 1), (.getfield 17, 3), (.iload 6, 2), (.iaload, 1), (.istore 8, 2), (.iload 6, 2), (.iload 5, 2), (.if_icmp .ne 5, 3), (.iconst 1, 1), (.ireturn, 1), (.iload 8, 2), (.iconst (-1), 1), (.if_icmp .ne 15, 3), (.iload 5, 2), (.iconst (-1), 1), (.if_icmp .ne 7, 3), (.iconst 1, 1), (.goto 4, 3), (.iconst 0, 1), (.ireturn, 1), (.iload 8, 2), (.iload 4, 2), (.if_icmp .ne 5, 3), (.iconst 0, 1), (.ireturn, 1), (.aload_n 0, 1), (.getfield 29, 3), (.iload 8, 2), (.iaload, 1), (.istore 6, 2), (.iload 6, 2), (.iconst (-1), 1), (.if_icmp .ne 5, 3), (.iconst 1, 1), (.ireturn, 1), (.iinc 7 1, 3), (.goto (-74), 3), (.iconst 0, 1), (.ireturn, 1)]
theorem tX7_mayTie_ok : f_chk cX7_mayTie 0 tX7_mayTie = true := by decide +kernel
def pX7_mayTie (av : List Value) (I : fM) (L : fN) : Prop := match av with
  | [.ref 31, .int u, .int v] => xR I ∧ 0 ≤ u.toInt ∧ u.toInt ≤ 19 ∧ 0 ≤ v.toInt ∧ v.toInt ≤ 19
  | _ => False
def qX7_mayTie (av : List Value) (I : fM) (L : fN) (r : Value) (I' : fM) (L' : fN) : Prop := match av, r with
  | [.ref 31, .int u, .int v], .int x => I' = I ∧ L' = L ∧ (x.toInt = 0 ∨ x.toInt = 1)
  | _, _ => False
set_option maxHeartbeats 4000000 in
set_option maxRecDepth 100000 in
theorem mX7_mayTie {l : Launch} {a : Nat → Nat} {cy dC : Nat → ClassId} {dI : Nat → Nat → Nat} (hinj : ∀ i j, i < 80 → j < 80 → a i = a j → i = j) : f_Met (xE a) l xY 80 a cy dC dI yX7_mayTie cX7_mayTie 9 3 0 pX7_mayTie qX7_mayTie := by
  refine f_met_of (xE_c a) hinj xY_hi (by decide) (fun av I L h => by unfold pX7_mayTie at h; split at h <;> first | exact Nat.le_of_ble_eq_true rfl | exact h.elim) ?_
  intro pP eP sP mP aP bP hP9 cP C av I L hp
  unfold pX7_mayTie at hp
  split at hp
  case h_2 => exact hp.elim
  case h_1 u v =>
    obtain ⟨hR, h1, h2, h3, h4⟩ := hp
    have hB : 0 ≤ (I 31 9).toInt ∧ (I 31 9).toInt ≤ 20 := hR 31 9
    have hp33 : ∀ j, -1 ≤ (I 33 j).toInt ∧ (I 33 j).toInt ≤ 19 := fun j => hR 33 j
    have hp37 : ∀ j, -1 ≤ (I 37 j).toInt ∧ (I 37 j).toInt ≤ 19 := fun j => hR 37 j
    have cm1 : (Int32.ofInt (-1)).toInt = -1 := by decide
    have lp : ∀ (n : Nat) (b g e s : Int32), iX7_mayTie I n g e s → f_W pP l eP (f_rm 0) sP mP aP bP hP9 cP xY 80 a cy dC dI 9 (f_K 3 (qX7_mayTie [.ref 31, .int u, .int v] I L)) 58 (lX7_mayTie b g e s) [] I L := by
      intro n
      induction n with
      | zero =>
        intro b g e s h
        obtain ⟨-, -, -, -, -, h6, h7⟩ := h
        omega
      | succ n ih =>
        intro b g e s h
        obtain ⟨g1, g2, e1, e2, s1, s2, hm⟩ := h
        refine f_wp_ok C f_cl flX7_ok fiX7_ok fjX7_ok (sn := none) (fun j h => by cases h) (cs := (fun _ => none)) (cz := (fun _ => none)) (fun j S h => by cases h) (fun j S h => by cases h) tX7_mayTie_ok (cut := (f_cnl [(58, (fun ls' st' I' L' => ∃ b g e s, (∀ q ∈ lX7_mayTie b g e s, q ∈ ls') ∧ st' = [] ∧ I' = I ∧ L' = L ∧ iX7_mayTie I n g e s))])) (f_cnl_of (P := fun (tQ : Nat) (P : fLs → List Value → fM → fN → Prop) => ∀ ls' st' I' L', P ls' st' I' L' → f_W pP l eP (f_rm 0) sP mP aP bP hP9 cP xY 80 a cy dC dI 9 (f_K 3 (qX7_mayTie [.ref 31, .int u, .int v] I L)) tQ ls' st' I' L') (List.forall_mem_cons.mpr ⟨(fun ls' st' I' L' h => by obtain ⟨b, g, e, s, hs, h1, h2, h3, h4⟩ := h; rw [h1, h2, h3]; exact f_W_sub hs (ih b g e s h4)), fun _ h => absurd h List.not_mem_nil⟩)) 90 58 (f_seek 58 0 tX7_mayTie) (f_seek_ok 58 0 tX7_mayTie tX7_mayTie_ok) _ _ _ _ ?_
        apply And.intro
        · intro h5
          exact ⟨Or.inl rfl, rfl, rfl, Or.inl rfl⟩
        · intro h5
          have h5 : s.toInt ≤ (I 31 9).toInt := h5
          have hu := hp33 e.toNatClampNeg
          refine And.intro ⟨e1, by show e.toInt < 20; omega⟩ ?_
          apply And.intro
          · intro h6
            apply And.intro
            · intro h7
              apply And.intro
              · intro h8
                refine And.intro ⟨by rw [cm1] at h7; omega, by show (I 33 e.toNatClampNeg).toInt < 20; omega⟩ ?_
                have hw := hp37 (I 33 e.toNatClampNeg).toNatClampNeg
                apply And.intro
                · intro h9
                  rw [cm1] at h9
                  intro z q hz hq hl hu9
                  refine ⟨b, g, I 37 (I 33 e.toNatClampNeg).toNatClampNeg, z, (by intro q9 h9; simp only [List.mem_cons, List.not_mem_nil, or_false] at h9; rcases h9 with h9 | h9 | h9 | h9 | h9 <;> subst h9 <;> repeat (first | exact List.mem_cons_self | apply List.mem_cons_of_mem)), rfl, rfl, rfl, g1, g2, by omega, by omega, by omega, by omega, by omega⟩
                · intro h9
                  exact ⟨Or.inr rfl, rfl, rfl, Or.inr rfl⟩
              · intro h8
                exact ⟨Or.inl rfl, rfl, rfl, Or.inl rfl⟩
            · intro h7
              apply And.intro
              · intro h8
                exact ⟨Or.inl rfl, rfl, rfl, Or.inl rfl⟩
              · intro h8
                exact ⟨Or.inr rfl, rfl, rfl, Or.inr rfl⟩
          · intro h6
            exact ⟨Or.inr rfl, rfl, rfl, Or.inr rfl⟩
    refine f_wp_ok C f_cl flX7_ok fiX7_ok fjX7_ok (sn := none) (fun j h => by cases h) (cs := (fun _ => none)) (cz := (fun _ => none)) (fun j S h => by cases h) (fun j S h => by cases h) tX7_mayTie_ok (cut := (f_cnl [(58, (fun ls' st' I' L' => ∃ b g e s, (∀ q ∈ lX7_mayTie b g e s, q ∈ ls') ∧ st' = [] ∧ I' = I ∧ L' = L ∧ iX7_mayTie I 30 g e s))])) (f_cnl_of (P := fun (tQ : Nat) (P : fLs → List Value → fM → fN → Prop) => ∀ ls' st' I' L', P ls' st' I' L' → f_W pP l eP (f_rm 0) sP mP aP bP hP9 cP xY 80 a cy dC dI 9 (f_K 3 (qX7_mayTie [.ref 31, .int u, .int v] I L)) tQ ls' st' I' L') (List.forall_mem_cons.mpr ⟨(fun ls' st' I' L' h => by obtain ⟨b, g, e, s, hs, h1, h2, h3, h4⟩ := h; rw [h1, h2, h3]; exact f_W_sub hs (lp 30 b g e s h4)), fun _ h => absurd h List.not_mem_nil⟩)) 90 0 tX7_mayTie tX7_mayTie_ok _ _ _ _ ?_
    refine And.intro ⟨h1, by show u.toInt < 20; omega⟩ ?_
    apply And.intro
    all_goals
      intro h5
      intro z q hz hq hl hu
      intro z2 q2 hz2 hq2 hl2 hu2
      refine And.intro ⟨by omega, by show z2.toInt < 20; omega⟩ ?_
      apply And.intro
      · intro h6
        refine ⟨I 33 z2.toNatClampNeg, z2, _, Int32.ofInt 0, (by intro q9 h9; simp only [List.mem_cons, List.not_mem_nil, or_false] at h9; rcases h9 with h9 | h9 | h9 | h9 | h9 <;> subst h9 <;> repeat (first | exact List.mem_cons_self | apply List.mem_cons_of_mem)), rfl, rfl, rfl, by omega, by omega, by omega, by omega, by decide, by show 0 ≤ _; omega, by show _ - 0 < _; omega⟩
      · intro h6
        refine And.intro ⟨by omega, by show z2.toInt < 20; omega⟩ ?_
        apply And.intro
        · intro h7
          refine ⟨I 33 z2.toNatClampNeg, z2, _, Int32.ofInt 0, (by intro q9 h9; simp only [List.mem_cons, List.not_mem_nil, or_false] at h9; rcases h9 with h9 | h9 | h9 | h9 | h9 <;> subst h9 <;> repeat (first | exact List.mem_cons_self | apply List.mem_cons_of_mem)), rfl, rfl, rfl, by omega, by omega, by omega, by omega, by decide, by show 0 ≤ _; omega, by show _ - 0 < _; omega⟩
        · intro h7
          exact ⟨Or.inl rfl, rfl, rfl, Or.inl rfl⟩
abbrev lX7_isRight6 (i w f : Int32) : fLs := [(3, .int i), (2, .int w), (1, .int f), (0, .ref 31)]
abbrev lX7_isRight53 (s e b i w f : Int32) : fLs := [(6, .int s), (5, .int e), (4, .int b), (3, .int i), (2, .int w), (1, .int f), (0, .ref 31)]
def cX7_isRight6 (I0 : fM) (L0 : fN) (n : Nat) (ls : fLs) (st : List Value) (I : fM) (L : fN) : Prop := ∃ i w f : Int32, (∀ q ∈ lX7_isRight6 i w f, q ∈ ls) ∧ st = [] ∧ I = I0 ∧ L = L0 ∧ 0 ≤ i.toInt ∧ i.toInt ≤ (I0 31 9).toInt ∧ (I0 31 9).toInt - i.toInt < n
def cX7_isRight53 (I0 : fM) (L0 : fN) (i : Int32) (n : Nat) (ls : fLs) (st : List Value) (I : fM) (L : fN) : Prop := ∃ s e b w f : Int32, (∀ q ∈ lX7_isRight53 s e b i w f, q ∈ ls) ∧ st = [] ∧ I = I0 ∧ L = L0 ∧ -1 ≤ e.toInt ∧ e.toInt ≤ 19 ∧ 0 ≤ s.toInt ∧ s.toInt ≤ (I0 31 9).toInt + 1 ∧ (I0 31 9).toInt + 1 - s.toInt < n
def tX7_isRight : List (Instr × Nat) := [(.iconst 0, 1), (.istore_n 1, 1), (.iconst 0, 1), (.istore_n 2, 1), (.iconst 0, 1), (.istore_n 3, 1), (.iload_n 3, 1), (.aload_n 0, 1), (.getfield 48, 3), (.if_icmp .ge 120, 3), (.aload_n 0, 1), (.getfield 13, 3), (.iload_n 3, 1), (.iaload, 1), (.iconst 1, 1), (.iand, 1), (.ifCond .eq 12, 3), (.iload_n 2, 1), (.iconst 1, 1), (.iload_n 3, 1), (.ishl, 1), (.ior, 1), (.istore_n 2, 1), (.goto 94, 3), (.aload_n 0, 1), (.getfield 17, 3), (.iload_n 3, 1), (.iaload, 1), (.istore 4, 2), (.aload_n 0, 1), (.getfield 29, 3), (.iload_n 3, 1), (.iaload, 1), (.istore 5, 2), (.iconst 0, 1), (.istore 6, 2), (.iload 5, 2), (.iconst (-1), 1), (.if_icmp .eq 60, 3), (.iload 5, 2), (.iload 4, 2), (.if_icmp .eq 53, 3), (.iload 6, 2), (.aload_n 0, 1), (.getfield 48, 3), (.if_icmp .gt 44, 3), (.iload_n 1, 1), (.iconst 1, 1), (.iload 5, 2), (.ishl, 1), (.ior, 1), (.istore_n 1, 1), (.aload_n 0, 1), (.getfield 17, 3), (.iload 5, 2), (.iaload, 1), (.istore 7, 2), (.iload 7, 2), (.iconst (-1), 1), (.if_icmp .ne 7, 3), (.iconst (-1), 1), (.goto 10, 3), (.aload_n 0, 1), (.getfield 29, 3), (.iload 7, 2), (.iaload, 1), (.istore 5, 2), (.iinc 6 1, 3), (.goto (-60), 3), (.iload 5, 2), (.iload 4, 2), (.if_icmp .eq 5, 3), (.iconst 0, 1), (.ireturn, 1), (.iinc 3 1, 3), (.goto (-122), 3), (.iload_n 1, 1), (.iload_n 2, 1), (.if_icmp .ne 7, 3), (.iconst 1, 1), (.goto 4, 3), (.iconst 0, 1), (.ireturn, 1)]
theorem tX7_isRight_ok : f_chk cX7_isRight 0 tX7_isRight = true := by decide +kernel
def pX7_isRight (av : List Value) (I : fM) (L : fN) : Prop := match av with
  | [.ref 31] => xR I
  | _ => False
def qX7_isRight (av : List Value) (I : fM) (L : fN) (r : Value) (I' : fM) (L' : fN) : Prop := match av, r with
  | [.ref 31], .int x => I' = I ∧ L' = L ∧ (x.toInt = 0 ∨ x.toInt = 1)
  | _, _ => False
set_option maxHeartbeats 4000000 in
set_option maxRecDepth 100000 in
theorem mX7_isRight {l : Launch} {a : Nat → Nat} {cy dC : Nat → ClassId} {dI : Nat → Nat → Nat} (hinj : ∀ i j, i < 80 → j < 80 → a i = a j → i = j) : f_Met (xE a) l xY 80 a cy dC dI yX7_isRight cX7_isRight 8 3 0 pX7_isRight qX7_isRight := by
  refine f_met_of (xE_c a) hinj xY_hi (by decide) (fun av I L h => by unfold pX7_isRight at h; split at h <;> first | exact Nat.le_of_ble_eq_true rfl | exact h.elim) ?_
  intro pP eP sP mP aP bP hP9 cP C av I L hp
  unfold pX7_isRight at hp
  split at hp
  case h_2 => exact hp.elim
  case h_1 =>
    have hB : 0 ≤ (I 31 9).toInt ∧ (I 31 9).toInt ≤ 20 := hp 31 9
    have hp33 : ∀ j, -1 ≤ (I 33 j).toInt ∧ (I 33 j).toInt ≤ 19 := fun j => hp 33 j
    have hp37 : ∀ j, -1 ≤ (I 37 j).toInt ∧ (I 37 j).toInt ≤ 19 := fun j => hp 37 j
    have cm1 : (Int32.ofInt (-1)).toInt = -1 := by decide
    have lp : ∀ (n : Nat) (i w f : Int32), 0 ≤ i.toInt → i.toInt ≤ (I 31 9).toInt → (I 31 9).toInt - i.toInt < n → f_W pP l eP (f_rm 0) sP mP aP bP hP9 cP xY 80 a cy dC dI 8 (f_K 3 (qX7_isRight [.ref 31] I L)) 6 (lX7_isRight6 i w f) [] I L := by
      intro n
      induction n with
      | zero =>
        intro i w f h1 h2 h3
        omega
      | succ n ih =>
        intro i w f h1 h2 h3
        have ih6 : ∀ ls' st' I' L', cX7_isRight6 I L n ls' st' I' L' → f_W pP l eP (f_rm 0) sP mP aP bP hP9 cP xY 80 a cy dC dI 8 (f_K 3 (qX7_isRight [.ref 31] I L)) 6 ls' st' I' L' := by
          intro ls' st' I' L' h
          obtain ⟨i, w, f, hs, e1, e2, e3, h4, h5, h6⟩ := h
          rw [e1, e2, e3]
          exact f_W_sub hs (ih i w f h4 h5 h6)
        have inn : i.toInt < (I 31 9).toInt → ∀ (m : Nat) (s e b w f : Int32), -1 ≤ e.toInt → e.toInt ≤ 19 → 0 ≤ s.toInt → s.toInt ≤ (I 31 9).toInt + 1 → (I 31 9).toInt + 1 - s.toInt < m → f_W pP l eP (f_rm 0) sP mP aP bP hP9 cP xY 80 a cy dC dI 8 (f_K 3 (qX7_isRight [.ref 31] I L)) 53 (lX7_isRight53 s e b i w f) [] I L := by
          intro hi m
          induction m with
          | zero =>
            intro s e b w f g1 g2 g3 g4 g5
            omega
          | succ m ihm =>
            intro s e b w f g1 g2 g3 g4 g5
            have fin : ∀ (z : Int32) (q : Int), z.toInt = i.toInt + 1 + 4294967296 * q → -2147483648 ≤ z.toInt → z.toInt ≤ 2147483647 → 0 ≤ z.toInt ∧ z.toInt ≤ (I 31 9).toInt ∧ (I 31 9).toInt - z.toInt < n := by
              intro z q k1 k2 k3
              exact ⟨by omega, by omega, by omega⟩
            refine f_wp_ok C f_cl flX7_ok fiX7_ok fjX7_ok (sn := none) (fun j h => by cases h) (cs := (fun _ => none)) (cz := (fun _ => none)) (fun j S h => by cases h) (fun j S h => by cases h) tX7_isRight_ok (cut := (f_cnl [(6, cX7_isRight6 I L n), (53, cX7_isRight53 I L i m)])) (f_cnl_of (P := fun (tQ : Nat) (P : fLs → List Value → fM → fN → Prop) => ∀ ls' st' I' L', P ls' st' I' L' → f_W pP l eP (f_rm 0) sP mP aP bP hP9 cP xY 80 a cy dC dI 8 (f_K 3 (qX7_isRight [.ref 31] I L)) tQ ls' st' I' L') (List.forall_mem_cons.mpr ⟨ih6, List.forall_mem_cons.mpr ⟨(fun ls' st' I' L' h => by obtain ⟨s, e, b, w, f, hs, e1, e2, e3, h4, h5, h6, h7, h8⟩ := h; rw [e1, e2, e3]; exact f_W_sub hs (ihm s e b w f h4 h5 h6 h7 h8)), fun _ h => absurd h List.not_mem_nil⟩⟩)) 90 53 (f_seek 53 0 tX7_isRight) (f_seek_ok 53 0 tX7_isRight tX7_isRight_ok) _ _ _ _ ?_
            apply And.intro
            · intro h4
              apply And.intro
              · intro h5
                intro z q hz hq hl hu
                obtain ⟨k1, k2, k3⟩ := fin z q hq hl hu
                exact ⟨z, w, f, (by intro q9 h9; simp only [List.mem_cons, List.not_mem_nil, or_false] at h9; rcases h9 with h9 | h9 | h9 | h9 <;> subst h9 <;> repeat (first | exact List.mem_cons_self | apply List.mem_cons_of_mem)), rfl, rfl, rfl, k1, k2, k3⟩
              · intro h5
                exact ⟨Or.inl rfl, rfl, rfl, Or.inl rfl⟩
            · intro h4
              rw [cm1] at h4
              apply And.intro
              · intro h5
                apply And.intro
                · intro h6
                  intro z q hz hq hl hu
                  obtain ⟨k1, k2, k3⟩ := fin z q hq hl hu
                  exact ⟨z, w, f, (by intro q9 h9; simp only [List.mem_cons, List.not_mem_nil, or_false] at h9; rcases h9 with h9 | h9 | h9 | h9 <;> subst h9 <;> repeat (first | exact List.mem_cons_self | apply List.mem_cons_of_mem)), rfl, rfl, rfl, k1, k2, k3⟩
                · intro h6
                  exact ⟨Or.inl rfl, rfl, rfl, Or.inl rfl⟩
              · intro h5
                apply And.intro
                · intro h6
                  apply And.intro
                  · intro h7
                    intro z q hz hq hl hu
                    obtain ⟨k1, k2, k3⟩ := fin z q hq hl hu
                    exact ⟨z, w, f, (by intro q9 h9; simp only [List.mem_cons, List.not_mem_nil, or_false] at h9; rcases h9 with h9 | h9 | h9 | h9 <;> subst h9 <;> repeat (first | exact List.mem_cons_self | apply List.mem_cons_of_mem)), rfl, rfl, rfl, k1, k2, k3⟩
                  · intro h7
                    exact ⟨Or.inl rfl, rfl, rfl, Or.inl rfl⟩
                · intro h6
                  have h6 : s.toInt ≤ (I 31 9).toInt := h6
                  have hu1 := hp33 e.toNatClampNeg
                  refine And.intro ⟨by omega, by show e.toInt < 20; omega⟩ ?_
                  apply And.intro
                  · intro h7
                    rw [cm1] at h7
                    refine And.intro ⟨by omega, by show (I 33 e.toNatClampNeg).toInt < 20; omega⟩ ?_
                    have hw := hp37 (I 33 e.toNatClampNeg).toNatClampNeg
                    intro z q hz hq hl hu
                    exact ⟨z, I 37 (I 33 e.toNatClampNeg).toNatClampNeg, b, w, _, (by intro q9 h9; simp only [List.mem_cons, List.not_mem_nil, or_false] at h9; rcases h9 with h9 | h9 | h9 | h9 | h9 | h9 | h9 <;> subst h9 <;> repeat (first | exact List.mem_cons_self | apply List.mem_cons_of_mem)), rfl, rfl, rfl, hw.1, hw.2, by omega, by omega, by omega⟩
                  · intro h7
                    intro z q hz hq hl hu
                    exact ⟨z, Int32.ofInt (-1), b, w, _, (by intro q9 h9; simp only [List.mem_cons, List.not_mem_nil, or_false] at h9; rcases h9 with h9 | h9 | h9 | h9 | h9 | h9 | h9 <;> subst h9 <;> repeat (first | exact List.mem_cons_self | apply List.mem_cons_of_mem)), rfl, rfl, rfl, by omega, by omega, by omega, by omega, by omega⟩
        refine f_wp_ok C f_cl flX7_ok fiX7_ok fjX7_ok (sn := none) (fun j h => by cases h) (cs := (fun _ => none)) (cz := (fun _ => none)) (fun j S h => by cases h) (fun j S h => by cases h) tX7_isRight_ok (cut := (f_cnl [(6, cX7_isRight6 I L n), (53, (fun ls' st' I' L' => i.toInt < (I 31 9).toInt ∧ cX7_isRight53 I L i 30 ls' st' I' L'))])) (f_cnl_of (P := fun (tQ : Nat) (P : fLs → List Value → fM → fN → Prop) => ∀ ls' st' I' L', P ls' st' I' L' → f_W pP l eP (f_rm 0) sP mP aP bP hP9 cP xY 80 a cy dC dI 8 (f_K 3 (qX7_isRight [.ref 31] I L)) tQ ls' st' I' L') (List.forall_mem_cons.mpr ⟨ih6, List.forall_mem_cons.mpr ⟨(fun ls' st' I' L' h => by obtain ⟨hi, s, e, b, w, f, hs, e1, e2, e3, h4, h5, h6, h7, h8⟩ := h; rw [e1, e2, e3]; exact f_W_sub hs (inn hi 30 s e b w f h4 h5 h6 h7 h8)), fun _ h => absurd h List.not_mem_nil⟩⟩)) 90 6 (f_seek 6 0 tX7_isRight) (f_seek_ok 6 0 tX7_isRight tX7_isRight_ok) _ _ _ _ ?_
        apply And.intro
        · intro h4
          apply And.intro
          · intro h5
            exact ⟨Or.inl rfl, rfl, rfl, Or.inl rfl⟩
          · intro h5
            exact ⟨Or.inr rfl, rfl, rfl, Or.inr rfl⟩
        · intro h4
          have h4 : i.toInt < (I 31 9).toInt := h4
          have gi : f_in i 20 := ⟨h1, by show i.toInt < 20; omega⟩
          refine And.intro gi ?_
          apply And.intro
          · intro h5
            refine And.intro gi ?_
            refine And.intro gi ?_
            have hw := hp37 i.toNatClampNeg
            exact ⟨h4, Int32.ofInt 0, I 37 i.toNatClampNeg, I 33 i.toNatClampNeg, w, f, (by intro q9 h9; simp only [List.mem_cons, List.not_mem_nil, or_false] at h9; rcases h9 with h9 | h9 | h9 | h9 | h9 | h9 | h9 <;> subst h9 <;> repeat (first | exact List.mem_cons_self | apply List.mem_cons_of_mem)), rfl, rfl, rfl, hw.1, hw.2, by decide, by show 0 ≤ _; omega, by show _ - 0 < _; omega⟩
          · intro h5
            intro z q hz hq hl hu
            exact ⟨z, _, f, (by intro q9 h9; simp only [List.mem_cons, List.not_mem_nil, or_false] at h9; rcases h9 with h9 | h9 | h9 | h9 <;> subst h9 <;> repeat (first | exact List.mem_cons_self | apply List.mem_cons_of_mem)), rfl, rfl, rfl, by omega, by omega, by omega⟩
    refine f_wp_ok C f_cl flX7_ok fiX7_ok fjX7_ok (sn := none) (fun j h => by cases h) (cs := (fun _ => none)) (cz := (fun _ => none)) (fun j S h => by cases h) (fun j S h => by cases h) tX7_isRight_ok (cut := (f_cnl [(6, cX7_isRight6 I L 30)])) (f_cnl_of (P := fun (tQ : Nat) (P : fLs → List Value → fM → fN → Prop) => ∀ ls' st' I' L', P ls' st' I' L' → f_W pP l eP (f_rm 0) sP mP aP bP hP9 cP xY 80 a cy dC dI 8 (f_K 3 (qX7_isRight [.ref 31] I L)) tQ ls' st' I' L') (List.forall_mem_cons.mpr ⟨(fun ls' st' I' L' h => by obtain ⟨i, w, f, hs, e1, e2, e3, h4, h5, h6⟩ := h; rw [e1, e2, e3]; exact f_W_sub hs (lp 30 i w f h4 h5 h6)), fun _ h => absurd h List.not_mem_nil⟩)) 90 0 tX7_isRight tX7_isRight_ok _ _ _ _ ?_
    exact ⟨Int32.ofInt 0, Int32.ofInt 0, Int32.ofInt 0, (by intro q9 h9; simp only [List.mem_cons, List.not_mem_nil, or_false] at h9; rcases h9 with h9 | h9 | h9 | h9 <;> subst h9 <;> repeat (first | exact List.mem_cons_self | apply List.mem_cons_of_mem)), rfl, rfl, rfl, by decide, by show 0 ≤ _; omega, by show _ - 0 < _; omega⟩
