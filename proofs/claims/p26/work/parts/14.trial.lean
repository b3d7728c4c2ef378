def xT (I : fM) : Prop := ∀ i, (I 26 i).toInt + (I 27 i).toInt ≤ 53
theorem xT_up {I : fM} (h : xT I) {k : Nat} {r : Nat → Int32} (hk : k ≠ 26 ∧ k ≠ 27) : xT (va_up I k r) := by
  intro i
  rw [va_up_ne _ _ hk.1.symm, va_up_ne _ _ hk.2.symm]
  exact h i
theorem xT_fr {ms : List Nat} {I I' : fM} (h : xT I) (hf : f_fr ms I I') (h1 : ms.contains 26 = false) (h2 : ms.contains 27 = false) : xT I' := by
  intro i
  rw [hf 26 h1, hf 27 h2]
  exact h i
def tX3_firstSlot : List (Instr × Nat) := [(.iload_n 0, 1), (.iconst 3, 1), (.imul, 1), (.ireturn, 1)]
theorem tX3_firstSlot_ok : f_chk cX3_firstSlot 0 tX3_firstSlot = true := by decide +kernel
def pX3_firstSlot (av : List Value) (I : fM) (L : fN) : Prop := match av with
  | [.int w] => 0 ≤ w.toInt ∧ w.toInt ≤ 11
  | _ => False
def qX3_firstSlot (av : List Value) (I : fM) (L : fN) (r : Value) (I' : fM) (L' : fN) : Prop := match av, r with
  | [.int w], .int x => I' = I ∧ L' = L ∧ x.toInt = 3 * w.toInt
  | _, _ => False
set_option maxHeartbeats 4000000 in
set_option maxRecDepth 100000 in
theorem mX3_firstSlot {l : Launch} {a : Nat → Nat} {cy dC : Nat → ClassId} {dI : Nat → Nat → Nat} (hinj : ∀ i j, i < 80 → j < 80 → a i = a j → i = j) : f_Met (xE a) l xY 80 a cy dC dI yX3_firstSlot cX3_firstSlot 1 1 0 pX3_firstSlot qX3_firstSlot := by
  refine f_met_of (xE_c a) hinj xY_hi (by decide) (fun av I L h => by unfold pX3_firstSlot at h; split at h <;> first | exact Nat.le_of_ble_eq_true rfl | exact h.elim) ?_
  intro pP eP sP mP aP bP hP9 cP C av I L hp
  unfold pX3_firstSlot at hp
  split at hp
  case h_2 => exact hp.elim
  case h_1 w =>
    refine f_wp_ok C f_cl flX3_ok fiX3_ok fjX3_ok (sn := none) (fun j h => by cases h) (cs := (fun _ => none)) (cz := (fun _ => none)) (fun j S h => by cases h) (fun j S h => by cases h) tX3_firstSlot_ok (cut := (fun _ => none)) (fun t P h => by cases h) 20 0 tX3_firstSlot tX3_firstSlot_ok _ _ _ _ ?_
    intro z q hz hq hl hu
    rw [f_ci (by omega) (by omega)] at hq
    exact ⟨rfl, rfl, by omega⟩
def tX3_sizeOf : List (Instr × Nat) := [(.lload_n 0, 1), (.ldc2_w 110, 3), (.ladd, 1), (.bipush 48, 2), (.lshr, 1), (.l2i, 1), (.ireturn, 1)]
theorem tX3_sizeOf_ok : f_chk cX3_sizeOf 0 tX3_sizeOf = true := by decide +kernel
def pX3_sizeOf (av : List Value) (I : fM) (L : fN) : Prop := match av with
  | [.long s] => True
  | _ => False
def qX3_sizeOf (av : List Value) (I : fM) (L : fN) (r : Value) (I' : fM) (L' : fN) : Prop := match av, r with
  | [.long s], .int x => I' = I ∧ L' = L
  | _, _ => False
set_option maxHeartbeats 4000000 in
set_option maxRecDepth 100000 in
theorem mX3_sizeOf {l : Launch} {a : Nat → Nat} {cy dC : Nat → ClassId} {dI : Nat → Nat → Nat} (hinj : ∀ i j, i < 80 → j < 80 → a i = a j → i = j) : f_Met (xE a) l xY 80 a cy dC dI yX3_sizeOf cX3_sizeOf 2 1 0 pX3_sizeOf qX3_sizeOf := by
  refine f_met_of (xE_c a) hinj xY_hi (by decide) (fun av I L h => by unfold pX3_sizeOf at h; split at h <;> first | exact Nat.le_of_ble_eq_true rfl | exact h.elim) ?_
  intro pP eP sP mP aP bP hP9 cP C av I L hp
  unfold pX3_sizeOf at hp
  split at hp
  case h_2 => exact hp.elim
  case h_1 s =>
    refine f_wp_ok C f_cl flX3_ok fiX3_ok fjX3_ok (sn := none) (fun j h => by cases h) (cs := (fun _ => none)) (cz := (fun _ => none)) (fun j S h => by cases h) (fun j S h => by cases h) tX3_sizeOf_ok (cut := (fun _ => none)) (fun t P h => by cases h) 20 0 tX3_sizeOf tX3_sizeOf_ok _ _ _ _ ?_
    exact ⟨rfl, rfl⟩
def tX10_begin : List (Instr × Nat) := [(.aload_n 0, 1), (.iconst 0, 1), (.putfield 43, 3), (.aload_n 0, 1), (.iload_n 1, 1), (.putfield 47, 3), (.return_, 1)]
theorem tX10_begin_ok : f_chk cX10_begin 0 tX10_begin = true := by decide +kernel
def pX10_begin (av : List Value) (I : fM) (L : fN) : Prop := match av with
  | [.ref 25, .int g] => xR I ∧ 0 ≤ g.toInt ∧ g.toInt ≤ 52
  | _ => False
def qX10_begin (av : List Value) (I : fM) (L : fN) (r : Value) (I' : fM) (L' : fN) : Prop := match av, r with
  | [.ref 25, .int g], .null => xR I' ∧ f_fr [25] I I' ∧ L' = L ∧ (I' 25 7).toInt = 0 ∧ I' 25 8 = g
  | _, _ => False
set_option maxHeartbeats 4000000 in
set_option maxRecDepth 100000 in
theorem mX10_begin {l : Launch} {a : Nat → Nat} {cy dC : Nat → ClassId} {dI : Nat → Nat → Nat} (hinj : ∀ i j, i < 80 → j < 80 → a i = a j → i = j) : f_Met (xE a) l xY 80 a cy dC dI yX10_begin cX10_begin 2 0 0 pX10_begin qX10_begin := by
  refine f_met_of (xE_c a) hinj xY_hi (by decide) (fun av I L h => by unfold pX10_begin at h; split at h <;> first | exact Nat.le_of_ble_eq_true rfl | exact h.elim) ?_
  intro pP eP sP mP aP bP hP9 cP C av I L hp
  unfold pX10_begin at hp
  split at hp
  case h_2 => exact hp.elim
  case h_1 g =>
    obtain ⟨hR, h1, h2⟩ := hp
    refine f_wp_ok C f_cl flX10_ok fiX10_ok fjX10_ok (sn := none) (fun j h => by cases h) (cs := (fun _ => none)) (cz := (fun _ => none)) (fun j S h => by cases h) (fun j S h => by cases h) tX10_begin_ok (cut := (fun _ => none)) (fun t P h => by cases h) 20 0 tX10_begin tX10_begin_ok _ _ _ _ ?_
    exact ⟨xR_f (xR_f hR ⟨(by first | (simp (disch := omega) only [xB, f_ci] at *; omega) | (simp (disch := omega) only [xB, f_ci]; done) | decide), (by first | (simp (disch := omega) only [xB, f_ci] at *; omega) | (simp (disch := omega) only [xB, f_ci]; done) | decide)⟩) ⟨h1, h2⟩, f_fr_up (f_fr_up f_fr_rf rfl) rfl, rfl, rfl, rfl⟩
def tX10_addSlots : List (Instr × Nat) := [(.aload_n 0, 1), (.getfield 43, 3), (.bipush 8, 2), (.if_icmp .ge 33, 3), (.aload_n 0, 1), (.getfield 13, 3), (.aload_n 0, 1), (.getfield 43, 3), (.iload_n 1, 1), (.iastore, 1), (.aload_n 0, 1), (.getfield 17, 3), (.aload_n 0, 1), (.getfield 43, 3), (.iload_n 2, 1), (.iastore, 1), (.aload_n 0, 1), (.dup, 1), (.getfield 43, 3), (.iconst 1, 1), (.iadd, 1), (.putfield 43, 3), (.return_, 1)]
theorem tX10_addSlots_ok : f_chk cX10_addSlots 0 tX10_addSlots = true := by decide +kernel
def pX10_addSlots (av : List Value) (I : fM) (L : fN) : Prop := match av with
  | [.ref 25, .int f, .int m] => xR I ∧ xT I ∧ 0 ≤ f.toInt ∧ f.toInt ≤ 52 ∧ 0 ≤ m.toInt ∧ m.toInt ≤ 3 ∧ f.toInt + m.toInt ≤ 53
  | _ => False
def qX10_addSlots (av : List Value) (I : fM) (L : fN) (r : Value) (I' : fM) (L' : fN) : Prop := match av, r with
  | [.ref 25, .int f, .int m], .null => xR I' ∧ xT I' ∧ f_fr [25, 26, 27] I I' ∧ L' = L ∧ I' 25 8 = I 25 8
  | _, _ => False
set_option maxHeartbeats 4000000 in
set_option maxRecDepth 100000 in
theorem mX10_addSlots {l : Launch} {a : Nat → Nat} {cy dC : Nat → ClassId} {dI : Nat → Nat → Nat} (hinj : ∀ i j, i < 80 → j < 80 → a i = a j → i = j) : f_Met (xE a) l xY 80 a cy dC dI yX10_addSlots cX10_addSlots 3 0 0 pX10_addSlots qX10_addSlots := by
  refine f_met_of (xE_c a) hinj xY_hi (by decide) (fun av I L h => by unfold pX10_addSlots at h; split at h <;> first | exact Nat.le_of_ble_eq_true rfl | exact h.elim) ?_
  intro pP eP sP mP aP bP hP9 cP C av I L hp
  unfold pX10_addSlots at hp
  split at hp
  case h_2 => exact hp.elim
  case h_1 f m =>
    obtain ⟨hR, hT, h1, h2, h3, h4, h5⟩ := hp
    have hB : 0 ≤ (I 25 7).toInt ∧ (I 25 7).toInt ≤ 8 := hR 25 7
    refine f_wp_ok C f_cl flX10_ok fiX10_ok fjX10_ok (sn := none) (fun j h => by cases h) (cs := (fun _ => none)) (cz := (fun _ => none)) (fun j S h => by cases h) (fun j S h => by cases h) tX10_addSlots_ok (cut := (fun _ => none)) (fun t P h => by cases h) 50 0 tX10_addSlots tX10_addSlots_ok _ _ _ _ ?_
    apply And.intro
    · intro h
      exact ⟨hR, hT, f_fr_rf, rfl, rfl⟩
    · intro h
      rw [f_ci (by omega) (by omega)] at h
      refine And.intro ⟨hB.1, h⟩ ?_
      refine And.intro ⟨hB.1, h⟩ ?_
      intro z q hz hq hl hu
      have hq : z.toInt = (I 25 7).toInt + (Int32.ofInt 1).toInt + 4294967296 * q := hq
      rw [f_ci (by omega) (by omega)] at hq
      refine ⟨xR_f (xR_a (xR_a hR (by exact ⟨h1, h2⟩)) (by exact ⟨h3, h4⟩)) ⟨by show 0 ≤ z.toInt; omega, by show z.toInt ≤ 8; omega⟩, ?_, f_fr_up (f_fr_up (f_fr_up f_fr_rf rfl) rfl) rfl, rfl, rfl⟩
      intro i
      show (upd (I 26) (I 25 7).toNatClampNeg f i).toInt + (upd (I 27) (I 25 7).toNatClampNeg m i).toInt ≤ 53
      by_cases e : i = (I 25 7).toNatClampNeg
      · rw [e, pk_us, pk_us]; exact h5
      · rw [pk_un e, pk_un e]; exact hT i
def tX10_addWord : List (Instr × Nat) := [(.aload_n 0, 1), (.iload_n 1, 1), (.invokestatic 65, 3), (.aload_n 0, 1), (.getfield 30, 3), (.getfield 69, 3), (.iload_n 1, 1), (.iaload, 1), (.invokevirtual 72, 3), (.return_, 1)]
theorem tX10_addWord_ok : f_chk cX10_addWord 0 tX10_addWord = true := by decide +kernel
def pX10_addWord (av : List Value) (I : fM) (L : fN) : Prop := match av with
  | [.ref 25, .int w] => xR I ∧ xT I ∧ 0 ≤ w.toInt ∧ w.toInt ≤ 11
  | _ => False
def qX10_addWord (av : List Value) (I : fM) (L : fN) (r : Value) (I' : fM) (L' : fN) : Prop := match av, r with
  | [.ref 25, .int w], .null => xR I' ∧ xT I' ∧ f_fr [25, 26, 27] I I' ∧ L' = L ∧ I' 25 8 = I 25 8
  | _, _ => False
set_option maxHeartbeats 4000000 in
set_option maxRecDepth 100000 in
theorem mX10_addWord {l : Launch} {a : Nat → Nat} {cy dC : Nat → ClassId} {dI : Nat → Nat → Nat} (hinj : ∀ i j, i < 80 → j < 80 → a i = a j → i = j) : f_Met (xE a) l xY 80 a cy dC dI yX10_addWord cX10_addWord 2 0 1 pX10_addWord qX10_addWord := by
  refine f_met_of (xE_c a) hinj xY_hi (by decide) (fun av I L h => by unfold pX10_addWord at h; split at h <;> first | exact Nat.le_of_ble_eq_true rfl | exact h.elim) ?_
  intro pP eP sP mP aP bP hP9 cP C av I L hp
  unfold pX10_addWord at hp
  split at hp
  case h_2 => exact hp.elim
  case h_1 w =>
    obtain ⟨hR, hT, h1, h2⟩ := hp
    have hB : 0 ≤ (I 24 w.toNatClampNeg).toInt ∧ (I 24 w.toNatClampNeg).toInt ≤ 3 := hR 24 _
    refine f_wp_ok C f_cl flX10_ok fiX10_ok fjX10_ok (sn := none) (fun j h => by cases h) (cs := (f_cnl [(72, (3, 0, 9, pX10_addSlots, qX10_addSlots))])) (cz := (f_cnl [(65, (1, 1, 3, pX3_firstSlot, qX3_firstSlot))])) (f_cnl_of (P := fun j S => f_cok pP l eP (f_rm 1) sP mP aP bP hP9 cP xY 80 a cy dC dI 2 _ _ (.invokevirtual j) true S) (List.forall_mem_cons.mpr ⟨f_cokV C (mX10_addSlots hinj) (ci := 9) rfl (List.forall_mem_cons.mpr ⟨(mlX10_ok _ (List.mem_of_getElem? (i := 4) rfl)), kc_X10_addSlots⟩) (by decide +kernel) ⟨Nat.le_of_ble_eq_true rfl, Nat.le_of_ble_eq_true rfl⟩, fun _ h => absurd h List.not_mem_nil⟩)) (f_cnl_of (P := fun j S => f_cok pP l eP (f_rm 1) sP mP aP bP hP9 cP xY 80 a cy dC dI 2 _ _ (.invokestatic j) false S) (List.forall_mem_cons.mpr ⟨f_cokS C (mX3_firstSlot hinj) (List.forall_mem_cons.mpr ⟨(mlX10_ok _ (List.mem_of_getElem? (i := 3) rfl)), kc_X3_firstSlot⟩) (by decide +kernel) ⟨Nat.le_of_ble_eq_true rfl, Nat.le_of_ble_eq_true rfl⟩, fun _ h => absurd h List.not_mem_nil⟩)) tX10_addWord_ok (cut := (fun _ => none)) (fun t P h => by cases h) 50 0 tX10_addWord tX10_addWord_ok _ _ _ _ ?_
    refine And.intro ⟨h1, h2⟩ ?_
    intro x I1 L1 hq
    obtain ⟨rfl, rfl, hx⟩ := hq
    refine And.intro ⟨h1, by show w.toInt < 12; omega⟩ ?_
    refine And.intro ⟨hR, hT, by omega, by omega, hB.1, hB.2, by have := hB.2; show x.toInt + (I1 24 w.toNatClampNeg).toInt ≤ 53; omega⟩ ?_
    intro I2 L2 hq
    exact hq
def jX10_bwr (I0 : fM) (L0 : fN) (n : Nat) (ls : fLs) (st : List Value) (I : fM) (L : fN) : Prop := ∃ (i : Int32), ls = [(2, .int i), (0, .ref 25), (1, .ref 40)] ∧ st = [] ∧ 0 ≤ i.toInt ∧ i.toInt ≤ (I0 40 6).toInt ∧ (I0 40 6).toInt - i.toInt < n ∧ xR I ∧ xT I ∧ f_fr [25, 26, 27] I0 I ∧ L = L0 ∧ (I 25 8).toInt = 36
def tX10_beginWithRow : List (Instr × Nat) := [(.aload_n 0, 1), (.bipush 36, 2), (.invokevirtual 52, 3), (.iconst 0, 1), (.istore_n 2, 1), (.iload_n 2, 1), (.aload_n 1, 1), (.getfield 56, 3), (.if_icmp .ge 19, 3), (.aload_n 0, 1), (.aload_n 1, 1), (.getfield 59, 3), (.iload_n 2, 1), (.iaload, 1), (.invokevirtual 62, 3), (.iinc 2 1, 3), (.goto (-21), 3), (.return_, 1)]
theorem tX10_beginWithRow_ok : f_chk cX10_beginWithRow 0 tX10_beginWithRow = true := by decide +kernel
def pX10_beginWithRow (av : List Value) (I : fM) (L : fN) : Prop := match av with
  | [.ref 25, .ref 40] => xR I ∧ xT I
  | _ => False
def qX10_beginWithRow (av : List Value) (I : fM) (L : fN) (r : Value) (I' : fM) (L' : fN) : Prop := match av, r with
  | [.ref 25, .ref 40], .null => xR I' ∧ xT I' ∧ f_fr [25, 26, 27] I I' ∧ L' = L ∧ (I' 25 8).toInt = 36
  | _, _ => False
set_option maxHeartbeats 4000000 in
set_option maxRecDepth 100000 in
theorem mX10_beginWithRow {l : Launch} {a : Nat → Nat} {cy dC : Nat → ClassId} {dI : Nat → Nat → Nat} (hinj : ∀ i j, i < 80 → j < 80 → a i = a j → i = j) : f_Met (xE a) l xY 80 a cy dC dI yX10_beginWithRow cX10_beginWithRow 3 0 2 pX10_beginWithRow qX10_beginWithRow := by
  refine f_met_of (xE_c a) hinj xY_hi (by decide) (fun av I L h => by unfold pX10_beginWithRow at h; split at h <;> first | exact Nat.le_of_ble_eq_true rfl | exact h.elim) ?_
  intro pP eP sP mP aP bP hP9 cP C av I L hp
  unfold pX10_beginWithRow at hp
  split at hp
  case h_2 => exact hp.elim
  case h_1 =>
    obtain ⟨hR, hT⟩ := hp
    have hB : 0 ≤ (I 40 6).toInt ∧ (I 40 6).toInt ≤ 8 := hR 40 6
    have lp : ∀ (nn : Nat) (ls' : fLs) (st' : List Value) (I' : fM) (L' : fN), jX10_bwr I L nn ls' st' I' L' → f_W pP l eP (f_rm 2) sP mP aP bP hP9 cP xY 80 a cy dC dI 3 (f_K 0 (qX10_beginWithRow [.ref 25, .ref 40] I L)) 8 ls' st' I' L' := by
      intro n
      induction n with
      | zero =>
        intro ls' st' I' L' h
        obtain ⟨i, -, -, h1, h2, hm, -⟩ := h
        omega
      | succ n ih =>
        intro ls' st' I' L' h
        obtain ⟨i, rfl, rfl, h1, h2, hm, hR', hT', hF, hL, hg⟩ := h
        refine f_wp_ok C f_cl flX10_ok fiX10_ok fjX10_ok (sn := none) (fun j h => by cases h) (cs := (f_cnl [(52, (2, 0, 9, pX10_begin, qX10_begin)), (62, (2, 0, 9, pX10_addWord, qX10_addWord))])) (cz := (fun _ => none)) (f_cnl_of (P := fun j S => f_cok pP l eP (f_rm 2) sP mP aP bP hP9 cP xY 80 a cy dC dI 3 _ _ (.invokevirtual j) true S) (List.forall_mem_cons.mpr ⟨f_cokV C (mX10_begin hinj) (ci := 9) rfl (List.forall_mem_cons.mpr ⟨(mlX10_ok _ (List.mem_of_getElem? (i := 1) rfl)), kc_X10_begin⟩) (by decide +kernel) ⟨Nat.le_of_ble_eq_true rfl, Nat.le_of_ble_eq_true rfl⟩, List.forall_mem_cons.mpr ⟨f_cokV C (mX10_addWord hinj) (ci := 9) rfl (List.forall_mem_cons.mpr ⟨(mlX10_ok _ (List.mem_of_getElem? (i := 2) rfl)), kc_X10_addWord⟩) (by decide +kernel) ⟨Nat.le_of_ble_eq_true rfl, Nat.le_of_ble_eq_true rfl⟩, fun _ h => absurd h List.not_mem_nil⟩⟩)) (fun j S h => by cases h) tX10_beginWithRow_ok (cut := (f_cnl [(8, jX10_bwr I L n)])) (f_cnl_of (P := fun (tQ : Nat) (P : fLs → List Value → fM → fN → Prop) => ∀ ls' st' I' L', P ls' st' I' L' → f_W pP l eP (f_rm 2) sP mP aP bP hP9 cP xY 80 a cy dC dI 3 (f_K 0 (qX10_beginWithRow [.ref 25, .ref 40] I L)) tQ ls' st' I' L') (List.forall_mem_cons.mpr ⟨ih, fun _ h => absurd h List.not_mem_nil⟩)) 50 8 (f_seek 8 0 tX10_beginWithRow) (f_seek_ok 8 0 tX10_beginWithRow tX10_beginWithRow_ok) _ _ _ _ ?_
        have e6 : I' 40 6 = I 40 6 := by rw [hF 40 rfl]
        have hw : ∀ j, 0 ≤ (I' 41 j).toInt ∧ (I' 41 j).toInt ≤ 11 := fun j => hR' 41 j
        apply And.intro
        · intro h3
          exact ⟨hR', hT', hF, hL, hg⟩
        · intro h3
          have h3 : i.toInt < (I' 40 6).toInt := h3
          rw [e6] at h3
          refine And.intro ⟨h1, by show i.toInt < 8; omega⟩ ?_
          refine And.intro ⟨hR', hT', (hw _).1, (hw _).2⟩ ?_
          intro I2 L2 hq
          obtain ⟨hR2, hT2, hF2, hL2, hg2⟩ := hq
          intro z q hz hq hl hu
          exact ⟨z, rfl, rfl, by omega, by omega, by omega, hR2, hT2, f_fr_tr hF hF2 rfl, hL2.trans hL, by rw [hg2]; exact hg⟩
    refine f_wp_ok C f_cl flX10_ok fiX10_ok fjX10_ok (sn := none) (fun j h => by cases h) (cs := (f_cnl [(52, (2, 0, 9, pX10_begin, qX10_begin)), (62, (2, 0, 9, pX10_addWord, qX10_addWord))])) (cz := (fun _ => none)) (f_cnl_of (P := fun j S => f_cok pP l eP (f_rm 2) sP mP aP bP hP9 cP xY 80 a cy dC dI 3 _ _ (.invokevirtual j) true S) (List.forall_mem_cons.mpr ⟨f_cokV C (mX10_begin hinj) (ci := 9) rfl (List.forall_mem_cons.mpr ⟨(mlX10_ok _ (List.mem_of_getElem? (i := 1) rfl)), kc_X10_begin⟩) (by decide +kernel) ⟨Nat.le_of_ble_eq_true rfl, Nat.le_of_ble_eq_true rfl⟩, List.forall_mem_cons.mpr ⟨f_cokV C (mX10_addWord hinj) (ci := 9) rfl (List.forall_mem_cons.mpr ⟨(mlX10_ok _ (List.mem_of_getElem? (i := 2) rfl)), kc_X10_addWord⟩) (by decide +kernel) ⟨Nat.le_of_ble_eq_true rfl, Nat.le_of_ble_eq_true rfl⟩, fun _ h => absurd h List.not_mem_nil⟩⟩)) (fun j S h => by cases h) tX10_beginWithRow_ok (cut := (f_cnl [(8, jX10_bwr I L 9)])) (f_cnl_of (P := fun (tQ : Nat) (P : fLs → List Value → fM → fN → Prop) => ∀ ls' st' I' L', P ls' st' I' L' → f_W pP l eP (f_rm 2) sP mP aP bP hP9 cP xY 80 a cy dC dI 3 (f_K 0 (qX10_beginWithRow [.ref 25, .ref 40] I L)) tQ ls' st' I' L') (List.forall_mem_cons.mpr ⟨lp 9, fun _ h => absurd h List.not_mem_nil⟩)) 50 0 tX10_beginWithRow tX10_beginWithRow_ok _ _ _ _ ?_
    refine And.intro ⟨hR, by decide, by decide⟩ ?_
    intro I2 L2 hq
    obtain ⟨hR2, hF2, hL2, hc2, hg2⟩ := hq
    exact ⟨Int32.ofInt 0, rfl, rfl, by decide, by show 0 ≤ _; omega, by show _ - 0 < _; omega, hR2, xT_fr hT hF2 rfl rfl, f_fr_tr f_fr_rf hF2 rfl, hL2, by rw [hg2]; decide⟩
def jX10_measure (I0 : fM) (L0 : fN) (n : Nat) (ls : fLs) (st : List Value) (I : fM) (L : fN) : Prop := ∃ (i : Int32), ls = [(1, .int i), (0, .ref 25)] ∧ st = [] ∧ -1 ≤ i.toInt ∧ i.toInt ≤ 7 ∧ i.toInt + 1 < n ∧ I = I0 ∧ f_fr [29, 30] L0 L
def tX10_measure : List (Instr × Nat) := [(.aload_n 0, 1), (.getfield 23, 3), (.aload_n 0, 1), (.getfield 43, 3), (.lconst 0, 1), (.lastore, 1), (.aload_n 0, 1), (.getfield 27, 3), (.aload_n 0, 1), (.getfield 43, 3), (.lconst 0, 1), (.lastore, 1), (.aload_n 0, 1), (.getfield 43, 3), (.iconst 1, 1), (.isub, 1), (.istore_n 1, 1), (.iload_n 1, 1), (.ifCond .lt 67, 3), (.aload_n 0, 1), (.getfield 23, 3), (.iload_n 1, 1), (.aload_n 0, 1), (.getfield 23, 3), (.iload_n 1, 1), (.iconst 1, 1), (.iadd, 1), (.laload, 1), (.aload_n 0, 1), (.getfield 30, 3), (.getfield 76, 3), (.aload_n 0, 1), (.getfield 13, 3), (.iload_n 1, 1), (.iaload, 1), (.laload, 1), (.ladd, 1), (.lastore, 1), (.aload_n 0, 1), (.getfield 27, 3), (.iload_n 1, 1), (.aload_n 0, 1), (.getfield 27, 3), (.iload_n 1, 1), (.iconst 1, 1), (.iadd, 1), (.laload, 1), (.aload_n 0, 1), (.getfield 30, 3), (.getfield 77, 3), (.aload_n 0, 1), (.getfield 13, 3), (.iload_n 1, 1), (.iaload, 1), (.laload, 1), (.ladd, 1), (.lastore, 1), (.iinc 1 (-1), 3), (.goto (-65), 3), (.return_, 1)]
theorem tX10_measure_ok : f_chk cX10_measure 0 tX10_measure = true := by decide +kernel
def pX10_measure (av : List Value) (I : fM) (L : fN) : Prop := match av with
  | [.ref 25] => xR I
  | _ => False
def qX10_measure (av : List Value) (I : fM) (L : fN) (r : Value) (I' : fM) (L' : fN) : Prop := match av, r with
  | [.ref 25], .null => I' = I ∧ f_fr [29, 30] L L'
  | _, _ => False
set_option maxHeartbeats 4000000 in
set_option maxRecDepth 100000 in
theorem mX10_measure {l : Launch} {a : Nat → Nat} {cy dC : Nat → ClassId} {dI : Nat → Nat → Nat} (hinj : ∀ i j, i < 80 → j < 80 → a i = a j → i = j) : f_Met (xE a) l xY 80 a cy dC dI yX10_measure cX10_measure 2 0 0 pX10_measure qX10_measure := by
  refine f_met_of (xE_c a) hinj xY_hi (by decide) (fun av I L h => by unfold pX10_measure at h; split at h <;> first | exact Nat.le_of_ble_eq_true rfl | exact h.elim) ?_
  intro pP eP sP mP aP bP hP9 cP C av I L hp
  unfold pX10_measure at hp
  split at hp
  case h_2 => exact hp.elim
  case h_1 =>
    have hB : 0 ≤ (I 25 7).toInt ∧ (I 25 7).toInt ≤ 8 := hp 25 7
    have lp : ∀ (nn : Nat) (ls' : fLs) (st' : List Value) (I' : fM) (L' : fN), jX10_measure I L nn ls' st' I' L' → f_W pP l eP (f_rm 0) sP mP aP bP hP9 cP xY 80 a cy dC dI 2 (f_K 0 (qX10_measure [.ref 25] I L)) 27 ls' st' I' L' := by
      intro n
      induction n with
      | zero =>
        intro ls' st' I' L' h
        obtain ⟨i, -, -, h1, h2, hm, -⟩ := h
        omega
      | succ n ih =>
        intro ls' st' I' L' h
        obtain ⟨i, rfl, rfl, h1, h2, hm, hI, hF⟩ := h
        refine f_wp_ok C f_cl flX10_ok fiX10_ok fjX10_ok (sn := none) (fun j h => by cases h) (cs := (fun _ => none)) (cz := (fun _ => none)) (fun j S h => by cases h) (fun j S h => by cases h) tX10_measure_ok (cut := (f_cnl [(27, jX10_measure I L n)])) (f_cnl_of (P := fun (tQ : Nat) (P : fLs → List Value → fM → fN → Prop) => ∀ ls' st' I' L', P ls' st' I' L' → f_W pP l eP (f_rm 0) sP mP aP bP hP9 cP xY 80 a cy dC dI 2 (f_K 0 (qX10_measure [.ref 25] I L)) tQ ls' st' I' L') (List.forall_mem_cons.mpr ⟨ih, fun _ h => absurd h List.not_mem_nil⟩)) 70 27 (f_seek 27 0 tX10_measure) (f_seek_ok 27 0 tX10_measure tX10_measure_ok) _ _ _ _ ?_
        rw [hI]
        have hf : ∀ j, 0 ≤ (I 26 j).toInt ∧ (I 26 j).toInt ≤ 52 := fun j => hp 26 j
        apply And.intro
        · intro h3
          exact ⟨rfl, hF⟩
        · intro h3
          intro z q hz hq hl hu
          rw [f_ci (by omega) (by omega)] at hq
          refine And.intro ⟨by omega, by show z.toInt < 9; omega⟩ ?_
          refine And.intro ⟨h3, by show i.toInt < 8; omega⟩ ?_
          refine And.intro ⟨(hf _).1, by have := (hf i.toNatClampNeg).2; show (I 26 i.toNatClampNeg).toInt < 53; omega⟩ ?_
          refine And.intro ⟨h3, by show i.toInt < 9; omega⟩ ?_
          intro z2 q2 hz2 hq2 hl2 hu2
          rw [f_ci (by omega) (by omega)] at hq2
          refine And.intro ⟨by omega, by show z2.toInt < 9; omega⟩ ?_
          refine And.intro ⟨h3, by show i.toInt < 8; omega⟩ ?_
          refine And.intro ⟨(hf _).1, by have := (hf i.toNatClampNeg).2; show (I 26 i.toNatClampNeg).toInt < 53; omega⟩ ?_
          refine And.intro ⟨h3, by show i.toInt < 9; omega⟩ ?_
          intro z3 q3 hz3 hq3 hl3 hu3
          exact ⟨z3, rfl, rfl, by omega, by omega, by omega, rfl, f_fr_up (f_fr_up hF rfl) rfl⟩
    refine f_wp_ok C f_cl flX10_ok fiX10_ok fjX10_ok (sn := none) (fun j h => by cases h) (cs := (fun _ => none)) (cz := (fun _ => none)) (fun j S h => by cases h) (fun j S h => by cases h) tX10_measure_ok (cut := (f_cnl [(27, jX10_measure I L 9)])) (f_cnl_of (P := fun (tQ : Nat) (P : fLs → List Value → fM → fN → Prop) => ∀ ls' st' I' L', P ls' st' I' L' → f_W pP l eP (f_rm 0) sP mP aP bP hP9 cP xY 80 a cy dC dI 2 (f_K 0 (qX10_measure [.ref 25] I L)) tQ ls' st' I' L') (List.forall_mem_cons.mpr ⟨lp 9, fun _ h => absurd h List.not_mem_nil⟩)) 70 0 tX10_measure tX10_measure_ok _ _ _ _ ?_
    refine And.intro ⟨hB.1, by show (I 25 7).toInt < 9; omega⟩ ?_
    refine And.intro ⟨hB.1, by show (I 25 7).toInt < 9; omega⟩ ?_
    intro z q hz hq hl hu
    have hq : z.toInt = (I 25 7).toInt - (Int32.ofInt 1).toInt + 4294967296 * q := hq
    rw [f_ci (by omega) (by omega)] at hq
    exact ⟨z, rfl, rfl, by omega, by omega, by omega, rfl, f_fr_up (f_fr_up f_fr_rf rfl) rfl⟩
def tX10_canComeOutEven : List (Instr × Nat) := [(.ldc2_w 78, 3), (.lstore 4, 2), (.lload 4, 2), (.lload_n 2, 1), (.ladd, 1), (.aload_n 0, 1), (.getfield 27, 3), (.iload_n 1, 1), (.laload, 1), (.ladd, 1), (.lload 4, 2), (.land, 1), (.lload 4, 2), (.lcmp, 1), (.ifCond .ne 27, 3), (.lload 4, 2), (.lload_n 2, 1), (.lsub, 1), (.aload_n 0, 1), (.getfield 23, 3), (.iload_n 1, 1), (.laload, 1), (.lsub, 1), (.lload 4, 2), (.land, 1), (.lload 4, 2), (.lcmp, 1), (.ifCond .ne 7, 3), (.iconst 1, 1), (.goto 4, 3), (.iconst 0, 1), (.ireturn, 1)]
theorem tX10_canComeOutEven_ok : f_chk cX10_canComeOutEven 0 tX10_canComeOutEven = true := by decide +kernel
def pX10_canComeOutEven (av : List Value) (I : fM) (L : fN) : Prop := match av with
  | [.ref 25, .int p, .long s] => 0 ≤ p.toInt ∧ p.toInt ≤ 8
  | _ => False
def qX10_canComeOutEven (av : List Value) (I : fM) (L : fN) (r : Value) (I' : fM) (L' : fN) : Prop := match av, r with
  | [.ref 25, .int p, .long s], .int x => I' = I ∧ L' = L ∧ (x.toInt = 0 ∨ x.toInt = 1)
  | _, _ => False
set_option maxHeartbeats 4000000 in
set_option maxRecDepth 100000 in
theorem mX10_canComeOutEven {l : Launch} {a : Nat → Nat} {cy dC : Nat → ClassId} {dI : Nat → Nat → Nat} (hinj : ∀ i j, i < 80 → j < 80 → a i = a j → i = j) : f_Met (xE a) l xY 80 a cy dC dI yX10_canComeOutEven cX10_canComeOutEven 6 3 0 pX10_canComeOutEven qX10_canComeOutEven := by
  refine f_met_of (xE_c a) hinj xY_hi (by decide) (fun av I L h => by unfold pX10_canComeOutEven at h; split at h <;> first | exact Nat.le_of_ble_eq_true rfl | exact h.elim) ?_
  intro pP eP sP mP aP bP hP9 cP C av I L hp
  unfold pX10_canComeOutEven at hp
  split at hp
  case h_2 => exact hp.elim
  case h_1 p s =>
    refine f_wp_ok C f_cl flX10_ok fiX10_ok fjX10_ok (sn := none) (fun j h => by cases h) (cs := (fun _ => none)) (cz := (fun _ => none)) (fun j S h => by cases h) (fun j S h => by cases h) tX10_canComeOutEven_ok (cut := (fun _ => none)) (fun t P h => by cases h) 50 0 tX10_canComeOutEven tX10_canComeOutEven_ok _ _ _ _ ?_
    refine And.intro ⟨hp.1, by show p.toInt < 9; omega⟩ ?_
    apply And.intro
    · intro h
      exact ⟨Or.inl rfl, rfl, rfl, Or.inl rfl⟩
    · intro h
      refine And.intro ⟨hp.1, by show p.toInt < 9; omega⟩ ?_
      apply And.intro
      · intro h
        exact ⟨Or.inl rfl, rfl, rfl, Or.inl rfl⟩
      · intro h
        exact ⟨Or.inr rfl, rfl, rfl, Or.inr rfl⟩
