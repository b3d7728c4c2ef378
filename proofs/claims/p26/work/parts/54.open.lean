/-- what open is called with: one thing is new -/
def opn (I : fM) (nd gv th : Int) : Prop := tk ((I 0 45).toInt + (I 6 nd.toNat).toInt) (I 0 45).toInt 1 (I 0 46).toInt (I 0 47).toInt (ecd I) (fun _ => 2 * th + gv) (fun _ => (I 6 nd.toNat).toInt) ∧ eO I ∧ (gv = 1 → (I 27 th.toNat).toInt = 0) ∧ (gv = 0 → (I 29 th.toNat).toInt = 0)
theorem oI_begin {I K : fM} {nd gv th p : Int32} (hR : mR I) (h : opn I nd.toInt gv.toInt th.toInt) (hl : lvn I nd.toInt) (h4 : (I 6 nd.toInt.toNat).toInt ≤ 4) (hg : gv.toInt = 0 ∨ gv.toInt = 1) (hp : p.toInt = gv.toInt) (k0 : f_fo [48] I K) (kf : f_fr [0, 31, 32, 34] I K) (k48 : (K 0 48).toInt = 1)
    (e31 : K 31 = upd (I 31) 0 nd) (e32 : K 32 = upd (I 32) 0 th) (e34 : K 34 = upd (I 34) 0 p) : oI I K ((I 0 45).toInt + (I 6 nd.toInt.toNat).toInt) := by
  obtain ⟨h1, h2, h3, h5⟩ := h
  have e6 : K 6 = I 6 := kf 6 rfl
  have eec : ecd K = ecd I := by funext e; unfold ecd; rw [kf 22 rfl, kf 33 rfl]
  have one : ∀ i : Nat, (i : Int) < 1 → tcd K i = 2 * th.toInt + gv.toInt ∧ tlv K i = (I 6 nd.toInt.toNat).toInt := fun i hi => by
    have : i = 0 := by omega
    subst this
    unfold tcd tlv
    rw [e31, e32, e34, e6, pk_us, pk_us, pk_us, hp]
    exact ⟨rfl, rfl⟩
  have elv : ∀ n, lvn K n = lvn I n := lvn_eq (k0 24 rfl) (kf 8 rfl) (kf 11 rfl)
  refine ⟨?_, ?_, ?_, fun gt q1 q2 => ?_, ?_, ?_, ?_, ?_, ?_⟩
  · rw [k0 45 rfl, k0 46 rfl, k0 47 rfl, k48, eec]
    obtain ⟨a1, a2, a3, a4, a5, a6, a7, a8, a9⟩ := h1
    refine ⟨a1, a2, a3, fun i hi => ?_, fun e i he hi => ?_, fun i j hij hj => by omega, a7, a8, ?_⟩
    · rw [(one i hi).1, (one i hi).2]; exact a4 i hi
    · rw [(one i hi).1]; exact a5 e i he hi
    · have q := one 0 (by omega)
      show _ + (0 + tlv K 0) = _
      rw [q.2]; omega
  · intro e he
    rw [kf 22 rfl, kf 24 rfl, kf 25 rfl, kf 33 rfl]
    exact h2 e (by rw [← k0 45 rfl]; exact he)
  · intro i hi
    have : i = 0 := by omega
    subst this
    rw [elv]
    unfold tlv
    rw [e31, e32, e34, e6, pk_us, pk_us, pk_us, kf 27 rfl, kf 29 rfl, hp]
    refine ⟨hg, hl, fun q => ?_, fun q => ?_⟩
    · rw [h3 q]; omega
    · rw [h5 q]; omega
  · unfold aO at q2 ⊢
    rw [k0 46 rfl, k0 47 rfl, kf 27 rfl, kf 28 rfl]
    exact q2
  · rw [k0 46 rfl, k0 47 rfl, kf 29 rfl]; exact id
  · rw [k0 46 rfl]; exact Int.le_refl _
  · rw [k0 47 rfl]; exact Int.le_refl _
  · intro g _; rw [kf 26 rfl]
  · rw [k0 46 rfl]; intro g q1 q2; omega
def tX12_open : List (Instr × Nat) := [(.aload_n 0, 1), (.iload_n 1, 1), (.iload_n 2, 1), (.iload_n 3, 1), (.invokevirtual 388, 3), (.aload_n 0, 1), (.getfield 376, 3), (.ifCond .le 281, 3), (.aload_n 0, 1), (.dup, 1), (.getfield 376, 3), (.iconst 1, 1), (.isub, 1), (.putfield 376, 3), (.aload_n 0, 1), (.getfield 107, 3), (.aload_n 0, 1), (.getfield 376, 3), (.iaload, 1), (.istore 4, 2), (.aload_n 0, 1), (.getfield 116, 3), (.aload_n 0, 1), (.getfield 376, 3), (.baload, 1), (.istore 5, 2), (.aload_n 0, 1), (.getfield 110, 3), (.aload_n 0, 1), (.getfield 376, 3), (.iaload, 1), (.istore 6, 2), (.aload_n 0, 1), (.getfield 20, 3), (.iload 4, 2), (.iaload, 1), (.ifCond .ne 21, 3), (.aload_n 0, 1), (.aload_n 0, 1), (.getfield 24, 3), (.iload 4, 2), (.iaload, 1), (.iload 5, 2), (.iload 6, 2), (.invokevirtual 392, 3), (.goto 207, 3), (.iload 5, 2), (.ifCond .eq 103, 3), (.aload_n 0, 1), (.invokevirtual 395, 3), (.istore 7, 2), (.aload_n 0, 1), (.getfield 98, 3), (.iconst 4, 1), (.iload 6, 2), (.imul, 1), (.aload_n 0, 1), (.getfield 95, 3), (.iload 6, 2), (.iaload, 1), (.iadd, 1), (.iload 7, 2), (.iastore, 1), (.aload_n 0, 1), (.getfield 95, 3), (.iload 6, 2), (.dup2, 1), (.iaload, 1), (.iconst 1, 1), (.iadd, 1), (.iastore, 1), (.aload_n 0, 1), (.getfield 20, 3), (.iload 4, 2), (.iaload, 1), (.iconst 1, 1), (.if_icmp .ne 16, 3), (.aload_n 0, 1), (.aload_n 0, 1), (.iload 4, 2), (.invokevirtual 398, 3), (.iconst 0, 1), (.iload 7, 2), (.invokevirtual 388, 3), (.aload_n 0, 1), (.aload_n 0, 1), (.iload 4, 2), (.invokevirtual 401, 3), (.iconst 1, 1), (.iload 6, 2), (.invokevirtual 388, 3), (.aload_n 0, 1), (.getfield 20, 3), (.iload 4, 2), (.iaload, 1), (.iconst 2, 1), (.if_icmp .ne 16, 3), (.aload_n 0, 1), (.aload_n 0, 1), (.iload 4, 2), (.invokevirtual 398, 3), (.iconst 0, 1), (.iload 7, 2), (.invokevirtual 388, 3), (.goto 102, 3), (.aload_n 0, 1), (.iload 6, 2), (.invokevirtual 404, 3), (.istore 7, 2), (.aload_n 0, 1), (.getfield 104, 3), (.iconst 4, 1), (.iload 6, 2), (.imul, 1), (.aload_n 0, 1), (.getfield 101, 3), (.iload 6, 2), (.iaload, 1), (.iadd, 1), (.iload 7, 2), (.iastore, 1), (.aload_n 0, 1), (.getfield 101, 3), (.iload 6, 2), (.dup2, 1), (.iaload, 1), (.iconst 1, 1), (.iadd, 1), (.iastore, 1), (.aload_n 0, 1), (.getfield 20, 3), (.iload 4, 2), (.iaload, 1), (.iconst 2, 1), (.if_icmp .ne 16, 3), (.aload_n 0, 1), (.aload_n 0, 1), (.iload 4, 2), (.invokevirtual 398, 3), (.iconst 1, 1), (.iload 7, 2), (.invokevirtual 388, 3), (.aload_n 0, 1), (.aload_n 0, 1), (.iload 4, 2), (.invokevirtual 401, 3), (.iconst 0, 1), (.iload 6, 2), (.invokevirtual 388, 3), (.aload_n 0, 1), (.getfield 20, 3), (.iload 4, 2), (.iaload, 1), (.iconst 1, 1), (.if_icmp .ne 16, 3), (.aload_n 0, 1), (.aload_n 0, 1), (.iload 4, 2), (.invokevirtual 398, 3), (.iconst 1, 1), (.iload 7, 2), (.invokevirtual 388, 3), (.goto (-282), 3), (.return_, 1)]
theorem tX12_open_ok : f_chk cX12_open 0 tX12_open = true := by decide +kernel
def pX12_open (av : List Value) (I : fM) (L : fN) : Prop := match av with
  | [.ref 0, .int nd, .int gv, .int th] => mR I ∧ mL I ∧ mK I ∧ lvn I nd.toInt ∧ (gv.toInt = 0 ∨ gv.toInt = 1) ∧ 0 ≤ th.toInt ∧ th.toInt ≤ 39 ∧ opn I nd.toInt gv.toInt th.toInt ∧ (I 0 45).toInt + (I 6 nd.toInt.toNat).toInt ≤ 20
  | _ => False
def qX12_open (av : List Value) (I : fM) (L : fN) (r : Value) (I' : fM) (L' : fN) : Prop := match av, r with
  | [.ref 0, .int nd, .int gv, .int th], .null => mR I' ∧ mL I' ∧ mK I' ∧ f_fo [45, 46, 47, 48] I I' ∧ f_fr [0, 21, 22, 24, 25, 26, 27, 28, 29, 30, 31, 32, 33, 34] I I' ∧ L' = L ∧ oI I I' ((I 0 45).toInt + (I 6 nd.toInt.toNat).toInt)
  | _, _ => False
set_option maxHeartbeats 40000000 in
set_option maxRecDepth 100000 in
theorem mX12_open {l : Launch} {a : Nat → Nat} {cy dC : Nat → ClassId} {dI : Nat → Nat → Nat} (hinj : ∀ i j, i < 71 → j < 71 → a i = a j → i = j) : f_Met (fun _ => True) l mY 71 a cy dC dI yX12_open cX12_open 8 0 1 pX12_open qX12_open := by
  refine f_met_of (f_Ec_T 71 a) hinj mY_hi (by decide) (fun av I L h => by unfold pX12_open at h; split at h <;> first | exact Nat.le_of_ble_eq_true rfl | exact h.elim) ?_
  intro pP eP sP mP aP bP hP9 cP C av I L hp
  unfold pX12_open at hp
  split at hp
  case h_2 => exact hp.elim
  case h_1 nd gv th =>
    obtain ⟨hR, hmL, hmK, p3, p4, p5, p6, p7, p8⟩ := hp
    unfold mK at hmK
    obtain ⟨r0, r1, r2, r3, r4⟩ := lvn_ok hR hmL p3
    have hF0 : f_fr [0, 21, 22, 24, 25, 26, 27, 28, 29, 30, 31, 32, 33, 34] I I := f_fr_rf
    have hO0 : f_fo [45, 46, 47, 48] I I := f_fo_rf
    have lp7 : ∀ (n7 : Nat), ∀ (J7 : fM), mR J7 ∧ f_fr [0, 21, 22, 24, 25, 26, 27, 28, 29, 30, 31, 32, 33, 34] I J7 ∧ f_fo [45, 46, 47, 48] I J7 ∧ mL J7 ∧ (oI I J7 ((I 0 45).toInt + (I 6 nd.toInt.toNat).toInt)) ∧ (0 ≤ 2 * tS (tlv J7) (J7 0 48).toInt.toNat - (J7 0 48).toInt) ∧ (2 * tS (tlv J7) (J7 0 48).toInt.toNat - (J7 0 48).toInt) < n7 → f_W pP l eP (f_rm 1) sP mP aP bP hP9 cP mY 71 a cy dC dI 8 (f_K 0 (qX12_open [.ref 0, .int nd, .int gv, .int th] I L)) 7 [(3, .int th), (2, .int gv), (1, .int nd), (0, .ref 0)] [] J7 L := by
      intro n7
      induction n7 with
      | zero =>
        intro J7 h9
        obtain ⟨hR7c, hF7c, hO7c, hmL7c, u7_1, u7_2, hm7⟩ := h9
        omega
      | succ n7 ih7 =>
        intro J7 h9
        obtain ⟨hR7c, hF7c, hO7c, hmL7c, u7_1, u7_2, hm7⟩ := h9
        have num7 := tk_num u7_1.1
        have gg7 : 0 ≤ (J7 0 46).toInt ∧ (J7 0 46).toInt ≤ 40 := hR7c 0 46
        have ww7 : 0 ≤ (J7 0 47).toInt ∧ (J7 0 47).toInt ≤ 40 := hR7c 0 47
        refine f_wp_ok C f_cl flX12_ok fiX12_ok fjX12_ok (sn := none) (fun j h => by cases h) (cs := (f_cnl [(388, (4, 0, 11, pX12_push, qX12_push)), (392, (4, 0, 11, pX12_putEnd, qX12_putEnd)), (395, (1, 1, 11, pX12_freshWanted, qX12_freshWanted)), (398, (2, 1, 11, pX12_wants, qX12_wants)), (401, (2, 1, 11, pX12_isOf, qX12_isOf)), (404, (2, 1, 11, pX12_freshGiven, qX12_freshGiven))])) (cz := (fun _ => none)) (f_cnl_of (P := fun j S => f_cok pP l eP (f_rm 1) sP mP aP bP hP9 cP mY 71 a cy dC dI 8 _ _ (.invokevirtual j) true S) (List.forall_mem_cons.mpr ⟨f_cokV C (mX12_push hinj) (ci := 11) rfl (List.forall_mem_cons.mpr ⟨(mlX12_ok _ (List.mem_of_getElem? (i := 30) rfl)), kc_X12_push⟩) (by decide +kernel) ⟨Nat.le_of_ble_eq_true rfl, Nat.le_of_ble_eq_true rfl⟩, List.forall_mem_cons.mpr ⟨f_cokV C (mX12_putEnd hinj) (ci := 11) rfl (List.forall_mem_cons.mpr ⟨(mlX12_ok _ (List.mem_of_getElem? (i := 31) rfl)), kc_X12_putEnd⟩) (by decide +kernel) ⟨Nat.le_of_ble_eq_true rfl, Nat.le_of_ble_eq_true rfl⟩, List.forall_mem_cons.mpr ⟨f_cokV C (mX12_freshWanted hinj) (ci := 11) rfl (List.forall_mem_cons.mpr ⟨(mlX12_ok _ (List.mem_of_getElem? (i := 32) rfl)), kc_X12_freshWanted⟩) (by decide +kernel) ⟨Nat.le_of_ble_eq_true rfl, Nat.le_of_ble_eq_true rfl⟩, List.forall_mem_cons.mpr ⟨f_cokV C (mX12_wants hinj) (ci := 11) rfl (List.forall_mem_cons.mpr ⟨(mlX12_ok _ (List.mem_of_getElem? (i := 33) rfl)), kc_X12_wants⟩) (by decide +kernel) ⟨Nat.le_of_ble_eq_true rfl, Nat.le_of_ble_eq_true rfl⟩, List.forall_mem_cons.mpr ⟨f_cokV C (mX12_isOf hinj) (ci := 11) rfl (List.forall_mem_cons.mpr ⟨(mlX12_ok _ (List.mem_of_getElem? (i := 34) rfl)), kc_X12_isOf⟩) (by decide +kernel) ⟨Nat.le_of_ble_eq_true rfl, Nat.le_of_ble_eq_true rfl⟩, List.forall_mem_cons.mpr ⟨f_cokV C (mX12_freshGiven hinj) (ci := 11) rfl (List.forall_mem_cons.mpr ⟨(mlX12_ok _ (List.mem_of_getElem? (i := 35) rfl)), kc_X12_freshGiven⟩) (by decide +kernel) ⟨Nat.le_of_ble_eq_true rfl, Nat.le_of_ble_eq_true rfl⟩, fun _ h => absurd h List.not_mem_nil⟩⟩⟩⟩⟩⟩)) (fun j S h => by cases h) tX12_open_ok (cut := (f_cnl [(7, (fun (ls' : fLs) (st' : List Value) (I' : fM) (L' : fN) => (∀ q ∈ ([(3, .int th), (2, .int gv), (1, .int nd), (0, .ref 0)] : fLs), q ∈ ls') ∧ st' = [] ∧ L' = L ∧ (mR I' ∧ f_fr [0, 21, 22, 24, 25, 26, 27, 28, 29, 30, 31, 32, 33, 34] I I' ∧ f_fo [45, 46, 47, 48] I I' ∧ mL I' ∧ (oI I I' ((I 0 45).toInt + (I 6 nd.toInt.toNat).toInt)) ∧ (0 ≤ 2 * tS (tlv I') (I' 0 48).toInt.toNat - (I' 0 48).toInt) ∧ (2 * tS (tlv I') (I' 0 48).toInt.toNat - (I' 0 48).toInt) < n7)))])) (f_cnl_of (P := fun (tQ : Nat) (P : fLs → List Value → fM → fN → Prop) => ∀ ls' st' I' L', P ls' st' I' L' → f_W pP l eP (f_rm 1) sP mP aP bP hP9 cP mY 71 a cy dC dI 8 (f_K 0 (qX12_open [.ref 0, .int nd, .int gv, .int th] I L)) tQ ls' st' I' L') (List.forall_mem_cons.mpr ⟨(fun ls' st' I' L' h => by obtain ⟨hs, e1, e3, h9⟩ := h; rw [e1, e3]; exact f_W_sub hs (ih7  I' h9)), fun _ h => absurd h List.not_mem_nil⟩)) 95 7 (f_seek 7 0 tX12_open) (f_seek_ok 7 0 tX12_open tX12_open_ok) _ _ _ _ ?_
        have r8_1 : 0 ≤ (J7 0 48).toInt ∧ (J7 0 48).toInt ≤ 60 := hR7c 0 48
        apply And.intro
        · intro h11
          have h11 : (J7 0 48).toInt ≤ 0 := h11
          have hmK292 : mK J7 := by unfold mK; omega
          exact ⟨hR7c, hmL7c, hmK292, hO7c, hF7c, rfl, (show oI I J7 ((I 0 45).toInt + (I 6 nd.toInt.toNat).toInt) from by first | assumption | omega | rfl)⟩
        · intro h11
          have h11 : 0 < (J7 0 48).toInt := h11
          intro z20 q20 _ hq20 hl20 hu20
          have hq20 : z20.toInt = (J7 0 48).toInt - 1 + 4294967296 * q20 := hq20
          try have hz20 : z20.toInt = (J7 0 48).toInt - 1 := by omega
          have hR21 := mR_f (k := 0) (j := 48) (x := z20) hR7c (show 0 ≤ z20.toInt ∧ z20.toInt ≤ 60 from ⟨by omega, by omega⟩)
          have hF21 := f_fr_up (k := 0) (r := va_up (J7 0) 48 z20) hF7c rfl
          have hO21 := f_fo_up (j := 48) (x := z20) hO7c rfl
          have hmL21 := f_depo_up0 mL_dep (j := 48) (x := z20) hmL7c rfl rfl
          obtain ⟨o1, o2, o3, o4⟩ := u7_1.2.2.1 z20.toInt.toNat (by omega)
          obtain ⟨l0, l1, l2, l3, l4⟩ := lvn_ok hR7c hmL7c o2
          have tl : tlv J7 z20.toInt.toNat = (J7 6 (J7 31 z20.toInt.toNat).toInt.toNat).toInt := rfl
          have tt : (z20.toInt.toNat : Int) = (J7 0 48).toInt - 1 := by omega
          have sn : tS (tlv J7) (J7 0 48).toInt.toNat = tS (tlv J7) z20.toInt.toNat + tlv J7 z20.toInt.toNat := by rw [show (J7 0 48).toInt.toNat = z20.toInt.toNat + 1 by omega]; rfl
          refine And.intro (show f_in z20 60 from ⟨show 0 ≤ z20.toInt from by omega, show z20.toInt < 60 from by omega⟩) ?_
          have r32_2 : 0 ≤ (J7 31 (z20.toInt.toNat)).toInt ∧ (J7 31 (z20.toInt.toNat)).toInt ≤ 1599 := hR21 31 (z20.toInt.toNat)
          refine And.intro (show f_in z20 60 from ⟨show 0 ≤ z20.toInt from by omega, show z20.toInt < 60 from by omega⟩) ?_
          refine And.intro (show f_in z20 60 from ⟨show 0 ≤ z20.toInt from by omega, show z20.toInt < 60 from by omega⟩) ?_
          have r54_4 : 0 ≤ (J7 32 (z20.toInt.toNat)).toInt ∧ (J7 32 (z20.toInt.toNat)).toInt ≤ 39 := hR21 32 (z20.toInt.toNat)
          refine And.intro (show f_in (J7 31 (z20.toInt.toNat)) 1600 from ⟨show 0 ≤ (J7 31 (z20.toInt.toNat)).toInt from by omega, show (J7 31 (z20.toInt.toNat)).toInt < 1600 from by omega⟩) ?_
          have r63_5 : 0 ≤ (J7 3 ((J7 31 (z20.toInt.toNat)).toInt.toNat)).toInt ∧ (J7 3 ((J7 31 (z20.toInt.toNat)).toInt.toNat)).toInt ≤ 2 := hR21 3 ((J7 31 (z20.toInt.toNat)).toInt.toNat)
          have e63_6 : (J7 3 ((J7 31 (z20.toInt.toNat)).toInt.toNat)).toInt = (I 3 ((J7 31 (z20.toInt.toNat)).toInt.toNat)).toInt := congrArg Int32.toInt (congrFun (hF7c 3 rfl) ((J7 31 (z20.toInt.toNat)).toInt.toNat))
          apply And.intro
          · intro h64
            have h64 : ¬ (J7 3 ((J7 31 (z20.toInt.toNat)).toInt.toNat)).toInt = 0 := h64
            try have s64 : ¬ (J7 3 (J7 31 z20.toInt.toNat).toInt.toNat).toInt = 0 ∧ lvn J7 (J7 4 (J7 31 z20.toInt.toNat).toInt.toNat).toInt ∧ lvn J7 (J7 5 (J7 31 z20.toInt.toNat).toInt.toNat).toInt ∧ (J7 6 (J7 31 z20.toInt.toNat).toInt.toNat).toInt = (J7 6 (J7 4 (J7 31 z20.toInt.toNat).toInt.toNat).toInt.toNat).toInt + (J7 6 (J7 5 (J7 31 z20.toInt.toNat).toInt.toNat).toInt.toNat).toInt := by rcases l4 with q | q; exact absurd q.1 h64; exact q
            try have a64 := lvn_ok hR7c hmL7c s64.2.1
            try have b64 := lvn_ok hR7c hmL7c s64.2.2.1
            have z64 : 0 ≤ (J7 3 (J7 31 z20.toInt.toNat).toInt.toNat).toInt ∧ (J7 3 (J7 31 z20.toInt.toNat).toInt.toNat).toInt ≤ 2 := hR7c 3 _
            apply And.intro
            · intro h87
              have h87 : (J7 34 (z20.toInt.toNat)).toInt = 0 := h87
              try have g87 : (J7 34 z20.toInt.toNat).toInt = 1 := by omega
              try have m87 := o3 g87
              try have f87 := o4 h87
              refine And.intro ⟨hR21, (show (J7 0 46).toInt ≤ 39 from by first | assumption | omega), (show -1 ≤ (J7 32 (z20.toInt.toNat)).toInt from by first | assumption | omega), (show (J7 32 (z20.toInt.toNat)).toInt ≤ 39 from by first | assumption | omega)⟩ ?_
              intro x193 I193 L193 hq193
              have hq193 : mR I193 ∧ f_fo [46] (va_up J7 0 (va_up (J7 0) 48 z20)) I193 ∧ f_fr [0, 26, 27] (va_up J7 0 (va_up (J7 0) 48 z20)) I193 ∧ L193 = L ∧ x193.toInt = (J7 0 46).toInt ∧ (I193 0 46).toInt = (J7 0 46).toInt + 1 ∧ I193 26 = upd (J7 26) (J7 0 46).toInt.toNat (J7 32 (z20.toInt.toNat)) ∧ I193 27 = upd (J7 27) (J7 0 46).toInt.toNat (Int32.ofInt 0) := hq193
              obtain ⟨c193_0, c193_1, c193_2, eL193, c193_4, c193_5, c193_6, c193_7⟩ := hq193
              replace eL193 := eL193.symm
              subst eL193
              have hO193 := f_fo_tr hO21 c193_1 rfl
              have hmL193 := f_depo_fo mL_dep hmL21 c193_2 c193_1 rfl rfl
              have hF193 := f_fr_tr hF21 c193_2 rfl
              have r193 : I193 3 = J7 3 ∧ I193 4 = J7 4 ∧ I193 5 = J7 5 ∧ I193 29 = J7 29 ∧ I193 30 = J7 30 ∧ I193 31 = J7 31 ∧ I193 32 = J7 32 ∧ I193 34 = J7 34 := ⟨c193_2 3 rfl, c193_2 4 rfl, c193_2 5 rfl, c193_2 29 rfl, c193_2 30 rfl, c193_2 31 rfl, c193_2 32 rfl, c193_2 34 rfl⟩
              have i193 : I193 0 48 = z20 := c193_1 48 rfl
              have a193 : 0 ≤ (I193 29 (J7 32 z20.toInt.toNat).toInt.toNat).toInt ∧ (I193 29 (J7 32 z20.toInt.toNat).toInt.toNat).toInt ≤ 2 ∧ (I193 29 (J7 32 z20.toInt.toNat).toInt.toNat).toInt = (J7 29 (J7 32 z20.toInt.toNat).toInt.toNat).toInt := by
                rw [r193.2.2.2.1]
                have := (hR7c 29 (J7 32 z20.toInt.toNat).toInt.toNat).1
                have : 0 ≤ (J7 29 (J7 32 z20.toInt.toNat).toInt.toNat).toInt := this
                omega
              intro z205 q205 _ hq205 hl205 hu205
              have hq205 : z205.toInt = 4 * (J7 32 (z20.toInt.toNat)).toInt + 4294967296 * q205 := hq205
              try have hz205 : z205.toInt = 4 * (J7 32 (z20.toInt.toNat)).toInt := by omega
              refine And.intro (show f_in (J7 32 (z20.toInt.toNat)) 40 from ⟨show 0 ≤ (J7 32 (z20.toInt.toNat)).toInt from by omega, show (J7 32 (z20.toInt.toNat)).toInt < 40 from by omega⟩) ?_
              have r212_7 : 0 ≤ (I193 29 ((J7 32 (z20.toInt.toNat)).toInt.toNat)).toInt ∧ (I193 29 ((J7 32 (z20.toInt.toNat)).toInt.toNat)).toInt ≤ 4 := c193_0 29 ((J7 32 (z20.toInt.toNat)).toInt.toNat)
              have e212_8 : (I193 29 ((J7 32 (z20.toInt.toNat)).toInt.toNat)).toInt = (J7 29 ((J7 32 (z20.toInt.toNat)).toInt.toNat)).toInt := congrArg Int32.toInt (congrFun (c193_2 29 rfl) ((J7 32 (z20.toInt.toNat)).toInt.toNat))
              intro z213 q213 _ hq213 hl213 hu213
              have hq213 : z213.toInt = z205.toInt + (I193 29 ((J7 32 (z20.toInt.toNat)).toInt.toNat)).toInt + 4294967296 * q213 := hq213
              try have hz213 : z213.toInt = z205.toInt + (I193 29 ((J7 32 (z20.toInt.toNat)).toInt.toNat)).toInt := by omega
              refine And.intro (show f_in z213 160 from ⟨show 0 ≤ z213.toInt from by omega, show z213.toInt < 160 from by omega⟩) ?_
              have hR216 := mR_a (k := 30) (j := z213.toInt.toNat) (x := x193) c193_0 (show 0 ≤ x193.toInt ∧ x193.toInt ≤ 39 from ⟨by omega, by omega⟩)
              have hF216 := f_fr_up (k := 30) (r := upd (I193 30) (z213.toInt.toNat) x193) hF193 rfl
              have hO216 := f_fo_ne (k := 30) (r := upd (I193 30) (z213.toInt.toNat) x193) hO193 (by decide)
              have hmL216 := f_depo_up mL_dep (k := 30) (r := upd (I193 30) (z213.toInt.toNat) x193) hmL193 rfl (by decide)
              refine And.intro (show f_in (J7 32 (z20.toInt.toNat)) 40 from ⟨show 0 ≤ (J7 32 (z20.toInt.toNat)).toInt from by omega, show (J7 32 (z20.toInt.toNat)).toInt < 40 from by omega⟩) ?_
              intro z226 q226 _ hq226 hl226 hu226
              have hq226 : z226.toInt = (I193 29 ((J7 32 (z20.toInt.toNat)).toInt.toNat)).toInt + 1 + 4294967296 * q226 := hq226
              try have hz226 : z226.toInt = (I193 29 ((J7 32 (z20.toInt.toNat)).toInt.toNat)).toInt + 1 := by omega
              refine And.intro (show f_in (J7 32 (z20.toInt.toNat)) 40 from ⟨show 0 ≤ (J7 32 (z20.toInt.toNat)).toInt from by omega, show (J7 32 (z20.toInt.toNat)).toInt < 40 from by omega⟩) ?_
              have hR227 := mR_a (k := 29) (j := (J7 32 (z20.toInt.toNat)).toInt.toNat) (x := z226) hR216 (show 0 ≤ z226.toInt ∧ z226.toInt ≤ 4 from ⟨by omega, by omega⟩)
              have hF227 := f_fr_up (k := 29) (r := upd (I193 29) ((J7 32 (z20.toInt.toNat)).toInt.toNat) z226) hF216 rfl
              have hO227 := f_fo_ne (k := 29) (r := upd (I193 29) ((J7 32 (z20.toInt.toNat)).toInt.toNat) z226) hO216 (by decide)
              have hmL227 := f_depo_up mL_dep (k := 29) (r := upd (I193 29) ((J7 32 (z20.toInt.toNat)).toInt.toNat) z226) hmL216 rfl (by decide)
              refine And.intro (show f_in (J7 31 (z20.toInt.toNat)) 1600 from ⟨show 0 ≤ (J7 31 (z20.toInt.toNat)).toInt from by omega, show (J7 31 (z20.toInt.toNat)).toInt < 1600 from by omega⟩) ?_
              have r234_9 : 0 ≤ (I193 3 ((J7 31 (z20.toInt.toNat)).toInt.toNat)).toInt ∧ (I193 3 ((J7 31 (z20.toInt.toNat)).toInt.toNat)).toInt ≤ 2 := hR227 3 ((J7 31 (z20.toInt.toNat)).toInt.toNat)
              have e234_10 : (I193 3 ((J7 31 (z20.toInt.toNat)).toInt.toNat)).toInt = (J7 3 ((J7 31 (z20.toInt.toNat)).toInt.toNat)).toInt := congrArg Int32.toInt (congrFun (c193_2 3 rfl) ((J7 31 (z20.toInt.toNat)).toInt.toNat))
              apply And.intro
              · intro h236
                have h236 : ¬ (I193 3 ((J7 31 (z20.toInt.toNat)).toInt.toNat)).toInt = 2 := h236
                refine And.intro ⟨(show 0 ≤ (J7 31 (z20.toInt.toNat)).toInt from by first | assumption | omega), (show (J7 31 (z20.toInt.toNat)).toInt ≤ 1599 from by first | assumption | omega)⟩ ?_
                intro x256 I256 L256 hq256
                have hq256 : I256 = (va_up (va_up I193 30 (upd (I193 30) (z213.toInt.toNat) x193)) 29 (upd (I193 29) ((J7 32 (z20.toInt.toNat)).toInt.toNat) z226)) ∧ L256 = L ∧ (((I193 3 (J7 31 (z20.toInt.toNat)).toInt.toNat).toInt = 1 → x256 = I193 4 (J7 31 (z20.toInt.toNat)).toInt.toNat)) ∧ ((¬ (I193 3 (J7 31 (z20.toInt.toNat)).toInt.toNat).toInt = 1 → x256 = I193 5 (J7 31 (z20.toInt.toNat)).toInt.toNat)) := hq256
                obtain ⟨eI256, eL256, c256_2, c256_3⟩ := hq256
                replace eI256 := eI256.symm
                subst eI256
                replace eL256 := eL256.symm
                subst eL256
                have e256 : (I193 3) = J7 3 ∧ (I193 4) = J7 4 ∧ (I193 5) = J7 5 := by first | exact ⟨r193.1, r193.2.1, r193.2.2.1⟩ | exact ⟨(c249_2 3 rfl).trans r193.1, (c249_2 4 rfl).trans r193.2.1, (c249_2 5 rfl).trans r193.2.2.1⟩
                simp only [e256.1, e256.2.1, e256.2.2] at c256_2 c256_3
                have v256 : 0 ≤ x256.toInt ∧ x256.toInt ≤ 1599 := by by_cases q : (J7 3 (J7 31 z20.toInt.toNat).toInt.toNat).toInt = 1; (rw [c256_2 q]; omega); (rw [c256_3 q]; omega)
                have e262_12 : (I193 0 48).toInt = z20.toInt := congrArg Int32.toInt (c193_1 48 rfl)
                refine And.intro ⟨hR227, (show (I193 0 48).toInt ≤ 59 from by first | assumption | omega), (show 0 ≤ x256.toInt from by first | assumption | omega), (show x256.toInt ≤ 1599 from by first | assumption | omega), (show 0 ≤ (J7 32 (z20.toInt.toNat)).toInt from by first | assumption | omega), (show (J7 32 (z20.toInt.toNat)).toInt ≤ 39 from by first | assumption | omega)⟩ ?_
                intro I262 L262 hq262
                have hq262 : mR I262 ∧ f_fo [48] (va_up (va_up I193 30 (upd (I193 30) (z213.toInt.toNat) x193)) 29 (upd (I193 29) ((J7 32 (z20.toInt.toNat)).toInt.toNat) z226)) I262 ∧ f_fr [0, 31, 32, 34] (va_up (va_up I193 30 (upd (I193 30) (z213.toInt.toNat) x193)) 29 (upd (I193 29) ((J7 32 (z20.toInt.toNat)).toInt.toNat) z226)) I262 ∧ L262 = L ∧ (I262 0 48).toInt = (I193 0 48).toInt + 1 ∧ I262 31 = upd (I193 31) (I193 0 48).toInt.toNat x256 ∧ I262 32 = upd (I193 32) (I193 0 48).toInt.toNat (J7 32 (z20.toInt.toNat)) ∧ I262 34 = upd (I193 34) (I193 0 48).toInt.toNat (vp_nar .boolean (Int32.ofInt 0)) := hq262
                obtain ⟨c262_0, c262_1, c262_2, eL262, c262_4, c262_5, c262_6, c262_7⟩ := hq262
                replace eL262 := eL262.symm
                subst eL262
                have hO262 := f_fo_tr hO227 c262_1 rfl
                have hmL262 := f_depo_fo mL_dep hmL227 c262_2 c262_1 rfl rfl
                have hF262 := f_fr_tr hF227 c262_2 rfl
                refine And.intro (show f_in (J7 31 (z20.toInt.toNat)) 1600 from ⟨show 0 ≤ (J7 31 (z20.toInt.toNat)).toInt from by omega, show (J7 31 (z20.toInt.toNat)).toInt < 1600 from by omega⟩) ?_
                have r271_13 : 0 ≤ (I262 3 ((J7 31 (z20.toInt.toNat)).toInt.toNat)).toInt ∧ (I262 3 ((J7 31 (z20.toInt.toNat)).toInt.toNat)).toInt ≤ 2 := c262_0 3 ((J7 31 (z20.toInt.toNat)).toInt.toNat)
                have e271_14 : (I262 3 ((J7 31 (z20.toInt.toNat)).toInt.toNat)).toInt = (I193 3 ((J7 31 (z20.toInt.toNat)).toInt.toNat)).toInt := congrArg Int32.toInt (congrFun (c262_2 3 rfl) ((J7 31 (z20.toInt.toNat)).toInt.toNat))
                apply And.intro
                · intro h273
                  have h273 : ¬ (I262 3 ((J7 31 (z20.toInt.toNat)).toInt.toNat)).toInt = 1 := h273
                  have q289 : oI I I262 ((I 0 45).toInt + (I 6 nd.toInt.toNat).toInt) := by
                    first
                    | (exfalso; omega)
                    | (have h1 : tlv J7 z20.toInt.toNat = 1 := by rw [tl]; rcases l4 with q | q; exact q.2; exact absurd h64 q.1
                       have e48 : (I79 0 48).toInt = z20.toInt := congrArg Int32.toInt (c79_1 48 rfl)
                       exact oI_end (t := z20.toInt.toNat) hR7c u7_1 tt h1 rfl (f_nar01 o1) (by omega) (c79_1 46 rfl) (c79_1 47 rfl) (by omega) (c79_1 24 rfl) c79_5 c79_6 c79_7 c79_8 (c79_2 6 rfl) (c79_2 8 rfl) (c79_2 11 rfl) (c79_2 26 rfl) (c79_2 27 rfl) (c79_2 28 rfl) (c79_2 29 rfl) (c79_2 31 rfl) (c79_2 32 rfl) (c79_2 34 rfl))
                    | (have X : (lvn J7 x141.toInt ∧ lvn J7 x154.toInt) ∧ 1 ≤ (J7 6 x141.toInt.toNat).toInt ∧ 1 ≤ (J7 6 x154.toInt.toNat).toInt ∧ (J7 6 x141.toInt.toNat).toInt + (J7 6 x154.toInt.toNat).toInt = tlv J7 z20.toInt.toNat := by
                         by_cases q : (J7 3 (J7 31 z20.toInt.toNat).toInt.toNat).toInt = 1
                         · rw [c141_2 q, c154_2 q]; exact ⟨⟨s64.2.2.1, s64.2.1⟩, by omega, by omega, by omega⟩
                         · rw [c141_3 q, c154_3 q]; exact ⟨⟨s64.2.1, s64.2.2.1⟩, by omega, by omega, by omega⟩
                       have iA : (I160 0 47).toInt = (I91 0 47).toInt := congrArg Int32.toInt ((c160_1 47 rfl).trans (c147_1 47 rfl))
                       have i9 : (I91 0 48).toInt = z20.toInt := congrArg Int32.toInt i91
                       have iB : (I147 0 48).toInt.toNat = z20.toInt.toNat + 1 := by omega
                       have iC : (I91 0 48).toInt.toNat = z20.toInt.toNat := by rw [i91]
                       exact oI_given (t := z20.toInt.toNat) (n1 := x141) (n2 := x154) (t1 := x91) (t2 := J7 32 z20.toInt.toNat) (p1 := vp_nar .boolean (Int32.ofInt 0)) (p2 := vp_nar .boolean (Int32.ofInt 1)) (wn := x141) (is := x154) (b := x91) (y := z124) (z0 := Int32.ofInt 0) (k := z111.toInt.toNat) hR7c u7_1 tt rfl g87 (by omega) ((c160_1 45 rfl).trans ((c147_1 45 rfl).trans (c91_1 45 rfl))) ((c160_1 46 rfl).trans ((c147_1 46 rfl).trans (c91_1 46 rfl))) (by omega) (by omega) ((c160_1 24 rfl).trans ((c147_1 24 rfl).trans (c91_1 24 rfl))) (by rw [c160_5, c147_5, r91.2.2.2.2.2.1, iB, iC]) (by rw [c160_6, c147_6, r91.2.2.2.2.2.2.1, iB, iC]) (by rw [c160_7, c147_7, r91.2.2.2.2.2.2.2, iB, iC]) (Or.inl ⟨rfl, rfl, rfl, rfl, rfl, rfl⟩) X.1 X.2 ((c160_2 27 rfl).trans ((c147_2 27 rfl).trans (congrArg (fun f => upd f _ _) r91.2.2.2.1))) (by omega) ((c160_2 28 rfl).trans ((c147_2 28 rfl).trans (congrArg (fun f => upd f _ _) r91.2.2.2.2.1))) (by omega) ((c160_2 29 rfl).trans ((c147_2 29 rfl).trans c91_6)) rfl ((c160_2 6 rfl).trans ((c147_2 6 rfl).trans (c91_2 6 rfl))) ((c160_2 8 rfl).trans ((c147_2 8 rfl).trans (c91_2 8 rfl))) ((c160_2 11 rfl).trans ((c147_2 11 rfl).trans (c91_2 11 rfl))) ((c160_2 22 rfl).trans ((c147_2 22 rfl).trans (c91_2 22 rfl))) ((c160_2 24 rfl).trans ((c147_2 24 rfl).trans (c91_2 24 rfl))) ((c160_2 25 rfl).trans ((c147_2 25 rfl).trans (c91_2 25 rfl))) ((c160_2 26 rfl).trans ((c147_2 26 rfl).trans (c91_2 26 rfl))) ((c160_2 33 rfl).trans ((c147_2 33 rfl).trans (c91_2 33 rfl))))
                    | (have X : (lvn J7 x178.toInt ∧ lvn J7 x154.toInt) ∧ 1 ≤ (J7 6 x178.toInt.toNat).toInt ∧ 1 ≤ (J7 6 x154.toInt.toNat).toInt ∧ (J7 6 x178.toInt.toNat).toInt + (J7 6 x154.toInt.toNat).toInt = tlv J7 z20.toInt.toNat := by
                         by_cases q : (J7 3 (J7 31 z20.toInt.toNat).toInt.toNat).toInt = 1
                         · rw [c178_2 q, c154_2 q]; exact ⟨⟨s64.2.2.1, s64.2.1⟩, by omega, by omega, by omega⟩
                         · rw [c178_3 q, c154_3 q]; exact ⟨⟨s64.2.1, s64.2.2.1⟩, by omega, by omega, by omega⟩
                       have iA : (I184 0 47).toInt = (I91 0 47).toInt := congrArg Int32.toInt ((c184_1 47 rfl).trans (c160_1 47 rfl))
                       have i9 : (I91 0 48).toInt = z20.toInt := congrArg Int32.toInt i91
                       have iB : (I160 0 48).toInt.toNat = z20.toInt.toNat + 1 := by omega
                       have iC : (I91 0 48).toInt.toNat = z20.toInt.toNat := by rw [i91]
                       exact oI_given (t := z20.toInt.toNat) (n1 := x154) (n2 := x178) (t1 := J7 32 z20.toInt.toNat) (t2 := x91) (p1 := vp_nar .boolean (Int32.ofInt 1)) (p2 := vp_nar .boolean (Int32.ofInt 0)) (wn := x178) (is := x154) (b := x91) (y := z124) (z0 := Int32.ofInt 0) (k := z111.toInt.toNat) hR7c u7_1 tt rfl g87 (by omega) ((c184_1 45 rfl).trans ((c160_1 45 rfl).trans (c91_1 45 rfl))) ((c184_1 46 rfl).trans ((c160_1 46 rfl).trans (c91_1 46 rfl))) (by omega) (by omega) ((c184_1 24 rfl).trans ((c160_1 24 rfl).trans (c91_1 24 rfl))) (by rw [c184_5, c160_5, r91.2.2.2.2.2.1, iB, iC]) (by rw [c184_6, c160_6, r91.2.2.2.2.2.2.1, iB, iC]) (by rw [c184_7, c160_7, r91.2.2.2.2.2.2.2, iB, iC]) (Or.inr ⟨rfl, rfl, rfl, rfl, rfl, rfl⟩) X.1 X.2 ((c184_2 27 rfl).trans ((c160_2 27 rfl).trans (congrArg (fun f => upd f _ _) r91.2.2.2.1))) (by omega) ((c184_2 28 rfl).trans ((c160_2 28 rfl).trans (congrArg (fun f => upd f _ _) r91.2.2.2.2.1))) (by omega) ((c184_2 29 rfl).trans ((c160_2 29 rfl).trans c91_6)) rfl ((c184_2 6 rfl).trans ((c160_2 6 rfl).trans (c91_2 6 rfl))) ((c184_2 8 rfl).trans ((c160_2 8 rfl).trans (c91_2 8 rfl))) ((c184_2 11 rfl).trans ((c160_2 11 rfl).trans (c91_2 11 rfl))) ((c184_2 22 rfl).trans ((c160_2 22 rfl).trans (c91_2 22 rfl))) ((c184_2 24 rfl).trans ((c160_2 24 rfl).trans (c91_2 24 rfl))) ((c184_2 25 rfl).trans ((c160_2 25 rfl).trans (c91_2 25 rfl))) ((c184_2 26 rfl).trans ((c160_2 26 rfl).trans (c91_2 26 rfl))) ((c184_2 33 rfl).trans ((c160_2 33 rfl).trans (c91_2 33 rfl))))
                    | (have X : (lvn J7 x243.toInt ∧ lvn J7 x256.toInt) ∧ 1 ≤ (J7 6 x243.toInt.toNat).toInt ∧ 1 ≤ (J7 6 x256.toInt.toNat).toInt ∧ (J7 6 x243.toInt.toNat).toInt + (J7 6 x256.toInt.toNat).toInt = tlv J7 z20.toInt.toNat := by
                         by_cases q : (J7 3 (J7 31 z20.toInt.toNat).toInt.toNat).toInt = 1
                         · rw [c243_2 q, c256_2 q]; exact ⟨⟨s64.2.2.1, s64.2.1⟩, by omega, by omega, by omega⟩
                         · rw [c243_3 q, c256_3 q]; exact ⟨⟨s64.2.1, s64.2.2.1⟩, by omega, by omega, by omega⟩
                       have iA : (I262 0 46).toInt = (I193 0 46).toInt := congrArg Int32.toInt ((c262_1 46 rfl).trans (c249_1 46 rfl))
                       have i9 : (I193 0 48).toInt = z20.toInt := congrArg Int32.toInt i193
                       have iB : (I249 0 48).toInt.toNat = z20.toInt.toNat + 1 := by omega
                       have iC : (I193 0 48).toInt.toNat = z20.toInt.toNat := by rw [i193]
                       exact oI_wanted (t := z20.toInt.toNat) (n1 := x243) (n2 := x256) (t1 := x193) (t2 := J7 32 z20.toInt.toNat) (p1 := vp_nar .boolean (Int32.ofInt 1)) (p2 := vp_nar .boolean (Int32.ofInt 0)) (wn := x243) (is := x256) (b := x193) (y := z226) (z0 := Int32.ofInt 0) hR7c u7_1 tt rfl h87 (by omega) ((c262_1 45 rfl).trans ((c249_1 45 rfl).trans (c193_1 45 rfl))) (by omega) ((c262_1 47 rfl).trans ((c249_1 47 rfl).trans (c193_1 47 rfl))) (by omega) ((c262_1 24 rfl).trans ((c249_1 24 rfl).trans (c193_1 24 rfl))) (by rw [c262_5, c249_5, r193.2.2.2.2.2.1, iB, iC]) (by rw [c262_6, c249_6, r193.2.2.2.2.2.2.1, iB, iC]) (by rw [c262_7, c249_7, r193.2.2.2.2.2.2.2, iB, iC]) (Or.inl ⟨rfl, rfl, rfl, rfl, rfl, rfl⟩) X.1 X.2 ((c262_2 29 rfl).trans ((c249_2 29 rfl).trans (congrArg (fun f => upd f _ _) r193.2.2.2.1))) (by omega) ((c262_2 26 rfl).trans ((c249_2 26 rfl).trans c193_6)) ((c262_2 27 rfl).trans ((c249_2 27 rfl).trans c193_7)) rfl ((c262_2 6 rfl).trans ((c249_2 6 rfl).trans (c193_2 6 rfl))) ((c262_2 8 rfl).trans ((c249_2 8 rfl).trans (c193_2 8 rfl))) ((c262_2 11 rfl).trans ((c249_2 11 rfl).trans (c193_2 11 rfl))) ((c262_2 22 rfl).trans ((c249_2 22 rfl).trans (c193_2 22 rfl))) ((c262_2 24 rfl).trans ((c249_2 24 rfl).trans (c193_2 24 rfl))) ((c262_2 25 rfl).trans ((c249_2 25 rfl).trans (c193_2 25 rfl))) ((c262_2 28 rfl).trans ((c249_2 28 rfl).trans (c193_2 28 rfl))) ((c262_2 33 rfl).trans ((c249_2 33 rfl).trans (c193_2 33 rfl))))
                    | (have X : (lvn J7 x280.toInt ∧ lvn J7 x256.toInt) ∧ 1 ≤ (J7 6 x280.toInt.toNat).toInt ∧ 1 ≤ (J7 6 x256.toInt.toNat).toInt ∧ (J7 6 x280.toInt.toNat).toInt + (J7 6 x256.toInt.toNat).toInt = tlv J7 z20.toInt.toNat := by
                         by_cases q : (J7 3 (J7 31 z20.toInt.toNat).toInt.toNat).toInt = 1
                         · rw [c280_2 q, c256_2 q]; exact ⟨⟨s64.2.2.1, s64.2.1⟩, by omega, by omega, by omega⟩
                         · rw [c280_3 q, c256_3 q]; exact ⟨⟨s64.2.1, s64.2.2.1⟩, by omega, by omega, by omega⟩
                       have iA : (I286 0 46).toInt = (I193 0 46).toInt := congrArg Int32.toInt ((c286_1 46 rfl).trans (c262_1 46 rfl))
                       have i9 : (I193 0 48).toInt = z20.toInt := congrArg Int32.toInt i193
                       have iB : (I262 0 48).toInt.toNat = z20.toInt.toNat + 1 := by omega
                       have iC : (I193 0 48).toInt.toNat = z20.toInt.toNat := by rw [i193]
                       exact oI_wanted (t := z20.toInt.toNat) (n1 := x256) (n2 := x280) (t1 := J7 32 z20.toInt.toNat) (t2 := x193) (p1 := vp_nar .boolean (Int32.ofInt 0)) (p2 := vp_nar .boolean (Int32.ofInt 1)) (wn := x280) (is := x256) (b := x193) (y := z226) (z0 := Int32.ofInt 0) hR7c u7_1 tt rfl h87 (by omega) ((c286_1 45 rfl).trans ((c262_1 45 rfl).trans (c193_1 45 rfl))) (by omega) ((c286_1 47 rfl).trans ((c262_1 47 rfl).trans (c193_1 47 rfl))) (by omega) ((c286_1 24 rfl).trans ((c262_1 24 rfl).trans (c193_1 24 rfl))) (by rw [c286_5, c262_5, r193.2.2.2.2.2.1, iB, iC]) (by rw [c286_6, c262_6, r193.2.2.2.2.2.2.1, iB, iC]) (by rw [c286_7, c262_7, r193.2.2.2.2.2.2.2, iB, iC]) (Or.inr ⟨rfl, rfl, rfl, rfl, rfl, rfl⟩) X.1 X.2 ((c286_2 29 rfl).trans ((c262_2 29 rfl).trans (congrArg (fun f => upd f _ _) r193.2.2.2.1))) (by omega) ((c286_2 26 rfl).trans ((c262_2 26 rfl).trans c193_6)) ((c286_2 27 rfl).trans ((c262_2 27 rfl).trans c193_7)) rfl ((c286_2 6 rfl).trans ((c262_2 6 rfl).trans (c193_2 6 rfl))) ((c286_2 8 rfl).trans ((c262_2 8 rfl).trans (c193_2 8 rfl))) ((c286_2 11 rfl).trans ((c262_2 11 rfl).trans (c193_2 11 rfl))) ((c286_2 22 rfl).trans ((c262_2 22 rfl).trans (c193_2 22 rfl))) ((c286_2 24 rfl).trans ((c262_2 24 rfl).trans (c193_2 24 rfl))) ((c286_2 25 rfl).trans ((c262_2 25 rfl).trans (c193_2 25 rfl))) ((c286_2 28 rfl).trans ((c262_2 28 rfl).trans (c193_2 28 rfl))) ((c286_2 33 rfl).trans ((c262_2 33 rfl).trans (c193_2 33 rfl))))
                  have m289 : 0 ≤ 2 * tS (tlv I262) (I262 0 48).toInt.toNat - (I262 0 48).toInt ∧ 2 * tS (tlv I262) (I262 0 48).toInt.toNat - (I262 0 48).toInt < 2 * tS (tlv J7) (J7 0 48).toInt.toNat - (J7 0 48).toInt := by
                    have n9 := tk_num q289.1
                    first
                    | omega
                    | (exfalso; omega)
                    | (have j := congrArg Int32.toInt (show I160 0 45 = J7 0 45 from (c160_1 45 rfl).trans ((c147_1 45 rfl).trans (c91_1 45 rfl)))
                       have i9 : (I91 0 48).toInt = z20.toInt := congrArg Int32.toInt i91
                       omega)
                    | (have j := congrArg Int32.toInt (show I184 0 45 = J7 0 45 from (c184_1 45 rfl).trans ((c160_1 45 rfl).trans (c91_1 45 rfl)))
                       have i9 : (I91 0 48).toInt = z20.toInt := congrArg Int32.toInt i91
                       omega)
                    | (have j := congrArg Int32.toInt (show I262 0 45 = J7 0 45 from (c262_1 45 rfl).trans ((c249_1 45 rfl).trans (c193_1 45 rfl)))
                       have i9 : (I193 0 48).toInt = z20.toInt := congrArg Int32.toInt i193
                       omega)
                    | (have j := congrArg Int32.toInt (show I286 0 45 = J7 0 45 from (c286_1 45 rfl).trans ((c262_1 45 rfl).trans (c193_1 45 rfl)))
                       have i9 : (I193 0 48).toInt = z20.toInt := congrArg Int32.toInt i193
                       omega)
                  have r7_15 : 0 ≤ (I262 0 48).toInt ∧ (I262 0 48).toInt ≤ 60 := c262_0 0 48
                  exact ⟨(by intro q9 h9; simp only [List.mem_cons, List.not_mem_nil, or_false] at h9; rcases h9 with h9 | h9 | h9 | h9 <;> subst h9 <;> repeat (first | exact List.mem_cons_self | apply List.mem_cons_of_mem)), rfl, rfl, c262_0, hF262, hO262, hmL262, (show oI I I262 ((I 0 45).toInt + (I 6 nd.toInt.toNat).toInt) from by first | assumption | omega), (show 0 ≤ 2 * tS (tlv I262) (I262 0 48).toInt.toNat - (I262 0 48).toInt from by first | assumption | omega), (show (2 * tS (tlv I262) (I262 0 48).toInt.toNat - (I262 0 48).toInt) < n7 from by omega)⟩
                · intro h273
                  have h273 : (I262 3 ((J7 31 (z20.toInt.toNat)).toInt.toNat)).toInt = 1 := h273
                  refine And.intro ⟨(show 0 ≤ (J7 31 (z20.toInt.toNat)).toInt from by first | assumption | omega), (show (J7 31 (z20.toInt.toNat)).toInt ≤ 1599 from by first | assumption | omega)⟩ ?_
                  intro x280 I280 L280 hq280
                  have hq280 : I280 = I262 ∧ L280 = L ∧ (((I262 3 (J7 31 (z20.toInt.toNat)).toInt.toNat).toInt = 1 → x280 = I262 5 (J7 31 (z20.toInt.toNat)).toInt.toNat)) ∧ ((¬ (I262 3 (J7 31 (z20.toInt.toNat)).toInt.toNat).toInt = 1 → x280 = I262 4 (J7 31 (z20.toInt.toNat)).toInt.toNat)) := hq280
                  obtain ⟨eI280, eL280, c280_2, c280_3⟩ := hq280
                  replace eI280 := eI280.symm
                  subst eI280
                  replace eL280 := eL280.symm
                  subst eL280
                  have e280 : (I262 3) = J7 3 ∧ (I262 4) = J7 4 ∧ (I262 5) = J7 5 := by first | exact ⟨(c262_2 3 rfl).trans r193.1, (c262_2 4 rfl).trans r193.2.1, (c262_2 5 rfl).trans r193.2.2.1⟩ | exact ⟨(c262_2 3 rfl).trans ((c249_2 3 rfl).trans r193.1), (c262_2 4 rfl).trans ((c249_2 4 rfl).trans r193.2.1), (c262_2 5 rfl).trans ((c249_2 5 rfl).trans r193.2.2.1)⟩
                  simp only [e280.1, e280.2.1, e280.2.2] at c280_2 c280_3
                  have v280 : 0 ≤ x280.toInt ∧ x280.toInt ≤ 1599 := by by_cases q : (J7 3 (J7 31 z20.toInt.toNat).toInt.toNat).toInt = 1; (rw [c280_2 q]; omega); (rw [c280_3 q]; omega)
                  have r286_15 : 0 ≤ (I262 0 48).toInt ∧ (I262 0 48).toInt ≤ 60 := c262_0 0 48
                  refine And.intro ⟨c262_0, (show (I262 0 48).toInt ≤ 59 from by first | assumption | omega), (show 0 ≤ x280.toInt from by first | assumption | omega), (show x280.toInt ≤ 1599 from by first | assumption | omega), (show 0 ≤ x193.toInt from by first | assumption | omega), (show x193.toInt ≤ 39 from by first | assumption | omega)⟩ ?_
                  intro I286 L286 hq286
                  have hq286 : mR I286 ∧ f_fo [48] I262 I286 ∧ f_fr [0, 31, 32, 34] I262 I286 ∧ L286 = L ∧ (I286 0 48).toInt = (I262 0 48).toInt + 1 ∧ I286 31 = upd (I262 31) (I262 0 48).toInt.toNat x280 ∧ I286 32 = upd (I262 32) (I262 0 48).toInt.toNat x193 ∧ I286 34 = upd (I262 34) (I262 0 48).toInt.toNat (vp_nar .boolean (Int32.ofInt 1)) := hq286
                  obtain ⟨c286_0, c286_1, c286_2, eL286, c286_4, c286_5, c286_6, c286_7⟩ := hq286
                  replace eL286 := eL286.symm
                  subst eL286
                  have hO286 := f_fo_tr hO262 c286_1 rfl
                  have hmL286 := f_depo_fo mL_dep hmL262 c286_2 c286_1 rfl rfl
                  have hF286 := f_fr_tr hF262 c286_2 rfl
                  have q289 : oI I I286 ((I 0 45).toInt + (I 6 nd.toInt.toNat).toInt) := by
                    first
                    | (exfalso; omega)
                    | (have h1 : tlv J7 z20.toInt.toNat = 1 := by rw [tl]; rcases l4 with q | q; exact q.2; exact absurd h64 q.1
                       have e48 : (I79 0 48).toInt = z20.toInt := congrArg Int32.toInt (c79_1 48 rfl)
                       exact oI_end (t := z20.toInt.toNat) hR7c u7_1 tt h1 rfl (f_nar01 o1) (by omega) (c79_1 46 rfl) (c79_1 47 rfl) (by omega) (c79_1 24 rfl) c79_5 c79_6 c79_7 c79_8 (c79_2 6 rfl) (c79_2 8 rfl) (c79_2 11 rfl) (c79_2 26 rfl) (c79_2 27 rfl) (c79_2 28 rfl) (c79_2 29 rfl) (c79_2 31 rfl) (c79_2 32 rfl) (c79_2 34 rfl))
                    | (have X : (lvn J7 x141.toInt ∧ lvn J7 x154.toInt) ∧ 1 ≤ (J7 6 x141.toInt.toNat).toInt ∧ 1 ≤ (J7 6 x154.toInt.toNat).toInt ∧ (J7 6 x141.toInt.toNat).toInt + (J7 6 x154.toInt.toNat).toInt = tlv J7 z20.toInt.toNat := by
                         by_cases q : (J7 3 (J7 31 z20.toInt.toNat).toInt.toNat).toInt = 1
                         · rw [c141_2 q, c154_2 q]; exact ⟨⟨s64.2.2.1, s64.2.1⟩, by omega, by omega, by omega⟩
                         · rw [c141_3 q, c154_3 q]; exact ⟨⟨s64.2.1, s64.2.2.1⟩, by omega, by omega, by omega⟩
                       have iA : (I160 0 47).toInt = (I91 0 47).toInt := congrArg Int32.toInt ((c160_1 47 rfl).trans (c147_1 47 rfl))
                       have i9 : (I91 0 48).toInt = z20.toInt := congrArg Int32.toInt i91
                       have iB : (I147 0 48).toInt.toNat = z20.toInt.toNat + 1 := by omega
                       have iC : (I91 0 48).toInt.toNat = z20.toInt.toNat := by rw [i91]
                       exact oI_given (t := z20.toInt.toNat) (n1 := x141) (n2 := x154) (t1 := x91) (t2 := J7 32 z20.toInt.toNat) (p1 := vp_nar .boolean (Int32.ofInt 0)) (p2 := vp_nar .boolean (Int32.ofInt 1)) (wn := x141) (is := x154) (b := x91) (y := z124) (z0 := Int32.ofInt 0) (k := z111.toInt.toNat) hR7c u7_1 tt rfl g87 (by omega) ((c160_1 45 rfl).trans ((c147_1 45 rfl).trans (c91_1 45 rfl))) ((c160_1 46 rfl).trans ((c147_1 46 rfl).trans (c91_1 46 rfl))) (by omega) (by omega) ((c160_1 24 rfl).trans ((c147_1 24 rfl).trans (c91_1 24 rfl))) (by rw [c160_5, c147_5, r91.2.2.2.2.2.1, iB, iC]) (by rw [c160_6, c147_6, r91.2.2.2.2.2.2.1, iB, iC]) (by rw [c160_7, c147_7, r91.2.2.2.2.2.2.2, iB, iC]) (Or.inl ⟨rfl, rfl, rfl, rfl, rfl, rfl⟩) X.1 X.2 ((c160_2 27 rfl).trans ((c147_2 27 rfl).trans (congrArg (fun f => upd f _ _) r91.2.2.2.1))) (by omega) ((c160_2 28 rfl).trans ((c147_2 28 rfl).trans (congrArg (fun f => upd f _ _) r91.2.2.2.2.1))) (by omega) ((c160_2 29 rfl).trans ((c147_2 29 rfl).trans c91_6)) rfl ((c160_2 6 rfl).trans ((c147_2 6 rfl).trans (c91_2 6 rfl))) ((c160_2 8 rfl).trans ((c147_2 8 rfl).trans (c91_2 8 rfl))) ((c160_2 11 rfl).trans ((c147_2 11 rfl).trans (c91_2 11 rfl))) ((c160_2 22 rfl).trans ((c147_2 22 rfl).trans (c91_2 22 rfl))) ((c160_2 24 rfl).trans ((c147_2 24 rfl).trans (c91_2 24 rfl))) ((c160_2 25 rfl).trans ((c147_2 25 rfl).trans (c91_2 25 rfl))) ((c160_2 26 rfl).trans ((c147_2 26 rfl).trans (c91_2 26 rfl))) ((c160_2 33 rfl).trans ((c147_2 33 rfl).trans (c91_2 33 rfl))))
                    | (have X : (lvn J7 x178.toInt ∧ lvn J7 x154.toInt) ∧ 1 ≤ (J7 6 x178.toInt.toNat).toInt ∧ 1 ≤ (J7 6 x154.toInt.toNat).toInt ∧ (J7 6 x178.toInt.toNat).toInt + (J7 6 x154.toInt.toNat).toInt = tlv J7 z20.toInt.toNat := by
                         by_cases q : (J7 3 (J7 31 z20.toInt.toNat).toInt.toNat).toInt = 1
                         · rw [c178_2 q, c154_2 q]; exact ⟨⟨s64.2.2.1, s64.2.1⟩, by omega, by omega, by omega⟩
                         · rw [c178_3 q, c154_3 q]; exact ⟨⟨s64.2.1, s64.2.2.1⟩, by omega, by omega, by omega⟩
                       have iA : (I184 0 47).toInt = (I91 0 47).toInt := congrArg Int32.toInt ((c184_1 47 rfl).trans (c160_1 47 rfl))
                       have i9 : (I91 0 48).toInt = z20.toInt := congrArg Int32.toInt i91
                       have iB : (I160 0 48).toInt.toNat = z20.toInt.toNat + 1 := by omega
                       have iC : (I91 0 48).toInt.toNat = z20.toInt.toNat := by rw [i91]
                       exact oI_given (t := z20.toInt.toNat) (n1 := x154) (n2 := x178) (t1 := J7 32 z20.toInt.toNat) (t2 := x91) (p1 := vp_nar .boolean (Int32.ofInt 1)) (p2 := vp_nar .boolean (Int32.ofInt 0)) (wn := x178) (is := x154) (b := x91) (y := z124) (z0 := Int32.ofInt 0) (k := z111.toInt.toNat) hR7c u7_1 tt rfl g87 (by omega) ((c184_1 45 rfl).trans ((c160_1 45 rfl).trans (c91_1 45 rfl))) ((c184_1 46 rfl).trans ((c160_1 46 rfl).trans (c91_1 46 rfl))) (by omega) (by omega) ((c184_1 24 rfl).trans ((c160_1 24 rfl).trans (c91_1 24 rfl))) (by rw [c184_5, c160_5, r91.2.2.2.2.2.1, iB, iC]) (by rw [c184_6, c160_6, r91.2.2.2.2.2.2.1, iB, iC]) (by rw [c184_7, c160_7, r91.2.2.2.2.2.2.2, iB, iC]) (Or.inr ⟨rfl, rfl, rfl, rfl, rfl, rfl⟩) X.1 X.2 ((c184_2 27 rfl).trans ((c160_2 27 rfl).trans (congrArg (fun f => upd f _ _) r91.2.2.2.1))) (by omega) ((c184_2 28 rfl).trans ((c160_2 28 rfl).trans (congrArg (fun f => upd f _ _) r91.2.2.2.2.1))) (by omega) ((c184_2 29 rfl).trans ((c160_2 29 rfl).trans c91_6)) rfl ((c184_2 6 rfl).trans ((c160_2 6 rfl).trans (c91_2 6 rfl))) ((c184_2 8 rfl).trans ((c160_2 8 rfl).trans (c91_2 8 rfl))) ((c184_2 11 rfl).trans ((c160_2 11 rfl).trans (c91_2 11 rfl))) ((c184_2 22 rfl).trans ((c160_2 22 rfl).trans (c91_2 22 rfl))) ((c184_2 24 rfl).trans ((c160_2 24 rfl).trans (c91_2 24 rfl))) ((c184_2 25 rfl).trans ((c160_2 25 rfl).trans (c91_2 25 rfl))) ((c184_2 26 rfl).trans ((c160_2 26 rfl).trans (c91_2 26 rfl))) ((c184_2 33 rfl).trans ((c160_2 33 rfl).trans (c91_2 33 rfl))))
                    | (have X : (lvn J7 x243.toInt ∧ lvn J7 x256.toInt) ∧ 1 ≤ (J7 6 x243.toInt.toNat).toInt ∧ 1 ≤ (J7 6 x256.toInt.toNat).toInt ∧ (J7 6 x243.toInt.toNat).toInt + (J7 6 x256.toInt.toNat).toInt = tlv J7 z20.toInt.toNat := by
                         by_cases q : (J7 3 (J7 31 z20.toInt.toNat).toInt.toNat).toInt = 1
                         · rw [c243_2 q, c256_2 q]; exact ⟨⟨s64.2.2.1, s64.2.1⟩, by omega, by omega, by omega⟩
                         · rw [c243_3 q, c256_3 q]; exact ⟨⟨s64.2.1, s64.2.2.1⟩, by omega, by omega, by omega⟩
                       have iA : (I262 0 46).toInt = (I193 0 46).toInt := congrArg Int32.toInt ((c262_1 46 rfl).trans (c249_1 46 rfl))
                       have i9 : (I193 0 48).toInt = z20.toInt := congrArg Int32.toInt i193
                       have iB : (I249 0 48).toInt.toNat = z20.toInt.toNat + 1 := by omega
                       have iC : (I193 0 48).toInt.toNat = z20.toInt.toNat := by rw [i193]
                       exact oI_wanted (t := z20.toInt.toNat) (n1 := x243) (n2 := x256) (t1 := x193) (t2 := J7 32 z20.toInt.toNat) (p1 := vp_nar .boolean (Int32.ofInt 1)) (p2 := vp_nar .boolean (Int32.ofInt 0)) (wn := x243) (is := x256) (b := x193) (y := z226) (z0 := Int32.ofInt 0) hR7c u7_1 tt rfl h87 (by omega) ((c262_1 45 rfl).trans ((c249_1 45 rfl).trans (c193_1 45 rfl))) (by omega) ((c262_1 47 rfl).trans ((c249_1 47 rfl).trans (c193_1 47 rfl))) (by omega) ((c262_1 24 rfl).trans ((c249_1 24 rfl).trans (c193_1 24 rfl))) (by rw [c262_5, c249_5, r193.2.2.2.2.2.1, iB, iC]) (by rw [c262_6, c249_6, r193.2.2.2.2.2.2.1, iB, iC]) (by rw [c262_7, c249_7, r193.2.2.2.2.2.2.2, iB, iC]) (Or.inl ⟨rfl, rfl, rfl, rfl, rfl, rfl⟩) X.1 X.2 ((c262_2 29 rfl).trans ((c249_2 29 rfl).trans (congrArg (fun f => upd f _ _) r193.2.2.2.1))) (by omega) ((c262_2 26 rfl).trans ((c249_2 26 rfl).trans c193_6)) ((c262_2 27 rfl).trans ((c249_2 27 rfl).trans c193_7)) rfl ((c262_2 6 rfl).trans ((c249_2 6 rfl).trans (c193_2 6 rfl))) ((c262_2 8 rfl).trans ((c249_2 8 rfl).trans (c193_2 8 rfl))) ((c262_2 11 rfl).trans ((c249_2 11 rfl).trans (c193_2 11 rfl))) ((c262_2 22 rfl).trans ((c249_2 22 rfl).trans (c193_2 22 rfl))) ((c262_2 24 rfl).trans ((c249_2 24 rfl).trans (c193_2 24 rfl))) ((c262_2 25 rfl).trans ((c249_2 25 rfl).trans (c193_2 25 rfl))) ((c262_2 28 rfl).trans ((c249_2 28 rfl).trans (c193_2 28 rfl))) ((c262_2 33 rfl).trans ((c249_2 33 rfl).trans (c193_2 33 rfl))))
                    | (have X : (lvn J7 x280.toInt ∧ lvn J7 x256.toInt) ∧ 1 ≤ (J7 6 x280.toInt.toNat).toInt ∧ 1 ≤ (J7 6 x256.toInt.toNat).toInt ∧ (J7 6 x280.toInt.toNat).toInt + (J7 6 x256.toInt.toNat).toInt = tlv J7 z20.toInt.toNat := by
                         by_cases q : (J7 3 (J7 31 z20.toInt.toNat).toInt.toNat).toInt = 1
                         · rw [c280_2 q, c256_2 q]; exact ⟨⟨s64.2.2.1, s64.2.1⟩, by omega, by omega, by omega⟩
                         · rw [c280_3 q, c256_3 q]; exact ⟨⟨s64.2.1, s64.2.2.1⟩, by omega, by omega, by omega⟩
                       have iA : (I286 0 46).toInt = (I193 0 46).toInt := congrArg Int32.toInt ((c286_1 46 rfl).trans (c262_1 46 rfl))
                       have i9 : (I193 0 48).toInt = z20.toInt := congrArg Int32.toInt i193
                       have iB : (I262 0 48).toInt.toNat = z20.toInt.toNat + 1 := by omega
                       have iC : (I193 0 48).toInt.toNat = z20.toInt.toNat := by rw [i193]
                       exact oI_wanted (t := z20.toInt.toNat) (n1 := x256) (n2 := x280) (t1 := J7 32 z20.toInt.toNat) (t2 := x193) (p1 := vp_nar .boolean (Int32.ofInt 0)) (p2 := vp_nar .boolean (Int32.ofInt 1)) (wn := x280) (is := x256) (b := x193) (y := z226) (z0 := Int32.ofInt 0) hR7c u7_1 tt rfl h87 (by omega) ((c286_1 45 rfl).trans ((c262_1 45 rfl).trans (c193_1 45 rfl))) (by omega) ((c286_1 47 rfl).trans ((c262_1 47 rfl).trans (c193_1 47 rfl))) (by omega) ((c286_1 24 rfl).trans ((c262_1 24 rfl).trans (c193_1 24 rfl))) (by rw [c286_5, c262_5, r193.2.2.2.2.2.1, iB, iC]) (by rw [c286_6, c262_6, r193.2.2.2.2.2.2.1, iB, iC]) (by rw [c286_7, c262_7, r193.2.2.2.2.2.2.2, iB, iC]) (Or.inr ⟨rfl, rfl, rfl, rfl, rfl, rfl⟩) X.1 X.2 ((c286_2 29 rfl).trans ((c262_2 29 rfl).trans (congrArg (fun f => upd f _ _) r193.2.2.2.1))) (by omega) ((c286_2 26 rfl).trans ((c262_2 26 rfl).trans c193_6)) ((c286_2 27 rfl).trans ((c262_2 27 rfl).trans c193_7)) rfl ((c286_2 6 rfl).trans ((c262_2 6 rfl).trans (c193_2 6 rfl))) ((c286_2 8 rfl).trans ((c262_2 8 rfl).trans (c193_2 8 rfl))) ((c286_2 11 rfl).trans ((c262_2 11 rfl).trans (c193_2 11 rfl))) ((c286_2 22 rfl).trans ((c262_2 22 rfl).trans (c193_2 22 rfl))) ((c286_2 24 rfl).trans ((c262_2 24 rfl).trans (c193_2 24 rfl))) ((c286_2 25 rfl).trans ((c262_2 25 rfl).trans (c193_2 25 rfl))) ((c286_2 28 rfl).trans ((c262_2 28 rfl).trans (c193_2 28 rfl))) ((c286_2 33 rfl).trans ((c262_2 33 rfl).trans (c193_2 33 rfl))))
                  have m289 : 0 ≤ 2 * tS (tlv I286) (I286 0 48).toInt.toNat - (I286 0 48).toInt ∧ 2 * tS (tlv I286) (I286 0 48).toInt.toNat - (I286 0 48).toInt < 2 * tS (tlv J7) (J7 0 48).toInt.toNat - (J7 0 48).toInt := by
                    have n9 := tk_num q289.1
                    first
                    | omega
                    | (exfalso; omega)
                    | (have j := congrArg Int32.toInt (show I160 0 45 = J7 0 45 from (c160_1 45 rfl).trans ((c147_1 45 rfl).trans (c91_1 45 rfl)))
                       have i9 : (I91 0 48).toInt = z20.toInt := congrArg Int32.toInt i91
                       omega)
                    | (have j := congrArg Int32.toInt (show I184 0 45 = J7 0 45 from (c184_1 45 rfl).trans ((c160_1 45 rfl).trans (c91_1 45 rfl)))
                       have i9 : (I91 0 48).toInt = z20.toInt := congrArg Int32.toInt i91
                       omega)
                    | (have j := congrArg Int32.toInt (show I262 0 45 = J7 0 45 from (c262_1 45 rfl).trans ((c249_1 45 rfl).trans (c193_1 45 rfl)))
                       have i9 : (I193 0 48).toInt = z20.toInt := congrArg Int32.toInt i193
                       omega)
                    | (have j := congrArg Int32.toInt (show I286 0 45 = J7 0 45 from (c286_1 45 rfl).trans ((c262_1 45 rfl).trans (c193_1 45 rfl)))
                       have i9 : (I193 0 48).toInt = z20.toInt := congrArg Int32.toInt i193
                       omega)
                  have r7_16 : 0 ≤ (I286 0 48).toInt ∧ (I286 0 48).toInt ≤ 60 := c286_0 0 48
                  exact ⟨(by intro q9 h9; simp only [List.mem_cons, List.not_mem_nil, or_false] at h9; rcases h9 with h9 | h9 | h9 | h9 <;> subst h9 <;> repeat (first | exact List.mem_cons_self | apply List.mem_cons_of_mem)), rfl, rfl, c286_0, hF286, hO286, hmL286, (show oI I I286 ((I 0 45).toInt + (I 6 nd.toInt.toNat).toInt) from by first | assumption | omega), (show 0 ≤ 2 * tS (tlv I286) (I286 0 48).toInt.toNat - (I286 0 48).toInt from by first | assumption | omega), (show (2 * tS (tlv I286) (I286 0 48).toInt.toNat - (I286 0 48).toInt) < n7 from by omega)⟩
              · intro h236
                have h236 : (I193 3 ((J7 31 (z20.toInt.toNat)).toInt.toNat)).toInt = 2 := h236
                refine And.intro ⟨(show 0 ≤ (J7 31 (z20.toInt.toNat)).toInt from by first | assumption | omega), (show (J7 31 (z20.toInt.toNat)).toInt ≤ 1599 from by first | assumption | omega)⟩ ?_
                intro x243 I243 L243 hq243
                have hq243 : I243 = (va_up (va_up I193 30 (upd (I193 30) (z213.toInt.toNat) x193)) 29 (upd (I193 29) ((J7 32 (z20.toInt.toNat)).toInt.toNat) z226)) ∧ L243 = L ∧ (((I193 3 (J7 31 (z20.toInt.toNat)).toInt.toNat).toInt = 1 → x243 = I193 5 (J7 31 (z20.toInt.toNat)).toInt.toNat)) ∧ ((¬ (I193 3 (J7 31 (z20.toInt.toNat)).toInt.toNat).toInt = 1 → x243 = I193 4 (J7 31 (z20.toInt.toNat)).toInt.toNat)) := hq243
                obtain ⟨eI243, eL243, c243_2, c243_3⟩ := hq243
                replace eI243 := eI243.symm
                subst eI243
                replace eL243 := eL243.symm
                subst eL243
                have e243 : (I193 3) = J7 3 ∧ (I193 4) = J7 4 ∧ (I193 5) = J7 5 := ⟨r193.1, r193.2.1, r193.2.2.1⟩
                simp only [e243.1, e243.2.1, e243.2.2] at c243_2 c243_3
                have v243 : 0 ≤ x243.toInt ∧ x243.toInt ≤ 1599 := by by_cases q : (J7 3 (J7 31 z20.toInt.toNat).toInt.toNat).toInt = 1; (rw [c243_2 q]; omega); (rw [c243_3 q]; omega)
                have e249_12 : (I193 0 48).toInt = z20.toInt := congrArg Int32.toInt (c193_1 48 rfl)
                refine And.intro ⟨hR227, (show (I193 0 48).toInt ≤ 59 from by first | assumption | omega), (show 0 ≤ x243.toInt from by first | assumption | omega), (show x243.toInt ≤ 1599 from by first | assumption | omega), (show 0 ≤ x193.toInt from by first | assumption | omega), (show x193.toInt ≤ 39 from by first | assumption | omega)⟩ ?_
                intro I249 L249 hq249
                have hq249 : mR I249 ∧ f_fo [48] (va_up (va_up I193 30 (upd (I193 30) (z213.toInt.toNat) x193)) 29 (upd (I193 29) ((J7 32 (z20.toInt.toNat)).toInt.toNat) z226)) I249 ∧ f_fr [0, 31, 32, 34] (va_up (va_up I193 30 (upd (I193 30) (z213.toInt.toNat) x193)) 29 (upd (I193 29) ((J7 32 (z20.toInt.toNat)).toInt.toNat) z226)) I249 ∧ L249 = L ∧ (I249 0 48).toInt = (I193 0 48).toInt + 1 ∧ I249 31 = upd (I193 31) (I193 0 48).toInt.toNat x243 ∧ I249 32 = upd (I193 32) (I193 0 48).toInt.toNat x193 ∧ I249 34 = upd (I193 34) (I193 0 48).toInt.toNat (vp_nar .boolean (Int32.ofInt 1)) := hq249
                obtain ⟨c249_0, c249_1, c249_2, eL249, c249_4, c249_5, c249_6, c249_7⟩ := hq249
                replace eL249 := eL249.symm
                subst eL249
                have hO249 := f_fo_tr hO227 c249_1 rfl
                have hmL249 := f_depo_fo mL_dep hmL227 c249_2 c249_1 rfl rfl
                have hF249 := f_fr_tr hF227 c249_2 rfl
                refine And.intro ⟨(show 0 ≤ (J7 31 (z20.toInt.toNat)).toInt from by first | assumption | omega), (show (J7 31 (z20.toInt.toNat)).toInt ≤ 1599 from by first | assumption | omega)⟩ ?_
                intro x256 I256 L256 hq256
                have hq256 : I256 = I249 ∧ L256 = L ∧ (((I249 3 (J7 31 (z20.toInt.toNat)).toInt.toNat).toInt = 1 → x256 = I249 4 (J7 31 (z20.toInt.toNat)).toInt.toNat)) ∧ ((¬ (I249 3 (J7 31 (z20.toInt.toNat)).toInt.toNat).toInt = 1 → x256 = I249 5 (J7 31 (z20.toInt.toNat)).toInt.toNat)) := hq256
                obtain ⟨eI256, eL256, c256_2, c256_3⟩ := hq256
                replace eI256 := eI256.symm
                subst eI256
                replace eL256 := eL256.symm
                subst eL256
                have e256 : (I249 3) = J7 3 ∧ (I249 4) = J7 4 ∧ (I249 5) = J7 5 := by first | exact ⟨r193.1, r193.2.1, r193.2.2.1⟩ | exact ⟨(c249_2 3 rfl).trans r193.1, (c249_2 4 rfl).trans r193.2.1, (c249_2 5 rfl).trans r193.2.2.1⟩
                simp only [e256.1, e256.2.1, e256.2.2] at c256_2 c256_3
                have v256 : 0 ≤ x256.toInt ∧ x256.toInt ≤ 1599 := by by_cases q : (J7 3 (J7 31 z20.toInt.toNat).toInt.toNat).toInt = 1; (rw [c256_2 q]; omega); (rw [c256_3 q]; omega)
                have r262_13 : 0 ≤ (I249 0 48).toInt ∧ (I249 0 48).toInt ≤ 60 := c249_0 0 48
                refine And.intro ⟨c249_0, (show (I249 0 48).toInt ≤ 59 from by first | assumption | omega), (show 0 ≤ x256.toInt from by first | assumption | omega), (show x256.toInt ≤ 1599 from by first | assumption | omega), (show 0 ≤ (J7 32 (z20.toInt.toNat)).toInt from by first | assumption | omega), (show (J7 32 (z20.toInt.toNat)).toInt ≤ 39 from by first | assumption | omega)⟩ ?_
                intro I262 L262 hq262
                have hq262 : mR I262 ∧ f_fo [48] I249 I262 ∧ f_fr [0, 31, 32, 34] I249 I262 ∧ L262 = L ∧ (I262 0 48).toInt = (I249 0 48).toInt + 1 ∧ I262 31 = upd (I249 31) (I249 0 48).toInt.toNat x256 ∧ I262 32 = upd (I249 32) (I249 0 48).toInt.toNat (J7 32 (z20.toInt.toNat)) ∧ I262 34 = upd (I249 34) (I249 0 48).toInt.toNat (vp_nar .boolean (Int32.ofInt 0)) := hq262
                obtain ⟨c262_0, c262_1, c262_2, eL262, c262_4, c262_5, c262_6, c262_7⟩ := hq262
                replace eL262 := eL262.symm
                subst eL262
                have hO262 := f_fo_tr hO249 c262_1 rfl
                have hmL262 := f_depo_fo mL_dep hmL249 c262_2 c262_1 rfl rfl
                have hF262 := f_fr_tr hF249 c262_2 rfl
                refine And.intro (show f_in (J7 31 (z20.toInt.toNat)) 1600 from ⟨show 0 ≤ (J7 31 (z20.toInt.toNat)).toInt from by omega, show (J7 31 (z20.toInt.toNat)).toInt < 1600 from by omega⟩) ?_
                have r271_14 : 0 ≤ (I262 3 ((J7 31 (z20.toInt.toNat)).toInt.toNat)).toInt ∧ (I262 3 ((J7 31 (z20.toInt.toNat)).toInt.toNat)).toInt ≤ 2 := c262_0 3 ((J7 31 (z20.toInt.toNat)).toInt.toNat)
                have e271_15 : (I262 3 ((J7 31 (z20.toInt.toNat)).toInt.toNat)).toInt = (I249 3 ((J7 31 (z20.toInt.toNat)).toInt.toNat)).toInt := congrArg Int32.toInt (congrFun (c262_2 3 rfl) ((J7 31 (z20.toInt.toNat)).toInt.toNat))
                have e271_16 : (I249 3 ((J7 31 (z20.toInt.toNat)).toInt.toNat)).toInt = (I193 3 ((J7 31 (z20.toInt.toNat)).toInt.toNat)).toInt := congrArg Int32.toInt (congrFun (c249_2 3 rfl) ((J7 31 (z20.toInt.toNat)).toInt.toNat))
                apply And.intro
                · intro h273
                  have h273 : ¬ (I262 3 ((J7 31 (z20.toInt.toNat)).toInt.toNat)).toInt = 1 := h273
                  have q289 : oI I I262 ((I 0 45).toInt + (I 6 nd.toInt.toNat).toInt) := by
                    first
                    | (exfalso; omega)
                    | (have h1 : tlv J7 z20.toInt.toNat = 1 := by rw [tl]; rcases l4 with q | q; exact q.2; exact absurd h64 q.1
                       have e48 : (I79 0 48).toInt = z20.toInt := congrArg Int32.toInt (c79_1 48 rfl)
                       exact oI_end (t := z20.toInt.toNat) hR7c u7_1 tt h1 rfl (f_nar01 o1) (by omega) (c79_1 46 rfl) (c79_1 47 rfl) (by omega) (c79_1 24 rfl) c79_5 c79_6 c79_7 c79_8 (c79_2 6 rfl) (c79_2 8 rfl) (c79_2 11 rfl) (c79_2 26 rfl) (c79_2 27 rfl) (c79_2 28 rfl) (c79_2 29 rfl) (c79_2 31 rfl) (c79_2 32 rfl) (c79_2 34 rfl))
                    | (have X : (lvn J7 x141.toInt ∧ lvn J7 x154.toInt) ∧ 1 ≤ (J7 6 x141.toInt.toNat).toInt ∧ 1 ≤ (J7 6 x154.toInt.toNat).toInt ∧ (J7 6 x141.toInt.toNat).toInt + (J7 6 x154.toInt.toNat).toInt = tlv J7 z20.toInt.toNat := by
                         by_cases q : (J7 3 (J7 31 z20.toInt.toNat).toInt.toNat).toInt = 1
                         · rw [c141_2 q, c154_2 q]; exact ⟨⟨s64.2.2.1, s64.2.1⟩, by omega, by omega, by omega⟩
                         · rw [c141_3 q, c154_3 q]; exact ⟨⟨s64.2.1, s64.2.2.1⟩, by omega, by omega, by omega⟩
                       have iA : (I160 0 47).toInt = (I91 0 47).toInt := congrArg Int32.toInt ((c160_1 47 rfl).trans (c147_1 47 rfl))
                       have i9 : (I91 0 48).toInt = z20.toInt := congrArg Int32.toInt i91
                       have iB : (I147 0 48).toInt.toNat = z20.toInt.toNat + 1 := by omega
                       have iC : (I91 0 48).toInt.toNat = z20.toInt.toNat := by rw [i91]
                       exact oI_given (t := z20.toInt.toNat) (n1 := x141) (n2 := x154) (t1 := x91) (t2 := J7 32 z20.toInt.toNat) (p1 := vp_nar .boolean (Int32.ofInt 0)) (p2 := vp_nar .boolean (Int32.ofInt 1)) (wn := x141) (is := x154) (b := x91) (y := z124) (z0 := Int32.ofInt 0) (k := z111.toInt.toNat) hR7c u7_1 tt rfl g87 (by omega) ((c160_1 45 rfl).trans ((c147_1 45 rfl).trans (c91_1 45 rfl))) ((c160_1 46 rfl).trans ((c147_1 46 rfl).trans (c91_1 46 rfl))) (by omega) (by omega) ((c160_1 24 rfl).trans ((c147_1 24 rfl).trans (c91_1 24 rfl))) (by rw [c160_5, c147_5, r91.2.2.2.2.2.1, iB, iC]) (by rw [c160_6, c147_6, r91.2.2.2.2.2.2.1, iB, iC]) (by rw [c160_7, c147_7, r91.2.2.2.2.2.2.2, iB, iC]) (Or.inl ⟨rfl, rfl, rfl, rfl, rfl, rfl⟩) X.1 X.2 ((c160_2 27 rfl).trans ((c147_2 27 rfl).trans (congrArg (fun f => upd f _ _) r91.2.2.2.1))) (by omega) ((c160_2 28 rfl).trans ((c147_2 28 rfl).trans (congrArg (fun f => upd f _ _) r91.2.2.2.2.1))) (by omega) ((c160_2 29 rfl).trans ((c147_2 29 rfl).trans c91_6)) rfl ((c160_2 6 rfl).trans ((c147_2 6 rfl).trans (c91_2 6 rfl))) ((c160_2 8 rfl).trans ((c147_2 8 rfl).trans (c91_2 8 rfl))) ((c160_2 11 rfl).trans ((c147_2 11 rfl).trans (c91_2 11 rfl))) ((c160_2 22 rfl).trans ((c147_2 22 rfl).trans (c91_2 22 rfl))) ((c160_2 24 rfl).trans ((c147_2 24 rfl).trans (c91_2 24 rfl))) ((c160_2 25 rfl).trans ((c147_2 25 rfl).trans (c91_2 25 rfl))) ((c160_2 26 rfl).trans ((c147_2 26 rfl).trans (c91_2 26 rfl))) ((c160_2 33 rfl).trans ((c147_2 33 rfl).trans (c91_2 33 rfl))))
                    | (have X : (lvn J7 x178.toInt ∧ lvn J7 x154.toInt) ∧ 1 ≤ (J7 6 x178.toInt.toNat).toInt ∧ 1 ≤ (J7 6 x154.toInt.toNat).toInt ∧ (J7 6 x178.toInt.toNat).toInt + (J7 6 x154.toInt.toNat).toInt = tlv J7 z20.toInt.toNat := by
                         by_cases q : (J7 3 (J7 31 z20.toInt.toNat).toInt.toNat).toInt = 1
                         · rw [c178_2 q, c154_2 q]; exact ⟨⟨s64.2.2.1, s64.2.1⟩, by omega, by omega, by omega⟩
                         · rw [c178_3 q, c154_3 q]; exact ⟨⟨s64.2.1, s64.2.2.1⟩, by omega, by omega, by omega⟩
                       have iA : (I184 0 47).toInt = (I91 0 47).toInt := congrArg Int32.toInt ((c184_1 47 rfl).trans (c160_1 47 rfl))
                       have i9 : (I91 0 48).toInt = z20.toInt := congrArg Int32.toInt i91
                       have iB : (I160 0 48).toInt.toNat = z20.toInt.toNat + 1 := by omega
                       have iC : (I91 0 48).toInt.toNat = z20.toInt.toNat := by rw [i91]
                       exact oI_given (t := z20.toInt.toNat) (n1 := x154) (n2 := x178) (t1 := J7 32 z20.toInt.toNat) (t2 := x91) (p1 := vp_nar .boolean (Int32.ofInt 1)) (p2 := vp_nar .boolean (Int32.ofInt 0)) (wn := x178) (is := x154) (b := x91) (y := z124) (z0 := Int32.ofInt 0) (k := z111.toInt.toNat) hR7c u7_1 tt rfl g87 (by omega) ((c184_1 45 rfl).trans ((c160_1 45 rfl).trans (c91_1 45 rfl))) ((c184_1 46 rfl).trans ((c160_1 46 rfl).trans (c91_1 46 rfl))) (by omega) (by omega) ((c184_1 24 rfl).trans ((c160_1 24 rfl).trans (c91_1 24 rfl))) (by rw [c184_5, c160_5, r91.2.2.2.2.2.1, iB, iC]) (by rw [c184_6, c160_6, r91.2.2.2.2.2.2.1, iB, iC]) (by rw [c184_7, c160_7, r91.2.2.2.2.2.2.2, iB, iC]) (Or.inr ⟨rfl, rfl, rfl, rfl, rfl, rfl⟩) X.1 X.2 ((c184_2 27 rfl).trans ((c160_2 27 rfl).trans (congrArg (fun f => upd f _ _) r91.2.2.2.1))) (by omega) ((c184_2 28 rfl).trans ((c160_2 28 rfl).trans (congrArg (fun f => upd f _ _) r91.2.2.2.2.1))) (by omega) ((c184_2 29 rfl).trans ((c160_2 29 rfl).trans c91_6)) rfl ((c184_2 6 rfl).trans ((c160_2 6 rfl).trans (c91_2 6 rfl))) ((c184_2 8 rfl).trans ((c160_2 8 rfl).trans (c91_2 8 rfl))) ((c184_2 11 rfl).trans ((c160_2 11 rfl).trans (c91_2 11 rfl))) ((c184_2 22 rfl).trans ((c160_2 22 rfl).trans (c91_2 22 rfl))) ((c184_2 24 rfl).trans ((c160_2 24 rfl).trans (c91_2 24 rfl))) ((c184_2 25 rfl).trans ((c160_2 25 rfl).trans (c91_2 25 rfl))) ((c184_2 26 rfl).trans ((c160_2 26 rfl).trans (c91_2 26 rfl))) ((c184_2 33 rfl).trans ((c160_2 33 rfl).trans (c91_2 33 rfl))))
                    | (have X : (lvn J7 x243.toInt ∧ lvn J7 x256.toInt) ∧ 1 ≤ (J7 6 x243.toInt.toNat).toInt ∧ 1 ≤ (J7 6 x256.toInt.toNat).toInt ∧ (J7 6 x243.toInt.toNat).toInt + (J7 6 x256.toInt.toNat).toInt = tlv J7 z20.toInt.toNat := by
                         by_cases q : (J7 3 (J7 31 z20.toInt.toNat).toInt.toNat).toInt = 1
                         · rw [c243_2 q, c256_2 q]; exact ⟨⟨s64.2.2.1, s64.2.1⟩, by omega, by omega, by omega⟩
                         · rw [c243_3 q, c256_3 q]; exact ⟨⟨s64.2.1, s64.2.2.1⟩, by omega, by omega, by omega⟩
                       have iA : (I262 0 46).toInt = (I193 0 46).toInt := congrArg Int32.toInt ((c262_1 46 rfl).trans (c249_1 46 rfl))
                       have i9 : (I193 0 48).toInt = z20.toInt := congrArg Int32.toInt i193
                       have iB : (I249 0 48).toInt.toNat = z20.toInt.toNat + 1 := by omega
                       have iC : (I193 0 48).toInt.toNat = z20.toInt.toNat := by rw [i193]
                       exact oI_wanted (t := z20.toInt.toNat) (n1 := x243) (n2 := x256) (t1 := x193) (t2 := J7 32 z20.toInt.toNat) (p1 := vp_nar .boolean (Int32.ofInt 1)) (p2 := vp_nar .boolean (Int32.ofInt 0)) (wn := x243) (is := x256) (b := x193) (y := z226) (z0 := Int32.ofInt 0) hR7c u7_1 tt rfl h87 (by omega) ((c262_1 45 rfl).trans ((c249_1 45 rfl).trans (c193_1 45 rfl))) (by omega) ((c262_1 47 rfl).trans ((c249_1 47 rfl).trans (c193_1 47 rfl))) (by omega) ((c262_1 24 rfl).trans ((c249_1 24 rfl).trans (c193_1 24 rfl))) (by rw [c262_5, c249_5, r193.2.2.2.2.2.1, iB, iC]) (by rw [c262_6, c249_6, r193.2.2.2.2.2.2.1, iB, iC]) (by rw [c262_7, c249_7, r193.2.2.2.2.2.2.2, iB, iC]) (Or.inl ⟨rfl, rfl, rfl, rfl, rfl, rfl⟩) X.1 X.2 ((c262_2 29 rfl).trans ((c249_2 29 rfl).trans (congrArg (fun f => upd f _ _) r193.2.2.2.1))) (by omega) ((c262_2 26 rfl).trans ((c249_2 26 rfl).trans c193_6)) ((c262_2 27 rfl).trans ((c249_2 27 rfl).trans c193_7)) rfl ((c262_2 6 rfl).trans ((c249_2 6 rfl).trans (c193_2 6 rfl))) ((c262_2 8 rfl).trans ((c249_2 8 rfl).trans (c193_2 8 rfl))) ((c262_2 11 rfl).trans ((c249_2 11 rfl).trans (c193_2 11 rfl))) ((c262_2 22 rfl).trans ((c249_2 22 rfl).trans (c193_2 22 rfl))) ((c262_2 24 rfl).trans ((c249_2 24 rfl).trans (c193_2 24 rfl))) ((c262_2 25 rfl).trans ((c249_2 25 rfl).trans (c193_2 25 rfl))) ((c262_2 28 rfl).trans ((c249_2 28 rfl).trans (c193_2 28 rfl))) ((c262_2 33 rfl).trans ((c249_2 33 rfl).trans (c193_2 33 rfl))))
                    | (have X : (lvn J7 x280.toInt ∧ lvn J7 x256.toInt) ∧ 1 ≤ (J7 6 x280.toInt.toNat).toInt ∧ 1 ≤ (J7 6 x256.toInt.toNat).toInt ∧ (J7 6 x280.toInt.toNat).toInt + (J7 6 x256.toInt.toNat).toInt = tlv J7 z20.toInt.toNat := by
                         by_cases q : (J7 3 (J7 31 z20.toInt.toNat).toInt.toNat).toInt = 1
                         · rw [c280_2 q, c256_2 q]; exact ⟨⟨s64.2.2.1, s64.2.1⟩, by omega, by omega, by omega⟩
                         · rw [c280_3 q, c256_3 q]; exact ⟨⟨s64.2.1, s64.2.2.1⟩, by omega, by omega, by omega⟩
                       have iA : (I286 0 46).toInt = (I193 0 46).toInt := congrArg Int32.toInt ((c286_1 46 rfl).trans (c262_1 46 rfl))
                       have i9 : (I193 0 48).toInt = z20.toInt := congrArg Int32.toInt i193
                       have iB : (I262 0 48).toInt.toNat = z20.toInt.toNat + 1 := by omega
                       have iC : (I193 0 48).toInt.toNat = z20.toInt.toNat := by rw [i193]
                       exact oI_wanted (t := z20.toInt.toNat) (n1 := x256) (n2 := x280) (t1 := J7 32 z20.toInt.toNat) (t2 := x193) (p1 := vp_nar .boolean (Int32.ofInt 0)) (p2 := vp_nar .boolean (Int32.ofInt 1)) (wn := x280) (is := x256) (b := x193) (y := z226) (z0 := Int32.ofInt 0) hR7c u7_1 tt rfl h87 (by omega) ((c286_1 45 rfl).trans ((c262_1 45 rfl).trans (c193_1 45 rfl))) (by omega) ((c286_1 47 rfl).trans ((c262_1 47 rfl).trans (c193_1 47 rfl))) (by omega) ((c286_1 24 rfl).trans ((c262_1 24 rfl).trans (c193_1 24 rfl))) (by rw [c286_5, c262_5, r193.2.2.2.2.2.1, iB, iC]) (by rw [c286_6, c262_6, r193.2.2.2.2.2.2.1, iB, iC]) (by rw [c286_7, c262_7, r193.2.2.2.2.2.2.2, iB, iC]) (Or.inr ⟨rfl, rfl, rfl, rfl, rfl, rfl⟩) X.1 X.2 ((c286_2 29 rfl).trans ((c262_2 29 rfl).trans (congrArg (fun f => upd f _ _) r193.2.2.2.1))) (by omega) ((c286_2 26 rfl).trans ((c262_2 26 rfl).trans c193_6)) ((c286_2 27 rfl).trans ((c262_2 27 rfl).trans c193_7)) rfl ((c286_2 6 rfl).trans ((c262_2 6 rfl).trans (c193_2 6 rfl))) ((c286_2 8 rfl).trans ((c262_2 8 rfl).trans (c193_2 8 rfl))) ((c286_2 11 rfl).trans ((c262_2 11 rfl).trans (c193_2 11 rfl))) ((c286_2 22 rfl).trans ((c262_2 22 rfl).trans (c193_2 22 rfl))) ((c286_2 24 rfl).trans ((c262_2 24 rfl).trans (c193_2 24 rfl))) ((c286_2 25 rfl).trans ((c262_2 25 rfl).trans (c193_2 25 rfl))) ((c286_2 28 rfl).trans ((c262_2 28 rfl).trans (c193_2 28 rfl))) ((c286_2 33 rfl).trans ((c262_2 33 rfl).trans (c193_2 33 rfl))))
                  have m289 : 0 ≤ 2 * tS (tlv I262) (I262 0 48).toInt.toNat - (I262 0 48).toInt ∧ 2 * tS (tlv I262) (I262 0 48).toInt.toNat - (I262 0 48).toInt < 2 * tS (tlv J7) (J7 0 48).toInt.toNat - (J7 0 48).toInt := by
                    have n9 := tk_num q289.1
                    first
                    | omega
                    | (exfalso; omega)
                    | (have j := congrArg Int32.toInt (show I160 0 45 = J7 0 45 from (c160_1 45 rfl).trans ((c147_1 45 rfl).trans (c91_1 45 rfl)))
                       have i9 : (I91 0 48).toInt = z20.toInt := congrArg Int32.toInt i91
                       omega)
                    | (have j := congrArg Int32.toInt (show I184 0 45 = J7 0 45 from (c184_1 45 rfl).trans ((c160_1 45 rfl).trans (c91_1 45 rfl)))
                       have i9 : (I91 0 48).toInt = z20.toInt := congrArg Int32.toInt i91
                       omega)
                    | (have j := congrArg Int32.toInt (show I262 0 45 = J7 0 45 from (c262_1 45 rfl).trans ((c249_1 45 rfl).trans (c193_1 45 rfl)))
                       have i9 : (I193 0 48).toInt = z20.toInt := congrArg Int32.toInt i193
                       omega)
                    | (have j := congrArg Int32.toInt (show I286 0 45 = J7 0 45 from (c286_1 45 rfl).trans ((c262_1 45 rfl).trans (c193_1 45 rfl)))
                       have i9 : (I193 0 48).toInt = z20.toInt := congrArg Int32.toInt i193
                       omega)
                  have r7_17 : 0 ≤ (I262 0 48).toInt ∧ (I262 0 48).toInt ≤ 60 := c262_0 0 48
                  exact ⟨(by intro q9 h9; simp only [List.mem_cons, List.not_mem_nil, or_false] at h9; rcases h9 with h9 | h9 | h9 | h9 <;> subst h9 <;> repeat (first | exact List.mem_cons_self | apply List.mem_cons_of_mem)), rfl, rfl, c262_0, hF262, hO262, hmL262, (show oI I I262 ((I 0 45).toInt + (I 6 nd.toInt.toNat).toInt) from by first | assumption | omega), (show 0 ≤ 2 * tS (tlv I262) (I262 0 48).toInt.toNat - (I262 0 48).toInt from by first | assumption | omega), (show (2 * tS (tlv I262) (I262 0 48).toInt.toNat - (I262 0 48).toInt) < n7 from by omega)⟩
                · intro h273
                  have h273 : (I262 3 ((J7 31 (z20.toInt.toNat)).toInt.toNat)).toInt = 1 := h273
                  refine And.intro ⟨(show 0 ≤ (J7 31 (z20.toInt.toNat)).toInt from by first | assumption | omega), (show (J7 31 (z20.toInt.toNat)).toInt ≤ 1599 from by first | assumption | omega)⟩ ?_
                  intro x280 I280 L280 hq280
                  have hq280 : I280 = I262 ∧ L280 = L ∧ (((I262 3 (J7 31 (z20.toInt.toNat)).toInt.toNat).toInt = 1 → x280 = I262 5 (J7 31 (z20.toInt.toNat)).toInt.toNat)) ∧ ((¬ (I262 3 (J7 31 (z20.toInt.toNat)).toInt.toNat).toInt = 1 → x280 = I262 4 (J7 31 (z20.toInt.toNat)).toInt.toNat)) := hq280
                  obtain ⟨eI280, eL280, c280_2, c280_3⟩ := hq280
                  replace eI280 := eI280.symm
                  subst eI280
                  replace eL280 := eL280.symm
                  subst eL280
                  have e280 : (I262 3) = J7 3 ∧ (I262 4) = J7 4 ∧ (I262 5) = J7 5 := by first | exact ⟨(c262_2 3 rfl).trans r193.1, (c262_2 4 rfl).trans r193.2.1, (c262_2 5 rfl).trans r193.2.2.1⟩ | exact ⟨(c262_2 3 rfl).trans ((c249_2 3 rfl).trans r193.1), (c262_2 4 rfl).trans ((c249_2 4 rfl).trans r193.2.1), (c262_2 5 rfl).trans ((c249_2 5 rfl).trans r193.2.2.1)⟩
                  simp only [e280.1, e280.2.1, e280.2.2] at c280_2 c280_3
                  have v280 : 0 ≤ x280.toInt ∧ x280.toInt ≤ 1599 := by by_cases q : (J7 3 (J7 31 z20.toInt.toNat).toInt.toNat).toInt = 1; (rw [c280_2 q]; omega); (rw [c280_3 q]; omega)
                  have r286_17 : 0 ≤ (I262 0 48).toInt ∧ (I262 0 48).toInt ≤ 60 := c262_0 0 48
                  refine And.intro ⟨c262_0, (show (I262 0 48).toInt ≤ 59 from by first | assumption | omega), (show 0 ≤ x280.toInt from by first | assumption | omega), (show x280.toInt ≤ 1599 from by first | assumption | omega), (show 0 ≤ x193.toInt from by first | assumption | omega), (show x193.toInt ≤ 39 from by first | assumption | omega)⟩ ?_
                  intro I286 L286 hq286
                  have hq286 : mR I286 ∧ f_fo [48] I262 I286 ∧ f_fr [0, 31, 32, 34] I262 I286 ∧ L286 = L ∧ (I286 0 48).toInt = (I262 0 48).toInt + 1 ∧ I286 31 = upd (I262 31) (I262 0 48).toInt.toNat x280 ∧ I286 32 = upd (I262 32) (I262 0 48).toInt.toNat x193 ∧ I286 34 = upd (I262 34) (I262 0 48).toInt.toNat (vp_nar .boolean (Int32.ofInt 1)) := hq286
                  obtain ⟨c286_0, c286_1, c286_2, eL286, c286_4, c286_5, c286_6, c286_7⟩ := hq286
                  replace eL286 := eL286.symm
                  subst eL286
                  have hO286 := f_fo_tr hO262 c286_1 rfl
                  have hmL286 := f_depo_fo mL_dep hmL262 c286_2 c286_1 rfl rfl
                  have hF286 := f_fr_tr hF262 c286_2 rfl
                  have q289 : oI I I286 ((I 0 45).toInt + (I 6 nd.toInt.toNat).toInt) := by
                    first
                    | (exfalso; omega)
                    | (have h1 : tlv J7 z20.toInt.toNat = 1 := by rw [tl]; rcases l4 with q | q; exact q.2; exact absurd h64 q.1
                       have e48 : (I79 0 48).toInt = z20.toInt := congrArg Int32.toInt (c79_1 48 rfl)
                       exact oI_end (t := z20.toInt.toNat) hR7c u7_1 tt h1 rfl (f_nar01 o1) (by omega) (c79_1 46 rfl) (c79_1 47 rfl) (by omega) (c79_1 24 rfl) c79_5 c79_6 c79_7 c79_8 (c79_2 6 rfl) (c79_2 8 rfl) (c79_2 11 rfl) (c79_2 26 rfl) (c79_2 27 rfl) (c79_2 28 rfl) (c79_2 29 rfl) (c79_2 31 rfl) (c79_2 32 rfl) (c79_2 34 rfl))
                    | (have X : (lvn J7 x141.toInt ∧ lvn J7 x154.toInt) ∧ 1 ≤ (J7 6 x141.toInt.toNat).toInt ∧ 1 ≤ (J7 6 x154.toInt.toNat).toInt ∧ (J7 6 x141.toInt.toNat).toInt + (J7 6 x154.toInt.toNat).toInt = tlv J7 z20.toInt.toNat := by
                         by_cases q : (J7 3 (J7 31 z20.toInt.toNat).toInt.toNat).toInt = 1
                         · rw [c141_2 q, c154_2 q]; exact ⟨⟨s64.2.2.1, s64.2.1⟩, by omega, by omega, by omega⟩
                         · rw [c141_3 q, c154_3 q]; exact ⟨⟨s64.2.1, s64.2.2.1⟩, by omega, by omega, by omega⟩
                       have iA : (I160 0 47).toInt = (I91 0 47).toInt := congrArg Int32.toInt ((c160_1 47 rfl).trans (c147_1 47 rfl))
                       have i9 : (I91 0 48).toInt = z20.toInt := congrArg Int32.toInt i91
                       have iB : (I147 0 48).toInt.toNat = z20.toInt.toNat + 1 := by omega
                       have iC : (I91 0 48).toInt.toNat = z20.toInt.toNat := by rw [i91]
                       exact oI_given (t := z20.toInt.toNat) (n1 := x141) (n2 := x154) (t1 := x91) (t2 := J7 32 z20.toInt.toNat) (p1 := vp_nar .boolean (Int32.ofInt 0)) (p2 := vp_nar .boolean (Int32.ofInt 1)) (wn := x141) (is := x154) (b := x91) (y := z124) (z0 := Int32.ofInt 0) (k := z111.toInt.toNat) hR7c u7_1 tt rfl g87 (by omega) ((c160_1 45 rfl).trans ((c147_1 45 rfl).trans (c91_1 45 rfl))) ((c160_1 46 rfl).trans ((c147_1 46 rfl).trans (c91_1 46 rfl))) (by omega) (by omega) ((c160_1 24 rfl).trans ((c147_1 24 rfl).trans (c91_1 24 rfl))) (by rw [c160_5, c147_5, r91.2.2.2.2.2.1, iB, iC]) (by rw [c160_6, c147_6, r91.2.2.2.2.2.2.1, iB, iC]) (by rw [c160_7, c147_7, r91.2.2.2.2.2.2.2, iB, iC]) (Or.inl ⟨rfl, rfl, rfl, rfl, rfl, rfl⟩) X.1 X.2 ((c160_2 27 rfl).trans ((c147_2 27 rfl).trans (congrArg (fun f => upd f _ _) r91.2.2.2.1))) (by omega) ((c160_2 28 rfl).trans ((c147_2 28 rfl).trans (congrArg (fun f => upd f _ _) r91.2.2.2.2.1))) (by omega) ((c160_2 29 rfl).trans ((c147_2 29 rfl).trans c91_6)) rfl ((c160_2 6 rfl).trans ((c147_2 6 rfl).trans (c91_2 6 rfl))) ((c160_2 8 rfl).trans ((c147_2 8 rfl).trans (c91_2 8 rfl))) ((c160_2 11 rfl).trans ((c147_2 11 rfl).trans (c91_2 11 rfl))) ((c160_2 22 rfl).trans ((c147_2 22 rfl).trans (c91_2 22 rfl))) ((c160_2 24 rfl).trans ((c147_2 24 rfl).trans (c91_2 24 rfl))) ((c160_2 25 rfl).trans ((c147_2 25 rfl).trans (c91_2 25 rfl))) ((c160_2 26 rfl).trans ((c147_2 26 rfl).trans (c91_2 26 rfl))) ((c160_2 33 rfl).trans ((c147_2 33 rfl).trans (c91_2 33 rfl))))
                    | (have X : (lvn J7 x178.toInt ∧ lvn J7 x154.toInt) ∧ 1 ≤ (J7 6 x178.toInt.toNat).toInt ∧ 1 ≤ (J7 6 x154.toInt.toNat).toInt ∧ (J7 6 x178.toInt.toNat).toInt + (J7 6 x154.toInt.toNat).toInt = tlv J7 z20.toInt.toNat := by
                         by_cases q : (J7 3 (J7 31 z20.toInt.toNat).toInt.toNat).toInt = 1
                         · rw [c178_2 q, c154_2 q]; exact ⟨⟨s64.2.2.1, s64.2.1⟩, by omega, by omega, by omega⟩
                         · rw [c178_3 q, c154_3 q]; exact ⟨⟨s64.2.1, s64.2.2.1⟩, by omega, by omega, by omega⟩
                       have iA : (I184 0 47).toInt = (I91 0 47).toInt := congrArg Int32.toInt ((c184_1 47 rfl).trans (c160_1 47 rfl))
                       have i9 : (I91 0 48).toInt = z20.toInt := congrArg Int32.toInt i91
                       have iB : (I160 0 48).toInt.toNat = z20.toInt.toNat + 1 := by omega
                       have iC : (I91 0 48).toInt.toNat = z20.toInt.toNat := by rw [i91]
                       exact oI_given (t := z20.toInt.toNat) (n1 := x154) (n2 := x178) (t1 := J7 32 z20.toInt.toNat) (t2 := x91) (p1 := vp_nar .boolean (Int32.ofInt 1)) (p2 := vp_nar .boolean (Int32.ofInt 0)) (wn := x178) (is := x154) (b := x91) (y := z124) (z0 := Int32.ofInt 0) (k := z111.toInt.toNat) hR7c u7_1 tt rfl g87 (by omega) ((c184_1 45 rfl).trans ((c160_1 45 rfl).trans (c91_1 45 rfl))) ((c184_1 46 rfl).trans ((c160_1 46 rfl).trans (c91_1 46 rfl))) (by omega) (by omega) ((c184_1 24 rfl).trans ((c160_1 24 rfl).trans (c91_1 24 rfl))) (by rw [c184_5, c160_5, r91.2.2.2.2.2.1, iB, iC]) (by rw [c184_6, c160_6, r91.2.2.2.2.2.2.1, iB, iC]) (by rw [c184_7, c160_7, r91.2.2.2.2.2.2.2, iB, iC]) (Or.inr ⟨rfl, rfl, rfl, rfl, rfl, rfl⟩) X.1 X.2 ((c184_2 27 rfl).trans ((c160_2 27 rfl).trans (congrArg (fun f => upd f _ _) r91.2.2.2.1))) (by omega) ((c184_2 28 rfl).trans ((c160_2 28 rfl).trans (congrArg (fun f => upd f _ _) r91.2.2.2.2.1))) (by omega) ((c184_2 29 rfl).trans ((c160_2 29 rfl).trans c91_6)) rfl ((c184_2 6 rfl).trans ((c160_2 6 rfl).trans (c91_2 6 rfl))) ((c184_2 8 rfl).trans ((c160_2 8 rfl).trans (c91_2 8 rfl))) ((c184_2 11 rfl).trans ((c160_2 11 rfl).trans (c91_2 11 rfl))) ((c184_2 22 rfl).trans ((c160_2 22 rfl).trans (c91_2 22 rfl))) ((c184_2 24 rfl).trans ((c160_2 24 rfl).trans (c91_2 24 rfl))) ((c184_2 25 rfl).trans ((c160_2 25 rfl).trans (c91_2 25 rfl))) ((c184_2 26 rfl).trans ((c160_2 26 rfl).trans (c91_2 26 rfl))) ((c184_2 33 rfl).trans ((c160_2 33 rfl).trans (c91_2 33 rfl))))
                    | (have X : (lvn J7 x243.toInt ∧ lvn J7 x256.toInt) ∧ 1 ≤ (J7 6 x243.toInt.toNat).toInt ∧ 1 ≤ (J7 6 x256.toInt.toNat).toInt ∧ (J7 6 x243.toInt.toNat).toInt + (J7 6 x256.toInt.toNat).toInt = tlv J7 z20.toInt.toNat := by
                         by_cases q : (J7 3 (J7 31 z20.toInt.toNat).toInt.toNat).toInt = 1
                         · rw [c243_2 q, c256_2 q]; exact ⟨⟨s64.2.2.1, s64.2.1⟩, by omega, by omega, by omega⟩
                         · rw [c243_3 q, c256_3 q]; exact ⟨⟨s64.2.1, s64.2.2.1⟩, by omega, by omega, by omega⟩
                       have iA : (I262 0 46).toInt = (I193 0 46).toInt := congrArg Int32.toInt ((c262_1 46 rfl).trans (c249_1 46 rfl))
                       have i9 : (I193 0 48).toInt = z20.toInt := congrArg Int32.toInt i193
                       have iB : (I249 0 48).toInt.toNat = z20.toInt.toNat + 1 := by omega
                       have iC : (I193 0 48).toInt.toNat = z20.toInt.toNat := by rw [i193]
                       exact oI_wanted (t := z20.toInt.toNat) (n1 := x243) (n2 := x256) (t1 := x193) (t2 := J7 32 z20.toInt.toNat) (p1 := vp_nar .boolean (Int32.ofInt 1)) (p2 := vp_nar .boolean (Int32.ofInt 0)) (wn := x243) (is := x256) (b := x193) (y := z226) (z0 := Int32.ofInt 0) hR7c u7_1 tt rfl h87 (by omega) ((c262_1 45 rfl).trans ((c249_1 45 rfl).trans (c193_1 45 rfl))) (by omega) ((c262_1 47 rfl).trans ((c249_1 47 rfl).trans (c193_1 47 rfl))) (by omega) ((c262_1 24 rfl).trans ((c249_1 24 rfl).trans (c193_1 24 rfl))) (by rw [c262_5, c249_5, r193.2.2.2.2.2.1, iB, iC]) (by rw [c262_6, c249_6, r193.2.2.2.2.2.2.1, iB, iC]) (by rw [c262_7, c249_7, r193.2.2.2.2.2.2.2, iB, iC]) (Or.inl ⟨rfl, rfl, rfl, rfl, rfl, rfl⟩) X.1 X.2 ((c262_2 29 rfl).trans ((c249_2 29 rfl).trans (congrArg (fun f => upd f _ _) r193.2.2.2.1))) (by omega) ((c262_2 26 rfl).trans ((c249_2 26 rfl).trans c193_6)) ((c262_2 27 rfl).trans ((c249_2 27 rfl).trans c193_7)) rfl ((c262_2 6 rfl).trans ((c249_2 6 rfl).trans (c193_2 6 rfl))) ((c262_2 8 rfl).trans ((c249_2 8 rfl).trans (c193_2 8 rfl))) ((c262_2 11 rfl).trans ((c249_2 11 rfl).trans (c193_2 11 rfl))) ((c262_2 22 rfl).trans ((c249_2 22 rfl).trans (c193_2 22 rfl))) ((c262_2 24 rfl).trans ((c249_2 24 rfl).trans (c193_2 24 rfl))) ((c262_2 25 rfl).trans ((c249_2 25 rfl).trans (c193_2 25 rfl))) ((c262_2 28 rfl).trans ((c249_2 28 rfl).trans (c193_2 28 rfl))) ((c262_2 33 rfl).trans ((c249_2 33 rfl).trans (c193_2 33 rfl))))
                    | (have X : (lvn J7 x280.toInt ∧ lvn J7 x256.toInt) ∧ 1 ≤ (J7 6 x280.toInt.toNat).toInt ∧ 1 ≤ (J7 6 x256.toInt.toNat).toInt ∧ (J7 6 x280.toInt.toNat).toInt + (J7 6 x256.toInt.toNat).toInt = tlv J7 z20.toInt.toNat := by
                         by_cases q : (J7 3 (J7 31 z20.toInt.toNat).toInt.toNat).toInt = 1
                         · rw [c280_2 q, c256_2 q]; exact ⟨⟨s64.2.2.1, s64.2.1⟩, by omega, by omega, by omega⟩
                         · rw [c280_3 q, c256_3 q]; exact ⟨⟨s64.2.1, s64.2.2.1⟩, by omega, by omega, by omega⟩
                       have iA : (I286 0 46).toInt = (I193 0 46).toInt := congrArg Int32.toInt ((c286_1 46 rfl).trans (c262_1 46 rfl))
                       have i9 : (I193 0 48).toInt = z20.toInt := congrArg Int32.toInt i193
                       have iB : (I262 0 48).toInt.toNat = z20.toInt.toNat + 1 := by omega
                       have iC : (I193 0 48).toInt.toNat = z20.toInt.toNat := by rw [i193]
                       exact oI_wanted (t := z20.toInt.toNat) (n1 := x256) (n2 := x280) (t1 := J7 32 z20.toInt.toNat) (t2 := x193) (p1 := vp_nar .boolean (Int32.ofInt 0)) (p2 := vp_nar .boolean (Int32.ofInt 1)) (wn := x280) (is := x256) (b := x193) (y := z226) (z0 := Int32.ofInt 0) hR7c u7_1 tt rfl h87 (by omega) ((c286_1 45 rfl).trans ((c262_1 45 rfl).trans (c193_1 45 rfl))) (by omega) ((c286_1 47 rfl).trans ((c262_1 47 rfl).trans (c193_1 47 rfl))) (by omega) ((c286_1 24 rfl).trans ((c262_1 24 rfl).trans (c193_1 24 rfl))) (by rw [c286_5, c262_5, r193.2.2.2.2.2.1, iB, iC]) (by rw [c286_6, c262_6, r193.2.2.2.2.2.2.1, iB, iC]) (by rw [c286_7, c262_7, r193.2.2.2.2.2.2.2, iB, iC]) (Or.inr ⟨rfl, rfl, rfl, rfl, rfl, rfl⟩) X.1 X.2 ((c286_2 29 rfl).trans ((c262_2 29 rfl).trans (congrArg (fun f => upd f _ _) r193.2.2.2.1))) (by omega) ((c286_2 26 rfl).trans ((c262_2 26 rfl).trans c193_6)) ((c286_2 27 rfl).trans ((c262_2 27 rfl).trans c193_7)) rfl ((c286_2 6 rfl).trans ((c262_2 6 rfl).trans (c193_2 6 rfl))) ((c286_2 8 rfl).trans ((c262_2 8 rfl).trans (c193_2 8 rfl))) ((c286_2 11 rfl).trans ((c262_2 11 rfl).trans (c193_2 11 rfl))) ((c286_2 22 rfl).trans ((c262_2 22 rfl).trans (c193_2 22 rfl))) ((c286_2 24 rfl).trans ((c262_2 24 rfl).trans (c193_2 24 rfl))) ((c286_2 25 rfl).trans ((c262_2 25 rfl).trans (c193_2 25 rfl))) ((c286_2 28 rfl).trans ((c262_2 28 rfl).trans (c193_2 28 rfl))) ((c286_2 33 rfl).trans ((c262_2 33 rfl).trans (c193_2 33 rfl))))
                  have m289 : 0 ≤ 2 * tS (tlv I286) (I286 0 48).toInt.toNat - (I286 0 48).toInt ∧ 2 * tS (tlv I286) (I286 0 48).toInt.toNat - (I286 0 48).toInt < 2 * tS (tlv J7) (J7 0 48).toInt.toNat - (J7 0 48).toInt := by
                    have n9 := tk_num q289.1
                    first
                    | omega
                    | (exfalso; omega)
                    | (have j := congrArg Int32.toInt (show I160 0 45 = J7 0 45 from (c160_1 45 rfl).trans ((c147_1 45 rfl).trans (c91_1 45 rfl)))
                       have i9 : (I91 0 48).toInt = z20.toInt := congrArg Int32.toInt i91
                       omega)
                    | (have j := congrArg Int32.toInt (show I184 0 45 = J7 0 45 from (c184_1 45 rfl).trans ((c160_1 45 rfl).trans (c91_1 45 rfl)))
                       have i9 : (I91 0 48).toInt = z20.toInt := congrArg Int32.toInt i91
                       omega)
                    | (have j := congrArg Int32.toInt (show I262 0 45 = J7 0 45 from (c262_1 45 rfl).trans ((c249_1 45 rfl).trans (c193_1 45 rfl)))
                       have i9 : (I193 0 48).toInt = z20.toInt := congrArg Int32.toInt i193
                       omega)
                    | (have j := congrArg Int32.toInt (show I286 0 45 = J7 0 45 from (c286_1 45 rfl).trans ((c262_1 45 rfl).trans (c193_1 45 rfl)))
                       have i9 : (I193 0 48).toInt = z20.toInt := congrArg Int32.toInt i193
                       omega)
                  have r7_18 : 0 ≤ (I286 0 48).toInt ∧ (I286 0 48).toInt ≤ 60 := c286_0 0 48
                  exact ⟨(by intro q9 h9; simp only [List.mem_cons, List.not_mem_nil, or_false] at h9; rcases h9 with h9 | h9 | h9 | h9 <;> subst h9 <;> repeat (first | exact List.mem_cons_self | apply List.mem_cons_of_mem)), rfl, rfl, c286_0, hF286, hO286, hmL286, (show oI I I286 ((I 0 45).toInt + (I 6 nd.toInt.toNat).toInt) from by first | assumption | omega), (show 0 ≤ 2 * tS (tlv I286) (I286 0 48).toInt.toNat - (I286 0 48).toInt from by first | assumption | omega), (show (2 * tS (tlv I286) (I286 0 48).toInt.toNat - (I286 0 48).toInt) < n7 from by omega)⟩
            · intro h87
              have h87 : ¬ (J7 34 (z20.toInt.toNat)).toInt = 0 := h87
              try have g87 : (J7 34 z20.toInt.toNat).toInt = 1 := by omega
              try have m87 := o3 g87
              try have f87 := o4 h87
              refine And.intro ⟨hR21, (show (J7 0 47).toInt ≤ 39 from by first | assumption | omega)⟩ ?_
              intro x91 I91 L91 hq91
              have hq91 : mR I91 ∧ f_fo [47] (va_up J7 0 (va_up (J7 0) 48 z20)) I91 ∧ f_fr [0, 29] (va_up J7 0 (va_up (J7 0) 48 z20)) I91 ∧ L91 = L ∧ x91.toInt = (J7 0 47).toInt ∧ (I91 0 47).toInt = (J7 0 47).toInt + 1 ∧ I91 29 = upd (J7 29) (J7 0 47).toInt.toNat (Int32.ofInt 0) := hq91
              obtain ⟨c91_0, c91_1, c91_2, eL91, c91_4, c91_5, c91_6⟩ := hq91
              replace eL91 := eL91.symm
              subst eL91
              have hO91 := f_fo_tr hO21 c91_1 rfl
              have hmL91 := f_depo_fo mL_dep hmL21 c91_2 c91_1 rfl rfl
              have hF91 := f_fr_tr hF21 c91_2 rfl
              have r91 : I91 3 = J7 3 ∧ I91 4 = J7 4 ∧ I91 5 = J7 5 ∧ I91 27 = J7 27 ∧ I91 28 = J7 28 ∧ I91 31 = J7 31 ∧ I91 32 = J7 32 ∧ I91 34 = J7 34 := ⟨c91_2 3 rfl, c91_2 4 rfl, c91_2 5 rfl, c91_2 27 rfl, c91_2 28 rfl, c91_2 31 rfl, c91_2 32 rfl, c91_2 34 rfl⟩
              have i91 : I91 0 48 = z20 := c91_1 48 rfl
              have a91 : 0 ≤ (I91 27 (J7 32 z20.toInt.toNat).toInt.toNat).toInt ∧ (I91 27 (J7 32 z20.toInt.toNat).toInt.toNat).toInt ≤ 2 ∧ (I91 27 (J7 32 z20.toInt.toNat).toInt.toNat).toInt = (J7 27 (J7 32 z20.toInt.toNat).toInt.toNat).toInt := by
                rw [r91.2.2.2.1]
                have := (hR7c 27 (J7 32 z20.toInt.toNat).toInt.toNat).1
                have : 0 ≤ (J7 27 (J7 32 z20.toInt.toNat).toInt.toNat).toInt := this
                omega
              intro z103 q103 _ hq103 hl103 hu103
              have hq103 : z103.toInt = 4 * (J7 32 (z20.toInt.toNat)).toInt + 4294967296 * q103 := hq103
              try have hz103 : z103.toInt = 4 * (J7 32 (z20.toInt.toNat)).toInt := by omega
              refine And.intro (show f_in (J7 32 (z20.toInt.toNat)) 40 from ⟨show 0 ≤ (J7 32 (z20.toInt.toNat)).toInt from by omega, show (J7 32 (z20.toInt.toNat)).toInt < 40 from by omega⟩) ?_
              have r110_7 : 0 ≤ (I91 27 ((J7 32 (z20.toInt.toNat)).toInt.toNat)).toInt ∧ (I91 27 ((J7 32 (z20.toInt.toNat)).toInt.toNat)).toInt ≤ 4 := c91_0 27 ((J7 32 (z20.toInt.toNat)).toInt.toNat)
              have e110_8 : (I91 27 ((J7 32 (z20.toInt.toNat)).toInt.toNat)).toInt = (J7 27 ((J7 32 (z20.toInt.toNat)).toInt.toNat)).toInt := congrArg Int32.toInt (congrFun (c91_2 27 rfl) ((J7 32 (z20.toInt.toNat)).toInt.toNat))
              intro z111 q111 _ hq111 hl111 hu111
              have hq111 : z111.toInt = z103.toInt + (I91 27 ((J7 32 (z20.toInt.toNat)).toInt.toNat)).toInt + 4294967296 * q111 := hq111
              try have hz111 : z111.toInt = z103.toInt + (I91 27 ((J7 32 (z20.toInt.toNat)).toInt.toNat)).toInt := by omega
              refine And.intro (show f_in z111 160 from ⟨show 0 ≤ z111.toInt from by omega, show z111.toInt < 160 from by omega⟩) ?_
              have hR114 := mR_a (k := 28) (j := z111.toInt.toNat) (x := x91) c91_0 (show 0 ≤ x91.toInt ∧ x91.toInt ≤ 39 from ⟨by omega, by omega⟩)
              have hF114 := f_fr_up (k := 28) (r := upd (I91 28) (z111.toInt.toNat) x91) hF91 rfl
              have hO114 := f_fo_ne (k := 28) (r := upd (I91 28) (z111.toInt.toNat) x91) hO91 (by decide)
              have hmL114 := f_depo_up mL_dep (k := 28) (r := upd (I91 28) (z111.toInt.toNat) x91) hmL91 rfl (by decide)
              refine And.intro (show f_in (J7 32 (z20.toInt.toNat)) 40 from ⟨show 0 ≤ (J7 32 (z20.toInt.toNat)).toInt from by omega, show (J7 32 (z20.toInt.toNat)).toInt < 40 from by omega⟩) ?_
              intro z124 q124 _ hq124 hl124 hu124
              have hq124 : z124.toInt = (I91 27 ((J7 32 (z20.toInt.toNat)).toInt.toNat)).toInt + 1 + 4294967296 * q124 := hq124
              try have hz124 : z124.toInt = (I91 27 ((J7 32 (z20.toInt.toNat)).toInt.toNat)).toInt + 1 := by omega
              refine And.intro (show f_in (J7 32 (z20.toInt.toNat)) 40 from ⟨show 0 ≤ (J7 32 (z20.toInt.toNat)).toInt from by omega, show (J7 32 (z20.toInt.toNat)).toInt < 40 from by omega⟩) ?_
              have hR125 := mR_a (k := 27) (j := (J7 32 (z20.toInt.toNat)).toInt.toNat) (x := z124) hR114 (show 0 ≤ z124.toInt ∧ z124.toInt ≤ 4 from ⟨by omega, by omega⟩)
              have hF125 := f_fr_up (k := 27) (r := upd (I91 27) ((J7 32 (z20.toInt.toNat)).toInt.toNat) z124) hF114 rfl
              have hO125 := f_fo_ne (k := 27) (r := upd (I91 27) ((J7 32 (z20.toInt.toNat)).toInt.toNat) z124) hO114 (by decide)
              have hmL125 := f_depo_up mL_dep (k := 27) (r := upd (I91 27) ((J7 32 (z20.toInt.toNat)).toInt.toNat) z124) hmL114 rfl (by decide)
              refine And.intro (show f_in (J7 31 (z20.toInt.toNat)) 1600 from ⟨show 0 ≤ (J7 31 (z20.toInt.toNat)).toInt from by omega, show (J7 31 (z20.toInt.toNat)).toInt < 1600 from by omega⟩) ?_
              have r132_9 : 0 ≤ (I91 3 ((J7 31 (z20.toInt.toNat)).toInt.toNat)).toInt ∧ (I91 3 ((J7 31 (z20.toInt.toNat)).toInt.toNat)).toInt ≤ 2 := hR125 3 ((J7 31 (z20.toInt.toNat)).toInt.toNat)
              have e132_10 : (I91 3 ((J7 31 (z20.toInt.toNat)).toInt.toNat)).toInt = (J7 3 ((J7 31 (z20.toInt.toNat)).toInt.toNat)).toInt := congrArg Int32.toInt (congrFun (c91_2 3 rfl) ((J7 31 (z20.toInt.toNat)).toInt.toNat))
              apply And.intro
              · intro h134
                have h134 : ¬ (I91 3 ((J7 31 (z20.toInt.toNat)).toInt.toNat)).toInt = 1 := h134
                refine And.intro ⟨(show 0 ≤ (J7 31 (z20.toInt.toNat)).toInt from by first | assumption | omega), (show (J7 31 (z20.toInt.toNat)).toInt ≤ 1599 from by first | assumption | omega)⟩ ?_
                intro x154 I154 L154 hq154
                have hq154 : I154 = (va_up (va_up I91 28 (upd (I91 28) (z111.toInt.toNat) x91)) 27 (upd (I91 27) ((J7 32 (z20.toInt.toNat)).toInt.toNat) z124)) ∧ L154 = L ∧ (((I91 3 (J7 31 (z20.toInt.toNat)).toInt.toNat).toInt = 1 → x154 = I91 4 (J7 31 (z20.toInt.toNat)).toInt.toNat)) ∧ ((¬ (I91 3 (J7 31 (z20.toInt.toNat)).toInt.toNat).toInt = 1 → x154 = I91 5 (J7 31 (z20.toInt.toNat)).toInt.toNat)) := hq154
                obtain ⟨eI154, eL154, c154_2, c154_3⟩ := hq154
                replace eI154 := eI154.symm
                subst eI154
                replace eL154 := eL154.symm
                subst eL154
                have e154 : (I91 3) = J7 3 ∧ (I91 4) = J7 4 ∧ (I91 5) = J7 5 := by first | exact ⟨r91.1, r91.2.1, r91.2.2.1⟩ | exact ⟨(c147_2 3 rfl).trans r91.1, (c147_2 4 rfl).trans r91.2.1, (c147_2 5 rfl).trans r91.2.2.1⟩
                simp only [e154.1, e154.2.1, e154.2.2] at c154_2 c154_3
                have v154 : 0 ≤ x154.toInt ∧ x154.toInt ≤ 1599 := by by_cases q : (J7 3 (J7 31 z20.toInt.toNat).toInt.toNat).toInt = 1; (rw [c154_2 q]; omega); (rw [c154_3 q]; omega)
                have e160_12 : (I91 0 48).toInt = z20.toInt := congrArg Int32.toInt (c91_1 48 rfl)
                refine And.intro ⟨hR125, (show (I91 0 48).toInt ≤ 59 from by first | assumption | omega), (show 0 ≤ x154.toInt from by first | assumption | omega), (show x154.toInt ≤ 1599 from by first | assumption | omega), (show 0 ≤ (J7 32 (z20.toInt.toNat)).toInt from by first | assumption | omega), (show (J7 32 (z20.toInt.toNat)).toInt ≤ 39 from by first | assumption | omega)⟩ ?_
                intro I160 L160 hq160
                have hq160 : mR I160 ∧ f_fo [48] (va_up (va_up I91 28 (upd (I91 28) (z111.toInt.toNat) x91)) 27 (upd (I91 27) ((J7 32 (z20.toInt.toNat)).toInt.toNat) z124)) I160 ∧ f_fr [0, 31, 32, 34] (va_up (va_up I91 28 (upd (I91 28) (z111.toInt.toNat) x91)) 27 (upd (I91 27) ((J7 32 (z20.toInt.toNat)).toInt.toNat) z124)) I160 ∧ L160 = L ∧ (I160 0 48).toInt = (I91 0 48).toInt + 1 ∧ I160 31 = upd (I91 31) (I91 0 48).toInt.toNat x154 ∧ I160 32 = upd (I91 32) (I91 0 48).toInt.toNat (J7 32 (z20.toInt.toNat)) ∧ I160 34 = upd (I91 34) (I91 0 48).toInt.toNat (vp_nar .boolean (Int32.ofInt 1)) := hq160
                obtain ⟨c160_0, c160_1, c160_2, eL160, c160_4, c160_5, c160_6, c160_7⟩ := hq160
                replace eL160 := eL160.symm
                subst eL160
                have hO160 := f_fo_tr hO125 c160_1 rfl
                have hmL160 := f_depo_fo mL_dep hmL125 c160_2 c160_1 rfl rfl
                have hF160 := f_fr_tr hF125 c160_2 rfl
                refine And.intro (show f_in (J7 31 (z20.toInt.toNat)) 1600 from ⟨show 0 ≤ (J7 31 (z20.toInt.toNat)).toInt from by omega, show (J7 31 (z20.toInt.toNat)).toInt < 1600 from by omega⟩) ?_
                have r169_13 : 0 ≤ (I160 3 ((J7 31 (z20.toInt.toNat)).toInt.toNat)).toInt ∧ (I160 3 ((J7 31 (z20.toInt.toNat)).toInt.toNat)).toInt ≤ 2 := c160_0 3 ((J7 31 (z20.toInt.toNat)).toInt.toNat)
                have e169_14 : (I160 3 ((J7 31 (z20.toInt.toNat)).toInt.toNat)).toInt = (I91 3 ((J7 31 (z20.toInt.toNat)).toInt.toNat)).toInt := congrArg Int32.toInt (congrFun (c160_2 3 rfl) ((J7 31 (z20.toInt.toNat)).toInt.toNat))
                apply And.intro
                · intro h171
                  have h171 : ¬ (I160 3 ((J7 31 (z20.toInt.toNat)).toInt.toNat)).toInt = 2 := h171
                  have q289 : oI I I160 ((I 0 45).toInt + (I 6 nd.toInt.toNat).toInt) := by
                    first
                    | (exfalso; omega)
                    | (have h1 : tlv J7 z20.toInt.toNat = 1 := by rw [tl]; rcases l4 with q | q; exact q.2; exact absurd h64 q.1
                       have e48 : (I79 0 48).toInt = z20.toInt := congrArg Int32.toInt (c79_1 48 rfl)
                       exact oI_end (t := z20.toInt.toNat) hR7c u7_1 tt h1 rfl (f_nar01 o1) (by omega) (c79_1 46 rfl) (c79_1 47 rfl) (by omega) (c79_1 24 rfl) c79_5 c79_6 c79_7 c79_8 (c79_2 6 rfl) (c79_2 8 rfl) (c79_2 11 rfl) (c79_2 26 rfl) (c79_2 27 rfl) (c79_2 28 rfl) (c79_2 29 rfl) (c79_2 31 rfl) (c79_2 32 rfl) (c79_2 34 rfl))
                    | (have X : (lvn J7 x141.toInt ∧ lvn J7 x154.toInt) ∧ 1 ≤ (J7 6 x141.toInt.toNat).toInt ∧ 1 ≤ (J7 6 x154.toInt.toNat).toInt ∧ (J7 6 x141.toInt.toNat).toInt + (J7 6 x154.toInt.toNat).toInt = tlv J7 z20.toInt.toNat := by
                         by_cases q : (J7 3 (J7 31 z20.toInt.toNat).toInt.toNat).toInt = 1
                         · rw [c141_2 q, c154_2 q]; exact ⟨⟨s64.2.2.1, s64.2.1⟩, by omega, by omega, by omega⟩
                         · rw [c141_3 q, c154_3 q]; exact ⟨⟨s64.2.1, s64.2.2.1⟩, by omega, by omega, by omega⟩
                       have iA : (I160 0 47).toInt = (I91 0 47).toInt := congrArg Int32.toInt ((c160_1 47 rfl).trans (c147_1 47 rfl))
                       have i9 : (I91 0 48).toInt = z20.toInt := congrArg Int32.toInt i91
                       have iB : (I147 0 48).toInt.toNat = z20.toInt.toNat + 1 := by omega
                       have iC : (I91 0 48).toInt.toNat = z20.toInt.toNat := by rw [i91]
                       exact oI_given (t := z20.toInt.toNat) (n1 := x141) (n2 := x154) (t1 := x91) (t2 := J7 32 z20.toInt.toNat) (p1 := vp_nar .boolean (Int32.ofInt 0)) (p2 := vp_nar .boolean (Int32.ofInt 1)) (wn := x141) (is := x154) (b := x91) (y := z124) (z0 := Int32.ofInt 0) (k := z111.toInt.toNat) hR7c u7_1 tt rfl g87 (by omega) ((c160_1 45 rfl).trans ((c147_1 45 rfl).trans (c91_1 45 rfl))) ((c160_1 46 rfl).trans ((c147_1 46 rfl).trans (c91_1 46 rfl))) (by omega) (by omega) ((c160_1 24 rfl).trans ((c147_1 24 rfl).trans (c91_1 24 rfl))) (by rw [c160_5, c147_5, r91.2.2.2.2.2.1, iB, iC]) (by rw [c160_6, c147_6, r91.2.2.2.2.2.2.1, iB, iC]) (by rw [c160_7, c147_7, r91.2.2.2.2.2.2.2, iB, iC]) (Or.inl ⟨rfl, rfl, rfl, rfl, rfl, rfl⟩) X.1 X.2 ((c160_2 27 rfl).trans ((c147_2 27 rfl).trans (congrArg (fun f => upd f _ _) r91.2.2.2.1))) (by omega) ((c160_2 28 rfl).trans ((c147_2 28 rfl).trans (congrArg (fun f => upd f _ _) r91.2.2.2.2.1))) (by omega) ((c160_2 29 rfl).trans ((c147_2 29 rfl).trans c91_6)) rfl ((c160_2 6 rfl).trans ((c147_2 6 rfl).trans (c91_2 6 rfl))) ((c160_2 8 rfl).trans ((c147_2 8 rfl).trans (c91_2 8 rfl))) ((c160_2 11 rfl).trans ((c147_2 11 rfl).trans (c91_2 11 rfl))) ((c160_2 22 rfl).trans ((c147_2 22 rfl).trans (c91_2 22 rfl))) ((c160_2 24 rfl).trans ((c147_2 24 rfl).trans (c91_2 24 rfl))) ((c160_2 25 rfl).trans ((c147_2 25 rfl).trans (c91_2 25 rfl))) ((c160_2 26 rfl).trans ((c147_2 26 rfl).trans (c91_2 26 rfl))) ((c160_2 33 rfl).trans ((c147_2 33 rfl).trans (c91_2 33 rfl))))
                    | (have X : (lvn J7 x178.toInt ∧ lvn J7 x154.toInt) ∧ 1 ≤ (J7 6 x178.toInt.toNat).toInt ∧ 1 ≤ (J7 6 x154.toInt.toNat).toInt ∧ (J7 6 x178.toInt.toNat).toInt + (J7 6 x154.toInt.toNat).toInt = tlv J7 z20.toInt.toNat := by
                         by_cases q : (J7 3 (J7 31 z20.toInt.toNat).toInt.toNat).toInt = 1
                         · rw [c178_2 q, c154_2 q]; exact ⟨⟨s64.2.2.1, s64.2.1⟩, by omega, by omega, by omega⟩
                         · rw [c178_3 q, c154_3 q]; exact ⟨⟨s64.2.1, s64.2.2.1⟩, by omega, by omega, by omega⟩
                       have iA : (I184 0 47).toInt = (I91 0 47).toInt := congrArg Int32.toInt ((c184_1 47 rfl).trans (c160_1 47 rfl))
                       have i9 : (I91 0 48).toInt = z20.toInt := congrArg Int32.toInt i91
                       have iB : (I160 0 48).toInt.toNat = z20.toInt.toNat + 1 := by omega
                       have iC : (I91 0 48).toInt.toNat = z20.toInt.toNat := by rw [i91]
                       exact oI_given (t := z20.toInt.toNat) (n1 := x154) (n2 := x178) (t1 := J7 32 z20.toInt.toNat) (t2 := x91) (p1 := vp_nar .boolean (Int32.ofInt 1)) (p2 := vp_nar .boolean (Int32.ofInt 0)) (wn := x178) (is := x154) (b := x91) (y := z124) (z0 := Int32.ofInt 0) (k := z111.toInt.toNat) hR7c u7_1 tt rfl g87 (by omega) ((c184_1 45 rfl).trans ((c160_1 45 rfl).trans (c91_1 45 rfl))) ((c184_1 46 rfl).trans ((c160_1 46 rfl).trans (c91_1 46 rfl))) (by omega) (by omega) ((c184_1 24 rfl).trans ((c160_1 24 rfl).trans (c91_1 24 rfl))) (by rw [c184_5, c160_5, r91.2.2.2.2.2.1, iB, iC]) (by rw [c184_6, c160_6, r91.2.2.2.2.2.2.1, iB, iC]) (by rw [c184_7, c160_7, r91.2.2.2.2.2.2.2, iB, iC]) (Or.inr ⟨rfl, rfl, rfl, rfl, rfl, rfl⟩) X.1 X.2 ((c184_2 27 rfl).trans ((c160_2 27 rfl).trans (congrArg (fun f => upd f _ _) r91.2.2.2.1))) (by omega) ((c184_2 28 rfl).trans ((c160_2 28 rfl).trans (congrArg (fun f => upd f _ _) r91.2.2.2.2.1))) (by omega) ((c184_2 29 rfl).trans ((c160_2 29 rfl).trans c91_6)) rfl ((c184_2 6 rfl).trans ((c160_2 6 rfl).trans (c91_2 6 rfl))) ((c184_2 8 rfl).trans ((c160_2 8 rfl).trans (c91_2 8 rfl))) ((c184_2 11 rfl).trans ((c160_2 11 rfl).trans (c91_2 11 rfl))) ((c184_2 22 rfl).trans ((c160_2 22 rfl).trans (c91_2 22 rfl))) ((c184_2 24 rfl).trans ((c160_2 24 rfl).trans (c91_2 24 rfl))) ((c184_2 25 rfl).trans ((c160_2 25 rfl).trans (c91_2 25 rfl))) ((c184_2 26 rfl).trans ((c160_2 26 rfl).trans (c91_2 26 rfl))) ((c184_2 33 rfl).trans ((c160_2 33 rfl).trans (c91_2 33 rfl))))
                    | (have X : (lvn J7 x243.toInt ∧ lvn J7 x256.toInt) ∧ 1 ≤ (J7 6 x243.toInt.toNat).toInt ∧ 1 ≤ (J7 6 x256.toInt.toNat).toInt ∧ (J7 6 x243.toInt.toNat).toInt + (J7 6 x256.toInt.toNat).toInt = tlv J7 z20.toInt.toNat := by
                         by_cases q : (J7 3 (J7 31 z20.toInt.toNat).toInt.toNat).toInt = 1
                         · rw [c243_2 q, c256_2 q]; exact ⟨⟨s64.2.2.1, s64.2.1⟩, by omega, by omega, by omega⟩
                         · rw [c243_3 q, c256_3 q]; exact ⟨⟨s64.2.1, s64.2.2.1⟩, by omega, by omega, by omega⟩
                       have iA : (I262 0 46).toInt = (I193 0 46).toInt := congrArg Int32.toInt ((c262_1 46 rfl).trans (c249_1 46 rfl))
                       have i9 : (I193 0 48).toInt = z20.toInt := congrArg Int32.toInt i193
                       have iB : (I249 0 48).toInt.toNat = z20.toInt.toNat + 1 := by omega
                       have iC : (I193 0 48).toInt.toNat = z20.toInt.toNat := by rw [i193]
                       exact oI_wanted (t := z20.toInt.toNat) (n1 := x243) (n2 := x256) (t1 := x193) (t2 := J7 32 z20.toInt.toNat) (p1 := vp_nar .boolean (Int32.ofInt 1)) (p2 := vp_nar .boolean (Int32.ofInt 0)) (wn := x243) (is := x256) (b := x193) (y := z226) (z0 := Int32.ofInt 0) hR7c u7_1 tt rfl h87 (by omega) ((c262_1 45 rfl).trans ((c249_1 45 rfl).trans (c193_1 45 rfl))) (by omega) ((c262_1 47 rfl).trans ((c249_1 47 rfl).trans (c193_1 47 rfl))) (by omega) ((c262_1 24 rfl).trans ((c249_1 24 rfl).trans (c193_1 24 rfl))) (by rw [c262_5, c249_5, r193.2.2.2.2.2.1, iB, iC]) (by rw [c262_6, c249_6, r193.2.2.2.2.2.2.1, iB, iC]) (by rw [c262_7, c249_7, r193.2.2.2.2.2.2.2, iB, iC]) (Or.inl ⟨rfl, rfl, rfl, rfl, rfl, rfl⟩) X.1 X.2 ((c262_2 29 rfl).trans ((c249_2 29 rfl).trans (congrArg (fun f => upd f _ _) r193.2.2.2.1))) (by omega) ((c262_2 26 rfl).trans ((c249_2 26 rfl).trans c193_6)) ((c262_2 27 rfl).trans ((c249_2 27 rfl).trans c193_7)) rfl ((c262_2 6 rfl).trans ((c249_2 6 rfl).trans (c193_2 6 rfl))) ((c262_2 8 rfl).trans ((c249_2 8 rfl).trans (c193_2 8 rfl))) ((c262_2 11 rfl).trans ((c249_2 11 rfl).trans (c193_2 11 rfl))) ((c262_2 22 rfl).trans ((c249_2 22 rfl).trans (c193_2 22 rfl))) ((c262_2 24 rfl).trans ((c249_2 24 rfl).trans (c193_2 24 rfl))) ((c262_2 25 rfl).trans ((c249_2 25 rfl).trans (c193_2 25 rfl))) ((c262_2 28 rfl).trans ((c249_2 28 rfl).trans (c193_2 28 rfl))) ((c262_2 33 rfl).trans ((c249_2 33 rfl).trans (c193_2 33 rfl))))
                    | (have X : (lvn J7 x280.toInt ∧ lvn J7 x256.toInt) ∧ 1 ≤ (J7 6 x280.toInt.toNat).toInt ∧ 1 ≤ (J7 6 x256.toInt.toNat).toInt ∧ (J7 6 x280.toInt.toNat).toInt + (J7 6 x256.toInt.toNat).toInt = tlv J7 z20.toInt.toNat := by
                         by_cases q : (J7 3 (J7 31 z20.toInt.toNat).toInt.toNat).toInt = 1
                         · rw [c280_2 q, c256_2 q]; exact ⟨⟨s64.2.2.1, s64.2.1⟩, by omega, by omega, by omega⟩
                         · rw [c280_3 q, c256_3 q]; exact ⟨⟨s64.2.1, s64.2.2.1⟩, by omega, by omega, by omega⟩
                       have iA : (I286 0 46).toInt = (I193 0 46).toInt := congrArg Int32.toInt ((c286_1 46 rfl).trans (c262_1 46 rfl))
                       have i9 : (I193 0 48).toInt = z20.toInt := congrArg Int32.toInt i193
                       have iB : (I262 0 48).toInt.toNat = z20.toInt.toNat + 1 := by omega
                       have iC : (I193 0 48).toInt.toNat = z20.toInt.toNat := by rw [i193]
                       exact oI_wanted (t := z20.toInt.toNat) (n1 := x256) (n2 := x280) (t1 := J7 32 z20.toInt.toNat) (t2 := x193) (p1 := vp_nar .boolean (Int32.ofInt 0)) (p2 := vp_nar .boolean (Int32.ofInt 1)) (wn := x280) (is := x256) (b := x193) (y := z226) (z0 := Int32.ofInt 0) hR7c u7_1 tt rfl h87 (by omega) ((c286_1 45 rfl).trans ((c262_1 45 rfl).trans (c193_1 45 rfl))) (by omega) ((c286_1 47 rfl).trans ((c262_1 47 rfl).trans (c193_1 47 rfl))) (by omega) ((c286_1 24 rfl).trans ((c262_1 24 rfl).trans (c193_1 24 rfl))) (by rw [c286_5, c262_5, r193.2.2.2.2.2.1, iB, iC]) (by rw [c286_6, c262_6, r193.2.2.2.2.2.2.1, iB, iC]) (by rw [c286_7, c262_7, r193.2.2.2.2.2.2.2, iB, iC]) (Or.inr ⟨rfl, rfl, rfl, rfl, rfl, rfl⟩) X.1 X.2 ((c286_2 29 rfl).trans ((c262_2 29 rfl).trans (congrArg (fun f => upd f _ _) r193.2.2.2.1))) (by omega) ((c286_2 26 rfl).trans ((c262_2 26 rfl).trans c193_6)) ((c286_2 27 rfl).trans ((c262_2 27 rfl).trans c193_7)) rfl ((c286_2 6 rfl).trans ((c262_2 6 rfl).trans (c193_2 6 rfl))) ((c286_2 8 rfl).trans ((c262_2 8 rfl).trans (c193_2 8 rfl))) ((c286_2 11 rfl).trans ((c262_2 11 rfl).trans (c193_2 11 rfl))) ((c286_2 22 rfl).trans ((c262_2 22 rfl).trans (c193_2 22 rfl))) ((c286_2 24 rfl).trans ((c262_2 24 rfl).trans (c193_2 24 rfl))) ((c286_2 25 rfl).trans ((c262_2 25 rfl).trans (c193_2 25 rfl))) ((c286_2 28 rfl).trans ((c262_2 28 rfl).trans (c193_2 28 rfl))) ((c286_2 33 rfl).trans ((c262_2 33 rfl).trans (c193_2 33 rfl))))
                  have m289 : 0 ≤ 2 * tS (tlv I160) (I160 0 48).toInt.toNat - (I160 0 48).toInt ∧ 2 * tS (tlv I160) (I160 0 48).toInt.toNat - (I160 0 48).toInt < 2 * tS (tlv J7) (J7 0 48).toInt.toNat - (J7 0 48).toInt := by
                    have n9 := tk_num q289.1
                    first
                    | omega
                    | (exfalso; omega)
                    | (have j := congrArg Int32.toInt (show I160 0 45 = J7 0 45 from (c160_1 45 rfl).trans ((c147_1 45 rfl).trans (c91_1 45 rfl)))
                       have i9 : (I91 0 48).toInt = z20.toInt := congrArg Int32.toInt i91
                       omega)
                    | (have j := congrArg Int32.toInt (show I184 0 45 = J7 0 45 from (c184_1 45 rfl).trans ((c160_1 45 rfl).trans (c91_1 45 rfl)))
                       have i9 : (I91 0 48).toInt = z20.toInt := congrArg Int32.toInt i91
                       omega)
                    | (have j := congrArg Int32.toInt (show I262 0 45 = J7 0 45 from (c262_1 45 rfl).trans ((c249_1 45 rfl).trans (c193_1 45 rfl)))
                       have i9 : (I193 0 48).toInt = z20.toInt := congrArg Int32.toInt i193
                       omega)
                    | (have j := congrArg Int32.toInt (show I286 0 45 = J7 0 45 from (c286_1 45 rfl).trans ((c262_1 45 rfl).trans (c193_1 45 rfl)))
                       have i9 : (I193 0 48).toInt = z20.toInt := congrArg Int32.toInt i193
                       omega)
                  have r7_15 : 0 ≤ (I160 0 48).toInt ∧ (I160 0 48).toInt ≤ 60 := c160_0 0 48
                  exact ⟨(by intro q9 h9; simp only [List.mem_cons, List.not_mem_nil, or_false] at h9; rcases h9 with h9 | h9 | h9 | h9 <;> subst h9 <;> repeat (first | exact List.mem_cons_self | apply List.mem_cons_of_mem)), rfl, rfl, c160_0, hF160, hO160, hmL160, (show oI I I160 ((I 0 45).toInt + (I 6 nd.toInt.toNat).toInt) from by first | assumption | omega), (show 0 ≤ 2 * tS (tlv I160) (I160 0 48).toInt.toNat - (I160 0 48).toInt from by first | assumption | omega), (show (2 * tS (tlv I160) (I160 0 48).toInt.toNat - (I160 0 48).toInt) < n7 from by omega)⟩
                · intro h171
                  have h171 : (I160 3 ((J7 31 (z20.toInt.toNat)).toInt.toNat)).toInt = 2 := h171
                  refine And.intro ⟨(show 0 ≤ (J7 31 (z20.toInt.toNat)).toInt from by first | assumption | omega), (show (J7 31 (z20.toInt.toNat)).toInt ≤ 1599 from by first | assumption | omega)⟩ ?_
                  intro x178 I178 L178 hq178
                  have hq178 : I178 = I160 ∧ L178 = L ∧ (((I160 3 (J7 31 (z20.toInt.toNat)).toInt.toNat).toInt = 1 → x178 = I160 5 (J7 31 (z20.toInt.toNat)).toInt.toNat)) ∧ ((¬ (I160 3 (J7 31 (z20.toInt.toNat)).toInt.toNat).toInt = 1 → x178 = I160 4 (J7 31 (z20.toInt.toNat)).toInt.toNat)) := hq178
                  obtain ⟨eI178, eL178, c178_2, c178_3⟩ := hq178
                  replace eI178 := eI178.symm
                  subst eI178
                  replace eL178 := eL178.symm
                  subst eL178
                  have e178 : (I160 3) = J7 3 ∧ (I160 4) = J7 4 ∧ (I160 5) = J7 5 := by first | exact ⟨(c160_2 3 rfl).trans r91.1, (c160_2 4 rfl).trans r91.2.1, (c160_2 5 rfl).trans r91.2.2.1⟩ | exact ⟨(c160_2 3 rfl).trans ((c147_2 3 rfl).trans r91.1), (c160_2 4 rfl).trans ((c147_2 4 rfl).trans r91.2.1), (c160_2 5 rfl).trans ((c147_2 5 rfl).trans r91.2.2.1)⟩
                  simp only [e178.1, e178.2.1, e178.2.2] at c178_2 c178_3
                  have v178 : 0 ≤ x178.toInt ∧ x178.toInt ≤ 1599 := by by_cases q : (J7 3 (J7 31 z20.toInt.toNat).toInt.toNat).toInt = 1; (rw [c178_2 q]; omega); (rw [c178_3 q]; omega)
                  have r184_15 : 0 ≤ (I160 0 48).toInt ∧ (I160 0 48).toInt ≤ 60 := c160_0 0 48
                  refine And.intro ⟨c160_0, (show (I160 0 48).toInt ≤ 59 from by first | assumption | omega), (show 0 ≤ x178.toInt from by first | assumption | omega), (show x178.toInt ≤ 1599 from by first | assumption | omega), (show 0 ≤ x91.toInt from by first | assumption | omega), (show x91.toInt ≤ 39 from by first | assumption | omega)⟩ ?_
                  intro I184 L184 hq184
                  have hq184 : mR I184 ∧ f_fo [48] I160 I184 ∧ f_fr [0, 31, 32, 34] I160 I184 ∧ L184 = L ∧ (I184 0 48).toInt = (I160 0 48).toInt + 1 ∧ I184 31 = upd (I160 31) (I160 0 48).toInt.toNat x178 ∧ I184 32 = upd (I160 32) (I160 0 48).toInt.toNat x91 ∧ I184 34 = upd (I160 34) (I160 0 48).toInt.toNat (vp_nar .boolean (Int32.ofInt 0)) := hq184
                  obtain ⟨c184_0, c184_1, c184_2, eL184, c184_4, c184_5, c184_6, c184_7⟩ := hq184
                  replace eL184 := eL184.symm
                  subst eL184
                  have hO184 := f_fo_tr hO160 c184_1 rfl
                  have hmL184 := f_depo_fo mL_dep hmL160 c184_2 c184_1 rfl rfl
                  have hF184 := f_fr_tr hF160 c184_2 rfl
                  have q289 : oI I I184 ((I 0 45).toInt + (I 6 nd.toInt.toNat).toInt) := by
                    first
                    | (exfalso; omega)
                    | (have h1 : tlv J7 z20.toInt.toNat = 1 := by rw [tl]; rcases l4 with q | q; exact q.2; exact absurd h64 q.1
                       have e48 : (I79 0 48).toInt = z20.toInt := congrArg Int32.toInt (c79_1 48 rfl)
                       exact oI_end (t := z20.toInt.toNat) hR7c u7_1 tt h1 rfl (f_nar01 o1) (by omega) (c79_1 46 rfl) (c79_1 47 rfl) (by omega) (c79_1 24 rfl) c79_5 c79_6 c79_7 c79_8 (c79_2 6 rfl) (c79_2 8 rfl) (c79_2 11 rfl) (c79_2 26 rfl) (c79_2 27 rfl) (c79_2 28 rfl) (c79_2 29 rfl) (c79_2 31 rfl) (c79_2 32 rfl) (c79_2 34 rfl))
                    | (have X : (lvn J7 x141.toInt ∧ lvn J7 x154.toInt) ∧ 1 ≤ (J7 6 x141.toInt.toNat).toInt ∧ 1 ≤ (J7 6 x154.toInt.toNat).toInt ∧ (J7 6 x141.toInt.toNat).toInt + (J7 6 x154.toInt.toNat).toInt = tlv J7 z20.toInt.toNat := by
                         by_cases q : (J7 3 (J7 31 z20.toInt.toNat).toInt.toNat).toInt = 1
                         · rw [c141_2 q, c154_2 q]; exact ⟨⟨s64.2.2.1, s64.2.1⟩, by omega, by omega, by omega⟩
                         · rw [c141_3 q, c154_3 q]; exact ⟨⟨s64.2.1, s64.2.2.1⟩, by omega, by omega, by omega⟩
                       have iA : (I160 0 47).toInt = (I91 0 47).toInt := congrArg Int32.toInt ((c160_1 47 rfl).trans (c147_1 47 rfl))
                       have i9 : (I91 0 48).toInt = z20.toInt := congrArg Int32.toInt i91
                       have iB : (I147 0 48).toInt.toNat = z20.toInt.toNat + 1 := by omega
                       have iC : (I91 0 48).toInt.toNat = z20.toInt.toNat := by rw [i91]
                       exact oI_given (t := z20.toInt.toNat) (n1 := x141) (n2 := x154) (t1 := x91) (t2 := J7 32 z20.toInt.toNat) (p1 := vp_nar .boolean (Int32.ofInt 0)) (p2 := vp_nar .boolean (Int32.ofInt 1)) (wn := x141) (is := x154) (b := x91) (y := z124) (z0 := Int32.ofInt 0) (k := z111.toInt.toNat) hR7c u7_1 tt rfl g87 (by omega) ((c160_1 45 rfl).trans ((c147_1 45 rfl).trans (c91_1 45 rfl))) ((c160_1 46 rfl).trans ((c147_1 46 rfl).trans (c91_1 46 rfl))) (by omega) (by omega) ((c160_1 24 rfl).trans ((c147_1 24 rfl).trans (c91_1 24 rfl))) (by rw [c160_5, c147_5, r91.2.2.2.2.2.1, iB, iC]) (by rw [c160_6, c147_6, r91.2.2.2.2.2.2.1, iB, iC]) (by rw [c160_7, c147_7, r91.2.2.2.2.2.2.2, iB, iC]) (Or.inl ⟨rfl, rfl, rfl, rfl, rfl, rfl⟩) X.1 X.2 ((c160_2 27 rfl).trans ((c147_2 27 rfl).trans (congrArg (fun f => upd f _ _) r91.2.2.2.1))) (by omega) ((c160_2 28 rfl).trans ((c147_2 28 rfl).trans (congrArg (fun f => upd f _ _) r91.2.2.2.2.1))) (by omega) ((c160_2 29 rfl).trans ((c147_2 29 rfl).trans c91_6)) rfl ((c160_2 6 rfl).trans ((c147_2 6 rfl).trans (c91_2 6 rfl))) ((c160_2 8 rfl).trans ((c147_2 8 rfl).trans (c91_2 8 rfl))) ((c160_2 11 rfl).trans ((c147_2 11 rfl).trans (c91_2 11 rfl))) ((c160_2 22 rfl).trans ((c147_2 22 rfl).trans (c91_2 22 rfl))) ((c160_2 24 rfl).trans ((c147_2 24 rfl).trans (c91_2 24 rfl))) ((c160_2 25 rfl).trans ((c147_2 25 rfl).trans (c91_2 25 rfl))) ((c160_2 26 rfl).trans ((c147_2 26 rfl).trans (c91_2 26 rfl))) ((c160_2 33 rfl).trans ((c147_2 33 rfl).trans (c91_2 33 rfl))))
                    | (have X : (lvn J7 x178.toInt ∧ lvn J7 x154.toInt) ∧ 1 ≤ (J7 6 x178.toInt.toNat).toInt ∧ 1 ≤ (J7 6 x154.toInt.toNat).toInt ∧ (J7 6 x178.toInt.toNat).toInt + (J7 6 x154.toInt.toNat).toInt = tlv J7 z20.toInt.toNat := by
                         by_cases q : (J7 3 (J7 31 z20.toInt.toNat).toInt.toNat).toInt = 1
                         · rw [c178_2 q, c154_2 q]; exact ⟨⟨s64.2.2.1, s64.2.1⟩, by omega, by omega, by omega⟩
                         · rw [c178_3 q, c154_3 q]; exact ⟨⟨s64.2.1, s64.2.2.1⟩, by omega, by omega, by omega⟩
                       have iA : (I184 0 47).toInt = (I91 0 47).toInt := congrArg Int32.toInt ((c184_1 47 rfl).trans (c160_1 47 rfl))
                       have i9 : (I91 0 48).toInt = z20.toInt := congrArg Int32.toInt i91
                       have iB : (I160 0 48).toInt.toNat = z20.toInt.toNat + 1 := by omega
                       have iC : (I91 0 48).toInt.toNat = z20.toInt.toNat := by rw [i91]
                       exact oI_given (t := z20.toInt.toNat) (n1 := x154) (n2 := x178) (t1 := J7 32 z20.toInt.toNat) (t2 := x91) (p1 := vp_nar .boolean (Int32.ofInt 1)) (p2 := vp_nar .boolean (Int32.ofInt 0)) (wn := x178) (is := x154) (b := x91) (y := z124) (z0 := Int32.ofInt 0) (k := z111.toInt.toNat) hR7c u7_1 tt rfl g87 (by omega) ((c184_1 45 rfl).trans ((c160_1 45 rfl).trans (c91_1 45 rfl))) ((c184_1 46 rfl).trans ((c160_1 46 rfl).trans (c91_1 46 rfl))) (by omega) (by omega) ((c184_1 24 rfl).trans ((c160_1 24 rfl).trans (c91_1 24 rfl))) (by rw [c184_5, c160_5, r91.2.2.2.2.2.1, iB, iC]) (by rw [c184_6, c160_6, r91.2.2.2.2.2.2.1, iB, iC]) (by rw [c184_7, c160_7, r91.2.2.2.2.2.2.2, iB, iC]) (Or.inr ⟨rfl, rfl, rfl, rfl, rfl, rfl⟩) X.1 X.2 ((c184_2 27 rfl).trans ((c160_2 27 rfl).trans (congrArg (fun f => upd f _ _) r91.2.2.2.1))) (by omega) ((c184_2 28 rfl).trans ((c160_2 28 rfl).trans (congrArg (fun f => upd f _ _) r91.2.2.2.2.1))) (by omega) ((c184_2 29 rfl).trans ((c160_2 29 rfl).trans c91_6)) rfl ((c184_2 6 rfl).trans ((c160_2 6 rfl).trans (c91_2 6 rfl))) ((c184_2 8 rfl).trans ((c160_2 8 rfl).trans (c91_2 8 rfl))) ((c184_2 11 rfl).trans ((c160_2 11 rfl).trans (c91_2 11 rfl))) ((c184_2 22 rfl).trans ((c160_2 22 rfl).trans (c91_2 22 rfl))) ((c184_2 24 rfl).trans ((c160_2 24 rfl).trans (c91_2 24 rfl))) ((c184_2 25 rfl).trans ((c160_2 25 rfl).trans (c91_2 25 rfl))) ((c184_2 26 rfl).trans ((c160_2 26 rfl).trans (c91_2 26 rfl))) ((c184_2 33 rfl).trans ((c160_2 33 rfl).trans (c91_2 33 rfl))))
                    | (have X : (lvn J7 x243.toInt ∧ lvn J7 x256.toInt) ∧ 1 ≤ (J7 6 x243.toInt.toNat).toInt ∧ 1 ≤ (J7 6 x256.toInt.toNat).toInt ∧ (J7 6 x243.toInt.toNat).toInt + (J7 6 x256.toInt.toNat).toInt = tlv J7 z20.toInt.toNat := by
                         by_cases q : (J7 3 (J7 31 z20.toInt.toNat).toInt.toNat).toInt = 1
                         · rw [c243_2 q, c256_2 q]; exact ⟨⟨s64.2.2.1, s64.2.1⟩, by omega, by omega, by omega⟩
                         · rw [c243_3 q, c256_3 q]; exact ⟨⟨s64.2.1, s64.2.2.1⟩, by omega, by omega, by omega⟩
                       have iA : (I262 0 46).toInt = (I193 0 46).toInt := congrArg Int32.toInt ((c262_1 46 rfl).trans (c249_1 46 rfl))
                       have i9 : (I193 0 48).toInt = z20.toInt := congrArg Int32.toInt i193
                       have iB : (I249 0 48).toInt.toNat = z20.toInt.toNat + 1 := by omega
                       have iC : (I193 0 48).toInt.toNat = z20.toInt.toNat := by rw [i193]
                       exact oI_wanted (t := z20.toInt.toNat) (n1 := x243) (n2 := x256) (t1 := x193) (t2 := J7 32 z20.toInt.toNat) (p1 := vp_nar .boolean (Int32.ofInt 1)) (p2 := vp_nar .boolean (Int32.ofInt 0)) (wn := x243) (is := x256) (b := x193) (y := z226) (z0 := Int32.ofInt 0) hR7c u7_1 tt rfl h87 (by omega) ((c262_1 45 rfl).trans ((c249_1 45 rfl).trans (c193_1 45 rfl))) (by omega) ((c262_1 47 rfl).trans ((c249_1 47 rfl).trans (c193_1 47 rfl))) (by omega) ((c262_1 24 rfl).trans ((c249_1 24 rfl).trans (c193_1 24 rfl))) (by rw [c262_5, c249_5, r193.2.2.2.2.2.1, iB, iC]) (by rw [c262_6, c249_6, r193.2.2.2.2.2.2.1, iB, iC]) (by rw [c262_7, c249_7, r193.2.2.2.2.2.2.2, iB, iC]) (Or.inl ⟨rfl, rfl, rfl, rfl, rfl, rfl⟩) X.1 X.2 ((c262_2 29 rfl).trans ((c249_2 29 rfl).trans (congrArg (fun f => upd f _ _) r193.2.2.2.1))) (by omega) ((c262_2 26 rfl).trans ((c249_2 26 rfl).trans c193_6)) ((c262_2 27 rfl).trans ((c249_2 27 rfl).trans c193_7)) rfl ((c262_2 6 rfl).trans ((c249_2 6 rfl).trans (c193_2 6 rfl))) ((c262_2 8 rfl).trans ((c249_2 8 rfl).trans (c193_2 8 rfl))) ((c262_2 11 rfl).trans ((c249_2 11 rfl).trans (c193_2 11 rfl))) ((c262_2 22 rfl).trans ((c249_2 22 rfl).trans (c193_2 22 rfl))) ((c262_2 24 rfl).trans ((c249_2 24 rfl).trans (c193_2 24 rfl))) ((c262_2 25 rfl).trans ((c249_2 25 rfl).trans (c193_2 25 rfl))) ((c262_2 28 rfl).trans ((c249_2 28 rfl).trans (c193_2 28 rfl))) ((c262_2 33 rfl).trans ((c249_2 33 rfl).trans (c193_2 33 rfl))))
                    | (have X : (lvn J7 x280.toInt ∧ lvn J7 x256.toInt) ∧ 1 ≤ (J7 6 x280.toInt.toNat).toInt ∧ 1 ≤ (J7 6 x256.toInt.toNat).toInt ∧ (J7 6 x280.toInt.toNat).toInt + (J7 6 x256.toInt.toNat).toInt = tlv J7 z20.toInt.toNat := by
                         by_cases q : (J7 3 (J7 31 z20.toInt.toNat).toInt.toNat).toInt = 1
                         · rw [c280_2 q, c256_2 q]; exact ⟨⟨s64.2.2.1, s64.2.1⟩, by omega, by omega, by omega⟩
                         · rw [c280_3 q, c256_3 q]; exact ⟨⟨s64.2.1, s64.2.2.1⟩, by omega, by omega, by omega⟩
                       have iA : (I286 0 46).toInt = (I193 0 46).toInt := congrArg Int32.toInt ((c286_1 46 rfl).trans (c262_1 46 rfl))
                       have i9 : (I193 0 48).toInt = z20.toInt := congrArg Int32.toInt i193
                       have iB : (I262 0 48).toInt.toNat = z20.toInt.toNat + 1 := by omega
                       have iC : (I193 0 48).toInt.toNat = z20.toInt.toNat := by rw [i193]
                       exact oI_wanted (t := z20.toInt.toNat) (n1 := x256) (n2 := x280) (t1 := J7 32 z20.toInt.toNat) (t2 := x193) (p1 := vp_nar .boolean (Int32.ofInt 0)) (p2 := vp_nar .boolean (Int32.ofInt 1)) (wn := x280) (is := x256) (b := x193) (y := z226) (z0 := Int32.ofInt 0) hR7c u7_1 tt rfl h87 (by omega) ((c286_1 45 rfl).trans ((c262_1 45 rfl).trans (c193_1 45 rfl))) (by omega) ((c286_1 47 rfl).trans ((c262_1 47 rfl).trans (c193_1 47 rfl))) (by omega) ((c286_1 24 rfl).trans ((c262_1 24 rfl).trans (c193_1 24 rfl))) (by rw [c286_5, c262_5, r193.2.2.2.2.2.1, iB, iC]) (by rw [c286_6, c262_6, r193.2.2.2.2.2.2.1, iB, iC]) (by rw [c286_7, c262_7, r193.2.2.2.2.2.2.2, iB, iC]) (Or.inr ⟨rfl, rfl, rfl, rfl, rfl, rfl⟩) X.1 X.2 ((c286_2 29 rfl).trans ((c262_2 29 rfl).trans (congrArg (fun f => upd f _ _) r193.2.2.2.1))) (by omega) ((c286_2 26 rfl).trans ((c262_2 26 rfl).trans c193_6)) ((c286_2 27 rfl).trans ((c262_2 27 rfl).trans c193_7)) rfl ((c286_2 6 rfl).trans ((c262_2 6 rfl).trans (c193_2 6 rfl))) ((c286_2 8 rfl).trans ((c262_2 8 rfl).trans (c193_2 8 rfl))) ((c286_2 11 rfl).trans ((c262_2 11 rfl).trans (c193_2 11 rfl))) ((c286_2 22 rfl).trans ((c262_2 22 rfl).trans (c193_2 22 rfl))) ((c286_2 24 rfl).trans ((c262_2 24 rfl).trans (c193_2 24 rfl))) ((c286_2 25 rfl).trans ((c262_2 25 rfl).trans (c193_2 25 rfl))) ((c286_2 28 rfl).trans ((c262_2 28 rfl).trans (c193_2 28 rfl))) ((c286_2 33 rfl).trans ((c262_2 33 rfl).trans (c193_2 33 rfl))))
                  have m289 : 0 ≤ 2 * tS (tlv I184) (I184 0 48).toInt.toNat - (I184 0 48).toInt ∧ 2 * tS (tlv I184) (I184 0 48).toInt.toNat - (I184 0 48).toInt < 2 * tS (tlv J7) (J7 0 48).toInt.toNat - (J7 0 48).toInt := by
                    have n9 := tk_num q289.1
                    first
                    | omega
                    | (exfalso; omega)
                    | (have j := congrArg Int32.toInt (show I160 0 45 = J7 0 45 from (c160_1 45 rfl).trans ((c147_1 45 rfl).trans (c91_1 45 rfl)))
                       have i9 : (I91 0 48).toInt = z20.toInt := congrArg Int32.toInt i91
                       omega)
                    | (have j := congrArg Int32.toInt (show I184 0 45 = J7 0 45 from (c184_1 45 rfl).trans ((c160_1 45 rfl).trans (c91_1 45 rfl)))
                       have i9 : (I91 0 48).toInt = z20.toInt := congrArg Int32.toInt i91
                       omega)
                    | (have j := congrArg Int32.toInt (show I262 0 45 = J7 0 45 from (c262_1 45 rfl).trans ((c249_1 45 rfl).trans (c193_1 45 rfl)))
                       have i9 : (I193 0 48).toInt = z20.toInt := congrArg Int32.toInt i193
                       omega)
                    | (have j := congrArg Int32.toInt (show I286 0 45 = J7 0 45 from (c286_1 45 rfl).trans ((c262_1 45 rfl).trans (c193_1 45 rfl)))
                       have i9 : (I193 0 48).toInt = z20.toInt := congrArg Int32.toInt i193
                       omega)
                  have r7_16 : 0 ≤ (I184 0 48).toInt ∧ (I184 0 48).toInt ≤ 60 := c184_0 0 48
                  exact ⟨(by intro q9 h9; simp only [List.mem_cons, List.not_mem_nil, or_false] at h9; rcases h9 with h9 | h9 | h9 | h9 <;> subst h9 <;> repeat (first | exact List.mem_cons_self | apply List.mem_cons_of_mem)), rfl, rfl, c184_0, hF184, hO184, hmL184, (show oI I I184 ((I 0 45).toInt + (I 6 nd.toInt.toNat).toInt) from by first | assumption | omega), (show 0 ≤ 2 * tS (tlv I184) (I184 0 48).toInt.toNat - (I184 0 48).toInt from by first | assumption | omega), (show (2 * tS (tlv I184) (I184 0 48).toInt.toNat - (I184 0 48).toInt) < n7 from by omega)⟩
              · intro h134
                have h134 : (I91 3 ((J7 31 (z20.toInt.toNat)).toInt.toNat)).toInt = 1 := h134
                refine And.intro ⟨(show 0 ≤ (J7 31 (z20.toInt.toNat)).toInt from by first | assumption | omega), (show (J7 31 (z20.toInt.toNat)).toInt ≤ 1599 from by first | assumption | omega)⟩ ?_
                intro x141 I141 L141 hq141
                have hq141 : I141 = (va_up (va_up I91 28 (upd (I91 28) (z111.toInt.toNat) x91)) 27 (upd (I91 27) ((J7 32 (z20.toInt.toNat)).toInt.toNat) z124)) ∧ L141 = L ∧ (((I91 3 (J7 31 (z20.toInt.toNat)).toInt.toNat).toInt = 1 → x141 = I91 5 (J7 31 (z20.toInt.toNat)).toInt.toNat)) ∧ ((¬ (I91 3 (J7 31 (z20.toInt.toNat)).toInt.toNat).toInt = 1 → x141 = I91 4 (J7 31 (z20.toInt.toNat)).toInt.toNat)) := hq141
                obtain ⟨eI141, eL141, c141_2, c141_3⟩ := hq141
                replace eI141 := eI141.symm
                subst eI141
                replace eL141 := eL141.symm
                subst eL141
                have e141 : (I91 3) = J7 3 ∧ (I91 4) = J7 4 ∧ (I91 5) = J7 5 := ⟨r91.1, r91.2.1, r91.2.2.1⟩
                simp only [e141.1, e141.2.1, e141.2.2] at c141_2 c141_3
                have v141 : 0 ≤ x141.toInt ∧ x141.toInt ≤ 1599 := by by_cases q : (J7 3 (J7 31 z20.toInt.toNat).toInt.toNat).toInt = 1; (rw [c141_2 q]; omega); (rw [c141_3 q]; omega)
                have e147_12 : (I91 0 48).toInt = z20.toInt := congrArg Int32.toInt (c91_1 48 rfl)
                refine And.intro ⟨hR125, (show (I91 0 48).toInt ≤ 59 from by first | assumption | omega), (show 0 ≤ x141.toInt from by first | assumption | omega), (show x141.toInt ≤ 1599 from by first | assumption | omega), (show 0 ≤ x91.toInt from by first | assumption | omega), (show x91.toInt ≤ 39 from by first | assumption | omega)⟩ ?_
                intro I147 L147 hq147
                have hq147 : mR I147 ∧ f_fo [48] (va_up (va_up I91 28 (upd (I91 28) (z111.toInt.toNat) x91)) 27 (upd (I91 27) ((J7 32 (z20.toInt.toNat)).toInt.toNat) z124)) I147 ∧ f_fr [0, 31, 32, 34] (va_up (va_up I91 28 (upd (I91 28) (z111.toInt.toNat) x91)) 27 (upd (I91 27) ((J7 32 (z20.toInt.toNat)).toInt.toNat) z124)) I147 ∧ L147 = L ∧ (I147 0 48).toInt = (I91 0 48).toInt + 1 ∧ I147 31 = upd (I91 31) (I91 0 48).toInt.toNat x141 ∧ I147 32 = upd (I91 32) (I91 0 48).toInt.toNat x91 ∧ I147 34 = upd (I91 34) (I91 0 48).toInt.toNat (vp_nar .boolean (Int32.ofInt 0)) := hq147
                obtain ⟨c147_0, c147_1, c147_2, eL147, c147_4, c147_5, c147_6, c147_7⟩ := hq147
                replace eL147 := eL147.symm
                subst eL147
                have hO147 := f_fo_tr hO125 c147_1 rfl
                have hmL147 := f_depo_fo mL_dep hmL125 c147_2 c147_1 rfl rfl
                have hF147 := f_fr_tr hF125 c147_2 rfl
                refine And.intro ⟨(show 0 ≤ (J7 31 (z20.toInt.toNat)).toInt from by first | assumption | omega), (show (J7 31 (z20.toInt.toNat)).toInt ≤ 1599 from by first | assumption | omega)⟩ ?_
                intro x154 I154 L154 hq154
                have hq154 : I154 = I147 ∧ L154 = L ∧ (((I147 3 (J7 31 (z20.toInt.toNat)).toInt.toNat).toInt = 1 → x154 = I147 4 (J7 31 (z20.toInt.toNat)).toInt.toNat)) ∧ ((¬ (I147 3 (J7 31 (z20.toInt.toNat)).toInt.toNat).toInt = 1 → x154 = I147 5 (J7 31 (z20.toInt.toNat)).toInt.toNat)) := hq154
                obtain ⟨eI154, eL154, c154_2, c154_3⟩ := hq154
                replace eI154 := eI154.symm
                subst eI154
                replace eL154 := eL154.symm
                subst eL154
                have e154 : (I147 3) = J7 3 ∧ (I147 4) = J7 4 ∧ (I147 5) = J7 5 := by first | exact ⟨r91.1, r91.2.1, r91.2.2.1⟩ | exact ⟨(c147_2 3 rfl).trans r91.1, (c147_2 4 rfl).trans r91.2.1, (c147_2 5 rfl).trans r91.2.2.1⟩
                simp only [e154.1, e154.2.1, e154.2.2] at c154_2 c154_3
                have v154 : 0 ≤ x154.toInt ∧ x154.toInt ≤ 1599 := by by_cases q : (J7 3 (J7 31 z20.toInt.toNat).toInt.toNat).toInt = 1; (rw [c154_2 q]; omega); (rw [c154_3 q]; omega)
                have r160_13 : 0 ≤ (I147 0 48).toInt ∧ (I147 0 48).toInt ≤ 60 := c147_0 0 48
                refine And.intro ⟨c147_0, (show (I147 0 48).toInt ≤ 59 from by first | assumption | omega), (show 0 ≤ x154.toInt from by first | assumption | omega), (show x154.toInt ≤ 1599 from by first | assumption | omega), (show 0 ≤ (J7 32 (z20.toInt.toNat)).toInt from by first | assumption | omega), (show (J7 32 (z20.toInt.toNat)).toInt ≤ 39 from by first | assumption | omega)⟩ ?_
                intro I160 L160 hq160
                have hq160 : mR I160 ∧ f_fo [48] I147 I160 ∧ f_fr [0, 31, 32, 34] I147 I160 ∧ L160 = L ∧ (I160 0 48).toInt = (I147 0 48).toInt + 1 ∧ I160 31 = upd (I147 31) (I147 0 48).toInt.toNat x154 ∧ I160 32 = upd (I147 32) (I147 0 48).toInt.toNat (J7 32 (z20.toInt.toNat)) ∧ I160 34 = upd (I147 34) (I147 0 48).toInt.toNat (vp_nar .boolean (Int32.ofInt 1)) := hq160
                obtain ⟨c160_0, c160_1, c160_2, eL160, c160_4, c160_5, c160_6, c160_7⟩ := hq160
                replace eL160 := eL160.symm
                subst eL160
                have hO160 := f_fo_tr hO147 c160_1 rfl
                have hmL160 := f_depo_fo mL_dep hmL147 c160_2 c160_1 rfl rfl
                have hF160 := f_fr_tr hF147 c160_2 rfl
                refine And.intro (show f_in (J7 31 (z20.toInt.toNat)) 1600 from ⟨show 0 ≤ (J7 31 (z20.toInt.toNat)).toInt from by omega, show (J7 31 (z20.toInt.toNat)).toInt < 1600 from by omega⟩) ?_
                have r169_14 : 0 ≤ (I160 3 ((J7 31 (z20.toInt.toNat)).toInt.toNat)).toInt ∧ (I160 3 ((J7 31 (z20.toInt.toNat)).toInt.toNat)).toInt ≤ 2 := c160_0 3 ((J7 31 (z20.toInt.toNat)).toInt.toNat)
                have e169_15 : (I160 3 ((J7 31 (z20.toInt.toNat)).toInt.toNat)).toInt = (I147 3 ((J7 31 (z20.toInt.toNat)).toInt.toNat)).toInt := congrArg Int32.toInt (congrFun (c160_2 3 rfl) ((J7 31 (z20.toInt.toNat)).toInt.toNat))
                have e169_16 : (I147 3 ((J7 31 (z20.toInt.toNat)).toInt.toNat)).toInt = (I91 3 ((J7 31 (z20.toInt.toNat)).toInt.toNat)).toInt := congrArg Int32.toInt (congrFun (c147_2 3 rfl) ((J7 31 (z20.toInt.toNat)).toInt.toNat))
                apply And.intro
                · intro h171
                  have h171 : ¬ (I160 3 ((J7 31 (z20.toInt.toNat)).toInt.toNat)).toInt = 2 := h171
                  have q289 : oI I I160 ((I 0 45).toInt + (I 6 nd.toInt.toNat).toInt) := by
                    first
                    | (exfalso; omega)
                    | (have h1 : tlv J7 z20.toInt.toNat = 1 := by rw [tl]; rcases l4 with q | q; exact q.2; exact absurd h64 q.1
                       have e48 : (I79 0 48).toInt = z20.toInt := congrArg Int32.toInt (c79_1 48 rfl)
                       exact oI_end (t := z20.toInt.toNat) hR7c u7_1 tt h1 rfl (f_nar01 o1) (by omega) (c79_1 46 rfl) (c79_1 47 rfl) (by omega) (c79_1 24 rfl) c79_5 c79_6 c79_7 c79_8 (c79_2 6 rfl) (c79_2 8 rfl) (c79_2 11 rfl) (c79_2 26 rfl) (c79_2 27 rfl) (c79_2 28 rfl) (c79_2 29 rfl) (c79_2 31 rfl) (c79_2 32 rfl) (c79_2 34 rfl))
                    | (have X : (lvn J7 x141.toInt ∧ lvn J7 x154.toInt) ∧ 1 ≤ (J7 6 x141.toInt.toNat).toInt ∧ 1 ≤ (J7 6 x154.toInt.toNat).toInt ∧ (J7 6 x141.toInt.toNat).toInt + (J7 6 x154.toInt.toNat).toInt = tlv J7 z20.toInt.toNat := by
                         by_cases q : (J7 3 (J7 31 z20.toInt.toNat).toInt.toNat).toInt = 1
                         · rw [c141_2 q, c154_2 q]; exact ⟨⟨s64.2.2.1, s64.2.1⟩, by omega, by omega, by omega⟩
                         · rw [c141_3 q, c154_3 q]; exact ⟨⟨s64.2.1, s64.2.2.1⟩, by omega, by omega, by omega⟩
                       have iA : (I160 0 47).toInt = (I91 0 47).toInt := congrArg Int32.toInt ((c160_1 47 rfl).trans (c147_1 47 rfl))
                       have i9 : (I91 0 48).toInt = z20.toInt := congrArg Int32.toInt i91
                       have iB : (I147 0 48).toInt.toNat = z20.toInt.toNat + 1 := by omega
                       have iC : (I91 0 48).toInt.toNat = z20.toInt.toNat := by rw [i91]
                       exact oI_given (t := z20.toInt.toNat) (n1 := x141) (n2 := x154) (t1 := x91) (t2 := J7 32 z20.toInt.toNat) (p1 := vp_nar .boolean (Int32.ofInt 0)) (p2 := vp_nar .boolean (Int32.ofInt 1)) (wn := x141) (is := x154) (b := x91) (y := z124) (z0 := Int32.ofInt 0) (k := z111.toInt.toNat) hR7c u7_1 tt rfl g87 (by omega) ((c160_1 45 rfl).trans ((c147_1 45 rfl).trans (c91_1 45 rfl))) ((c160_1 46 rfl).trans ((c147_1 46 rfl).trans (c91_1 46 rfl))) (by omega) (by omega) ((c160_1 24 rfl).trans ((c147_1 24 rfl).trans (c91_1 24 rfl))) (by rw [c160_5, c147_5, r91.2.2.2.2.2.1, iB, iC]) (by rw [c160_6, c147_6, r91.2.2.2.2.2.2.1, iB, iC]) (by rw [c160_7, c147_7, r91.2.2.2.2.2.2.2, iB, iC]) (Or.inl ⟨rfl, rfl, rfl, rfl, rfl, rfl⟩) X.1 X.2 ((c160_2 27 rfl).trans ((c147_2 27 rfl).trans (congrArg (fun f => upd f _ _) r91.2.2.2.1))) (by omega) ((c160_2 28 rfl).trans ((c147_2 28 rfl).trans (congrArg (fun f => upd f _ _) r91.2.2.2.2.1))) (by omega) ((c160_2 29 rfl).trans ((c147_2 29 rfl).trans c91_6)) rfl ((c160_2 6 rfl).trans ((c147_2 6 rfl).trans (c91_2 6 rfl))) ((c160_2 8 rfl).trans ((c147_2 8 rfl).trans (c91_2 8 rfl))) ((c160_2 11 rfl).trans ((c147_2 11 rfl).trans (c91_2 11 rfl))) ((c160_2 22 rfl).trans ((c147_2 22 rfl).trans (c91_2 22 rfl))) ((c160_2 24 rfl).trans ((c147_2 24 rfl).trans (c91_2 24 rfl))) ((c160_2 25 rfl).trans ((c147_2 25 rfl).trans (c91_2 25 rfl))) ((c160_2 26 rfl).trans ((c147_2 26 rfl).trans (c91_2 26 rfl))) ((c160_2 33 rfl).trans ((c147_2 33 rfl).trans (c91_2 33 rfl))))
                    | (have X : (lvn J7 x178.toInt ∧ lvn J7 x154.toInt) ∧ 1 ≤ (J7 6 x178.toInt.toNat).toInt ∧ 1 ≤ (J7 6 x154.toInt.toNat).toInt ∧ (J7 6 x178.toInt.toNat).toInt + (J7 6 x154.toInt.toNat).toInt = tlv J7 z20.toInt.toNat := by
                         by_cases q : (J7 3 (J7 31 z20.toInt.toNat).toInt.toNat).toInt = 1
                         · rw [c178_2 q, c154_2 q]; exact ⟨⟨s64.2.2.1, s64.2.1⟩, by omega, by omega, by omega⟩
                         · rw [c178_3 q, c154_3 q]; exact ⟨⟨s64.2.1, s64.2.2.1⟩, by omega, by omega, by omega⟩
                       have iA : (I184 0 47).toInt = (I91 0 47).toInt := congrArg Int32.toInt ((c184_1 47 rfl).trans (c160_1 47 rfl))
                       have i9 : (I91 0 48).toInt = z20.toInt := congrArg Int32.toInt i91
                       have iB : (I160 0 48).toInt.toNat = z20.toInt.toNat + 1 := by omega
                       have iC : (I91 0 48).toInt.toNat = z20.toInt.toNat := by rw [i91]
                       exact oI_given (t := z20.toInt.toNat) (n1 := x154) (n2 := x178) (t1 := J7 32 z20.toInt.toNat) (t2 := x91) (p1 := vp_nar .boolean (Int32.ofInt 1)) (p2 := vp_nar .boolean (Int32.ofInt 0)) (wn := x178) (is := x154) (b := x91) (y := z124) (z0 := Int32.ofInt 0) (k := z111.toInt.toNat) hR7c u7_1 tt rfl g87 (by omega) ((c184_1 45 rfl).trans ((c160_1 45 rfl).trans (c91_1 45 rfl))) ((c184_1 46 rfl).trans ((c160_1 46 rfl).trans (c91_1 46 rfl))) (by omega) (by omega) ((c184_1 24 rfl).trans ((c160_1 24 rfl).trans (c91_1 24 rfl))) (by rw [c184_5, c160_5, r91.2.2.2.2.2.1, iB, iC]) (by rw [c184_6, c160_6, r91.2.2.2.2.2.2.1, iB, iC]) (by rw [c184_7, c160_7, r91.2.2.2.2.2.2.2, iB, iC]) (Or.inr ⟨rfl, rfl, rfl, rfl, rfl, rfl⟩) X.1 X.2 ((c184_2 27 rfl).trans ((c160_2 27 rfl).trans (congrArg (fun f => upd f _ _) r91.2.2.2.1))) (by omega) ((c184_2 28 rfl).trans ((c160_2 28 rfl).trans (congrArg (fun f => upd f _ _) r91.2.2.2.2.1))) (by omega) ((c184_2 29 rfl).trans ((c160_2 29 rfl).trans c91_6)) rfl ((c184_2 6 rfl).trans ((c160_2 6 rfl).trans (c91_2 6 rfl))) ((c184_2 8 rfl).trans ((c160_2 8 rfl).trans (c91_2 8 rfl))) ((c184_2 11 rfl).trans ((c160_2 11 rfl).trans (c91_2 11 rfl))) ((c184_2 22 rfl).trans ((c160_2 22 rfl).trans (c91_2 22 rfl))) ((c184_2 24 rfl).trans ((c160_2 24 rfl).trans (c91_2 24 rfl))) ((c184_2 25 rfl).trans ((c160_2 25 rfl).trans (c91_2 25 rfl))) ((c184_2 26 rfl).trans ((c160_2 26 rfl).trans (c91_2 26 rfl))) ((c184_2 33 rfl).trans ((c160_2 33 rfl).trans (c91_2 33 rfl))))
                    | (have X : (lvn J7 x243.toInt ∧ lvn J7 x256.toInt) ∧ 1 ≤ (J7 6 x243.toInt.toNat).toInt ∧ 1 ≤ (J7 6 x256.toInt.toNat).toInt ∧ (J7 6 x243.toInt.toNat).toInt + (J7 6 x256.toInt.toNat).toInt = tlv J7 z20.toInt.toNat := by
                         by_cases q : (J7 3 (J7 31 z20.toInt.toNat).toInt.toNat).toInt = 1
                         · rw [c243_2 q, c256_2 q]; exact ⟨⟨s64.2.2.1, s64.2.1⟩, by omega, by omega, by omega⟩
                         · rw [c243_3 q, c256_3 q]; exact ⟨⟨s64.2.1, s64.2.2.1⟩, by omega, by omega, by omega⟩
                       have iA : (I262 0 46).toInt = (I193 0 46).toInt := congrArg Int32.toInt ((c262_1 46 rfl).trans (c249_1 46 rfl))
                       have i9 : (I193 0 48).toInt = z20.toInt := congrArg Int32.toInt i193
                       have iB : (I249 0 48).toInt.toNat = z20.toInt.toNat + 1 := by omega
                       have iC : (I193 0 48).toInt.toNat = z20.toInt.toNat := by rw [i193]
                       exact oI_wanted (t := z20.toInt.toNat) (n1 := x243) (n2 := x256) (t1 := x193) (t2 := J7 32 z20.toInt.toNat) (p1 := vp_nar .boolean (Int32.ofInt 1)) (p2 := vp_nar .boolean (Int32.ofInt 0)) (wn := x243) (is := x256) (b := x193) (y := z226) (z0 := Int32.ofInt 0) hR7c u7_1 tt rfl h87 (by omega) ((c262_1 45 rfl).trans ((c249_1 45 rfl).trans (c193_1 45 rfl))) (by omega) ((c262_1 47 rfl).trans ((c249_1 47 rfl).trans (c193_1 47 rfl))) (by omega) ((c262_1 24 rfl).trans ((c249_1 24 rfl).trans (c193_1 24 rfl))) (by rw [c262_5, c249_5, r193.2.2.2.2.2.1, iB, iC]) (by rw [c262_6, c249_6, r193.2.2.2.2.2.2.1, iB, iC]) (by rw [c262_7, c249_7, r193.2.2.2.2.2.2.2, iB, iC]) (Or.inl ⟨rfl, rfl, rfl, rfl, rfl, rfl⟩) X.1 X.2 ((c262_2 29 rfl).trans ((c249_2 29 rfl).trans (congrArg (fun f => upd f _ _) r193.2.2.2.1))) (by omega) ((c262_2 26 rfl).trans ((c249_2 26 rfl).trans c193_6)) ((c262_2 27 rfl).trans ((c249_2 27 rfl).trans c193_7)) rfl ((c262_2 6 rfl).trans ((c249_2 6 rfl).trans (c193_2 6 rfl))) ((c262_2 8 rfl).trans ((c249_2 8 rfl).trans (c193_2 8 rfl))) ((c262_2 11 rfl).trans ((c249_2 11 rfl).trans (c193_2 11 rfl))) ((c262_2 22 rfl).trans ((c249_2 22 rfl).trans (c193_2 22 rfl))) ((c262_2 24 rfl).trans ((c249_2 24 rfl).trans (c193_2 24 rfl))) ((c262_2 25 rfl).trans ((c249_2 25 rfl).trans (c193_2 25 rfl))) ((c262_2 28 rfl).trans ((c249_2 28 rfl).trans (c193_2 28 rfl))) ((c262_2 33 rfl).trans ((c249_2 33 rfl).trans (c193_2 33 rfl))))
                    | (have X : (lvn J7 x280.toInt ∧ lvn J7 x256.toInt) ∧ 1 ≤ (J7 6 x280.toInt.toNat).toInt ∧ 1 ≤ (J7 6 x256.toInt.toNat).toInt ∧ (J7 6 x280.toInt.toNat).toInt + (J7 6 x256.toInt.toNat).toInt = tlv J7 z20.toInt.toNat := by
                         by_cases q : (J7 3 (J7 31 z20.toInt.toNat).toInt.toNat).toInt = 1
                         · rw [c280_2 q, c256_2 q]; exact ⟨⟨s64.2.2.1, s64.2.1⟩, by omega, by omega, by omega⟩
                         · rw [c280_3 q, c256_3 q]; exact ⟨⟨s64.2.1, s64.2.2.1⟩, by omega, by omega, by omega⟩
                       have iA : (I286 0 46).toInt = (I193 0 46).toInt := congrArg Int32.toInt ((c286_1 46 rfl).trans (c262_1 46 rfl))
                       have i9 : (I193 0 48).toInt = z20.toInt := congrArg Int32.toInt i193
                       have iB : (I262 0 48).toInt.toNat = z20.toInt.toNat + 1 := by omega
                       have iC : (I193 0 48).toInt.toNat = z20.toInt.toNat := by rw [i193]
                       exact oI_wanted (t := z20.toInt.toNat) (n1 := x256) (n2 := x280) (t1 := J7 32 z20.toInt.toNat) (t2 := x193) (p1 := vp_nar .boolean (Int32.ofInt 0)) (p2 := vp_nar .boolean (Int32.ofInt 1)) (wn := x280) (is := x256) (b := x193) (y := z226) (z0 := Int32.ofInt 0) hR7c u7_1 tt rfl h87 (by omega) ((c286_1 45 rfl).trans ((c262_1 45 rfl).trans (c193_1 45 rfl))) (by omega) ((c286_1 47 rfl).trans ((c262_1 47 rfl).trans (c193_1 47 rfl))) (by omega) ((c286_1 24 rfl).trans ((c262_1 24 rfl).trans (c193_1 24 rfl))) (by rw [c286_5, c262_5, r193.2.2.2.2.2.1, iB, iC]) (by rw [c286_6, c262_6, r193.2.2.2.2.2.2.1, iB, iC]) (by rw [c286_7, c262_7, r193.2.2.2.2.2.2.2, iB, iC]) (Or.inr ⟨rfl, rfl, rfl, rfl, rfl, rfl⟩) X.1 X.2 ((c286_2 29 rfl).trans ((c262_2 29 rfl).trans (congrArg (fun f => upd f _ _) r193.2.2.2.1))) (by omega) ((c286_2 26 rfl).trans ((c262_2 26 rfl).trans c193_6)) ((c286_2 27 rfl).trans ((c262_2 27 rfl).trans c193_7)) rfl ((c286_2 6 rfl).trans ((c262_2 6 rfl).trans (c193_2 6 rfl))) ((c286_2 8 rfl).trans ((c262_2 8 rfl).trans (c193_2 8 rfl))) ((c286_2 11 rfl).trans ((c262_2 11 rfl).trans (c193_2 11 rfl))) ((c286_2 22 rfl).trans ((c262_2 22 rfl).trans (c193_2 22 rfl))) ((c286_2 24 rfl).trans ((c262_2 24 rfl).trans (c193_2 24 rfl))) ((c286_2 25 rfl).trans ((c262_2 25 rfl).trans (c193_2 25 rfl))) ((c286_2 28 rfl).trans ((c262_2 28 rfl).trans (c193_2 28 rfl))) ((c286_2 33 rfl).trans ((c262_2 33 rfl).trans (c193_2 33 rfl))))
                  have m289 : 0 ≤ 2 * tS (tlv I160) (I160 0 48).toInt.toNat - (I160 0 48).toInt ∧ 2 * tS (tlv I160) (I160 0 48).toInt.toNat - (I160 0 48).toInt < 2 * tS (tlv J7) (J7 0 48).toInt.toNat - (J7 0 48).toInt := by
                    have n9 := tk_num q289.1
                    first
                    | omega
                    | (exfalso; omega)
                    | (have j := congrArg Int32.toInt (show I160 0 45 = J7 0 45 from (c160_1 45 rfl).trans ((c147_1 45 rfl).trans (c91_1 45 rfl)))
                       have i9 : (I91 0 48).toInt = z20.toInt := congrArg Int32.toInt i91
                       omega)
                    | (have j := congrArg Int32.toInt (show I184 0 45 = J7 0 45 from (c184_1 45 rfl).trans ((c160_1 45 rfl).trans (c91_1 45 rfl)))
                       have i9 : (I91 0 48).toInt = z20.toInt := congrArg Int32.toInt i91
                       omega)
                    | (have j := congrArg Int32.toInt (show I262 0 45 = J7 0 45 from (c262_1 45 rfl).trans ((c249_1 45 rfl).trans (c193_1 45 rfl)))
                       have i9 : (I193 0 48).toInt = z20.toInt := congrArg Int32.toInt i193
                       omega)
                    | (have j := congrArg Int32.toInt (show I286 0 45 = J7 0 45 from (c286_1 45 rfl).trans ((c262_1 45 rfl).trans (c193_1 45 rfl)))
                       have i9 : (I193 0 48).toInt = z20.toInt := congrArg Int32.toInt i193
                       omega)
                  have r7_17 : 0 ≤ (I160 0 48).toInt ∧ (I160 0 48).toInt ≤ 60 := c160_0 0 48
                  exact ⟨(by intro q9 h9; simp only [List.mem_cons, List.not_mem_nil, or_false] at h9; rcases h9 with h9 | h9 | h9 | h9 <;> subst h9 <;> repeat (first | exact List.mem_cons_self | apply List.mem_cons_of_mem)), rfl, rfl, c160_0, hF160, hO160, hmL160, (show oI I I160 ((I 0 45).toInt + (I 6 nd.toInt.toNat).toInt) from by first | assumption | omega), (show 0 ≤ 2 * tS (tlv I160) (I160 0 48).toInt.toNat - (I160 0 48).toInt from by first | assumption | omega), (show (2 * tS (tlv I160) (I160 0 48).toInt.toNat - (I160 0 48).toInt) < n7 from by omega)⟩
                · intro h171
                  have h171 : (I160 3 ((J7 31 (z20.toInt.toNat)).toInt.toNat)).toInt = 2 := h171
                  refine And.intro ⟨(show 0 ≤ (J7 31 (z20.toInt.toNat)).toInt from by first | assumption | omega), (show (J7 31 (z20.toInt.toNat)).toInt ≤ 1599 from by first | assumption | omega)⟩ ?_
                  intro x178 I178 L178 hq178
                  have hq178 : I178 = I160 ∧ L178 = L ∧ (((I160 3 (J7 31 (z20.toInt.toNat)).toInt.toNat).toInt = 1 → x178 = I160 5 (J7 31 (z20.toInt.toNat)).toInt.toNat)) ∧ ((¬ (I160 3 (J7 31 (z20.toInt.toNat)).toInt.toNat).toInt = 1 → x178 = I160 4 (J7 31 (z20.toInt.toNat)).toInt.toNat)) := hq178
                  obtain ⟨eI178, eL178, c178_2, c178_3⟩ := hq178
                  replace eI178 := eI178.symm
                  subst eI178
                  replace eL178 := eL178.symm
                  subst eL178
                  have e178 : (I160 3) = J7 3 ∧ (I160 4) = J7 4 ∧ (I160 5) = J7 5 := by first | exact ⟨(c160_2 3 rfl).trans r91.1, (c160_2 4 rfl).trans r91.2.1, (c160_2 5 rfl).trans r91.2.2.1⟩ | exact ⟨(c160_2 3 rfl).trans ((c147_2 3 rfl).trans r91.1), (c160_2 4 rfl).trans ((c147_2 4 rfl).trans r91.2.1), (c160_2 5 rfl).trans ((c147_2 5 rfl).trans r91.2.2.1)⟩
                  simp only [e178.1, e178.2.1, e178.2.2] at c178_2 c178_3
                  have v178 : 0 ≤ x178.toInt ∧ x178.toInt ≤ 1599 := by by_cases q : (J7 3 (J7 31 z20.toInt.toNat).toInt.toNat).toInt = 1; (rw [c178_2 q]; omega); (rw [c178_3 q]; omega)
                  have r184_17 : 0 ≤ (I160 0 48).toInt ∧ (I160 0 48).toInt ≤ 60 := c160_0 0 48
                  refine And.intro ⟨c160_0, (show (I160 0 48).toInt ≤ 59 from by first | assumption | omega), (show 0 ≤ x178.toInt from by first | assumption | omega), (show x178.toInt ≤ 1599 from by first | assumption | omega), (show 0 ≤ x91.toInt from by first | assumption | omega), (show x91.toInt ≤ 39 from by first | assumption | omega)⟩ ?_
                  intro I184 L184 hq184
                  have hq184 : mR I184 ∧ f_fo [48] I160 I184 ∧ f_fr [0, 31, 32, 34] I160 I184 ∧ L184 = L ∧ (I184 0 48).toInt = (I160 0 48).toInt + 1 ∧ I184 31 = upd (I160 31) (I160 0 48).toInt.toNat x178 ∧ I184 32 = upd (I160 32) (I160 0 48).toInt.toNat x91 ∧ I184 34 = upd (I160 34) (I160 0 48).toInt.toNat (vp_nar .boolean (Int32.ofInt 0)) := hq184
                  obtain ⟨c184_0, c184_1, c184_2, eL184, c184_4, c184_5, c184_6, c184_7⟩ := hq184
                  replace eL184 := eL184.symm
                  subst eL184
                  have hO184 := f_fo_tr hO160 c184_1 rfl
                  have hmL184 := f_depo_fo mL_dep hmL160 c184_2 c184_1 rfl rfl
                  have hF184 := f_fr_tr hF160 c184_2 rfl
                  have q289 : oI I I184 ((I 0 45).toInt + (I 6 nd.toInt.toNat).toInt) := by
                    first
                    | (exfalso; omega)
                    | (have h1 : tlv J7 z20.toInt.toNat = 1 := by rw [tl]; rcases l4 with q | q; exact q.2; exact absurd h64 q.1
                       have e48 : (I79 0 48).toInt = z20.toInt := congrArg Int32.toInt (c79_1 48 rfl)
                       exact oI_end (t := z20.toInt.toNat) hR7c u7_1 tt h1 rfl (f_nar01 o1) (by omega) (c79_1 46 rfl) (c79_1 47 rfl) (by omega) (c79_1 24 rfl) c79_5 c79_6 c79_7 c79_8 (c79_2 6 rfl) (c79_2 8 rfl) (c79_2 11 rfl) (c79_2 26 rfl) (c79_2 27 rfl) (c79_2 28 rfl) (c79_2 29 rfl) (c79_2 31 rfl) (c79_2 32 rfl) (c79_2 34 rfl))
                    | (have X : (lvn J7 x141.toInt ∧ lvn J7 x154.toInt) ∧ 1 ≤ (J7 6 x141.toInt.toNat).toInt ∧ 1 ≤ (J7 6 x154.toInt.toNat).toInt ∧ (J7 6 x141.toInt.toNat).toInt + (J7 6 x154.toInt.toNat).toInt = tlv J7 z20.toInt.toNat := by
                         by_cases q : (J7 3 (J7 31 z20.toInt.toNat).toInt.toNat).toInt = 1
                         · rw [c141_2 q, c154_2 q]; exact ⟨⟨s64.2.2.1, s64.2.1⟩, by omega, by omega, by omega⟩
                         · rw [c141_3 q, c154_3 q]; exact ⟨⟨s64.2.1, s64.2.2.1⟩, by omega, by omega, by omega⟩
                       have iA : (I160 0 47).toInt = (I91 0 47).toInt := congrArg Int32.toInt ((c160_1 47 rfl).trans (c147_1 47 rfl))
                       have i9 : (I91 0 48).toInt = z20.toInt := congrArg Int32.toInt i91
                       have iB : (I147 0 48).toInt.toNat = z20.toInt.toNat + 1 := by omega
                       have iC : (I91 0 48).toInt.toNat = z20.toInt.toNat := by rw [i91]
                       exact oI_given (t := z20.toInt.toNat) (n1 := x141) (n2 := x154) (t1 := x91) (t2 := J7 32 z20.toInt.toNat) (p1 := vp_nar .boolean (Int32.ofInt 0)) (p2 := vp_nar .boolean (Int32.ofInt 1)) (wn := x141) (is := x154) (b := x91) (y := z124) (z0 := Int32.ofInt 0) (k := z111.toInt.toNat) hR7c u7_1 tt rfl g87 (by omega) ((c160_1 45 rfl).trans ((c147_1 45 rfl).trans (c91_1 45 rfl))) ((c160_1 46 rfl).trans ((c147_1 46 rfl).trans (c91_1 46 rfl))) (by omega) (by omega) ((c160_1 24 rfl).trans ((c147_1 24 rfl).trans (c91_1 24 rfl))) (by rw [c160_5, c147_5, r91.2.2.2.2.2.1, iB, iC]) (by rw [c160_6, c147_6, r91.2.2.2.2.2.2.1, iB, iC]) (by rw [c160_7, c147_7, r91.2.2.2.2.2.2.2, iB, iC]) (Or.inl ⟨rfl, rfl, rfl, rfl, rfl, rfl⟩) X.1 X.2 ((c160_2 27 rfl).trans ((c147_2 27 rfl).trans (congrArg (fun f => upd f _ _) r91.2.2.2.1))) (by omega) ((c160_2 28 rfl).trans ((c147_2 28 rfl).trans (congrArg (fun f => upd f _ _) r91.2.2.2.2.1))) (by omega) ((c160_2 29 rfl).trans ((c147_2 29 rfl).trans c91_6)) rfl ((c160_2 6 rfl).trans ((c147_2 6 rfl).trans (c91_2 6 rfl))) ((c160_2 8 rfl).trans ((c147_2 8 rfl).trans (c91_2 8 rfl))) ((c160_2 11 rfl).trans ((c147_2 11 rfl).trans (c91_2 11 rfl))) ((c160_2 22 rfl).trans ((c147_2 22 rfl).trans (c91_2 22 rfl))) ((c160_2 24 rfl).trans ((c147_2 24 rfl).trans (c91_2 24 rfl))) ((c160_2 25 rfl).trans ((c147_2 25 rfl).trans (c91_2 25 rfl))) ((c160_2 26 rfl).trans ((c147_2 26 rfl).trans (c91_2 26 rfl))) ((c160_2 33 rfl).trans ((c147_2 33 rfl).trans (c91_2 33 rfl))))
                    | (have X : (lvn J7 x178.toInt ∧ lvn J7 x154.toInt) ∧ 1 ≤ (J7 6 x178.toInt.toNat).toInt ∧ 1 ≤ (J7 6 x154.toInt.toNat).toInt ∧ (J7 6 x178.toInt.toNat).toInt + (J7 6 x154.toInt.toNat).toInt = tlv J7 z20.toInt.toNat := by
                         by_cases q : (J7 3 (J7 31 z20.toInt.toNat).toInt.toNat).toInt = 1
                         · rw [c178_2 q, c154_2 q]; exact ⟨⟨s64.2.2.1, s64.2.1⟩, by omega, by omega, by omega⟩
                         · rw [c178_3 q, c154_3 q]; exact ⟨⟨s64.2.1, s64.2.2.1⟩, by omega, by omega, by omega⟩
                       have iA : (I184 0 47).toInt = (I91 0 47).toInt := congrArg Int32.toInt ((c184_1 47 rfl).trans (c160_1 47 rfl))
                       have i9 : (I91 0 48).toInt = z20.toInt := congrArg Int32.toInt i91
                       have iB : (I160 0 48).toInt.toNat = z20.toInt.toNat + 1 := by omega
                       have iC : (I91 0 48).toInt.toNat = z20.toInt.toNat := by rw [i91]
                       exact oI_given (t := z20.toInt.toNat) (n1 := x154) (n2 := x178) (t1 := J7 32 z20.toInt.toNat) (t2 := x91) (p1 := vp_nar .boolean (Int32.ofInt 1)) (p2 := vp_nar .boolean (Int32.ofInt 0)) (wn := x178) (is := x154) (b := x91) (y := z124) (z0 := Int32.ofInt 0) (k := z111.toInt.toNat) hR7c u7_1 tt rfl g87 (by omega) ((c184_1 45 rfl).trans ((c160_1 45 rfl).trans (c91_1 45 rfl))) ((c184_1 46 rfl).trans ((c160_1 46 rfl).trans (c91_1 46 rfl))) (by omega) (by omega) ((c184_1 24 rfl).trans ((c160_1 24 rfl).trans (c91_1 24 rfl))) (by rw [c184_5, c160_5, r91.2.2.2.2.2.1, iB, iC]) (by rw [c184_6, c160_6, r91.2.2.2.2.2.2.1, iB, iC]) (by rw [c184_7, c160_7, r91.2.2.2.2.2.2.2, iB, iC]) (Or.inr ⟨rfl, rfl, rfl, rfl, rfl, rfl⟩) X.1 X.2 ((c184_2 27 rfl).trans ((c160_2 27 rfl).trans (congrArg (fun f => upd f _ _) r91.2.2.2.1))) (by omega) ((c184_2 28 rfl).trans ((c160_2 28 rfl).trans (congrArg (fun f => upd f _ _) r91.2.2.2.2.1))) (by omega) ((c184_2 29 rfl).trans ((c160_2 29 rfl).trans c91_6)) rfl ((c184_2 6 rfl).trans ((c160_2 6 rfl).trans (c91_2 6 rfl))) ((c184_2 8 rfl).trans ((c160_2 8 rfl).trans (c91_2 8 rfl))) ((c184_2 11 rfl).trans ((c160_2 11 rfl).trans (c91_2 11 rfl))) ((c184_2 22 rfl).trans ((c160_2 22 rfl).trans (c91_2 22 rfl))) ((c184_2 24 rfl).trans ((c160_2 24 rfl).trans (c91_2 24 rfl))) ((c184_2 25 rfl).trans ((c160_2 25 rfl).trans (c91_2 25 rfl))) ((c184_2 26 rfl).trans ((c160_2 26 rfl).trans (c91_2 26 rfl))) ((c184_2 33 rfl).trans ((c160_2 33 rfl).trans (c91_2 33 rfl))))
                    | (have X : (lvn J7 x243.toInt ∧ lvn J7 x256.toInt) ∧ 1 ≤ (J7 6 x243.toInt.toNat).toInt ∧ 1 ≤ (J7 6 x256.toInt.toNat).toInt ∧ (J7 6 x243.toInt.toNat).toInt + (J7 6 x256.toInt.toNat).toInt = tlv J7 z20.toInt.toNat := by
                         by_cases q : (J7 3 (J7 31 z20.toInt.toNat).toInt.toNat).toInt = 1
                         · rw [c243_2 q, c256_2 q]; exact ⟨⟨s64.2.2.1, s64.2.1⟩, by omega, by omega, by omega⟩
                         · rw [c243_3 q, c256_3 q]; exact ⟨⟨s64.2.1, s64.2.2.1⟩, by omega, by omega, by omega⟩
                       have iA : (I262 0 46).toInt = (I193 0 46).toInt := congrArg Int32.toInt ((c262_1 46 rfl).trans (c249_1 46 rfl))
                       have i9 : (I193 0 48).toInt = z20.toInt := congrArg Int32.toInt i193
                       have iB : (I249 0 48).toInt.toNat = z20.toInt.toNat + 1 := by omega
                       have iC : (I193 0 48).toInt.toNat = z20.toInt.toNat := by rw [i193]
                       exact oI_wanted (t := z20.toInt.toNat) (n1 := x243) (n2 := x256) (t1 := x193) (t2 := J7 32 z20.toInt.toNat) (p1 := vp_nar .boolean (Int32.ofInt 1)) (p2 := vp_nar .boolean (Int32.ofInt 0)) (wn := x243) (is := x256) (b := x193) (y := z226) (z0 := Int32.ofInt 0) hR7c u7_1 tt rfl h87 (by omega) ((c262_1 45 rfl).trans ((c249_1 45 rfl).trans (c193_1 45 rfl))) (by omega) ((c262_1 47 rfl).trans ((c249_1 47 rfl).trans (c193_1 47 rfl))) (by omega) ((c262_1 24 rfl).trans ((c249_1 24 rfl).trans (c193_1 24 rfl))) (by rw [c262_5, c249_5, r193.2.2.2.2.2.1, iB, iC]) (by rw [c262_6, c249_6, r193.2.2.2.2.2.2.1, iB, iC]) (by rw [c262_7, c249_7, r193.2.2.2.2.2.2.2, iB, iC]) (Or.inl ⟨rfl, rfl, rfl, rfl, rfl, rfl⟩) X.1 X.2 ((c262_2 29 rfl).trans ((c249_2 29 rfl).trans (congrArg (fun f => upd f _ _) r193.2.2.2.1))) (by omega) ((c262_2 26 rfl).trans ((c249_2 26 rfl).trans c193_6)) ((c262_2 27 rfl).trans ((c249_2 27 rfl).trans c193_7)) rfl ((c262_2 6 rfl).trans ((c249_2 6 rfl).trans (c193_2 6 rfl))) ((c262_2 8 rfl).trans ((c249_2 8 rfl).trans (c193_2 8 rfl))) ((c262_2 11 rfl).trans ((c249_2 11 rfl).trans (c193_2 11 rfl))) ((c262_2 22 rfl).trans ((c249_2 22 rfl).trans (c193_2 22 rfl))) ((c262_2 24 rfl).trans ((c249_2 24 rfl).trans (c193_2 24 rfl))) ((c262_2 25 rfl).trans ((c249_2 25 rfl).trans (c193_2 25 rfl))) ((c262_2 28 rfl).trans ((c249_2 28 rfl).trans (c193_2 28 rfl))) ((c262_2 33 rfl).trans ((c249_2 33 rfl).trans (c193_2 33 rfl))))
                    | (have X : (lvn J7 x280.toInt ∧ lvn J7 x256.toInt) ∧ 1 ≤ (J7 6 x280.toInt.toNat).toInt ∧ 1 ≤ (J7 6 x256.toInt.toNat).toInt ∧ (J7 6 x280.toInt.toNat).toInt + (J7 6 x256.toInt.toNat).toInt = tlv J7 z20.toInt.toNat := by
                         by_cases q : (J7 3 (J7 31 z20.toInt.toNat).toInt.toNat).toInt = 1
                         · rw [c280_2 q, c256_2 q]; exact ⟨⟨s64.2.2.1, s64.2.1⟩, by omega, by omega, by omega⟩
                         · rw [c280_3 q, c256_3 q]; exact ⟨⟨s64.2.1, s64.2.2.1⟩, by omega, by omega, by omega⟩
                       have iA : (I286 0 46).toInt = (I193 0 46).toInt := congrArg Int32.toInt ((c286_1 46 rfl).trans (c262_1 46 rfl))
                       have i9 : (I193 0 48).toInt = z20.toInt := congrArg Int32.toInt i193
                       have iB : (I262 0 48).toInt.toNat = z20.toInt.toNat + 1 := by omega
                       have iC : (I193 0 48).toInt.toNat = z20.toInt.toNat := by rw [i193]
                       exact oI_wanted (t := z20.toInt.toNat) (n1 := x256) (n2 := x280) (t1 := J7 32 z20.toInt.toNat) (t2 := x193) (p1 := vp_nar .boolean (Int32.ofInt 0)) (p2 := vp_nar .boolean (Int32.ofInt 1)) (wn := x280) (is := x256) (b := x193) (y := z226) (z0 := Int32.ofInt 0) hR7c u7_1 tt rfl h87 (by omega) ((c286_1 45 rfl).trans ((c262_1 45 rfl).trans (c193_1 45 rfl))) (by omega) ((c286_1 47 rfl).trans ((c262_1 47 rfl).trans (c193_1 47 rfl))) (by omega) ((c286_1 24 rfl).trans ((c262_1 24 rfl).trans (c193_1 24 rfl))) (by rw [c286_5, c262_5, r193.2.2.2.2.2.1, iB, iC]) (by rw [c286_6, c262_6, r193.2.2.2.2.2.2.1, iB, iC]) (by rw [c286_7, c262_7, r193.2.2.2.2.2.2.2, iB, iC]) (Or.inr ⟨rfl, rfl, rfl, rfl, rfl, rfl⟩) X.1 X.2 ((c286_2 29 rfl).trans ((c262_2 29 rfl).trans (congrArg (fun f => upd f _ _) r193.2.2.2.1))) (by omega) ((c286_2 26 rfl).trans ((c262_2 26 rfl).trans c193_6)) ((c286_2 27 rfl).trans ((c262_2 27 rfl).trans c193_7)) rfl ((c286_2 6 rfl).trans ((c262_2 6 rfl).trans (c193_2 6 rfl))) ((c286_2 8 rfl).trans ((c262_2 8 rfl).trans (c193_2 8 rfl))) ((c286_2 11 rfl).trans ((c262_2 11 rfl).trans (c193_2 11 rfl))) ((c286_2 22 rfl).trans ((c262_2 22 rfl).trans (c193_2 22 rfl))) ((c286_2 24 rfl).trans ((c262_2 24 rfl).trans (c193_2 24 rfl))) ((c286_2 25 rfl).trans ((c262_2 25 rfl).trans (c193_2 25 rfl))) ((c286_2 28 rfl).trans ((c262_2 28 rfl).trans (c193_2 28 rfl))) ((c286_2 33 rfl).trans ((c262_2 33 rfl).trans (c193_2 33 rfl))))
                  have m289 : 0 ≤ 2 * tS (tlv I184) (I184 0 48).toInt.toNat - (I184 0 48).toInt ∧ 2 * tS (tlv I184) (I184 0 48).toInt.toNat - (I184 0 48).toInt < 2 * tS (tlv J7) (J7 0 48).toInt.toNat - (J7 0 48).toInt := by
                    have n9 := tk_num q289.1
                    first
                    | omega
                    | (exfalso; omega)
                    | (have j := congrArg Int32.toInt (show I160 0 45 = J7 0 45 from (c160_1 45 rfl).trans ((c147_1 45 rfl).trans (c91_1 45 rfl)))
                       have i9 : (I91 0 48).toInt = z20.toInt := congrArg Int32.toInt i91
                       omega)
                    | (have j := congrArg Int32.toInt (show I184 0 45 = J7 0 45 from (c184_1 45 rfl).trans ((c160_1 45 rfl).trans (c91_1 45 rfl)))
                       have i9 : (I91 0 48).toInt = z20.toInt := congrArg Int32.toInt i91
                       omega)
                    | (have j := congrArg Int32.toInt (show I262 0 45 = J7 0 45 from (c262_1 45 rfl).trans ((c249_1 45 rfl).trans (c193_1 45 rfl)))
                       have i9 : (I193 0 48).toInt = z20.toInt := congrArg Int32.toInt i193
                       omega)
                    | (have j := congrArg Int32.toInt (show I286 0 45 = J7 0 45 from (c286_1 45 rfl).trans ((c262_1 45 rfl).trans (c193_1 45 rfl)))
                       have i9 : (I193 0 48).toInt = z20.toInt := congrArg Int32.toInt i193
                       omega)
                  have r7_18 : 0 ≤ (I184 0 48).toInt ∧ (I184 0 48).toInt ≤ 60 := c184_0 0 48
                  exact ⟨(by intro q9 h9; simp only [List.mem_cons, List.not_mem_nil, or_false] at h9; rcases h9 with h9 | h9 | h9 | h9 <;> subst h9 <;> repeat (first | exact List.mem_cons_self | apply List.mem_cons_of_mem)), rfl, rfl, c184_0, hF184, hO184, hmL184, (show oI I I184 ((I 0 45).toInt + (I 6 nd.toInt.toNat).toInt) from by first | assumption | omega), (show 0 ≤ 2 * tS (tlv I184) (I184 0 48).toInt.toNat - (I184 0 48).toInt from by first | assumption | omega), (show (2 * tS (tlv I184) (I184 0 48).toInt.toNat - (I184 0 48).toInt) < n7 from by omega)⟩
          · intro h64
            have h64 : (J7 3 ((J7 31 (z20.toInt.toNat)).toInt.toNat)).toInt = 0 := h64
            try have s64 : ¬ (J7 3 (J7 31 z20.toInt.toNat).toInt.toNat).toInt = 0 ∧ lvn J7 (J7 4 (J7 31 z20.toInt.toNat).toInt.toNat).toInt ∧ lvn J7 (J7 5 (J7 31 z20.toInt.toNat).toInt.toNat).toInt ∧ (J7 6 (J7 31 z20.toInt.toNat).toInt.toNat).toInt = (J7 6 (J7 4 (J7 31 z20.toInt.toNat).toInt.toNat).toInt.toNat).toInt + (J7 6 (J7 5 (J7 31 z20.toInt.toNat).toInt.toNat).toInt.toNat).toInt := by rcases l4 with q | q; exact absurd q.1 h64; exact q
            try have a64 := lvn_ok hR7c hmL7c s64.2.1
            try have b64 := lvn_ok hR7c hmL7c s64.2.2.1
            have z64 : 0 ≤ (J7 3 (J7 31 z20.toInt.toNat).toInt.toNat).toInt ∧ (J7 3 (J7 31 z20.toInt.toNat).toInt.toNat).toInt ≤ 2 := hR7c 3 _
            refine And.intro (show f_in (J7 31 (z20.toInt.toNat)) 1600 from ⟨show 0 ≤ (J7 31 (z20.toInt.toNat)).toInt from by omega, show (J7 31 (z20.toInt.toNat)).toInt < 1600 from by omega⟩) ?_
            have r74_7 : 0 ≤ (J7 4 ((J7 31 (z20.toInt.toNat)).toInt.toNat)).toInt ∧ (J7 4 ((J7 31 (z20.toInt.toNat)).toInt.toNat)).toInt ≤ 1599 := hR21 4 ((J7 31 (z20.toInt.toNat)).toInt.toNat)
            have e74_8 : (J7 4 ((J7 31 (z20.toInt.toNat)).toInt.toNat)).toInt = (I 4 ((J7 31 (z20.toInt.toNat)).toInt.toNat)).toInt := congrArg Int32.toInt (congrFun (hF7c 4 rfl) ((J7 31 (z20.toInt.toNat)).toInt.toNat))
            refine And.intro ⟨hR21, (show (J7 0 45).toInt ≤ 19 from by first | assumption | omega), (show 0 ≤ (J7 32 (z20.toInt.toNat)).toInt from by first | assumption | omega), (show (J7 32 (z20.toInt.toNat)).toInt ≤ 39 from by first | assumption | omega)⟩ ?_
            intro I79 L79 hq79
            have hq79 : mR I79 ∧ f_fo [45] (va_up J7 0 (va_up (J7 0) 48 z20)) I79 ∧ f_fr [0, 21, 22, 24, 25, 33] (va_up J7 0 (va_up (J7 0) 48 z20)) I79 ∧ L79 = L ∧ (I79 0 45).toInt = (J7 0 45).toInt + 1 ∧ I79 22 = upd (J7 22) (J7 0 45).toInt.toNat (J7 32 (z20.toInt.toNat)) ∧ I79 33 = upd (J7 33) (J7 0 45).toInt.toNat (vp_nar .boolean (J7 34 (z20.toInt.toNat))) ∧ (((J7 34 (z20.toInt.toNat)).toInt = 0 → I79 24 = J7 24 ∧ I79 25 = upd (J7 25) (J7 32 (z20.toInt.toNat)).toInt.toNat (J7 0 45))) ∧ ((¬ (J7 34 (z20.toInt.toNat)).toInt = 0 → I79 25 = J7 25 ∧ I79 24 = upd (J7 24) (J7 32 (z20.toInt.toNat)).toInt.toNat (J7 0 45))) := hq79
            obtain ⟨c79_0, c79_1, c79_2, eL79, c79_4, c79_5, c79_6, c79_7, c79_8⟩ := hq79
            replace eL79 := eL79.symm
            subst eL79
            have hO79 := f_fo_tr hO21 c79_1 rfl
            have hmL79 := f_depo_fo mL_dep hmL21 c79_2 c79_1 rfl rfl
            have hF79 := f_fr_tr hF21 c79_2 rfl
            have e79 : (I79 0 48).toInt = z20.toInt := congrArg Int32.toInt (c79_1 48 rfl)
            have q289 : oI I I79 ((I 0 45).toInt + (I 6 nd.toInt.toNat).toInt) := by
              first
              | (exfalso; omega)
              | (have h1 : tlv J7 z20.toInt.toNat = 1 := by rw [tl]; rcases l4 with q | q; exact q.2; exact absurd h64 q.1
                 have e48 : (I79 0 48).toInt = z20.toInt := congrArg Int32.toInt (c79_1 48 rfl)
                 exact oI_end (t := z20.toInt.toNat) hR7c u7_1 tt h1 rfl (f_nar01 o1) (by omega) (c79_1 46 rfl) (c79_1 47 rfl) (by omega) (c79_1 24 rfl) c79_5 c79_6 c79_7 c79_8 (c79_2 6 rfl) (c79_2 8 rfl) (c79_2 11 rfl) (c79_2 26 rfl) (c79_2 27 rfl) (c79_2 28 rfl) (c79_2 29 rfl) (c79_2 31 rfl) (c79_2 32 rfl) (c79_2 34 rfl))
              | (have X : (lvn J7 x141.toInt ∧ lvn J7 x154.toInt) ∧ 1 ≤ (J7 6 x141.toInt.toNat).toInt ∧ 1 ≤ (J7 6 x154.toInt.toNat).toInt ∧ (J7 6 x141.toInt.toNat).toInt + (J7 6 x154.toInt.toNat).toInt = tlv J7 z20.toInt.toNat := by
                   by_cases q : (J7 3 (J7 31 z20.toInt.toNat).toInt.toNat).toInt = 1
                   · rw [c141_2 q, c154_2 q]; exact ⟨⟨s64.2.2.1, s64.2.1⟩, by omega, by omega, by omega⟩
                   · rw [c141_3 q, c154_3 q]; exact ⟨⟨s64.2.1, s64.2.2.1⟩, by omega, by omega, by omega⟩
                 have iA : (I160 0 47).toInt = (I91 0 47).toInt := congrArg Int32.toInt ((c160_1 47 rfl).trans (c147_1 47 rfl))
                 have i9 : (I91 0 48).toInt = z20.toInt := congrArg Int32.toInt i91
                 have iB : (I147 0 48).toInt.toNat = z20.toInt.toNat + 1 := by omega
                 have iC : (I91 0 48).toInt.toNat = z20.toInt.toNat := by rw [i91]
                 exact oI_given (t := z20.toInt.toNat) (n1 := x141) (n2 := x154) (t1 := x91) (t2 := J7 32 z20.toInt.toNat) (p1 := vp_nar .boolean (Int32.ofInt 0)) (p2 := vp_nar .boolean (Int32.ofInt 1)) (wn := x141) (is := x154) (b := x91) (y := z124) (z0 := Int32.ofInt 0) (k := z111.toInt.toNat) hR7c u7_1 tt rfl g87 (by omega) ((c160_1 45 rfl).trans ((c147_1 45 rfl).trans (c91_1 45 rfl))) ((c160_1 46 rfl).trans ((c147_1 46 rfl).trans (c91_1 46 rfl))) (by omega) (by omega) ((c160_1 24 rfl).trans ((c147_1 24 rfl).trans (c91_1 24 rfl))) (by rw [c160_5, c147_5, r91.2.2.2.2.2.1, iB, iC]) (by rw [c160_6, c147_6, r91.2.2.2.2.2.2.1, iB, iC]) (by rw [c160_7, c147_7, r91.2.2.2.2.2.2.2, iB, iC]) (Or.inl ⟨rfl, rfl, rfl, rfl, rfl, rfl⟩) X.1 X.2 ((c160_2 27 rfl).trans ((c147_2 27 rfl).trans (congrArg (fun f => upd f _ _) r91.2.2.2.1))) (by omega) ((c160_2 28 rfl).trans ((c147_2 28 rfl).trans (congrArg (fun f => upd f _ _) r91.2.2.2.2.1))) (by omega) ((c160_2 29 rfl).trans ((c147_2 29 rfl).trans c91_6)) rfl ((c160_2 6 rfl).trans ((c147_2 6 rfl).trans (c91_2 6 rfl))) ((c160_2 8 rfl).trans ((c147_2 8 rfl).trans (c91_2 8 rfl))) ((c160_2 11 rfl).trans ((c147_2 11 rfl).trans (c91_2 11 rfl))) ((c160_2 22 rfl).trans ((c147_2 22 rfl).trans (c91_2 22 rfl))) ((c160_2 24 rfl).trans ((c147_2 24 rfl).trans (c91_2 24 rfl))) ((c160_2 25 rfl).trans ((c147_2 25 rfl).trans (c91_2 25 rfl))) ((c160_2 26 rfl).trans ((c147_2 26 rfl).trans (c91_2 26 rfl))) ((c160_2 33 rfl).trans ((c147_2 33 rfl).trans (c91_2 33 rfl))))
              | (have X : (lvn J7 x178.toInt ∧ lvn J7 x154.toInt) ∧ 1 ≤ (J7 6 x178.toInt.toNat).toInt ∧ 1 ≤ (J7 6 x154.toInt.toNat).toInt ∧ (J7 6 x178.toInt.toNat).toInt + (J7 6 x154.toInt.toNat).toInt = tlv J7 z20.toInt.toNat := by
                   by_cases q : (J7 3 (J7 31 z20.toInt.toNat).toInt.toNat).toInt = 1
                   · rw [c178_2 q, c154_2 q]; exact ⟨⟨s64.2.2.1, s64.2.1⟩, by omega, by omega, by omega⟩
                   · rw [c178_3 q, c154_3 q]; exact ⟨⟨s64.2.1, s64.2.2.1⟩, by omega, by omega, by omega⟩
                 have iA : (I184 0 47).toInt = (I91 0 47).toInt := congrArg Int32.toInt ((c184_1 47 rfl).trans (c160_1 47 rfl))
                 have i9 : (I91 0 48).toInt = z20.toInt := congrArg Int32.toInt i91
                 have iB : (I160 0 48).toInt.toNat = z20.toInt.toNat + 1 := by omega
                 have iC : (I91 0 48).toInt.toNat = z20.toInt.toNat := by rw [i91]
                 exact oI_given (t := z20.toInt.toNat) (n1 := x154) (n2 := x178) (t1 := J7 32 z20.toInt.toNat) (t2 := x91) (p1 := vp_nar .boolean (Int32.ofInt 1)) (p2 := vp_nar .boolean (Int32.ofInt 0)) (wn := x178) (is := x154) (b := x91) (y := z124) (z0 := Int32.ofInt 0) (k := z111.toInt.toNat) hR7c u7_1 tt rfl g87 (by omega) ((c184_1 45 rfl).trans ((c160_1 45 rfl).trans (c91_1 45 rfl))) ((c184_1 46 rfl).trans ((c160_1 46 rfl).trans (c91_1 46 rfl))) (by omega) (by omega) ((c184_1 24 rfl).trans ((c160_1 24 rfl).trans (c91_1 24 rfl))) (by rw [c184_5, c160_5, r91.2.2.2.2.2.1, iB, iC]) (by rw [c184_6, c160_6, r91.2.2.2.2.2.2.1, iB, iC]) (by rw [c184_7, c160_7, r91.2.2.2.2.2.2.2, iB, iC]) (Or.inr ⟨rfl, rfl, rfl, rfl, rfl, rfl⟩) X.1 X.2 ((c184_2 27 rfl).trans ((c160_2 27 rfl).trans (congrArg (fun f => upd f _ _) r91.2.2.2.1))) (by omega) ((c184_2 28 rfl).trans ((c160_2 28 rfl).trans (congrArg (fun f => upd f _ _) r91.2.2.2.2.1))) (by omega) ((c184_2 29 rfl).trans ((c160_2 29 rfl).trans c91_6)) rfl ((c184_2 6 rfl).trans ((c160_2 6 rfl).trans (c91_2 6 rfl))) ((c184_2 8 rfl).trans ((c160_2 8 rfl).trans (c91_2 8 rfl))) ((c184_2 11 rfl).trans ((c160_2 11 rfl).trans (c91_2 11 rfl))) ((c184_2 22 rfl).trans ((c160_2 22 rfl).trans (c91_2 22 rfl))) ((c184_2 24 rfl).trans ((c160_2 24 rfl).trans (c91_2 24 rfl))) ((c184_2 25 rfl).trans ((c160_2 25 rfl).trans (c91_2 25 rfl))) ((c184_2 26 rfl).trans ((c160_2 26 rfl).trans (c91_2 26 rfl))) ((c184_2 33 rfl).trans ((c160_2 33 rfl).trans (c91_2 33 rfl))))
              | (have X : (lvn J7 x243.toInt ∧ lvn J7 x256.toInt) ∧ 1 ≤ (J7 6 x243.toInt.toNat).toInt ∧ 1 ≤ (J7 6 x256.toInt.toNat).toInt ∧ (J7 6 x243.toInt.toNat).toInt + (J7 6 x256.toInt.toNat).toInt = tlv J7 z20.toInt.toNat := by
                   by_cases q : (J7 3 (J7 31 z20.toInt.toNat).toInt.toNat).toInt = 1
                   · rw [c243_2 q, c256_2 q]; exact ⟨⟨s64.2.2.1, s64.2.1⟩, by omega, by omega, by omega⟩
                   · rw [c243_3 q, c256_3 q]; exact ⟨⟨s64.2.1, s64.2.2.1⟩, by omega, by omega, by omega⟩
                 have iA : (I262 0 46).toInt = (I193 0 46).toInt := congrArg Int32.toInt ((c262_1 46 rfl).trans (c249_1 46 rfl))
                 have i9 : (I193 0 48).toInt = z20.toInt := congrArg Int32.toInt i193
                 have iB : (I249 0 48).toInt.toNat = z20.toInt.toNat + 1 := by omega
                 have iC : (I193 0 48).toInt.toNat = z20.toInt.toNat := by rw [i193]
                 exact oI_wanted (t := z20.toInt.toNat) (n1 := x243) (n2 := x256) (t1 := x193) (t2 := J7 32 z20.toInt.toNat) (p1 := vp_nar .boolean (Int32.ofInt 1)) (p2 := vp_nar .boolean (Int32.ofInt 0)) (wn := x243) (is := x256) (b := x193) (y := z226) (z0 := Int32.ofInt 0) hR7c u7_1 tt rfl h87 (by omega) ((c262_1 45 rfl).trans ((c249_1 45 rfl).trans (c193_1 45 rfl))) (by omega) ((c262_1 47 rfl).trans ((c249_1 47 rfl).trans (c193_1 47 rfl))) (by omega) ((c262_1 24 rfl).trans ((c249_1 24 rfl).trans (c193_1 24 rfl))) (by rw [c262_5, c249_5, r193.2.2.2.2.2.1, iB, iC]) (by rw [c262_6, c249_6, r193.2.2.2.2.2.2.1, iB, iC]) (by rw [c262_7, c249_7, r193.2.2.2.2.2.2.2, iB, iC]) (Or.inl ⟨rfl, rfl, rfl, rfl, rfl, rfl⟩) X.1 X.2 ((c262_2 29 rfl).trans ((c249_2 29 rfl).trans (congrArg (fun f => upd f _ _) r193.2.2.2.1))) (by omega) ((c262_2 26 rfl).trans ((c249_2 26 rfl).trans c193_6)) ((c262_2 27 rfl).trans ((c249_2 27 rfl).trans c193_7)) rfl ((c262_2 6 rfl).trans ((c249_2 6 rfl).trans (c193_2 6 rfl))) ((c262_2 8 rfl).trans ((c249_2 8 rfl).trans (c193_2 8 rfl))) ((c262_2 11 rfl).trans ((c249_2 11 rfl).trans (c193_2 11 rfl))) ((c262_2 22 rfl).trans ((c249_2 22 rfl).trans (c193_2 22 rfl))) ((c262_2 24 rfl).trans ((c249_2 24 rfl).trans (c193_2 24 rfl))) ((c262_2 25 rfl).trans ((c249_2 25 rfl).trans (c193_2 25 rfl))) ((c262_2 28 rfl).trans ((c249_2 28 rfl).trans (c193_2 28 rfl))) ((c262_2 33 rfl).trans ((c249_2 33 rfl).trans (c193_2 33 rfl))))
              | (have X : (lvn J7 x280.toInt ∧ lvn J7 x256.toInt) ∧ 1 ≤ (J7 6 x280.toInt.toNat).toInt ∧ 1 ≤ (J7 6 x256.toInt.toNat).toInt ∧ (J7 6 x280.toInt.toNat).toInt + (J7 6 x256.toInt.toNat).toInt = tlv J7 z20.toInt.toNat := by
                   by_cases q : (J7 3 (J7 31 z20.toInt.toNat).toInt.toNat).toInt = 1
                   · rw [c280_2 q, c256_2 q]; exact ⟨⟨s64.2.2.1, s64.2.1⟩, by omega, by omega, by omega⟩
                   · rw [c280_3 q, c256_3 q]; exact ⟨⟨s64.2.1, s64.2.2.1⟩, by omega, by omega, by omega⟩
                 have iA : (I286 0 46).toInt = (I193 0 46).toInt := congrArg Int32.toInt ((c286_1 46 rfl).trans (c262_1 46 rfl))
                 have i9 : (I193 0 48).toInt = z20.toInt := congrArg Int32.toInt i193
                 have iB : (I262 0 48).toInt.toNat = z20.toInt.toNat + 1 := by omega
                 have iC : (I193 0 48).toInt.toNat = z20.toInt.toNat := by rw [i193]
                 exact oI_wanted (t := z20.toInt.toNat) (n1 := x256) (n2 := x280) (t1 := J7 32 z20.toInt.toNat) (t2 := x193) (p1 := vp_nar .boolean (Int32.ofInt 0)) (p2 := vp_nar .boolean (Int32.ofInt 1)) (wn := x280) (is := x256) (b := x193) (y := z226) (z0 := Int32.ofInt 0) hR7c u7_1 tt rfl h87 (by omega) ((c286_1 45 rfl).trans ((c262_1 45 rfl).trans (c193_1 45 rfl))) (by omega) ((c286_1 47 rfl).trans ((c262_1 47 rfl).trans (c193_1 47 rfl))) (by omega) ((c286_1 24 rfl).trans ((c262_1 24 rfl).trans (c193_1 24 rfl))) (by rw [c286_5, c262_5, r193.2.2.2.2.2.1, iB, iC]) (by rw [c286_6, c262_6, r193.2.2.2.2.2.2.1, iB, iC]) (by rw [c286_7, c262_7, r193.2.2.2.2.2.2.2, iB, iC]) (Or.inr ⟨rfl, rfl, rfl, rfl, rfl, rfl⟩) X.1 X.2 ((c286_2 29 rfl).trans ((c262_2 29 rfl).trans (congrArg (fun f => upd f _ _) r193.2.2.2.1))) (by omega) ((c286_2 26 rfl).trans ((c262_2 26 rfl).trans c193_6)) ((c286_2 27 rfl).trans ((c262_2 27 rfl).trans c193_7)) rfl ((c286_2 6 rfl).trans ((c262_2 6 rfl).trans (c193_2 6 rfl))) ((c286_2 8 rfl).trans ((c262_2 8 rfl).trans (c193_2 8 rfl))) ((c286_2 11 rfl).trans ((c262_2 11 rfl).trans (c193_2 11 rfl))) ((c286_2 22 rfl).trans ((c262_2 22 rfl).trans (c193_2 22 rfl))) ((c286_2 24 rfl).trans ((c262_2 24 rfl).trans (c193_2 24 rfl))) ((c286_2 25 rfl).trans ((c262_2 25 rfl).trans (c193_2 25 rfl))) ((c286_2 28 rfl).trans ((c262_2 28 rfl).trans (c193_2 28 rfl))) ((c286_2 33 rfl).trans ((c262_2 33 rfl).trans (c193_2 33 rfl))))
            have m289 : 0 ≤ 2 * tS (tlv I79) (I79 0 48).toInt.toNat - (I79 0 48).toInt ∧ 2 * tS (tlv I79) (I79 0 48).toInt.toNat - (I79 0 48).toInt < 2 * tS (tlv J7) (J7 0 48).toInt.toNat - (J7 0 48).toInt := by
              have n9 := tk_num q289.1
              first
              | omega
              | (exfalso; omega)
              | (have j := congrArg Int32.toInt (show I160 0 45 = J7 0 45 from (c160_1 45 rfl).trans ((c147_1 45 rfl).trans (c91_1 45 rfl)))
                 have i9 : (I91 0 48).toInt = z20.toInt := congrArg Int32.toInt i91
                 omega)
              | (have j := congrArg Int32.toInt (show I184 0 45 = J7 0 45 from (c184_1 45 rfl).trans ((c160_1 45 rfl).trans (c91_1 45 rfl)))
                 have i9 : (I91 0 48).toInt = z20.toInt := congrArg Int32.toInt i91
                 omega)
              | (have j := congrArg Int32.toInt (show I262 0 45 = J7 0 45 from (c262_1 45 rfl).trans ((c249_1 45 rfl).trans (c193_1 45 rfl)))
                 have i9 : (I193 0 48).toInt = z20.toInt := congrArg Int32.toInt i193
                 omega)
              | (have j := congrArg Int32.toInt (show I286 0 45 = J7 0 45 from (c286_1 45 rfl).trans ((c262_1 45 rfl).trans (c193_1 45 rfl)))
                 have i9 : (I193 0 48).toInt = z20.toInt := congrArg Int32.toInt i193
                 omega)
            have r7_9 : 0 ≤ (I79 0 48).toInt ∧ (I79 0 48).toInt ≤ 60 := c79_0 0 48
            have e7_10 : (I79 0 48).toInt = z20.toInt := congrArg Int32.toInt (c79_1 48 rfl)
            exact ⟨(by intro q9 h9; simp only [List.mem_cons, List.not_mem_nil, or_false] at h9; rcases h9 with h9 | h9 | h9 | h9 <;> subst h9 <;> repeat (first | exact List.mem_cons_self | apply List.mem_cons_of_mem)), rfl, rfl, c79_0, hF79, hO79, hmL79, (show oI I I79 ((I 0 45).toInt + (I 6 nd.toInt.toNat).toInt) from by first | assumption | omega), (show 0 ≤ 2 * tS (tlv I79) (I79 0 48).toInt.toNat - (I79 0 48).toInt from by first | assumption | omega), (show (2 * tS (tlv I79) (I79 0 48).toInt.toNat - (I79 0 48).toInt) < n7 from by omega)⟩
    refine f_wp_ok C f_cl flX12_ok fiX12_ok fjX12_ok (sn := none) (fun j h => by cases h) (cs := (f_cnl [(388, (4, 0, 11, pX12_push, qX12_push)), (392, (4, 0, 11, pX12_putEnd, qX12_putEnd)), (395, (1, 1, 11, pX12_freshWanted, qX12_freshWanted)), (398, (2, 1, 11, pX12_wants, qX12_wants)), (401, (2, 1, 11, pX12_isOf, qX12_isOf)), (404, (2, 1, 11, pX12_freshGiven, qX12_freshGiven))])) (cz := (fun _ => none)) (f_cnl_of (P := fun j S => f_cok pP l eP (f_rm 1) sP mP aP bP hP9 cP mY 71 a cy dC dI 8 _ _ (.invokevirtual j) true S) (List.forall_mem_cons.mpr ⟨f_cokV C (mX12_push hinj) (ci := 11) rfl (List.forall_mem_cons.mpr ⟨(mlX12_ok _ (List.mem_of_getElem? (i := 30) rfl)), kc_X12_push⟩) (by decide +kernel) ⟨Nat.le_of_ble_eq_true rfl, Nat.le_of_ble_eq_true rfl⟩, List.forall_mem_cons.mpr ⟨f_cokV C (mX12_putEnd hinj) (ci := 11) rfl (List.forall_mem_cons.mpr ⟨(mlX12_ok _ (List.mem_of_getElem? (i := 31) rfl)), kc_X12_putEnd⟩) (by decide +kernel) ⟨Nat.le_of_ble_eq_true rfl, Nat.le_of_ble_eq_true rfl⟩, List.forall_mem_cons.mpr ⟨f_cokV C (mX12_freshWanted hinj) (ci := 11) rfl (List.forall_mem_cons.mpr ⟨(mlX12_ok _ (List.mem_of_getElem? (i := 32) rfl)), kc_X12_freshWanted⟩) (by decide +kernel) ⟨Nat.le_of_ble_eq_true rfl, Nat.le_of_ble_eq_true rfl⟩, List.forall_mem_cons.mpr ⟨f_cokV C (mX12_wants hinj) (ci := 11) rfl (List.forall_mem_cons.mpr ⟨(mlX12_ok _ (List.mem_of_getElem? (i := 33) rfl)), kc_X12_wants⟩) (by decide +kernel) ⟨Nat.le_of_ble_eq_true rfl, Nat.le_of_ble_eq_true rfl⟩, List.forall_mem_cons.mpr ⟨f_cokV C (mX12_isOf hinj) (ci := 11) rfl (List.forall_mem_cons.mpr ⟨(mlX12_ok _ (List.mem_of_getElem? (i := 34) rfl)), kc_X12_isOf⟩) (by decide +kernel) ⟨Nat.le_of_ble_eq_true rfl, Nat.le_of_ble_eq_true rfl⟩, List.forall_mem_cons.mpr ⟨f_cokV C (mX12_freshGiven hinj) (ci := 11) rfl (List.forall_mem_cons.mpr ⟨(mlX12_ok _ (List.mem_of_getElem? (i := 35) rfl)), kc_X12_freshGiven⟩) (by decide +kernel) ⟨Nat.le_of_ble_eq_true rfl, Nat.le_of_ble_eq_true rfl⟩, fun _ h => absurd h List.not_mem_nil⟩⟩⟩⟩⟩⟩)) (fun j S h => by cases h) tX12_open_ok (cut := (f_cnl [(7, (fun (ls' : fLs) (st' : List Value) (I' : fM) (L' : fN) => (∀ q ∈ ([(3, .int th), (2, .int gv), (1, .int nd), (0, .ref 0)] : fLs), q ∈ ls') ∧ st' = [] ∧ L' = L ∧ (mR I' ∧ f_fr [0, 21, 22, 24, 25, 26, 27, 28, 29, 30, 31, 32, 33, 34] I I' ∧ f_fo [45, 46, 47, 48] I I' ∧ mL I' ∧ (oI I I' ((I 0 45).toInt + (I 6 nd.toInt.toNat).toInt)) ∧ (0 ≤ 2 * tS (tlv I') (I' 0 48).toInt.toNat - (I' 0 48).toInt) ∧ (2 * tS (tlv I') (I' 0 48).toInt.toNat - (I' 0 48).toInt) < 41)))])) (f_cnl_of (P := fun (tQ : Nat) (P : fLs → List Value → fM → fN → Prop) => ∀ ls' st' I' L', P ls' st' I' L' → f_W pP l eP (f_rm 1) sP mP aP bP hP9 cP mY 71 a cy dC dI 8 (f_K 0 (qX12_open [.ref 0, .int nd, .int gv, .int th] I L)) tQ ls' st' I' L') (List.forall_mem_cons.mpr ⟨(fun ls' st' I' L' h => by obtain ⟨hs, e1, e3, h9⟩ := h; rw [e1, e3]; exact f_W_sub hs (lp7 41  I' h9)), fun _ h => absurd h List.not_mem_nil⟩)) 8 0 tX12_open tX12_open_ok _ _ _ _ ?_
    have r4_1 : 0 ≤ (I 0 48).toInt ∧ (I 0 48).toInt ≤ 60 := hR 0 48
    refine And.intro ⟨hR, (show (I 0 48).toInt ≤ 59 from by first | assumption | omega), (show 0 ≤ nd.toInt from by first | assumption | omega), (show nd.toInt ≤ 1599 from by first | assumption | omega), (show 0 ≤ th.toInt from by first | assumption | omega), (show th.toInt ≤ 39 from by first | assumption | omega)⟩ ?_
    intro I4 L4 hq4
    have hq4 : mR I4 ∧ f_fo [48] I I4 ∧ f_fr [0, 31, 32, 34] I I4 ∧ L4 = L ∧ (I4 0 48).toInt = (I 0 48).toInt + 1 ∧ I4 31 = upd (I 31) (I 0 48).toInt.toNat nd ∧ I4 32 = upd (I 32) (I 0 48).toInt.toNat th ∧ I4 34 = upd (I 34) (I 0 48).toInt.toNat (vp_nar .boolean gv) := hq4
    obtain ⟨c4_0, c4_1, c4_2, eL4, c4_4, c4_5, c4_6, c4_7⟩ := hq4
    replace eL4 := eL4.symm
    subst eL4
    have hO4 := f_fo_tr hO0 c4_1 rfl
    have hmL4 := f_depo_fo mL_dep hmL c4_2 c4_1 rfl rfl
    have hF4 := f_fr_tr hF0 c4_2 rfl
    have q4 : oI I I4 ((I 0 45).toInt + (I 6 nd.toInt.toNat).toInt) := oI_begin hR p7 p3 r3 p4 (f_nar01 p4) c4_1 c4_2 (by omega) (by rw [c4_5, hmK]; rfl) (by rw [c4_6, hmK]; rfl) (by rw [c4_7, hmK]; rfl)
    have m4 : 0 ≤ 2 * tS (tlv I4) (I4 0 48).toInt.toNat - (I4 0 48).toInt ∧ 2 * tS (tlv I4) (I4 0 48).toInt.toNat - (I4 0 48).toInt < 41 := by have n4 := tk_num q4.1; omega
    have r7_2 : 0 ≤ (I4 0 48).toInt ∧ (I4 0 48).toInt ≤ 60 := c4_0 0 48
    exact ⟨(by intro q9 h9; simp only [List.mem_cons, List.not_mem_nil, or_false] at h9; rcases h9 with h9 | h9 | h9 | h9 <;> subst h9 <;> repeat (first | exact List.mem_cons_self | apply List.mem_cons_of_mem)), rfl, rfl, c4_0, hF4, hO4, hmL4, (show oI I I4 ((I 0 45).toInt + (I 6 nd.toInt.toNat).toInt) from by first | assumption | omega), (show 0 ≤ 2 * tS (tlv I4) (I4 0 48).toInt.toNat - (I4 0 48).toInt from by first | assumption | omega), (show (2 * tS (tlv I4) (I4 0 48).toInt.toNat - (I4 0 48).toInt) < 41 from by omega)⟩
