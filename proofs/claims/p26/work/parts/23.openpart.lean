theorem tsub_uniq {D : Nat → Nat} {i n m : Nat} (h : tsub D i n) (h' : tsub D i m) : n = m := by
  rcases Nat.lt_or_ge n m with q | q
  · have := h'.2.1 n q
    have := h.2.2
    omega
  · rcases Nat.lt_or_ge m n with r | r
    · have := h.2.1 m r
      have := h'.2.2
      omega
    · omega
def tX3_openPart : List (Instr × Nat) := [(.iload_n 2, 1), (.iload_n 3, 1), (.invokestatic 98, 3), (.istore 5, 2), (.iload 5, 2), (.iconst 5, 1), (.if_icmp .lt 11, 3), (.iload_n 3, 1), (.iconst 2, 1), (.iadd, 1), (.bipush 7, 2), (.if_icmp .lt 13, 3), (.aload_n 0, 1), (.iload_n 1, 1), (.iload 5, 2), (.iload 4, 2), (.invokevirtual 101, 3), (.ireturn, 1), (.iload_n 2, 1), (.iload_n 3, 1), (.iconst 1, 1), (.iadd, 1), (.invokestatic 105, 3), (.istore 6, 2), (.iload 5, 2), (.iconst 5, 1), (.if_icmp .ne 9, 3), (.iload_n 3, 1), (.iconst 1, 1), (.iadd, 1), (.goto 5, 3), (.iload 6, 2), (.istore 7, 2), (.iload 5, 2), (.iconst 5, 1), (.if_icmp .ne 8, 3), (.iload 6, 2), (.goto 6, 3), (.iload_n 3, 1), (.iconst 1, 1), (.iadd, 1), (.istore 8, 2), (.iload 5, 2), (.iconst 5, 1), (.if_icmp .ne 7, 3), (.iconst 1, 1), (.goto 4, 3), (.iconst 0, 1), (.iload 4, 2), (.if_icmp .eq 7, 3), (.iconst 1, 1), (.goto 4, 3), (.iconst 0, 1), (.istore 9, 2), (.iconst (-1), 1), (.istore 10, 2), (.iload 9, 2), (.ifCond .eq 15, 3), (.aload_n 0, 1), (.iload_n 1, 1), (.iload_n 2, 1), (.iload 7, 2), (.iload 4, 2), (.invokevirtual 94, 3), (.istore 10, 2), (.aload_n 0, 1), (.iload_n 1, 1), (.iload_n 2, 1), (.iload 8, 2), (.iload 4, 2), (.ifCond .ne 7, 3), (.iconst 1, 1), (.goto 4, 3), (.iconst 0, 1), (.invokevirtual 94, 3), (.istore 11, 2), (.iload 9, 2), (.ifCond .ne 15, 3), (.aload_n 0, 1), (.iload_n 1, 1), (.iload_n 2, 1), (.iload 7, 2), (.iload 4, 2), (.invokevirtual 94, 3), (.istore 10, 2), (.iload_n 1, 1), (.iconst 4, 1), (.imul, 1), (.istore 12, 2), (.aload_n 0, 1), (.getfield 30, 3), (.iload 12, 2), (.iload 11, 2), (.iadd, 1), (.iload 10, 2), (.iastore, 1), (.aload_n 0, 1), (.getfield 36, 3), (.iload 12, 2), (.iload 11, 2), (.iadd, 1), (.aload_n 0, 1), (.getfield 33, 3), (.iload 12, 2), (.iload 10, 2), (.iadd, 1), (.iaload, 1), (.iastore, 1), (.aload_n 0, 1), (.getfield 33, 3), (.iload 12, 2), (.iload 10, 2), (.iadd, 1), (.iload 11, 2), (.iastore, 1), (.iload 10, 2), (.ireturn, 1)]
theorem tX3_openPart_ok : f_chk cX3_openPart 0 tX3_openPart = true := by decide +kernel
def pX3_openPart (d : Nat) (av : List Value) (I : fM) (L : fN) : Prop := match av with
  | [.ref 15, .int s, .int t, .int j, .int w] => dpos d ∧ xR I ∧ 0 ≤ s.toInt ∧ s.toInt ≤ 52 ∧ 0 ≤ t.toInt ∧ 0 ≤ j.toInt ∧ (∃ n : Nat, n ≤ d ∧ tsub (dgT t) j.toInt.toNat n ∧ j.toInt + n ≤ 7 ∧ 2 * (I 16 s.toInt.toNat).toInt + n + 1 ≤ 8) ∧ osl (I 21) (I 22) (I 23) (4 * s.toInt.toNat) (I 16 s.toInt.toNat).toInt
  | _ => False
def qX3_openPart (av : List Value) (I : fM) (L : fN) (r : Value) (I' : fM) (L' : fN) : Prop := match av, r with
  | [.ref 15, .int s, .int t, .int j, .int w], .int x => xR I' ∧ f_fr [16, 20, 21, 22, 23] I I' ∧ f_fr [17] L L' ∧ (∀ n : Nat, tsub (dgT t) j.toInt.toNat n → 2 * (I' 16 s.toInt.toNat).toInt = 2 * (I 16 s.toInt.toNat).toInt + n + 1) ∧ (I 16 s.toInt.toNat).toInt ≤ x.toInt ∧ x.toInt < (I' 16 s.toInt.toNat).toInt ∧ osl (I' 21) (I' 22) (I' 23) (4 * s.toInt.toNat) (I' 16 s.toInt.toNat).toInt ∧ (I' 21 (4 * s.toInt.toNat + x.toInt.toNat)).toInt = -1 ∧ oout s.toInt.toNat (I 16 s.toInt.toNat).toInt.toNat I I'
  | _, _ => False
set_option maxHeartbeats 4000000 in
set_option maxRecDepth 100000 in
theorem mX3_openPart {l : Launch} {a : Nat → Nat} {cy dC : Nat → ClassId} {dI : Nat → Nat → Nat} (hinj : ∀ i j, i < 80 → j < 80 → a i = a j → i = j) : ∀ d : Nat, f_Met (xE a) l xY 80 a cy dC dI yX3_openPart cX3_openPart 13 1 (d + 2) (pX3_openPart d) qX3_openPart := by
  intro d
  induction d with
  | zero =>
    intro av I L hp
    exfalso
    unfold pX3_openPart at hp
    split at hp
    case h_2 => exact hp.elim
    case h_1 s t j w => exact hp.1.elim
  | succ d ih =>
  refine f_met_of (xE_c a) hinj xY_hi (by decide) (fun av I L h => by unfold pX3_openPart at h; split at h <;> first | exact Nat.le_of_ble_eq_true rfl | exact h.elim) ?_
  intro pP eP sP mP aP bP hP9 cP C av I L hp
  unfold pX3_openPart at hp
  split at hp
  case h_2 => exact hp.elim
  case h_1 s t j w =>
    obtain ⟨p0, hR, p2, p3, p4, p5, p6, p7⟩ := hp
    obtain ⟨n, hnd, hs, hj7, h8⟩ := p6
    have hn0 := hs.1
    have hz : 0 ≤ (I 16 s.toInt.toNat).toInt ∧ (I 16 s.toInt.toNat).toInt ≤ 4 := hR 16 _
    have hF0 : f_fr [16, 20, 21, 22, 23] I I := f_fr_rf
    have hG0 : f_fr [17] L L := f_fr_rf
    have lp152 : ∀ (h : Int32) (c : Int32) (J152 : fM) (M152 : fN), xR J152 ∧ f_fr [16, 20, 21, 22, 23] I J152 ∧ f_fr [17] L M152 ∧ (oout s.toInt.toNat (I 16 s.toInt.toNat).toInt.toNat I J152) ∧ (osl (J152 21) (J152 22) (J152 23) (4 * s.toInt.toNat) (J152 16 s.toInt.toNat).toInt) ∧ (2 * (J152 16 s.toInt.toNat).toInt = 2 * (I 16 s.toInt.toNat).toInt + n + 1) ∧ ((I 16 s.toInt.toNat).toInt ≤ h.toInt) ∧ (h.toInt < (J152 16 s.toInt.toNat).toInt) ∧ ((I 16 s.toInt.toNat).toInt ≤ c.toInt) ∧ (c.toInt < (J152 16 s.toInt.toNat).toInt) ∧ (h.toInt ≠ c.toInt) ∧ ((J152 21 (4 * s.toInt.toNat + h.toInt.toNat)).toInt = -1) ∧ ((J152 21 (4 * s.toInt.toNat + c.toInt.toNat)).toInt = -1) → f_W pP l eP (f_rm (d + 1 + 2)) sP mP aP bP hP9 cP xY 80 a cy dC dI 13 (f_K 1 (qX3_openPart [.ref 15, .int s, .int t, .int j, .int w] I L)) 152 [(11, .int c), (10, .int h), (4, .int w), (3, .int j), (2, .int t), (1, .int s), (0, .ref 15)] [] J152 M152 := by
      intro h c J152 M152 h9
      obtain ⟨hR152c, hF152c, hG152c, u152_1, u152_2, u152_3, u152_4, u152_5, u152_6, u152_7, u152_8, u152_9, u152_10⟩ := h9
      refine f_wp_ok C f_cl flX3_ok fiX3_ok fjX3_ok (sn := none) (fun j h => by cases h) (cs := (f_cnl [(101, (4, 1, 3, pX3_addEnd, qX3_addEnd)), (94, (5, 1, 3, (pX3_openPart d), qX3_openPart))])) (cz := (f_cnl [(98, (2, 1, 0, pX8_nodeAt, qX8_nodeAt)), (105, (2, 1, 0, pX8_behind, qX8_behind))])) (f_cnl_of (P := fun j S => f_cok pP l eP (f_rm (d + 1 + 2)) sP mP aP bP hP9 cP xY 80 a cy dC dI 13 _ _ (.invokevirtual j) true S) (List.forall_mem_cons.mpr ⟨f_cokV C (mX3_addEnd hinj) (ci := 3) rfl (List.forall_mem_cons.mpr ⟨(mlX3_ok _ (List.mem_of_getElem? (i := 12) rfl)), kc_X3_addEnd⟩) (by decide +kernel) ⟨by simp only [f_rm]; omega, by simp only [f_rm]; omega⟩, List.forall_mem_cons.mpr ⟨f_cokV C ih (ci := 3) rfl (List.forall_mem_cons.mpr ⟨(mlX3_ok _ (List.mem_of_getElem? (i := 10) rfl)), kc_X3_openPart⟩) (by decide +kernel) ⟨by simp only [f_rm]; omega, by simp only [f_rm]; omega⟩, fun _ h => absurd h List.not_mem_nil⟩⟩)) (f_cnl_of (P := fun j S => f_cok pP l eP (f_rm (d + 1 + 2)) sP mP aP bP hP9 cP xY 80 a cy dC dI 13 _ _ (.invokestatic j) false S) (List.forall_mem_cons.mpr ⟨f_cokS C (mX8_nodeAt hinj) (List.forall_mem_cons.mpr ⟨(mlX3_ok _ (List.mem_of_getElem? (i := 11) rfl)), kc_X8_nodeAt⟩) (by decide +kernel) ⟨by simp only [f_rm]; omega, by simp only [f_rm]; omega⟩, List.forall_mem_cons.mpr ⟨f_cokS C (mX8_behind hinj) (List.forall_mem_cons.mpr ⟨(mlX3_ok _ (List.mem_of_getElem? (i := 13) rfl)), kc_X8_behind⟩) (by decide +kernel) ⟨by simp only [f_rm]; omega, by simp only [f_rm]; omega⟩, fun _ h => absurd h List.not_mem_nil⟩⟩)) tX3_openPart_ok (cut := (fun _ => none)) (fun t P h => by cases h) 35 152 (f_seek 152 0 tX3_openPart) (f_seek_ok 152 0 tX3_openPart tX3_openPart_ok) _ _ _ _ ?_
      intro z154 q154 _ hq154 hl154 hu154
      have hq154 : z154.toInt = s.toInt * 4 + 4294967296 * q154 := hq154
      try have hz154 : z154.toInt = s.toInt * 4 := by omega
      intro z165 q165 _ hq165 hl165 hu165
      have hq165 : z165.toInt = z154.toInt + c.toInt + 4294967296 * q165 := hq165
      try have hz165 : z165.toInt = z154.toInt + c.toInt := by omega
      refine And.intro (show f_in z165 212 from ⟨show 0 ≤ z165.toInt from by omega, show z165.toInt < 212 from by omega⟩) ?_
      have hR168 := xR_a (k := 21) (j := z165.toInt.toNat) (x := h) hR152c (show -1 ≤ h.toInt ∧ h.toInt ≤ 3 from ⟨by omega, by omega⟩)
      have hF168 := f_fr_up (k := 21) (r := upd (J152 21) (z165.toInt.toNat) h) hF152c rfl
      intro z177 q177 _ hq177 hl177 hu177
      have hq177 : z177.toInt = z154.toInt + c.toInt + 4294967296 * q177 := hq177
      try have hz177 : z177.toInt = z154.toInt + c.toInt := by omega
      intro z186 q186 _ hq186 hl186 hu186
      have hq186 : z186.toInt = z154.toInt + h.toInt + 4294967296 * q186 := hq186
      try have hz186 : z186.toInt = z154.toInt + h.toInt := by omega
      refine And.intro (show f_in z186 212 from ⟨show 0 ≤ z186.toInt from by omega, show z186.toInt < 212 from by omega⟩) ?_
      have r187_1 : -1 ≤ (J152 22 (z186.toInt.toNat)).toInt ∧ (J152 22 (z186.toInt.toNat)).toInt ≤ 3 := hR168 22 (z186.toInt.toNat)
      refine And.intro (show f_in z177 212 from ⟨show 0 ≤ z177.toInt from by omega, show z177.toInt < 212 from by omega⟩) ?_
      have hR188 := xR_a (k := 23) (j := z177.toInt.toNat) (x := J152 22 (z186.toInt.toNat)) hR168 (show -1 ≤ (J152 22 (z186.toInt.toNat)).toInt ∧ (J152 22 (z186.toInt.toNat)).toInt ≤ 3 from ⟨by omega, by omega⟩)
      have hF188 := f_fr_up (k := 23) (r := upd (J152 23) (z177.toInt.toNat) (J152 22 (z186.toInt.toNat))) hF168 rfl
      intro z197 q197 _ hq197 hl197 hu197
      have hq197 : z197.toInt = z154.toInt + h.toInt + 4294967296 * q197 := hq197
      try have hz197 : z197.toInt = z154.toInt + h.toInt := by omega
      refine And.intro (show f_in z197 212 from ⟨show 0 ≤ z197.toInt from by omega, show z197.toInt < 212 from by omega⟩) ?_
      have hR200 := xR_a (k := 22) (j := z197.toInt.toNat) (x := c) hR188 (show -1 ≤ c.toInt ∧ c.toInt ≤ 3 from ⟨by omega, by omega⟩)
      have hF200 := f_fr_up (k := 22) (r := upd (J152 22) (z197.toInt.toNat) c) hF188 rfl
      have w1 : z165.toNatClampNeg = 4 * s.toInt.toNat + c.toInt.toNat := by rw [f_tn]; omega
      have w2 : z177.toNatClampNeg = 4 * s.toInt.toNat + c.toInt.toNat := by rw [f_tn]; omega
      have w3 : z186.toNatClampNeg = 4 * s.toInt.toNat + h.toInt.toNat := by rw [f_tn]; omega
      have w4 : z197.toNatClampNeg = 4 * s.toInt.toNat + h.toInt.toNat := by rw [f_tn]; omega
      have g6 : osl (upd (J152 21) z165.toNatClampNeg h) (upd (J152 22) z197.toNatClampNeg c) (upd (J152 23) z177.toNatClampNeg (J152 22 z186.toNatClampNeg)) (4 * s.toInt.toNat) (J152 16 s.toInt.toNat).toInt := by
        rw [w1, w2, w3, w4]
        exact osl_link u152_2 (by omega) (by omega) (by omega) u152_10 (by omega) (by omega)
      have g7 : (upd (J152 21) z165.toNatClampNeg h (4 * s.toInt.toNat + h.toInt.toNat)).toInt = -1 := by
        rw [w1, pk_un (by omega)]
        exact u152_9
      have g8 : oout s.toInt.toNat (I 16 s.toInt.toNat).toInt.toNat I (va_up (va_up (va_up J152 21 (upd (J152 21) (z165.toInt.toNat) h)) 23 (upd (J152 23) (z177.toInt.toNat) (J152 22 (z186.toInt.toNat)))) 22 (upd (J152 22) (z197.toInt.toNat) c)) := by
        refine ⟨u152_1.1, fun k hk => ?_⟩
        obtain ⟨o1, o2, o3⟩ := u152_1.2 k hk
        refine ⟨?_, ?_, ?_⟩
        · show upd (J152 21) z165.toNatClampNeg h k = _
          rw [w1, pk_un (by omega)]; exact o1
        · show upd (J152 22) z197.toNatClampNeg c k = _
          rw [w4, pk_un (by omega)]; exact o2
        · show upd (J152 23) z177.toNatClampNeg (J152 22 z186.toNatClampNeg) k = _
          rw [w2, pk_un (by omega)]; exact o3
      exact ⟨hR200, hF200, hG152c, (fun m hm => by rw [← tsub_uniq hs hm]; exact u152_3), u152_4, u152_5, g6, g7, g8⟩
    refine f_wp_ok C f_cl flX3_ok fiX3_ok fjX3_ok (sn := none) (fun j h => by cases h) (cs := (f_cnl [(101, (4, 1, 3, pX3_addEnd, qX3_addEnd)), (94, (5, 1, 3, (pX3_openPart d), qX3_openPart))])) (cz := (f_cnl [(98, (2, 1, 0, pX8_nodeAt, qX8_nodeAt)), (105, (2, 1, 0, pX8_behind, qX8_behind))])) (f_cnl_of (P := fun j S => f_cok pP l eP (f_rm (d + 1 + 2)) sP mP aP bP hP9 cP xY 80 a cy dC dI 13 _ _ (.invokevirtual j) true S) (List.forall_mem_cons.mpr ⟨f_cokV C (mX3_addEnd hinj) (ci := 3) rfl (List.forall_mem_cons.mpr ⟨(mlX3_ok _ (List.mem_of_getElem? (i := 12) rfl)), kc_X3_addEnd⟩) (by decide +kernel) ⟨by simp only [f_rm]; omega, by simp only [f_rm]; omega⟩, List.forall_mem_cons.mpr ⟨f_cokV C ih (ci := 3) rfl (List.forall_mem_cons.mpr ⟨(mlX3_ok _ (List.mem_of_getElem? (i := 10) rfl)), kc_X3_openPart⟩) (by decide +kernel) ⟨by simp only [f_rm]; omega, by simp only [f_rm]; omega⟩, fun _ h => absurd h List.not_mem_nil⟩⟩)) (f_cnl_of (P := fun j S => f_cok pP l eP (f_rm (d + 1 + 2)) sP mP aP bP hP9 cP xY 80 a cy dC dI 13 _ _ (.invokestatic j) false S) (List.forall_mem_cons.mpr ⟨f_cokS C (mX8_nodeAt hinj) (List.forall_mem_cons.mpr ⟨(mlX3_ok _ (List.mem_of_getElem? (i := 11) rfl)), kc_X8_nodeAt⟩) (by decide +kernel) ⟨by simp only [f_rm]; omega, by simp only [f_rm]; omega⟩, List.forall_mem_cons.mpr ⟨f_cokS C (mX8_behind hinj) (List.forall_mem_cons.mpr ⟨(mlX3_ok _ (List.mem_of_getElem? (i := 13) rfl)), kc_X8_behind⟩) (by decide +kernel) ⟨by simp only [f_rm]; omega, by simp only [f_rm]; omega⟩, fun _ h => absurd h List.not_mem_nil⟩⟩)) tX3_openPart_ok (cut := (f_cnl [(152, (fun (ls' : fLs) (st' : List Value) (I' : fM) (L' : fN) => ∃ h : Int32, ∃ c : Int32, (∀ q ∈ ([(11, .int c), (10, .int h), (4, .int w), (3, .int j), (2, .int t), (1, .int s), (0, .ref 15)] : fLs), q ∈ ls') ∧ st' = [] ∧ (xR I' ∧ f_fr [16, 20, 21, 22, 23] I I' ∧ f_fr [17] L L' ∧ (oout s.toInt.toNat (I 16 s.toInt.toNat).toInt.toNat I I') ∧ (osl (I' 21) (I' 22) (I' 23) (4 * s.toInt.toNat) (I' 16 s.toInt.toNat).toInt) ∧ (2 * (I' 16 s.toInt.toNat).toInt = 2 * (I 16 s.toInt.toNat).toInt + n + 1) ∧ ((I 16 s.toInt.toNat).toInt ≤ h.toInt) ∧ (h.toInt < (I' 16 s.toInt.toNat).toInt) ∧ ((I 16 s.toInt.toNat).toInt ≤ c.toInt) ∧ (c.toInt < (I' 16 s.toInt.toNat).toInt) ∧ (h.toInt ≠ c.toInt) ∧ ((I' 21 (4 * s.toInt.toNat + h.toInt.toNat)).toInt = -1) ∧ ((I' 21 (4 * s.toInt.toNat + c.toInt.toNat)).toInt = -1))))])) (f_cnl_of (P := fun (tQ : Nat) (P : fLs → List Value → fM → fN → Prop) => ∀ ls' st' I' L', P ls' st' I' L' → f_W pP l eP (f_rm (d + 1 + 2)) sP mP aP bP hP9 cP xY 80 a cy dC dI 13 (f_K 1 (qX3_openPart [.ref 15, .int s, .int t, .int j, .int w] I L)) tQ ls' st' I' L') (List.forall_mem_cons.mpr ⟨(fun ls' st' I' L' h => by obtain ⟨h, c, hs, e1, h9⟩ := h; rw [e1]; exact f_W_sub hs (lp152 h c I' L' h9)), fun _ h => absurd h List.not_mem_nil⟩)) 68 0 tX3_openPart tX3_openPart_ok _ _ _ _ ?_
    refine And.intro trivial ?_
    intro x2 I2 L2 hq2
    have hq2 : I2 = I ∧ L2 = L ∧ 0 ≤ x2.toInt ∧ x2.toInt ≤ 7 ∧ ((0 ≤ t.toInt → 0 ≤ j.toInt → j.toInt ≤ 9 → x2.toInt = dgT t j.toInt.toNat)) := hq2
    obtain ⟨eI2, eL2, c2_2, c2_3, c2_4⟩ := hq2
    replace eI2 := eI2.symm
    subst eI2
    replace eL2 := eL2.symm
    subst eL2
    have hx2 : x2.toInt = dgT t j.toInt.toNat := c2_4 p4 p5 (by omega)
    have sp2 : 5 ≤ x2.toInt → ∃ n1 n2, tsub (dgT t) (j.toInt.toNat + 1) n1 ∧ tsub (dgT t) (j.toInt.toNat + 1 + n1) n2 ∧ n = 1 + n1 + n2 := fun q => tsub_split hs (by omega)
    have sp3 : 5 ≤ x2.toInt → 3 ≤ (n : Int) := fun q => by obtain ⟨n1, n2, h1, h2, h3⟩ := sp2 q; have := h1.1; have := h2.1; omega
    apply And.intro
    · intro h10
      have h10 : x2.toInt < 5 := h10
      have r27_1 : 0 ≤ (I 16 (s.toInt.toNat)).toInt ∧ (I 16 (s.toInt.toNat)).toInt ≤ 4 := hR 16 (s.toInt.toNat)
      refine And.intro ⟨hR, (show 0 ≤ s.toInt from by first | assumption | omega), (show s.toInt ≤ 52 from by first | assumption | omega), (show 0 ≤ x2.toInt from by first | assumption | omega), (show x2.toInt ≤ 4 from by first | assumption | omega), (show (I 16 s.toInt.toNat).toInt ≤ 3 from by first | assumption | omega), (show osl (I 21) (I 22) (I 23) (4 * s.toInt.toNat) (I 16 s.toInt.toNat).toInt from by first | assumption | omega)⟩ ?_
      intro x27 I27 L27 hq27
      have hq27 : xR I27 ∧ f_fr [16, 20, 21, 22, 23] I I27 ∧ f_fr [17] L L27 ∧ x27.toInt = (I 16 s.toInt.toNat).toInt ∧ (I27 16 s.toInt.toNat).toInt = (I 16 s.toInt.toNat).toInt + 1 ∧ osl (I27 21) (I27 22) (I27 23) (4 * s.toInt.toNat) ((I 16 s.toInt.toNat).toInt + 1) ∧ (I27 21 (4 * s.toInt.toNat + x27.toInt.toNat)).toInt = -1 ∧ oout s.toInt.toNat (I 16 s.toInt.toNat).toInt.toNat I I27 := hq27
      obtain ⟨c27_0, c27_1, c27_2, c27_3, c27_4, c27_5, c27_6, c27_7⟩ := hq27
      have hF27 := f_fr_tr hF0 c27_1 rfl
      have hG27 := f_fr_tr hG0 c27_2 rfl
      have r30_2 : -1 ≤ (I27 21 (4 * s.toInt.toNat + x27.toInt.toNat)).toInt ∧ (I27 21 (4 * s.toInt.toNat + x27.toInt.toNat)).toInt ≤ 3 := c27_0 21 (4 * s.toInt.toNat + x27.toInt.toNat)
      exact ⟨c27_0, hF27, hG27, (fun m hm => by have := tsub_uniq hs hm; have := tsub_leaf hm (by omega); rw [c27_4]; omega), (by omega), (by omega), (by rw [c27_4]; exact c27_5), (show (I27 21 (4 * s.toInt.toNat + x27.toInt.toNat)).toInt = -1 from by first | assumption | omega | rfl), (show oout s.toInt.toNat (I 16 s.toInt.toNat).toInt.toNat I I27 from by first | assumption | omega | rfl)⟩
    · intro h10
      have h10 : 5 ≤ x2.toInt := h10
      intro z15 q15 _ hq15 hl15 hu15
      have hq15 : z15.toInt = j.toInt + 2 + 4294967296 * q15 := hq15
      try have hz15 : z15.toInt = j.toInt + 2 := by omega
      apply And.intro
      · intro h18
        have h18 : z15.toInt < 7 := h18
        obtain ⟨n1, n2, ht1, ht2, hn12⟩ := sp2 (by omega)
        have hn1 := ht1.1
        have hn2 := ht2.1
        intro z34 q34 _ hq34 hl34 hu34
        have hq34 : z34.toInt = j.toInt + 1 + 4294967296 * q34 := hq34
        try have hz34 : z34.toInt = j.toInt + 1 := by omega
        have tz34 : tsub (dgT t) z34.toInt.toNat n1 := by rw [show z34.toInt.toNat = j.toInt.toNat + 1 by omega]; exact ht1
        refine And.intro ⟨(show 0 ≤ z34.toInt from by first | assumption | omega), (show z34.toInt ≤ 7 from by first | assumption | omega)⟩ ?_
        intro x35 I35 L35 hq35
        have hq35 : I35 = I ∧ L35 = L ∧ z34.toInt ≤ x35.toInt ∧ x35.toInt ≤ 7 ∧ ((0 ≤ t.toInt → ∀ n, tsub (dgT t) z34.toInt.toNat n → z34.toInt + n ≤ 7 → x35.toInt = z34.toInt + n)) := hq35
        obtain ⟨eI35, eL35, c35_2, c35_3, c35_4⟩ := hq35
        replace eI35 := eI35.symm
        subst eI35
        replace eL35 := eL35.symm
        subst eL35
        have hx35 : x35.toInt = z34.toInt + n1 := c35_4 p4 n1 tz34 (by omega)
        have tx35 : tsub (dgT t) x35.toInt.toNat n2 := by rw [show x35.toInt.toNat = j.toInt.toNat + 1 + n1 by omega]; exact ht2
        apply And.intro
        · intro h43
          have h43 : ¬ x2.toInt = 5 := h43
          apply And.intro
          · intro h59
            have h59 : ¬ x2.toInt = 5 := h59
            intro z69 q69 _ hq69 hl69 hu69
            have hq69 : z69.toInt = j.toInt + 1 + 4294967296 * q69 := hq69
            try have hz69 : z69.toInt = j.toInt + 1 := by omega
            have tz69 : tsub (dgT t) z69.toInt.toNat n1 := by rw [show z69.toInt.toNat = j.toInt.toNat + 1 by omega]; exact ht1
            apply And.intro
            · intro h75
              have h75 : ¬ x2.toInt = 5 := h75
              apply And.intro
              · intro h85
                have h85 : 0 = w.toInt := h85
                apply And.intro
                · intro h100
                  have h100 : (0 : Int) = 0 := h100
                  apply And.intro
                  · intro h122
                    have h122 : ¬ w.toInt = 0 := h122
                    have r130_1 : 0 ≤ (I 16 (s.toInt.toNat)).toInt ∧ (I 16 (s.toInt.toNat)).toInt ≤ 4 := hR 16 (s.toInt.toNat)
                    refine And.intro ⟨(dpos_of (by omega)), hR, (show 0 ≤ s.toInt from by first | assumption | omega), (show s.toInt ≤ 52 from by first | assumption | omega), (show 0 ≤ t.toInt from by first | assumption | omega), (show 0 ≤ z69.toInt from by first | assumption | omega), (by first | exact ⟨n1, by omega, tz69, by omega, by omega⟩ | exact ⟨n2, by omega, tx35, by omega, by omega⟩), (show osl (I 21) (I 22) (I 23) (4 * s.toInt.toNat) (I 16 s.toInt.toNat).toInt from by first | assumption | omega)⟩ ?_
                    intro x130 I130 L130 hq130
                    have hq130 : xR I130 ∧ f_fr [16, 20, 21, 22, 23] I I130 ∧ f_fr [17] L L130 ∧ ((∀ n : Nat, tsub (dgT t) z69.toInt.toNat n → 2 * (I130 16 s.toInt.toNat).toInt = 2 * (I 16 s.toInt.toNat).toInt + n + 1)) ∧ (I 16 s.toInt.toNat).toInt ≤ x130.toInt ∧ x130.toInt < (I130 16 s.toInt.toNat).toInt ∧ osl (I130 21) (I130 22) (I130 23) (4 * s.toInt.toNat) (I130 16 s.toInt.toNat).toInt ∧ (I130 21 (4 * s.toInt.toNat + x130.toInt.toNat)).toInt = -1 ∧ oout s.toInt.toNat (I 16 s.toInt.toNat).toInt.toNat I I130 := hq130
                    obtain ⟨c130_0, c130_1, c130_2, c130_3, c130_4, c130_5, c130_6, c130_7, c130_8⟩ := hq130
                    have hF130 := f_fr_tr hF0 c130_1 rfl
                    have hG130 := f_fr_tr hG0 c130_2 rfl
                    try have sB := c130_3 n1 tz69
                    try have sB := c130_3 n2 tx35
                    try have oA := oout_tr c110_8 c130_8 (by omega)
                    try have hA : (I130 21 (4 * s.toInt.toNat + x110.toInt.toNat)).toInt = -1 := by rw [(c130_8.2 _ (Or.inl (by omega))).1]; exact c110_7
                    apply And.intro
                    · intro h137
                      have h137 : ¬ (0 : Int) = 0 := h137
                      exfalso
                      omega
                    · intro h137
                      have h137 : (0 : Int) = 0 := h137
                      have r147_2 : 0 ≤ (I130 16 (s.toInt.toNat)).toInt ∧ (I130 16 (s.toInt.toNat)).toInt ≤ 4 := c130_0 16 (s.toInt.toNat)
                      refine And.intro ⟨(dpos_of (by omega)), c130_0, (show 0 ≤ s.toInt from by first | assumption | omega), (show s.toInt ≤ 52 from by first | assumption | omega), (show 0 ≤ t.toInt from by first | assumption | omega), (show 0 ≤ x35.toInt from by first | assumption | omega), (by first | exact ⟨n1, by omega, tz48, by omega, by omega⟩ | exact ⟨n2, by omega, tx35, by omega, by omega⟩), (show osl (I130 21) (I130 22) (I130 23) (4 * s.toInt.toNat) (I130 16 s.toInt.toNat).toInt from by first | assumption | omega)⟩ ?_
                      intro x147 I147 L147 hq147
                      have hq147 : xR I147 ∧ f_fr [16, 20, 21, 22, 23] I130 I147 ∧ f_fr [17] L130 L147 ∧ ((∀ n : Nat, tsub (dgT t) x35.toInt.toNat n → 2 * (I147 16 s.toInt.toNat).toInt = 2 * (I130 16 s.toInt.toNat).toInt + n + 1)) ∧ (I130 16 s.toInt.toNat).toInt ≤ x147.toInt ∧ x147.toInt < (I147 16 s.toInt.toNat).toInt ∧ osl (I147 21) (I147 22) (I147 23) (4 * s.toInt.toNat) (I147 16 s.toInt.toNat).toInt ∧ (I147 21 (4 * s.toInt.toNat + x147.toInt.toNat)).toInt = -1 ∧ oout s.toInt.toNat (I130 16 s.toInt.toNat).toInt.toNat I130 I147 := hq147
                      obtain ⟨c147_0, c147_1, c147_2, c147_3, c147_4, c147_5, c147_6, c147_7, c147_8⟩ := hq147
                      have hF147 := f_fr_tr hF130 c147_1 rfl
                      have hG147 := f_fr_tr hG130 c147_2 rfl
                      try have sC := c147_3 n1 tz48
                      try have sC := c147_3 n2 tx35
                      have oC := oout_tr c130_8 c147_8 (by omega)
                      have hC : (I147 21 (4 * s.toInt.toNat + x130.toInt.toNat)).toInt = -1 := by rw [(c147_8.2 _ (Or.inl (by omega))).1]; exact c130_7
                      have r152_3 : 0 ≤ (I147 16 (s.toInt.toNat)).toInt ∧ (I147 16 (s.toInt.toNat)).toInt ≤ 4 := c147_0 16 (s.toInt.toNat)
                      have r152_4 : -1 ≤ (I147 21 (4 * s.toInt.toNat + x147.toInt.toNat)).toInt ∧ (I147 21 (4 * s.toInt.toNat + x147.toInt.toNat)).toInt ≤ 3 := c147_0 21 (4 * s.toInt.toNat + x147.toInt.toNat)
                      have r152_5 : -1 ≤ (I147 21 (4 * s.toInt.toNat + x130.toInt.toNat)).toInt ∧ (I147 21 (4 * s.toInt.toNat + x130.toInt.toNat)).toInt ≤ 3 := c147_0 21 (4 * s.toInt.toNat + x130.toInt.toNat)
                      exact ⟨x147, x130, (by intro q9 h9; simp only [List.mem_cons, List.not_mem_nil, or_false] at h9; rcases h9 with h9 | h9 | h9 | h9 | h9 | h9 | h9 <;> subst h9 <;> repeat (first | exact List.mem_cons_self | apply List.mem_cons_of_mem)), rfl, c147_0, hF147, hG147, (show oout s.toInt.toNat (I 16 s.toInt.toNat).toInt.toNat I I147 from by first | assumption | omega), (show osl (I147 21) (I147 22) (I147 23) (4 * s.toInt.toNat) (I147 16 s.toInt.toNat).toInt from by first | assumption | omega), (show 2 * (I147 16 s.toInt.toNat).toInt = 2 * (I 16 s.toInt.toNat).toInt + n + 1 from by first | assumption | omega | rfl), (show (I 16 s.toInt.toNat).toInt ≤ x147.toInt from by first | assumption | omega), (show x147.toInt < (I147 16 s.toInt.toNat).toInt from by first | assumption | omega), (show (I 16 s.toInt.toNat).toInt ≤ x130.toInt from by first | assumption | omega), (show x130.toInt < (I147 16 s.toInt.toNat).toInt from by first | assumption | omega), (show x147.toInt ≠ x130.toInt from by first | assumption | omega), (show (I147 21 (4 * s.toInt.toNat + x147.toInt.toNat)).toInt = -1 from by first | assumption | omega | rfl), (show (I147 21 (4 * s.toInt.toNat + x130.toInt.toNat)).toInt = -1 from by first | assumption | omega | rfl)⟩
                  · intro h122
                    have h122 : w.toInt = 0 := h122
                    have r130_1 : 0 ≤ (I 16 (s.toInt.toNat)).toInt ∧ (I 16 (s.toInt.toNat)).toInt ≤ 4 := hR 16 (s.toInt.toNat)
                    refine And.intro ⟨(dpos_of (by omega)), hR, (show 0 ≤ s.toInt from by first | assumption | omega), (show s.toInt ≤ 52 from by first | assumption | omega), (show 0 ≤ t.toInt from by first | assumption | omega), (show 0 ≤ z69.toInt from by first | assumption | omega), (by first | exact ⟨n1, by omega, tz69, by omega, by omega⟩ | exact ⟨n2, by omega, tx35, by omega, by omega⟩), (show osl (I 21) (I 22) (I 23) (4 * s.toInt.toNat) (I 16 s.toInt.toNat).toInt from by first | assumption | omega)⟩ ?_
                    intro x130 I130 L130 hq130
                    have hq130 : xR I130 ∧ f_fr [16, 20, 21, 22, 23] I I130 ∧ f_fr [17] L L130 ∧ ((∀ n : Nat, tsub (dgT t) z69.toInt.toNat n → 2 * (I130 16 s.toInt.toNat).toInt = 2 * (I 16 s.toInt.toNat).toInt + n + 1)) ∧ (I 16 s.toInt.toNat).toInt ≤ x130.toInt ∧ x130.toInt < (I130 16 s.toInt.toNat).toInt ∧ osl (I130 21) (I130 22) (I130 23) (4 * s.toInt.toNat) (I130 16 s.toInt.toNat).toInt ∧ (I130 21 (4 * s.toInt.toNat + x130.toInt.toNat)).toInt = -1 ∧ oout s.toInt.toNat (I 16 s.toInt.toNat).toInt.toNat I I130 := hq130
                    obtain ⟨c130_0, c130_1, c130_2, c130_3, c130_4, c130_5, c130_6, c130_7, c130_8⟩ := hq130
                    have hF130 := f_fr_tr hF0 c130_1 rfl
                    have hG130 := f_fr_tr hG0 c130_2 rfl
                    try have sB := c130_3 n1 tz69
                    try have sB := c130_3 n2 tx35
                    try have oA := oout_tr c110_8 c130_8 (by omega)
                    try have hA : (I130 21 (4 * s.toInt.toNat + x110.toInt.toNat)).toInt = -1 := by rw [(c130_8.2 _ (Or.inl (by omega))).1]; exact c110_7
                    apply And.intro
                    · intro h137
                      have h137 : ¬ (0 : Int) = 0 := h137
                      exfalso
                      omega
                    · intro h137
                      have h137 : (0 : Int) = 0 := h137
                      have r147_2 : 0 ≤ (I130 16 (s.toInt.toNat)).toInt ∧ (I130 16 (s.toInt.toNat)).toInt ≤ 4 := c130_0 16 (s.toInt.toNat)
                      refine And.intro ⟨(dpos_of (by omega)), c130_0, (show 0 ≤ s.toInt from by first | assumption | omega), (show s.toInt ≤ 52 from by first | assumption | omega), (show 0 ≤ t.toInt from by first | assumption | omega), (show 0 ≤ x35.toInt from by first | assumption | omega), (by first | exact ⟨n1, by omega, tz48, by omega, by omega⟩ | exact ⟨n2, by omega, tx35, by omega, by omega⟩), (show osl (I130 21) (I130 22) (I130 23) (4 * s.toInt.toNat) (I130 16 s.toInt.toNat).toInt from by first | assumption | omega)⟩ ?_
                      intro x147 I147 L147 hq147
                      have hq147 : xR I147 ∧ f_fr [16, 20, 21, 22, 23] I130 I147 ∧ f_fr [17] L130 L147 ∧ ((∀ n : Nat, tsub (dgT t) x35.toInt.toNat n → 2 * (I147 16 s.toInt.toNat).toInt = 2 * (I130 16 s.toInt.toNat).toInt + n + 1)) ∧ (I130 16 s.toInt.toNat).toInt ≤ x147.toInt ∧ x147.toInt < (I147 16 s.toInt.toNat).toInt ∧ osl (I147 21) (I147 22) (I147 23) (4 * s.toInt.toNat) (I147 16 s.toInt.toNat).toInt ∧ (I147 21 (4 * s.toInt.toNat + x147.toInt.toNat)).toInt = -1 ∧ oout s.toInt.toNat (I130 16 s.toInt.toNat).toInt.toNat I130 I147 := hq147
                      obtain ⟨c147_0, c147_1, c147_2, c147_3, c147_4, c147_5, c147_6, c147_7, c147_8⟩ := hq147
                      have hF147 := f_fr_tr hF130 c147_1 rfl
                      have hG147 := f_fr_tr hG130 c147_2 rfl
                      try have sC := c147_3 n1 tz48
                      try have sC := c147_3 n2 tx35
                      have oC := oout_tr c130_8 c147_8 (by omega)
                      have hC : (I147 21 (4 * s.toInt.toNat + x130.toInt.toNat)).toInt = -1 := by rw [(c147_8.2 _ (Or.inl (by omega))).1]; exact c130_7
                      have r152_3 : 0 ≤ (I147 16 (s.toInt.toNat)).toInt ∧ (I147 16 (s.toInt.toNat)).toInt ≤ 4 := c147_0 16 (s.toInt.toNat)
                      have r152_4 : -1 ≤ (I147 21 (4 * s.toInt.toNat + x147.toInt.toNat)).toInt ∧ (I147 21 (4 * s.toInt.toNat + x147.toInt.toNat)).toInt ≤ 3 := c147_0 21 (4 * s.toInt.toNat + x147.toInt.toNat)
                      have r152_5 : -1 ≤ (I147 21 (4 * s.toInt.toNat + x130.toInt.toNat)).toInt ∧ (I147 21 (4 * s.toInt.toNat + x130.toInt.toNat)).toInt ≤ 3 := c147_0 21 (4 * s.toInt.toNat + x130.toInt.toNat)
                      exact ⟨x147, x130, (by intro q9 h9; simp only [List.mem_cons, List.not_mem_nil, or_false] at h9; rcases h9 with h9 | h9 | h9 | h9 | h9 | h9 | h9 <;> subst h9 <;> repeat (first | exact List.mem_cons_self | apply List.mem_cons_of_mem)), rfl, c147_0, hF147, hG147, (show oout s.toInt.toNat (I 16 s.toInt.toNat).toInt.toNat I I147 from by first | assumption | omega), (show osl (I147 21) (I147 22) (I147 23) (4 * s.toInt.toNat) (I147 16 s.toInt.toNat).toInt from by first | assumption | omega), (show 2 * (I147 16 s.toInt.toNat).toInt = 2 * (I 16 s.toInt.toNat).toInt + n + 1 from by first | assumption | omega | rfl), (show (I 16 s.toInt.toNat).toInt ≤ x147.toInt from by first | assumption | omega), (show x147.toInt < (I147 16 s.toInt.toNat).toInt from by first | assumption | omega), (show (I 16 s.toInt.toNat).toInt ≤ x130.toInt from by first | assumption | omega), (show x130.toInt < (I147 16 s.toInt.toNat).toInt from by first | assumption | omega), (show x147.toInt ≠ x130.toInt from by first | assumption | omega), (show (I147 21 (4 * s.toInt.toNat + x147.toInt.toNat)).toInt = -1 from by first | assumption | omega | rfl), (show (I147 21 (4 * s.toInt.toNat + x130.toInt.toNat)).toInt = -1 from by first | assumption | omega | rfl)⟩
                · intro h100
                  have h100 : ¬ (0 : Int) = 0 := h100
                  exfalso
                  omega
              · intro h85
                have h85 : ¬ 0 = w.toInt := h85
                apply And.intro
                · intro h100
                  have h100 : (1 : Int) = 0 := h100
                  exfalso
                  omega
                · intro h100
                  have h100 : ¬ (1 : Int) = 0 := h100
                  have r110_1 : 0 ≤ (I 16 (s.toInt.toNat)).toInt ∧ (I 16 (s.toInt.toNat)).toInt ≤ 4 := hR 16 (s.toInt.toNat)
                  refine And.intro ⟨(dpos_of (by omega)), hR, (show 0 ≤ s.toInt from by first | assumption | omega), (show s.toInt ≤ 52 from by first | assumption | omega), (show 0 ≤ t.toInt from by first | assumption | omega), (show 0 ≤ x35.toInt from by first | assumption | omega), (by first | exact ⟨n1, by omega, tz48, by omega, by omega⟩ | exact ⟨n2, by omega, tx35, by omega, by omega⟩), (show osl (I 21) (I 22) (I 23) (4 * s.toInt.toNat) (I 16 s.toInt.toNat).toInt from by first | assumption | omega)⟩ ?_
                  intro x110 I110 L110 hq110
                  have hq110 : xR I110 ∧ f_fr [16, 20, 21, 22, 23] I I110 ∧ f_fr [17] L L110 ∧ ((∀ n : Nat, tsub (dgT t) x35.toInt.toNat n → 2 * (I110 16 s.toInt.toNat).toInt = 2 * (I 16 s.toInt.toNat).toInt + n + 1)) ∧ (I 16 s.toInt.toNat).toInt ≤ x110.toInt ∧ x110.toInt < (I110 16 s.toInt.toNat).toInt ∧ osl (I110 21) (I110 22) (I110 23) (4 * s.toInt.toNat) (I110 16 s.toInt.toNat).toInt ∧ (I110 21 (4 * s.toInt.toNat + x110.toInt.toNat)).toInt = -1 ∧ oout s.toInt.toNat (I 16 s.toInt.toNat).toInt.toNat I I110 := hq110
                  obtain ⟨c110_0, c110_1, c110_2, c110_3, c110_4, c110_5, c110_6, c110_7, c110_8⟩ := hq110
                  have hF110 := f_fr_tr hF0 c110_1 rfl
                  have hG110 := f_fr_tr hG0 c110_2 rfl
                  try have sA := c110_3 n1 tz48
                  try have sA := c110_3 n2 tx35
                  apply And.intro
                  · intro h122
                    have h122 : ¬ w.toInt = 0 := h122
                    have r130_2 : 0 ≤ (I110 16 (s.toInt.toNat)).toInt ∧ (I110 16 (s.toInt.toNat)).toInt ≤ 4 := c110_0 16 (s.toInt.toNat)
                    refine And.intro ⟨(dpos_of (by omega)), c110_0, (show 0 ≤ s.toInt from by first | assumption | omega), (show s.toInt ≤ 52 from by first | assumption | omega), (show 0 ≤ t.toInt from by first | assumption | omega), (show 0 ≤ z69.toInt from by first | assumption | omega), (by first | exact ⟨n1, by omega, tz69, by omega, by omega⟩ | exact ⟨n2, by omega, tx35, by omega, by omega⟩), (show osl (I110 21) (I110 22) (I110 23) (4 * s.toInt.toNat) (I110 16 s.toInt.toNat).toInt from by first | assumption | omega)⟩ ?_
                    intro x130 I130 L130 hq130
                    have hq130 : xR I130 ∧ f_fr [16, 20, 21, 22, 23] I110 I130 ∧ f_fr [17] L110 L130 ∧ ((∀ n : Nat, tsub (dgT t) z69.toInt.toNat n → 2 * (I130 16 s.toInt.toNat).toInt = 2 * (I110 16 s.toInt.toNat).toInt + n + 1)) ∧ (I110 16 s.toInt.toNat).toInt ≤ x130.toInt ∧ x130.toInt < (I130 16 s.toInt.toNat).toInt ∧ osl (I130 21) (I130 22) (I130 23) (4 * s.toInt.toNat) (I130 16 s.toInt.toNat).toInt ∧ (I130 21 (4 * s.toInt.toNat + x130.toInt.toNat)).toInt = -1 ∧ oout s.toInt.toNat (I110 16 s.toInt.toNat).toInt.toNat I110 I130 := hq130
                    obtain ⟨c130_0, c130_1, c130_2, c130_3, c130_4, c130_5, c130_6, c130_7, c130_8⟩ := hq130
                    have hF130 := f_fr_tr hF110 c130_1 rfl
                    have hG130 := f_fr_tr hG110 c130_2 rfl
                    try have sB := c130_3 n1 tz69
                    try have sB := c130_3 n2 tx35
                    try have oA := oout_tr c110_8 c130_8 (by omega)
                    try have hA : (I130 21 (4 * s.toInt.toNat + x110.toInt.toNat)).toInt = -1 := by rw [(c130_8.2 _ (Or.inl (by omega))).1]; exact c110_7
                    apply And.intro
                    · intro h137
                      have h137 : ¬ (1 : Int) = 0 := h137
                      have r152_3 : 0 ≤ (I130 16 (s.toInt.toNat)).toInt ∧ (I130 16 (s.toInt.toNat)).toInt ≤ 4 := c130_0 16 (s.toInt.toNat)
                      have r152_4 : -1 ≤ (I130 21 (4 * s.toInt.toNat + x110.toInt.toNat)).toInt ∧ (I130 21 (4 * s.toInt.toNat + x110.toInt.toNat)).toInt ≤ 3 := c130_0 21 (4 * s.toInt.toNat + x110.toInt.toNat)
                      have r152_5 : -1 ≤ (I130 21 (4 * s.toInt.toNat + x130.toInt.toNat)).toInt ∧ (I130 21 (4 * s.toInt.toNat + x130.toInt.toNat)).toInt ≤ 3 := c130_0 21 (4 * s.toInt.toNat + x130.toInt.toNat)
                      exact ⟨x110, x130, (by intro q9 h9; simp only [List.mem_cons, List.not_mem_nil, or_false] at h9; rcases h9 with h9 | h9 | h9 | h9 | h9 | h9 | h9 <;> subst h9 <;> repeat (first | exact List.mem_cons_self | apply List.mem_cons_of_mem)), rfl, c130_0, hF130, hG130, (show oout s.toInt.toNat (I 16 s.toInt.toNat).toInt.toNat I I130 from by first | assumption | omega), (show osl (I130 21) (I130 22) (I130 23) (4 * s.toInt.toNat) (I130 16 s.toInt.toNat).toInt from by first | assumption | omega), (show 2 * (I130 16 s.toInt.toNat).toInt = 2 * (I 16 s.toInt.toNat).toInt + n + 1 from by first | assumption | omega | rfl), (show (I 16 s.toInt.toNat).toInt ≤ x110.toInt from by first | assumption | omega), (show x110.toInt < (I130 16 s.toInt.toNat).toInt from by first | assumption | omega), (show (I 16 s.toInt.toNat).toInt ≤ x130.toInt from by first | assumption | omega), (show x130.toInt < (I130 16 s.toInt.toNat).toInt from by first | assumption | omega), (show x110.toInt ≠ x130.toInt from by first | assumption | omega), (show (I130 21 (4 * s.toInt.toNat + x110.toInt.toNat)).toInt = -1 from by first | assumption | omega | rfl), (show (I130 21 (4 * s.toInt.toNat + x130.toInt.toNat)).toInt = -1 from by first | assumption | omega | rfl)⟩
                    · intro h137
                      have h137 : (1 : Int) = 0 := h137
                      exfalso
                      omega
                  · intro h122
                    have h122 : w.toInt = 0 := h122
                    have r130_2 : 0 ≤ (I110 16 (s.toInt.toNat)).toInt ∧ (I110 16 (s.toInt.toNat)).toInt ≤ 4 := c110_0 16 (s.toInt.toNat)
                    refine And.intro ⟨(dpos_of (by omega)), c110_0, (show 0 ≤ s.toInt from by first | assumption | omega), (show s.toInt ≤ 52 from by first | assumption | omega), (show 0 ≤ t.toInt from by first | assumption | omega), (show 0 ≤ z69.toInt from by first | assumption | omega), (by first | exact ⟨n1, by omega, tz69, by omega, by omega⟩ | exact ⟨n2, by omega, tx35, by omega, by omega⟩), (show osl (I110 21) (I110 22) (I110 23) (4 * s.toInt.toNat) (I110 16 s.toInt.toNat).toInt from by first | assumption | omega)⟩ ?_
                    intro x130 I130 L130 hq130
                    have hq130 : xR I130 ∧ f_fr [16, 20, 21, 22, 23] I110 I130 ∧ f_fr [17] L110 L130 ∧ ((∀ n : Nat, tsub (dgT t) z69.toInt.toNat n → 2 * (I130 16 s.toInt.toNat).toInt = 2 * (I110 16 s.toInt.toNat).toInt + n + 1)) ∧ (I110 16 s.toInt.toNat).toInt ≤ x130.toInt ∧ x130.toInt < (I130 16 s.toInt.toNat).toInt ∧ osl (I130 21) (I130 22) (I130 23) (4 * s.toInt.toNat) (I130 16 s.toInt.toNat).toInt ∧ (I130 21 (4 * s.toInt.toNat + x130.toInt.toNat)).toInt = -1 ∧ oout s.toInt.toNat (I110 16 s.toInt.toNat).toInt.toNat I110 I130 := hq130
                    obtain ⟨c130_0, c130_1, c130_2, c130_3, c130_4, c130_5, c130_6, c130_7, c130_8⟩ := hq130
                    have hF130 := f_fr_tr hF110 c130_1 rfl
                    have hG130 := f_fr_tr hG110 c130_2 rfl
                    try have sB := c130_3 n1 tz69
                    try have sB := c130_3 n2 tx35
                    try have oA := oout_tr c110_8 c130_8 (by omega)
                    try have hA : (I130 21 (4 * s.toInt.toNat + x110.toInt.toNat)).toInt = -1 := by rw [(c130_8.2 _ (Or.inl (by omega))).1]; exact c110_7
                    apply And.intro
                    · intro h137
                      have h137 : ¬ (1 : Int) = 0 := h137
                      have r152_3 : 0 ≤ (I130 16 (s.toInt.toNat)).toInt ∧ (I130 16 (s.toInt.toNat)).toInt ≤ 4 := c130_0 16 (s.toInt.toNat)
                      have r152_4 : -1 ≤ (I130 21 (4 * s.toInt.toNat + x110.toInt.toNat)).toInt ∧ (I130 21 (4 * s.toInt.toNat + x110.toInt.toNat)).toInt ≤ 3 := c130_0 21 (4 * s.toInt.toNat + x110.toInt.toNat)
                      have r152_5 : -1 ≤ (I130 21 (4 * s.toInt.toNat + x130.toInt.toNat)).toInt ∧ (I130 21 (4 * s.toInt.toNat + x130.toInt.toNat)).toInt ≤ 3 := c130_0 21 (4 * s.toInt.toNat + x130.toInt.toNat)
                      exact ⟨x110, x130, (by intro q9 h9; simp only [List.mem_cons, List.not_mem_nil, or_false] at h9; rcases h9 with h9 | h9 | h9 | h9 | h9 | h9 | h9 <;> subst h9 <;> repeat (first | exact List.mem_cons_self | apply List.mem_cons_of_mem)), rfl, c130_0, hF130, hG130, (show oout s.toInt.toNat (I 16 s.toInt.toNat).toInt.toNat I I130 from by first | assumption | omega), (show osl (I130 21) (I130 22) (I130 23) (4 * s.toInt.toNat) (I130 16 s.toInt.toNat).toInt from by first | assumption | omega), (show 2 * (I130 16 s.toInt.toNat).toInt = 2 * (I 16 s.toInt.toNat).toInt + n + 1 from by first | assumption | omega | rfl), (show (I 16 s.toInt.toNat).toInt ≤ x110.toInt from by first | assumption | omega), (show x110.toInt < (I130 16 s.toInt.toNat).toInt from by first | assumption | omega), (show (I 16 s.toInt.toNat).toInt ≤ x130.toInt from by first | assumption | omega), (show x130.toInt < (I130 16 s.toInt.toNat).toInt from by first | assumption | omega), (show x110.toInt ≠ x130.toInt from by first | assumption | omega), (show (I130 21 (4 * s.toInt.toNat + x110.toInt.toNat)).toInt = -1 from by first | assumption | omega | rfl), (show (I130 21 (4 * s.toInt.toNat + x130.toInt.toNat)).toInt = -1 from by first | assumption | omega | rfl)⟩
                    · intro h137
                      have h137 : (1 : Int) = 0 := h137
                      exfalso
                      omega
            · intro h75
              have h75 : x2.toInt = 5 := h75
              exfalso
              omega
          · intro h59
            have h59 : x2.toInt = 5 := h59
            exfalso
            omega
        · intro h43
          have h43 : x2.toInt = 5 := h43
          intro z48 q48 _ hq48 hl48 hu48
          have hq48 : z48.toInt = j.toInt + 1 + 4294967296 * q48 := hq48
          try have hz48 : z48.toInt = j.toInt + 1 := by omega
          have tz48 : tsub (dgT t) z48.toInt.toNat n1 := by rw [show z48.toInt.toNat = j.toInt.toNat + 1 by omega]; exact ht1
          apply And.intro
          · intro h59
            have h59 : ¬ x2.toInt = 5 := h59
            exfalso
            omega
          · intro h59
            have h59 : x2.toInt = 5 := h59
            apply And.intro
            · intro h75
              have h75 : ¬ x2.toInt = 5 := h75
              exfalso
              omega
            · intro h75
              have h75 : x2.toInt = 5 := h75
              apply And.intro
              · intro h85
                have h85 : 1 = w.toInt := h85
                apply And.intro
                · intro h100
                  have h100 : (0 : Int) = 0 := h100
                  apply And.intro
                  · intro h122
                    have h122 : ¬ w.toInt = 0 := h122
                    have r130_1 : 0 ≤ (I 16 (s.toInt.toNat)).toInt ∧ (I 16 (s.toInt.toNat)).toInt ≤ 4 := hR 16 (s.toInt.toNat)
                    refine And.intro ⟨(dpos_of (by omega)), hR, (show 0 ≤ s.toInt from by first | assumption | omega), (show s.toInt ≤ 52 from by first | assumption | omega), (show 0 ≤ t.toInt from by first | assumption | omega), (show 0 ≤ x35.toInt from by first | assumption | omega), (by first | exact ⟨n1, by omega, tz69, by omega, by omega⟩ | exact ⟨n2, by omega, tx35, by omega, by omega⟩), (show osl (I 21) (I 22) (I 23) (4 * s.toInt.toNat) (I 16 s.toInt.toNat).toInt from by first | assumption | omega)⟩ ?_
                    intro x130 I130 L130 hq130
                    have hq130 : xR I130 ∧ f_fr [16, 20, 21, 22, 23] I I130 ∧ f_fr [17] L L130 ∧ ((∀ n : Nat, tsub (dgT t) x35.toInt.toNat n → 2 * (I130 16 s.toInt.toNat).toInt = 2 * (I 16 s.toInt.toNat).toInt + n + 1)) ∧ (I 16 s.toInt.toNat).toInt ≤ x130.toInt ∧ x130.toInt < (I130 16 s.toInt.toNat).toInt ∧ osl (I130 21) (I130 22) (I130 23) (4 * s.toInt.toNat) (I130 16 s.toInt.toNat).toInt ∧ (I130 21 (4 * s.toInt.toNat + x130.toInt.toNat)).toInt = -1 ∧ oout s.toInt.toNat (I 16 s.toInt.toNat).toInt.toNat I I130 := hq130
                    obtain ⟨c130_0, c130_1, c130_2, c130_3, c130_4, c130_5, c130_6, c130_7, c130_8⟩ := hq130
                    have hF130 := f_fr_tr hF0 c130_1 rfl
                    have hG130 := f_fr_tr hG0 c130_2 rfl
                    try have sB := c130_3 n1 tz69
                    try have sB := c130_3 n2 tx35
                    try have oA := oout_tr c110_8 c130_8 (by omega)
                    try have hA : (I130 21 (4 * s.toInt.toNat + x110.toInt.toNat)).toInt = -1 := by rw [(c130_8.2 _ (Or.inl (by omega))).1]; exact c110_7
                    apply And.intro
                    · intro h137
                      have h137 : ¬ (0 : Int) = 0 := h137
                      exfalso
                      omega
                    · intro h137
                      have h137 : (0 : Int) = 0 := h137
                      have r147_2 : 0 ≤ (I130 16 (s.toInt.toNat)).toInt ∧ (I130 16 (s.toInt.toNat)).toInt ≤ 4 := c130_0 16 (s.toInt.toNat)
                      refine And.intro ⟨(dpos_of (by omega)), c130_0, (show 0 ≤ s.toInt from by first | assumption | omega), (show s.toInt ≤ 52 from by first | assumption | omega), (show 0 ≤ t.toInt from by first | assumption | omega), (show 0 ≤ z48.toInt from by first | assumption | omega), (by first | exact ⟨n1, by omega, tz48, by omega, by omega⟩ | exact ⟨n2, by omega, tx35, by omega, by omega⟩), (show osl (I130 21) (I130 22) (I130 23) (4 * s.toInt.toNat) (I130 16 s.toInt.toNat).toInt from by first | assumption | omega)⟩ ?_
                      intro x147 I147 L147 hq147
                      have hq147 : xR I147 ∧ f_fr [16, 20, 21, 22, 23] I130 I147 ∧ f_fr [17] L130 L147 ∧ ((∀ n : Nat, tsub (dgT t) z48.toInt.toNat n → 2 * (I147 16 s.toInt.toNat).toInt = 2 * (I130 16 s.toInt.toNat).toInt + n + 1)) ∧ (I130 16 s.toInt.toNat).toInt ≤ x147.toInt ∧ x147.toInt < (I147 16 s.toInt.toNat).toInt ∧ osl (I147 21) (I147 22) (I147 23) (4 * s.toInt.toNat) (I147 16 s.toInt.toNat).toInt ∧ (I147 21 (4 * s.toInt.toNat + x147.toInt.toNat)).toInt = -1 ∧ oout s.toInt.toNat (I130 16 s.toInt.toNat).toInt.toNat I130 I147 := hq147
                      obtain ⟨c147_0, c147_1, c147_2, c147_3, c147_4, c147_5, c147_6, c147_7, c147_8⟩ := hq147
                      have hF147 := f_fr_tr hF130 c147_1 rfl
                      have hG147 := f_fr_tr hG130 c147_2 rfl
                      try have sC := c147_3 n1 tz48
                      try have sC := c147_3 n2 tx35
                      have oC := oout_tr c130_8 c147_8 (by omega)
                      have hC : (I147 21 (4 * s.toInt.toNat + x130.toInt.toNat)).toInt = -1 := by rw [(c147_8.2 _ (Or.inl (by omega))).1]; exact c130_7
                      have r152_3 : 0 ≤ (I147 16 (s.toInt.toNat)).toInt ∧ (I147 16 (s.toInt.toNat)).toInt ≤ 4 := c147_0 16 (s.toInt.toNat)
                      have r152_4 : -1 ≤ (I147 21 (4 * s.toInt.toNat + x147.toInt.toNat)).toInt ∧ (I147 21 (4 * s.toInt.toNat + x147.toInt.toNat)).toInt ≤ 3 := c147_0 21 (4 * s.toInt.toNat + x147.toInt.toNat)
                      have r152_5 : -1 ≤ (I147 21 (4 * s.toInt.toNat + x130.toInt.toNat)).toInt ∧ (I147 21 (4 * s.toInt.toNat + x130.toInt.toNat)).toInt ≤ 3 := c147_0 21 (4 * s.toInt.toNat + x130.toInt.toNat)
                      exact ⟨x147, x130, (by intro q9 h9; simp only [List.mem_cons, List.not_mem_nil, or_false] at h9; rcases h9 with h9 | h9 | h9 | h9 | h9 | h9 | h9 <;> subst h9 <;> repeat (first | exact List.mem_cons_self | apply List.mem_cons_of_mem)), rfl, c147_0, hF147, hG147, (show oout s.toInt.toNat (I 16 s.toInt.toNat).toInt.toNat I I147 from by first | assumption | omega), (show osl (I147 21) (I147 22) (I147 23) (4 * s.toInt.toNat) (I147 16 s.toInt.toNat).toInt from by first | assumption | omega), (show 2 * (I147 16 s.toInt.toNat).toInt = 2 * (I 16 s.toInt.toNat).toInt + n + 1 from by first | assumption | omega | rfl), (show (I 16 s.toInt.toNat).toInt ≤ x147.toInt from by first | assumption | omega), (show x147.toInt < (I147 16 s.toInt.toNat).toInt from by first | assumption | omega), (show (I 16 s.toInt.toNat).toInt ≤ x130.toInt from by first | assumption | omega), (show x130.toInt < (I147 16 s.toInt.toNat).toInt from by first | assumption | omega), (show x147.toInt ≠ x130.toInt from by first | assumption | omega), (show (I147 21 (4 * s.toInt.toNat + x147.toInt.toNat)).toInt = -1 from by first | assumption | omega | rfl), (show (I147 21 (4 * s.toInt.toNat + x130.toInt.toNat)).toInt = -1 from by first | assumption | omega | rfl)⟩
                  · intro h122
                    have h122 : w.toInt = 0 := h122
                    have r130_1 : 0 ≤ (I 16 (s.toInt.toNat)).toInt ∧ (I 16 (s.toInt.toNat)).toInt ≤ 4 := hR 16 (s.toInt.toNat)
                    refine And.intro ⟨(dpos_of (by omega)), hR, (show 0 ≤ s.toInt from by first | assumption | omega), (show s.toInt ≤ 52 from by first | assumption | omega), (show 0 ≤ t.toInt from by first | assumption | omega), (show 0 ≤ x35.toInt from by first | assumption | omega), (by first | exact ⟨n1, by omega, tz69, by omega, by omega⟩ | exact ⟨n2, by omega, tx35, by omega, by omega⟩), (show osl (I 21) (I 22) (I 23) (4 * s.toInt.toNat) (I 16 s.toInt.toNat).toInt from by first | assumption | omega)⟩ ?_
                    intro x130 I130 L130 hq130
                    have hq130 : xR I130 ∧ f_fr [16, 20, 21, 22, 23] I I130 ∧ f_fr [17] L L130 ∧ ((∀ n : Nat, tsub (dgT t) x35.toInt.toNat n → 2 * (I130 16 s.toInt.toNat).toInt = 2 * (I 16 s.toInt.toNat).toInt + n + 1)) ∧ (I 16 s.toInt.toNat).toInt ≤ x130.toInt ∧ x130.toInt < (I130 16 s.toInt.toNat).toInt ∧ osl (I130 21) (I130 22) (I130 23) (4 * s.toInt.toNat) (I130 16 s.toInt.toNat).toInt ∧ (I130 21 (4 * s.toInt.toNat + x130.toInt.toNat)).toInt = -1 ∧ oout s.toInt.toNat (I 16 s.toInt.toNat).toInt.toNat I I130 := hq130
                    obtain ⟨c130_0, c130_1, c130_2, c130_3, c130_4, c130_5, c130_6, c130_7, c130_8⟩ := hq130
                    have hF130 := f_fr_tr hF0 c130_1 rfl
                    have hG130 := f_fr_tr hG0 c130_2 rfl
                    try have sB := c130_3 n1 tz69
                    try have sB := c130_3 n2 tx35
                    try have oA := oout_tr c110_8 c130_8 (by omega)
                    try have hA : (I130 21 (4 * s.toInt.toNat + x110.toInt.toNat)).toInt = -1 := by rw [(c130_8.2 _ (Or.inl (by omega))).1]; exact c110_7
                    apply And.intro
                    · intro h137
                      have h137 : ¬ (0 : Int) = 0 := h137
                      exfalso
                      omega
                    · intro h137
                      have h137 : (0 : Int) = 0 := h137
                      have r147_2 : 0 ≤ (I130 16 (s.toInt.toNat)).toInt ∧ (I130 16 (s.toInt.toNat)).toInt ≤ 4 := c130_0 16 (s.toInt.toNat)
                      refine And.intro ⟨(dpos_of (by omega)), c130_0, (show 0 ≤ s.toInt from by first | assumption | omega), (show s.toInt ≤ 52 from by first | assumption | omega), (show 0 ≤ t.toInt from by first | assumption | omega), (show 0 ≤ z48.toInt from by first | assumption | omega), (by first | exact ⟨n1, by omega, tz48, by omega, by omega⟩ | exact ⟨n2, by omega, tx35, by omega, by omega⟩), (show osl (I130 21) (I130 22) (I130 23) (4 * s.toInt.toNat) (I130 16 s.toInt.toNat).toInt from by first | assumption | omega)⟩ ?_
                      intro x147 I147 L147 hq147
                      have hq147 : xR I147 ∧ f_fr [16, 20, 21, 22, 23] I130 I147 ∧ f_fr [17] L130 L147 ∧ ((∀ n : Nat, tsub (dgT t) z48.toInt.toNat n → 2 * (I147 16 s.toInt.toNat).toInt = 2 * (I130 16 s.toInt.toNat).toInt + n + 1)) ∧ (I130 16 s.toInt.toNat).toInt ≤ x147.toInt ∧ x147.toInt < (I147 16 s.toInt.toNat).toInt ∧ osl (I147 21) (I147 22) (I147 23) (4 * s.toInt.toNat) (I147 16 s.toInt.toNat).toInt ∧ (I147 21 (4 * s.toInt.toNat + x147.toInt.toNat)).toInt = -1 ∧ oout s.toInt.toNat (I130 16 s.toInt.toNat).toInt.toNat I130 I147 := hq147
                      obtain ⟨c147_0, c147_1, c147_2, c147_3, c147_4, c147_5, c147_6, c147_7, c147_8⟩ := hq147
                      have hF147 := f_fr_tr hF130 c147_1 rfl
                      have hG147 := f_fr_tr hG130 c147_2 rfl
                      try have sC := c147_3 n1 tz48
                      try have sC := c147_3 n2 tx35
                      have oC := oout_tr c130_8 c147_8 (by omega)
                      have hC : (I147 21 (4 * s.toInt.toNat + x130.toInt.toNat)).toInt = -1 := by rw [(c147_8.2 _ (Or.inl (by omega))).1]; exact c130_7
                      have r152_3 : 0 ≤ (I147 16 (s.toInt.toNat)).toInt ∧ (I147 16 (s.toInt.toNat)).toInt ≤ 4 := c147_0 16 (s.toInt.toNat)
                      have r152_4 : -1 ≤ (I147 21 (4 * s.toInt.toNat + x147.toInt.toNat)).toInt ∧ (I147 21 (4 * s.toInt.toNat + x147.toInt.toNat)).toInt ≤ 3 := c147_0 21 (4 * s.toInt.toNat + x147.toInt.toNat)
                      have r152_5 : -1 ≤ (I147 21 (4 * s.toInt.toNat + x130.toInt.toNat)).toInt ∧ (I147 21 (4 * s.toInt.toNat + x130.toInt.toNat)).toInt ≤ 3 := c147_0 21 (4 * s.toInt.toNat + x130.toInt.toNat)
                      exact ⟨x147, x130, (by intro q9 h9; simp only [List.mem_cons, List.not_mem_nil, or_false] at h9; rcases h9 with h9 | h9 | h9 | h9 | h9 | h9 | h9 <;> subst h9 <;> repeat (first | exact List.mem_cons_self | apply List.mem_cons_of_mem)), rfl, c147_0, hF147, hG147, (show oout s.toInt.toNat (I 16 s.toInt.toNat).toInt.toNat I I147 from by first | assumption | omega), (show osl (I147 21) (I147 22) (I147 23) (4 * s.toInt.toNat) (I147 16 s.toInt.toNat).toInt from by first | assumption | omega), (show 2 * (I147 16 s.toInt.toNat).toInt = 2 * (I 16 s.toInt.toNat).toInt + n + 1 from by first | assumption | omega | rfl), (show (I 16 s.toInt.toNat).toInt ≤ x147.toInt from by first | assumption | omega), (show x147.toInt < (I147 16 s.toInt.toNat).toInt from by first | assumption | omega), (show (I 16 s.toInt.toNat).toInt ≤ x130.toInt from by first | assumption | omega), (show x130.toInt < (I147 16 s.toInt.toNat).toInt from by first | assumption | omega), (show x147.toInt ≠ x130.toInt from by first | assumption | omega), (show (I147 21 (4 * s.toInt.toNat + x147.toInt.toNat)).toInt = -1 from by first | assumption | omega | rfl), (show (I147 21 (4 * s.toInt.toNat + x130.toInt.toNat)).toInt = -1 from by first | assumption | omega | rfl)⟩
                · intro h100
                  have h100 : ¬ (0 : Int) = 0 := h100
                  exfalso
                  omega
              · intro h85
                have h85 : ¬ 1 = w.toInt := h85
                apply And.intro
                · intro h100
                  have h100 : (1 : Int) = 0 := h100
                  exfalso
                  omega
                · intro h100
                  have h100 : ¬ (1 : Int) = 0 := h100
                  have r110_1 : 0 ≤ (I 16 (s.toInt.toNat)).toInt ∧ (I 16 (s.toInt.toNat)).toInt ≤ 4 := hR 16 (s.toInt.toNat)
                  refine And.intro ⟨(dpos_of (by omega)), hR, (show 0 ≤ s.toInt from by first | assumption | omega), (show s.toInt ≤ 52 from by first | assumption | omega), (show 0 ≤ t.toInt from by first | assumption | omega), (show 0 ≤ z48.toInt from by first | assumption | omega), (by first | exact ⟨n1, by omega, tz48, by omega, by omega⟩ | exact ⟨n2, by omega, tx35, by omega, by omega⟩), (show osl (I 21) (I 22) (I 23) (4 * s.toInt.toNat) (I 16 s.toInt.toNat).toInt from by first | assumption | omega)⟩ ?_
                  intro x110 I110 L110 hq110
                  have hq110 : xR I110 ∧ f_fr [16, 20, 21, 22, 23] I I110 ∧ f_fr [17] L L110 ∧ ((∀ n : Nat, tsub (dgT t) z48.toInt.toNat n → 2 * (I110 16 s.toInt.toNat).toInt = 2 * (I 16 s.toInt.toNat).toInt + n + 1)) ∧ (I 16 s.toInt.toNat).toInt ≤ x110.toInt ∧ x110.toInt < (I110 16 s.toInt.toNat).toInt ∧ osl (I110 21) (I110 22) (I110 23) (4 * s.toInt.toNat) (I110 16 s.toInt.toNat).toInt ∧ (I110 21 (4 * s.toInt.toNat + x110.toInt.toNat)).toInt = -1 ∧ oout s.toInt.toNat (I 16 s.toInt.toNat).toInt.toNat I I110 := hq110
                  obtain ⟨c110_0, c110_1, c110_2, c110_3, c110_4, c110_5, c110_6, c110_7, c110_8⟩ := hq110
                  have hF110 := f_fr_tr hF0 c110_1 rfl
                  have hG110 := f_fr_tr hG0 c110_2 rfl
                  try have sA := c110_3 n1 tz48
                  try have sA := c110_3 n2 tx35
                  apply And.intro
                  · intro h122
                    have h122 : ¬ w.toInt = 0 := h122
                    have r130_2 : 0 ≤ (I110 16 (s.toInt.toNat)).toInt ∧ (I110 16 (s.toInt.toNat)).toInt ≤ 4 := c110_0 16 (s.toInt.toNat)
                    refine And.intro ⟨(dpos_of (by omega)), c110_0, (show 0 ≤ s.toInt from by first | assumption | omega), (show s.toInt ≤ 52 from by first | assumption | omega), (show 0 ≤ t.toInt from by first | assumption | omega), (show 0 ≤ x35.toInt from by first | assumption | omega), (by first | exact ⟨n1, by omega, tz69, by omega, by omega⟩ | exact ⟨n2, by omega, tx35, by omega, by omega⟩), (show osl (I110 21) (I110 22) (I110 23) (4 * s.toInt.toNat) (I110 16 s.toInt.toNat).toInt from by first | assumption | omega)⟩ ?_
                    intro x130 I130 L130 hq130
                    have hq130 : xR I130 ∧ f_fr [16, 20, 21, 22, 23] I110 I130 ∧ f_fr [17] L110 L130 ∧ ((∀ n : Nat, tsub (dgT t) x35.toInt.toNat n → 2 * (I130 16 s.toInt.toNat).toInt = 2 * (I110 16 s.toInt.toNat).toInt + n + 1)) ∧ (I110 16 s.toInt.toNat).toInt ≤ x130.toInt ∧ x130.toInt < (I130 16 s.toInt.toNat).toInt ∧ osl (I130 21) (I130 22) (I130 23) (4 * s.toInt.toNat) (I130 16 s.toInt.toNat).toInt ∧ (I130 21 (4 * s.toInt.toNat + x130.toInt.toNat)).toInt = -1 ∧ oout s.toInt.toNat (I110 16 s.toInt.toNat).toInt.toNat I110 I130 := hq130
                    obtain ⟨c130_0, c130_1, c130_2, c130_3, c130_4, c130_5, c130_6, c130_7, c130_8⟩ := hq130
                    have hF130 := f_fr_tr hF110 c130_1 rfl
                    have hG130 := f_fr_tr hG110 c130_2 rfl
                    try have sB := c130_3 n1 tz69
                    try have sB := c130_3 n2 tx35
                    try have oA := oout_tr c110_8 c130_8 (by omega)
                    try have hA : (I130 21 (4 * s.toInt.toNat + x110.toInt.toNat)).toInt = -1 := by rw [(c130_8.2 _ (Or.inl (by omega))).1]; exact c110_7
                    apply And.intro
                    · intro h137
                      have h137 : ¬ (1 : Int) = 0 := h137
                      have r152_3 : 0 ≤ (I130 16 (s.toInt.toNat)).toInt ∧ (I130 16 (s.toInt.toNat)).toInt ≤ 4 := c130_0 16 (s.toInt.toNat)
                      have r152_4 : -1 ≤ (I130 21 (4 * s.toInt.toNat + x110.toInt.toNat)).toInt ∧ (I130 21 (4 * s.toInt.toNat + x110.toInt.toNat)).toInt ≤ 3 := c130_0 21 (4 * s.toInt.toNat + x110.toInt.toNat)
                      have r152_5 : -1 ≤ (I130 21 (4 * s.toInt.toNat + x130.toInt.toNat)).toInt ∧ (I130 21 (4 * s.toInt.toNat + x130.toInt.toNat)).toInt ≤ 3 := c130_0 21 (4 * s.toInt.toNat + x130.toInt.toNat)
                      exact ⟨x110, x130, (by intro q9 h9; simp only [List.mem_cons, List.not_mem_nil, or_false] at h9; rcases h9 with h9 | h9 | h9 | h9 | h9 | h9 | h9 <;> subst h9 <;> repeat (first | exact List.mem_cons_self | apply List.mem_cons_of_mem)), rfl, c130_0, hF130, hG130, (show oout s.toInt.toNat (I 16 s.toInt.toNat).toInt.toNat I I130 from by first | assumption | omega), (show osl (I130 21) (I130 22) (I130 23) (4 * s.toInt.toNat) (I130 16 s.toInt.toNat).toInt from by first | assumption | omega), (show 2 * (I130 16 s.toInt.toNat).toInt = 2 * (I 16 s.toInt.toNat).toInt + n + 1 from by first | assumption | omega | rfl), (show (I 16 s.toInt.toNat).toInt ≤ x110.toInt from by first | assumption | omega), (show x110.toInt < (I130 16 s.toInt.toNat).toInt from by first | assumption | omega), (show (I 16 s.toInt.toNat).toInt ≤ x130.toInt from by first | assumption | omega), (show x130.toInt < (I130 16 s.toInt.toNat).toInt from by first | assumption | omega), (show x110.toInt ≠ x130.toInt from by first | assumption | omega), (show (I130 21 (4 * s.toInt.toNat + x110.toInt.toNat)).toInt = -1 from by first | assumption | omega | rfl), (show (I130 21 (4 * s.toInt.toNat + x130.toInt.toNat)).toInt = -1 from by first | assumption | omega | rfl)⟩
                    · intro h137
                      have h137 : (1 : Int) = 0 := h137
                      exfalso
                      omega
                  · intro h122
                    have h122 : w.toInt = 0 := h122
                    have r130_2 : 0 ≤ (I110 16 (s.toInt.toNat)).toInt ∧ (I110 16 (s.toInt.toNat)).toInt ≤ 4 := c110_0 16 (s.toInt.toNat)
                    refine And.intro ⟨(dpos_of (by omega)), c110_0, (show 0 ≤ s.toInt from by first | assumption | omega), (show s.toInt ≤ 52 from by first | assumption | omega), (show 0 ≤ t.toInt from by first | assumption | omega), (show 0 ≤ x35.toInt from by first | assumption | omega), (by first | exact ⟨n1, by omega, tz69, by omega, by omega⟩ | exact ⟨n2, by omega, tx35, by omega, by omega⟩), (show osl (I110 21) (I110 22) (I110 23) (4 * s.toInt.toNat) (I110 16 s.toInt.toNat).toInt from by first | assumption | omega)⟩ ?_
                    intro x130 I130 L130 hq130
                    have hq130 : xR I130 ∧ f_fr [16, 20, 21, 22, 23] I110 I130 ∧ f_fr [17] L110 L130 ∧ ((∀ n : Nat, tsub (dgT t) x35.toInt.toNat n → 2 * (I130 16 s.toInt.toNat).toInt = 2 * (I110 16 s.toInt.toNat).toInt + n + 1)) ∧ (I110 16 s.toInt.toNat).toInt ≤ x130.toInt ∧ x130.toInt < (I130 16 s.toInt.toNat).toInt ∧ osl (I130 21) (I130 22) (I130 23) (4 * s.toInt.toNat) (I130 16 s.toInt.toNat).toInt ∧ (I130 21 (4 * s.toInt.toNat + x130.toInt.toNat)).toInt = -1 ∧ oout s.toInt.toNat (I110 16 s.toInt.toNat).toInt.toNat I110 I130 := hq130
                    obtain ⟨c130_0, c130_1, c130_2, c130_3, c130_4, c130_5, c130_6, c130_7, c130_8⟩ := hq130
                    have hF130 := f_fr_tr hF110 c130_1 rfl
                    have hG130 := f_fr_tr hG110 c130_2 rfl
                    try have sB := c130_3 n1 tz69
                    try have sB := c130_3 n2 tx35
                    try have oA := oout_tr c110_8 c130_8 (by omega)
                    try have hA : (I130 21 (4 * s.toInt.toNat + x110.toInt.toNat)).toInt = -1 := by rw [(c130_8.2 _ (Or.inl (by omega))).1]; exact c110_7
                    apply And.intro
                    · intro h137
                      have h137 : ¬ (1 : Int) = 0 := h137
                      have r152_3 : 0 ≤ (I130 16 (s.toInt.toNat)).toInt ∧ (I130 16 (s.toInt.toNat)).toInt ≤ 4 := c130_0 16 (s.toInt.toNat)
                      have r152_4 : -1 ≤ (I130 21 (4 * s.toInt.toNat + x110.toInt.toNat)).toInt ∧ (I130 21 (4 * s.toInt.toNat + x110.toInt.toNat)).toInt ≤ 3 := c130_0 21 (4 * s.toInt.toNat + x110.toInt.toNat)
                      have r152_5 : -1 ≤ (I130 21 (4 * s.toInt.toNat + x130.toInt.toNat)).toInt ∧ (I130 21 (4 * s.toInt.toNat + x130.toInt.toNat)).toInt ≤ 3 := c130_0 21 (4 * s.toInt.toNat + x130.toInt.toNat)
                      exact ⟨x110, x130, (by intro q9 h9; simp only [List.mem_cons, List.not_mem_nil, or_false] at h9; rcases h9 with h9 | h9 | h9 | h9 | h9 | h9 | h9 <;> subst h9 <;> repeat (first | exact List.mem_cons_self | apply List.mem_cons_of_mem)), rfl, c130_0, hF130, hG130, (show oout s.toInt.toNat (I 16 s.toInt.toNat).toInt.toNat I I130 from by first | assumption | omega), (show osl (I130 21) (I130 22) (I130 23) (4 * s.toInt.toNat) (I130 16 s.toInt.toNat).toInt from by first | assumption | omega), (show 2 * (I130 16 s.toInt.toNat).toInt = 2 * (I 16 s.toInt.toNat).toInt + n + 1 from by first | assumption | omega | rfl), (show (I 16 s.toInt.toNat).toInt ≤ x110.toInt from by first | assumption | omega), (show x110.toInt < (I130 16 s.toInt.toNat).toInt from by first | assumption | omega), (show (I 16 s.toInt.toNat).toInt ≤ x130.toInt from by first | assumption | omega), (show x130.toInt < (I130 16 s.toInt.toNat).toInt from by first | assumption | omega), (show x110.toInt ≠ x130.toInt from by first | assumption | omega), (show (I130 21 (4 * s.toInt.toNat + x110.toInt.toNat)).toInt = -1 from by first | assumption | omega | rfl), (show (I130 21 (4 * s.toInt.toNat + x130.toInt.toNat)).toInt = -1 from by first | assumption | omega | rfl)⟩
                    · intro h137
                      have h137 : (1 : Int) = 0 := h137
                      exfalso
                      omega
      · intro h18
        have h18 : 7 ≤ z15.toInt := h18
        have r27_1 : 0 ≤ (I 16 (s.toInt.toNat)).toInt ∧ (I 16 (s.toInt.toNat)).toInt ≤ 4 := hR 16 (s.toInt.toNat)
        refine And.intro ⟨hR, (show 0 ≤ s.toInt from by first | assumption | omega), (show s.toInt ≤ 52 from by first | assumption | omega), (show 0 ≤ x2.toInt from by first | assumption | omega), (show x2.toInt ≤ 4 from by first | assumption | omega), (show (I 16 s.toInt.toNat).toInt ≤ 3 from by first | assumption | omega), (show osl (I 21) (I 22) (I 23) (4 * s.toInt.toNat) (I 16 s.toInt.toNat).toInt from by first | assumption | omega)⟩ ?_
        intro x27 I27 L27 hq27
        have hq27 : xR I27 ∧ f_fr [16, 20, 21, 22, 23] I I27 ∧ f_fr [17] L L27 ∧ x27.toInt = (I 16 s.toInt.toNat).toInt ∧ (I27 16 s.toInt.toNat).toInt = (I 16 s.toInt.toNat).toInt + 1 ∧ osl (I27 21) (I27 22) (I27 23) (4 * s.toInt.toNat) ((I 16 s.toInt.toNat).toInt + 1) ∧ (I27 21 (4 * s.toInt.toNat + x27.toInt.toNat)).toInt = -1 ∧ oout s.toInt.toNat (I 16 s.toInt.toNat).toInt.toNat I I27 := hq27
        obtain ⟨c27_0, c27_1, c27_2, c27_3, c27_4, c27_5, c27_6, c27_7⟩ := hq27
        have hF27 := f_fr_tr hF0 c27_1 rfl
        have hG27 := f_fr_tr hG0 c27_2 rfl
        have r30_2 : -1 ≤ (I27 21 (4 * s.toInt.toNat + x27.toInt.toNat)).toInt ∧ (I27 21 (4 * s.toInt.toNat + x27.toInt.toNat)).toInt ≤ 3 := c27_0 21 (4 * s.toInt.toNat + x27.toInt.toNat)
        exact ⟨c27_0, hF27, hG27, (fun m hm => by have := tsub_uniq hs hm; have := tsub_leaf hm (by omega); rw [c27_4]; omega), (by omega), (by omega), (by rw [c27_4]; exact c27_5), (show (I27 21 (4 * s.toInt.toNat + x27.toInt.toNat)).toInt = -1 from by first | assumption | omega | rfl), (show oout s.toInt.toNat (I 16 s.toInt.toNat).toInt.toNat I I27 from by first | assumption | omega | rfl)⟩
-- callers take X3_openPart at depth 8
