def tX9_next : List (Instr × Nat) := [(.aload_n 0, 1), (.getfield 17, 3), (.istore_n 1, 1), (.iload_n 1, 1), (.aload_n 0, 1), (.getfield 13, 3), (.if_icmp .ge 31, 3), (.aload_n 0, 1), (.getfield 9, 3), (.iload_n 1, 1), (.baload, 1), (.bipush 32, 2), (.if_icmp .eq 14, 3), (.aload_n 0, 1), (.getfield 9, 3), (.iload_n 1, 1), (.baload, 1), (.bipush 10, 2), (.if_icmp .ne 9, 3), (.iinc 1 1, 3), (.goto (-33), 3), (.aload_n 0, 1), (.iload_n 1, 1), (.putfield 23, 3), (.aload_n 0, 1), (.iload_n 1, 1), (.putfield 17, 3), (.aload_n 0, 1), (.lconst 0, 1), (.putfield 26, 3), (.aload_n 0, 1), (.getfield 17, 3), (.aload_n 0, 1), (.getfield 13, 3), (.if_icmp .ge 84, 3), (.aload_n 0, 1), (.getfield 17, 3), (.iload_n 1, 1), (.bipush 8, 2), (.iadd, 1), (.if_icmp .ge 73, 3), (.aload_n 0, 1), (.getfield 9, 3), (.aload_n 0, 1), (.getfield 17, 3), (.baload, 1), (.bipush 97, 2), (.if_icmp .lt 59, 3), (.aload_n 0, 1), (.getfield 9, 3), (.aload_n 0, 1), (.getfield 17, 3), (.baload, 1), (.bipush 122, 2), (.if_icmp .gt 45, 3), (.aload_n 0, 1), (.aload_n 0, 1), (.getfield 26, 3), (.ldc2_w 30, 3), (.lmul, 1), (.aload_n 0, 1), (.getfield 9, 3), (.aload_n 0, 1), (.getfield 17, 3), (.baload, 1), (.i2l, 1), (.ladd, 1), (.ldc2_w 32, 3), (.lsub, 1), (.lconst 1, 1), (.ladd, 1), (.putfield 26, 3), (.aload_n 0, 1), (.dup, 1), (.getfield 17, 3), (.iconst 1, 1), (.iadd, 1), (.putfield 17, 3), (.goto (-89), 3), (.aload_n 0, 1), (.getfield 17, 3), (.iload_n 1, 1), (.if_icmp .le 11, 3), (.aload_n 0, 1), (.iconst 1, 1), (.putfield 34, 3), (.goto 62, 3), (.iload_n 1, 1), (.aload_n 0, 1), (.getfield 13, 3), (.if_icmp .lt 11, 3), (.aload_n 0, 1), (.iconst 0, 1), (.putfield 34, 3), (.goto 46, 3), (.aload_n 0, 1), (.ldc 37, 2), (.aload_n 0, 1), (.getfield 9, 3), (.iload_n 1, 1), (.baload, 1), (.sipush 255, 3), (.iand, 1), (.i2c, 1), (.invokevirtual 39, 3), (.ifCond .lt 12, 3), (.aload_n 0, 1), (.getfield 9, 3), (.iload_n 1, 1), (.baload, 1), (.goto 4, 3), (.iconst 2, 1), (.putfield 34, 3), (.aload_n 0, 1), (.dup, 1), (.getfield 17, 3), (.iconst 1, 1), (.iadd, 1), (.putfield 17, 3), (.return_, 1)]
theorem tX9_next_ok : f_chk cX9_next 0 tX9_next = true := by decide +kernel
def pX9_next (av : List Value) (I : fM) (L : fN) : Prop := match av with
  | [.ref 1] => xR I
  | _ => False
def qX9_next (av : List Value) (I : fM) (L : fN) (r : Value) (I' : fM) (L' : fN) : Prop := match av, r with
  | [.ref 1], .null => xR I' ∧ f_fr [1] I I' ∧ f_fr [1] L L'
  | _, _ => False
set_option maxHeartbeats 4000000 in
set_option maxRecDepth 100000 in
theorem mX9_next {l : Launch} {a : Nat → Nat} {cy dC : Nat → ClassId} {dI : Nat → Nat → Nat} (hinj : ∀ i j, i < 80 → j < 80 → a i = a j → i = j) : f_Met (xE a) l xY 80 a cy dC dI yX9_next cX9_next 2 0 5 pX9_next qX9_next := by
  refine f_met_of (xE_c a) hinj xY_hi (by decide) (fun av I L h => by unfold pX9_next at h; split at h <;> first | exact Nat.le_of_ble_eq_true rfl | exact h.elim) ?_
  intro pP eP sP mP aP bP hP9 cP C av I L hp
  unfold pX9_next at hp
  split at hp
  case h_2 => exact hp.elim
  case h_1 =>
    have hR := hp
    -- sn 37
    have hF0 : f_fr [1] I I := f_fr_rf
    have hG0 : f_fr [1] L L := f_fr_rf
    have lp148 : ∀ (f : Int32) (J148 : fM) (M148 : fN), xR J148 ∧ f_fr [1] I J148 ∧ f_fr [1] L M148 ∧ (0 ≤ f.toInt) ∧ (f.toInt ≤ 1600) ∧ (f.toInt ≤ (J148 1 5).toInt) ∧ ((J148 1 5).toInt ≤ 1600) → f_W pP l eP (f_rm 5) sP mP aP bP hP9 cP xY 80 a cy dC dI 2 (f_K 0 (qX9_next [.ref 1] I L)) 148 [(1, .int f), (0, .ref 1)] [] J148 M148 := by
      intro f J148 M148 h9
      obtain ⟨hR148c, hF148c, hG148c, u148_1, u148_2, u148_3, u148_4⟩ := h9
      refine f_wp_ok C f_cl flX9_ok fiX9_ok fjX9_ok (sn := (some 37)) (fun j h => by cases h; exact ⟨_, C.2.2.2.2.2.2.2.2.2.2.1.2.1⟩) (cs := (f_cnl [(39, (2, 1, 99, pJ0_indexOf_0f7a4, qJ0_indexOf_0f7a4))])) (cz := (fun _ => none)) (f_cnl_of (P := fun j S => f_cok pP l eP (f_rm 5) sP mP aP bP hP9 cP xY 80 a cy dC dI 2 _ _ (.invokevirtual j) true S) (List.forall_mem_cons.mpr ⟨f_cokX C rfl (mJ0_indexOf_0f7a4 hinj) (fun av I L h => by unfold pJ0_indexOf_0f7a4 at h; split at h <;> first | exact ⟨_, rfl⟩ | exact h.elim) (List.forall_mem_cons.mpr ⟨(mlX9_ok _ (List.mem_of_getElem? (i := 1) rfl)), kc_J0_indexOf_0f7a4⟩) (by decide +kernel) ⟨Nat.le_of_ble_eq_true rfl, Nat.le_of_ble_eq_true rfl⟩, fun _ h => absurd h List.not_mem_nil⟩)) (fun j S h => by cases h) tX9_next_ok (cut := (fun _ => none)) (fun t P h => by cases h) 35 148 (f_seek 148 0 tX9_next) (f_seek_ok 148 0 tX9_next tX9_next_ok) _ _ _ _ ?_
      have r149_1 : 0 ≤ (J148 1 5).toInt ∧ (J148 1 5).toInt ≤ 1600 := hR148c 1 5
      apply And.intro
      · intro h153
        have h153 : (J148 1 5).toInt ≤ f.toInt := h153
        have r166_2 : 0 ≤ (J148 1 1).toInt ∧ (J148 1 1).toInt ≤ 1600 := hR148c 1 1
        apply And.intro
        · intro h169
          have h169 : f.toInt < (J148 1 1).toInt := h169
          refine And.intro (show f_in f 1600 from ⟨show 0 ≤ f.toInt from by omega, show f.toInt < 1600 from by omega⟩) ?_
          have e188_4 : (J148 2 (f.toInt.toNat)).toInt = (I 2 (f.toInt.toNat)).toInt := congrArg Int32.toInt (congrFun (hF148c 2 rfl) (f.toInt.toNat))
          have b192 : 0 ≤ ((J148 2 (f.toInt.toNat)) &&& (Int32.ofInt 255)).toInt ∧ ((J148 2 (f.toInt.toNat)) &&& (Int32.ofInt 255)).toInt ≤ 255 := f_andc (J148 2 (f.toInt.toNat)) 8 (by decide) (by decide)
          refine And.intro trivial ?_
          intro x194 I194 L194 hq194
          have hq194 : I194 = J148 ∧ L194 = M148 := hq194
          obtain ⟨eI194, eL194⟩ := hq194
          replace eI194 := eI194.symm
          subst eI194
          replace eL194 := eL194.symm
          subst eL194
          apply And.intro
          · intro h197
            have h197 : x194.toInt < 0 := h197
            have hR210 := xR_f (k := 1) (j := 2) (x := Int32.ofInt 2) hR148c (by exact f_rng _)
            have hF210 := f_fr_up (k := 1) (r := va_up (J148 1) 2 (Int32.ofInt 2)) hF148c rfl
            intro z219 q219 _ hq219 hl219 hu219
            have hq219 : z219.toInt = (J148 1 5).toInt + 1 + 4294967296 * q219 := hq219
            try have hz219 : z219.toInt = (J148 1 5).toInt + 1 := by omega
            have hR220 := xR_f (k := 1) (j := 5) (x := z219) hR210 (show 0 ≤ z219.toInt ∧ z219.toInt ≤ 1600 from ⟨by omega, by omega⟩)
            have hF220 := f_fr_up (k := 1) (r := va_up (va_up (J148 1) 2 (Int32.ofInt 2)) 5 z219) hF210 rfl
            exact ⟨hR220, hF220, hG148c⟩
          · intro h197
            have h197 : 0 ≤ x194.toInt := h197
            refine And.intro (show f_in f 1600 from ⟨show 0 ≤ f.toInt from by omega, show f.toInt < 1600 from by omega⟩) ?_
            have hR210 := xR_f (k := 1) (j := 2) (x := J148 2 (f.toInt.toNat)) hR148c (by exact f_rng _)
            have hF210 := f_fr_up (k := 1) (r := va_up (J148 1) 2 (J148 2 (f.toInt.toNat))) hF148c rfl
            intro z219 q219 _ hq219 hl219 hu219
            have hq219 : z219.toInt = (J148 1 5).toInt + 1 + 4294967296 * q219 := hq219
            try have hz219 : z219.toInt = (J148 1 5).toInt + 1 := by omega
            have hR220 := xR_f (k := 1) (j := 5) (x := z219) hR210 (show 0 ≤ z219.toInt ∧ z219.toInt ≤ 1600 from ⟨by omega, by omega⟩)
            have hF220 := f_fr_up (k := 1) (r := va_up (va_up (J148 1) 2 (J148 2 (f.toInt.toNat))) 5 z219) hF210 rfl
            exact ⟨hR220, hF220, hG148c⟩
        · intro h169
          have h169 : (J148 1 1).toInt ≤ f.toInt := h169
          have hR174 := xR_f (k := 1) (j := 2) (x := Int32.ofInt 0) hR148c (by exact f_rng _)
          have hF174 := f_fr_up (k := 1) (r := va_up (J148 1) 2 (Int32.ofInt 0)) hF148c rfl
          exact ⟨hR174, hF174, hG148c⟩
      · intro h153
        have h153 : f.toInt < (J148 1 5).toInt := h153
        have hR158 := xR_f (k := 1) (j := 2) (x := Int32.ofInt 1) hR148c (by exact f_rng _)
        have hF158 := f_fr_up (k := 1) (r := va_up (J148 1) 2 (Int32.ofInt 1)) hF148c rfl
        exact ⟨hR158, hF158, hG148c⟩
    have lp56 : ∀ (n56 : Nat), ∀ (f : Int32) (J56 : fM) (M56 : fN), xR J56 ∧ f_fr [1] I J56 ∧ f_fr [1] L M56 ∧ (0 ≤ f.toInt) ∧ (f.toInt ≤ 1600) ∧ (f.toInt ≤ (J56 1 5).toInt) ∧ ((J56 1 5).toInt ≤ 1600) ∧ (1600 - (J56 1 5).toInt) < n56 → f_W pP l eP (f_rm 5) sP mP aP bP hP9 cP xY 80 a cy dC dI 2 (f_K 0 (qX9_next [.ref 1] I L)) 56 [(1, .int f), (0, .ref 1)] [] J56 M56 := by
      intro n56
      induction n56 with
      | zero =>
        intro f J56 M56 h9
        obtain ⟨hR56c, hF56c, hG56c, u56_1, u56_2, u56_3, u56_4, hm56⟩ := h9
        omega
      | succ n56 ih56 =>
        intro f J56 M56 h9
        obtain ⟨hR56c, hF56c, hG56c, u56_1, u56_2, u56_3, u56_4, hm56⟩ := h9
        refine f_wp_ok C f_cl flX9_ok fiX9_ok fjX9_ok (sn := (some 37)) (fun j h => by cases h; exact ⟨_, C.2.2.2.2.2.2.2.2.2.2.1.2.1⟩) (cs := (f_cnl [(39, (2, 1, 99, pJ0_indexOf_0f7a4, qJ0_indexOf_0f7a4))])) (cz := (fun _ => none)) (f_cnl_of (P := fun j S => f_cok pP l eP (f_rm 5) sP mP aP bP hP9 cP xY 80 a cy dC dI 2 _ _ (.invokevirtual j) true S) (List.forall_mem_cons.mpr ⟨f_cokX C rfl (mJ0_indexOf_0f7a4 hinj) (fun av I L h => by unfold pJ0_indexOf_0f7a4 at h; split at h <;> first | exact ⟨_, rfl⟩ | exact h.elim) (List.forall_mem_cons.mpr ⟨(mlX9_ok _ (List.mem_of_getElem? (i := 1) rfl)), kc_J0_indexOf_0f7a4⟩) (by decide +kernel) ⟨Nat.le_of_ble_eq_true rfl, Nat.le_of_ble_eq_true rfl⟩, fun _ h => absurd h List.not_mem_nil⟩)) (fun j S h => by cases h) tX9_next_ok (cut := (f_cnl [(56, (fun (ls' : fLs) (st' : List Value) (I' : fM) (L' : fN) => ∃ f : Int32, (∀ q ∈ ([(1, .int f), (0, .ref 1)] : fLs), q ∈ ls') ∧ st' = [] ∧ (xR I' ∧ f_fr [1] I I' ∧ f_fr [1] L L' ∧ (0 ≤ f.toInt) ∧ (f.toInt ≤ 1600) ∧ (f.toInt ≤ (I' 1 5).toInt) ∧ ((I' 1 5).toInt ≤ 1600) ∧ (1600 - (I' 1 5).toInt) < n56))), (148, (fun (ls' : fLs) (st' : List Value) (I' : fM) (L' : fN) => ∃ f : Int32, (∀ q ∈ ([(1, .int f), (0, .ref 1)] : fLs), q ∈ ls') ∧ st' = [] ∧ (xR I' ∧ f_fr [1] I I' ∧ f_fr [1] L L' ∧ (0 ≤ f.toInt) ∧ (f.toInt ≤ 1600) ∧ (f.toInt ≤ (I' 1 5).toInt) ∧ ((I' 1 5).toInt ≤ 1600))))])) (f_cnl_of (P := fun (tQ : Nat) (P : fLs → List Value → fM → fN → Prop) => ∀ ls' st' I' L', P ls' st' I' L' → f_W pP l eP (f_rm 5) sP mP aP bP hP9 cP xY 80 a cy dC dI 2 (f_K 0 (qX9_next [.ref 1] I L)) tQ ls' st' I' L') (List.forall_mem_cons.mpr ⟨(fun ls' st' I' L' h => by obtain ⟨f, hs, e1, h9⟩ := h; rw [e1]; exact f_W_sub hs (ih56 f I' L' h9)), List.forall_mem_cons.mpr ⟨(fun ls' st' I' L' h => by obtain ⟨f, hs, e1, h9⟩ := h; rw [e1]; exact f_W_sub hs (lp148 f I' L' h9)), fun _ h => absurd h List.not_mem_nil⟩⟩)) 52 56 (f_seek 56 0 tX9_next) (f_seek_ok 56 0 tX9_next tX9_next_ok) _ _ _ _ ?_
        have r57_1 : 0 ≤ (J56 1 5).toInt ∧ (J56 1 5).toInt ≤ 1600 := hR56c 1 5
        have r61_2 : 0 ≤ (J56 1 1).toInt ∧ (J56 1 1).toInt ≤ 1600 := hR56c 1 1
        apply And.intro
        · intro h64
          have h64 : (J56 1 1).toInt ≤ (J56 1 5).toInt := h64
          exact ⟨f, (by intro q9 h9; simp only [List.mem_cons, List.not_mem_nil, or_false] at h9; rcases h9 with h9 | h9 <;> subst h9 <;> repeat (first | exact List.mem_cons_self | apply List.mem_cons_of_mem)), rfl, hR56c, hF56c, hG56c, (show 0 ≤ f.toInt from by first | assumption | omega), (show f.toInt ≤ 1600 from by first | assumption | omega), (show f.toInt ≤ (J56 1 5).toInt from by first | assumption | omega), (show (J56 1 5).toInt ≤ 1600 from by first | assumption | omega)⟩
        · intro h64
          have h64 : (J56 1 5).toInt < (J56 1 1).toInt := h64
          intro z74 q74 _ hq74 hl74 hu74
          have hq74 : z74.toInt = f.toInt + 8 + 4294967296 * q74 := hq74
          try have hz74 : z74.toInt = f.toInt + 8 := by omega
          apply And.intro
          · intro h75
            have h75 : z74.toInt ≤ (J56 1 5).toInt := h75
            exact ⟨f, (by intro q9 h9; simp only [List.mem_cons, List.not_mem_nil, or_false] at h9; rcases h9 with h9 | h9 <;> subst h9 <;> repeat (first | exact List.mem_cons_self | apply List.mem_cons_of_mem)), rfl, hR56c, hF56c, hG56c, (show 0 ≤ f.toInt from by first | assumption | omega), (show f.toInt ≤ 1600 from by first | assumption | omega), (show f.toInt ≤ (J56 1 5).toInt from by first | assumption | omega), (show (J56 1 5).toInt ≤ 1600 from by first | assumption | omega)⟩
          · intro h75
            have h75 : (J56 1 5).toInt < z74.toInt := h75
            refine And.intro (show f_in (J56 1 5) 1600 from ⟨show 0 ≤ (J56 1 5).toInt from by omega, show (J56 1 5).toInt < 1600 from by omega⟩) ?_
            have e86_4 : (J56 2 ((J56 1 5).toInt.toNat)).toInt = (I 2 ((J56 1 5).toInt.toNat)).toInt := congrArg Int32.toInt (congrFun (hF56c 2 rfl) ((J56 1 5).toInt.toNat))
            apply And.intro
            · intro h89
              have h89 : (J56 2 ((J56 1 5).toInt.toNat)).toInt < 97 := h89
              exact ⟨f, (by intro q9 h9; simp only [List.mem_cons, List.not_mem_nil, or_false] at h9; rcases h9 with h9 | h9 <;> subst h9 <;> repeat (first | exact List.mem_cons_self | apply List.mem_cons_of_mem)), rfl, hR56c, hF56c, hG56c, (show 0 ≤ f.toInt from by first | assumption | omega), (show f.toInt ≤ 1600 from by first | assumption | omega), (show f.toInt ≤ (J56 1 5).toInt from by first | assumption | omega), (show (J56 1 5).toInt ≤ 1600 from by first | assumption | omega)⟩
            · intro h89
              have h89 : 97 ≤ (J56 2 ((J56 1 5).toInt.toNat)).toInt := h89
              refine And.intro (show f_in (J56 1 5) 1600 from ⟨show 0 ≤ (J56 1 5).toInt from by omega, show (J56 1 5).toInt < 1600 from by omega⟩) ?_
              apply And.intro
              · intro h103
                have h103 : 122 < (J56 2 ((J56 1 5).toInt.toNat)).toInt := h103
                exact ⟨f, (by intro q9 h9; simp only [List.mem_cons, List.not_mem_nil, or_false] at h9; rcases h9 with h9 | h9 <;> subst h9 <;> repeat (first | exact List.mem_cons_self | apply List.mem_cons_of_mem)), rfl, hR56c, hF56c, hG56c, (show 0 ≤ f.toInt from by first | assumption | omega), (show f.toInt ≤ 1600 from by first | assumption | omega), (show f.toInt ≤ (J56 1 5).toInt from by first | assumption | omega), (show (J56 1 5).toInt ≤ 1600 from by first | assumption | omega)⟩
              · intro h103
                have h103 : (J56 2 ((J56 1 5).toInt.toNat)).toInt ≤ 122 := h103
                refine And.intro (show f_in (J56 1 5) 1600 from ⟨show 0 ≤ (J56 1 5).toInt from by omega, show (J56 1 5).toInt < 1600 from by omega⟩) ?_
                have hG132 := f_fr_up (k := 1) (r := va_up (M56 1) 4 (((((M56 1 4) * (32 : Int64)) + ((J56 2 ((J56 1 5).toInt.toNat)).toInt64)) - (97 : Int64)) + (Int64.ofNat 1))) hG56c rfl
                intro z141 q141 _ hq141 hl141 hu141
                have hq141 : z141.toInt = (J56 1 5).toInt + 1 + 4294967296 * q141 := hq141
                try have hz141 : z141.toInt = (J56 1 5).toInt + 1 := by omega
                have hR142 := xR_f (k := 1) (j := 5) (x := z141) hR56c (show 0 ≤ z141.toInt ∧ z141.toInt ≤ 1600 from ⟨by omega, by omega⟩)
                have hF142 := f_fr_up (k := 1) (r := va_up (J56 1) 5 z141) hF56c rfl
                exact ⟨f, (by intro q9 h9; simp only [List.mem_cons, List.not_mem_nil, or_false] at h9; rcases h9 with h9 | h9 <;> subst h9 <;> repeat (first | exact List.mem_cons_self | apply List.mem_cons_of_mem)), rfl, hR142, hF142, hG132, (show 0 ≤ f.toInt from by first | assumption | omega), (show f.toInt ≤ 1600 from by first | assumption | omega), (show f.toInt ≤ z141.toInt from by first | assumption | omega), (show z141.toInt ≤ 1600 from by first | assumption | omega), (show (1600 - z141.toInt) < n56 from by omega)⟩
    have lp41 : ∀ (f : Int32), (0 ≤ f.toInt) ∧ (f.toInt ≤ 1600) → f_W pP l eP (f_rm 5) sP mP aP bP hP9 cP xY 80 a cy dC dI 2 (f_K 0 (qX9_next [.ref 1] I L)) 41 [(1, .int f), (0, .ref 1)] [] I L := by
      intro f h9
      obtain ⟨u41_1, u41_2⟩ := h9
      refine f_wp_ok C f_cl flX9_ok fiX9_ok fjX9_ok (sn := (some 37)) (fun j h => by cases h; exact ⟨_, C.2.2.2.2.2.2.2.2.2.2.1.2.1⟩) (cs := (f_cnl [(39, (2, 1, 99, pJ0_indexOf_0f7a4, qJ0_indexOf_0f7a4))])) (cz := (fun _ => none)) (f_cnl_of (P := fun j S => f_cok pP l eP (f_rm 5) sP mP aP bP hP9 cP xY 80 a cy dC dI 2 _ _ (.invokevirtual j) true S) (List.forall_mem_cons.mpr ⟨f_cokX C rfl (mJ0_indexOf_0f7a4 hinj) (fun av I L h => by unfold pJ0_indexOf_0f7a4 at h; split at h <;> first | exact ⟨_, rfl⟩ | exact h.elim) (List.forall_mem_cons.mpr ⟨(mlX9_ok _ (List.mem_of_getElem? (i := 1) rfl)), kc_J0_indexOf_0f7a4⟩) (by decide +kernel) ⟨Nat.le_of_ble_eq_true rfl, Nat.le_of_ble_eq_true rfl⟩, fun _ h => absurd h List.not_mem_nil⟩)) (fun j S h => by cases h) tX9_next_ok (cut := (f_cnl [(56, (fun (ls' : fLs) (st' : List Value) (I' : fM) (L' : fN) => ∃ f : Int32, (∀ q ∈ ([(1, .int f), (0, .ref 1)] : fLs), q ∈ ls') ∧ st' = [] ∧ (xR I' ∧ f_fr [1] I I' ∧ f_fr [1] L L' ∧ (0 ≤ f.toInt) ∧ (f.toInt ≤ 1600) ∧ (f.toInt ≤ (I' 1 5).toInt) ∧ ((I' 1 5).toInt ≤ 1600) ∧ (1600 - (I' 1 5).toInt) < 1601)))])) (f_cnl_of (P := fun (tQ : Nat) (P : fLs → List Value → fM → fN → Prop) => ∀ ls' st' I' L', P ls' st' I' L' → f_W pP l eP (f_rm 5) sP mP aP bP hP9 cP xY 80 a cy dC dI 2 (f_K 0 (qX9_next [.ref 1] I L)) tQ ls' st' I' L') (List.forall_mem_cons.mpr ⟨(fun ls' st' I' L' h => by obtain ⟨f, hs, e1, h9⟩ := h; rw [e1]; exact f_W_sub hs (lp56 1601 f I' L' h9)), fun _ h => absurd h List.not_mem_nil⟩)) 12 41 (f_seek 41 0 tX9_next) (f_seek_ok 41 0 tX9_next tX9_next_ok) _ _ _ _ ?_
      have hR43 := xR_f (k := 1) (j := 3) (x := f) hR (show 0 ≤ f.toInt ∧ f.toInt ≤ 1600 from ⟨by omega, by omega⟩)
      have hF43 := f_fr_up (k := 1) (r := va_up (I 1) 3 f) hF0 rfl
      have hR48 := xR_f (k := 1) (j := 5) (x := f) hR43 (show 0 ≤ f.toInt ∧ f.toInt ≤ 1600 from ⟨by omega, by omega⟩)
      have hF48 := f_fr_up (k := 1) (r := va_up (va_up (I 1) 3 f) 5 f) hF43 rfl
      have hG53 := f_fr_up (k := 1) (r := va_up (L 1) 4 (Int64.ofNat 0)) hG0 rfl
      exact ⟨f, (by intro q9 h9; simp only [List.mem_cons, List.not_mem_nil, or_false] at h9; rcases h9 with h9 | h9 <;> subst h9 <;> repeat (first | exact List.mem_cons_self | apply List.mem_cons_of_mem)), rfl, hR48, hF48, hG53, (show 0 ≤ f.toInt from by first | assumption | omega), (show f.toInt ≤ 1600 from by first | assumption | omega), (show f.toInt ≤ f.toInt from by first | assumption | omega), (show f.toInt ≤ 1600 from by first | assumption | omega), (show (1600 - f.toInt) < 1601 from by omega)⟩
    have lp5 : ∀ (n5 : Nat), ∀ (f : Int32), (0 ≤ f.toInt) ∧ (f.toInt ≤ 1600) ∧ (1600 - f.toInt) < n5 → f_W pP l eP (f_rm 5) sP mP aP bP hP9 cP xY 80 a cy dC dI 2 (f_K 0 (qX9_next [.ref 1] I L)) 5 [(1, .int f), (0, .ref 1)] [] I L := by
      intro n5
      induction n5 with
      | zero =>
        intro f h9
        obtain ⟨u5_1, u5_2, hm5⟩ := h9
        omega
      | succ n5 ih5 =>
        intro f h9
        obtain ⟨u5_1, u5_2, hm5⟩ := h9
        refine f_wp_ok C f_cl flX9_ok fiX9_ok fjX9_ok (sn := (some 37)) (fun j h => by cases h; exact ⟨_, C.2.2.2.2.2.2.2.2.2.2.1.2.1⟩) (cs := (f_cnl [(39, (2, 1, 99, pJ0_indexOf_0f7a4, qJ0_indexOf_0f7a4))])) (cz := (fun _ => none)) (f_cnl_of (P := fun j S => f_cok pP l eP (f_rm 5) sP mP aP bP hP9 cP xY 80 a cy dC dI 2 _ _ (.invokevirtual j) true S) (List.forall_mem_cons.mpr ⟨f_cokX C rfl (mJ0_indexOf_0f7a4 hinj) (fun av I L h => by unfold pJ0_indexOf_0f7a4 at h; split at h <;> first | exact ⟨_, rfl⟩ | exact h.elim) (List.forall_mem_cons.mpr ⟨(mlX9_ok _ (List.mem_of_getElem? (i := 1) rfl)), kc_J0_indexOf_0f7a4⟩) (by decide +kernel) ⟨Nat.le_of_ble_eq_true rfl, Nat.le_of_ble_eq_true rfl⟩, fun _ h => absurd h List.not_mem_nil⟩)) (fun j S h => by cases h) tX9_next_ok (cut := (f_cnl [(5, (fun (ls' : fLs) (st' : List Value) (I' : fM) (L' : fN) => ∃ f : Int32, (∀ q ∈ ([(1, .int f), (0, .ref 1)] : fLs), q ∈ ls') ∧ st' = [] ∧ I' = I ∧ L' = L ∧ ((0 ≤ f.toInt) ∧ (f.toInt ≤ 1600) ∧ (1600 - f.toInt) < n5))), (41, (fun (ls' : fLs) (st' : List Value) (I' : fM) (L' : fN) => ∃ f : Int32, (∀ q ∈ ([(1, .int f), (0, .ref 1)] : fLs), q ∈ ls') ∧ st' = [] ∧ I' = I ∧ L' = L ∧ ((0 ≤ f.toInt) ∧ (f.toInt ≤ 1600))))])) (f_cnl_of (P := fun (tQ : Nat) (P : fLs → List Value → fM → fN → Prop) => ∀ ls' st' I' L', P ls' st' I' L' → f_W pP l eP (f_rm 5) sP mP aP bP hP9 cP xY 80 a cy dC dI 2 (f_K 0 (qX9_next [.ref 1] I L)) tQ ls' st' I' L') (List.forall_mem_cons.mpr ⟨(fun ls' st' I' L' h => by obtain ⟨f, hs, e1, e2, e3, h9⟩ := h; rw [e1, e2, e3]; exact f_W_sub hs (ih5 f h9)), List.forall_mem_cons.mpr ⟨(fun ls' st' I' L' h => by obtain ⟨f, hs, e1, e2, e3, h9⟩ := h; rw [e1, e2, e3]; exact f_W_sub hs (lp41 f h9)), fun _ h => absurd h List.not_mem_nil⟩⟩)) 21 5 (f_seek 5 0 tX9_next) (f_seek_ok 5 0 tX9_next tX9_next_ok) _ _ _ _ ?_
        have r7_1 : 0 ≤ (I 1 1).toInt ∧ (I 1 1).toInt ≤ 1600 := hR 1 1
        apply And.intro
        · intro h10
          have h10 : (I 1 1).toInt ≤ f.toInt := h10
          exact ⟨f, (by intro q9 h9; simp only [List.mem_cons, List.not_mem_nil, or_false] at h9; rcases h9 with h9 | h9 <;> subst h9 <;> repeat (first | exact List.mem_cons_self | apply List.mem_cons_of_mem)), rfl, rfl, rfl, (show 0 ≤ f.toInt from by first | assumption | omega), (show f.toInt ≤ 1600 from by first | assumption | omega)⟩
        · intro h10
          have h10 : f.toInt < (I 1 1).toInt := h10
          refine And.intro (show f_in f 1600 from ⟨show 0 ≤ f.toInt from by omega, show f.toInt < 1600 from by omega⟩) ?_
          apply And.intro
          · intro h21
            have h21 : (I 2 (f.toInt.toNat)).toInt = 32 := h21
            intro z35 q35 _ hq35 hl35 hu35
            have hq35 : z35.toInt = f.toInt + 1 + 4294967296 * q35 := hq35
            try have hz35 : z35.toInt = f.toInt + 1 := by omega
            exact ⟨z35, (by intro q9 h9; simp only [List.mem_cons, List.not_mem_nil, or_false] at h9; rcases h9 with h9 | h9 <;> subst h9 <;> repeat (first | exact List.mem_cons_self | apply List.mem_cons_of_mem)), rfl, rfl, rfl, (show 0 ≤ z35.toInt from by first | assumption | omega), (show z35.toInt ≤ 1600 from by first | assumption | omega), (show (1600 - z35.toInt) < n5 from by omega)⟩
          · intro h21
            have h21 : ¬ (I 2 (f.toInt.toNat)).toInt = 32 := h21
            refine And.intro (show f_in f 1600 from ⟨show 0 ≤ f.toInt from by omega, show f.toInt < 1600 from by omega⟩) ?_
            apply And.intro
            · intro h32
              have h32 : ¬ (I 2 (f.toInt.toNat)).toInt = 10 := h32
              exact ⟨f, (by intro q9 h9; simp only [List.mem_cons, List.not_mem_nil, or_false] at h9; rcases h9 with h9 | h9 <;> subst h9 <;> repeat (first | exact List.mem_cons_self | apply List.mem_cons_of_mem)), rfl, rfl, rfl, (show 0 ≤ f.toInt from by first | assumption | omega), (show f.toInt ≤ 1600 from by first | assumption | omega)⟩
            · intro h32
              have h32 : (I 2 (f.toInt.toNat)).toInt = 10 := h32
              intro z35 q35 _ hq35 hl35 hu35
              have hq35 : z35.toInt = f.toInt + 1 + 4294967296 * q35 := hq35
              try have hz35 : z35.toInt = f.toInt + 1 := by omega
              exact ⟨z35, (by intro q9 h9; simp only [List.mem_cons, List.not_mem_nil, or_false] at h9; rcases h9 with h9 | h9 <;> subst h9 <;> repeat (first | exact List.mem_cons_self | apply List.mem_cons_of_mem)), rfl, rfl, rfl, (show 0 ≤ z35.toInt from by first | assumption | omega), (show z35.toInt ≤ 1600 from by first | assumption | omega), (show (1600 - z35.toInt) < n5 from by omega)⟩
    refine f_wp_ok C f_cl flX9_ok fiX9_ok fjX9_ok (sn := (some 37)) (fun j h => by cases h; exact ⟨_, C.2.2.2.2.2.2.2.2.2.2.1.2.1⟩) (cs := (f_cnl [(39, (2, 1, 99, pJ0_indexOf_0f7a4, qJ0_indexOf_0f7a4))])) (cz := (fun _ => none)) (f_cnl_of (P := fun j S => f_cok pP l eP (f_rm 5) sP mP aP bP hP9 cP xY 80 a cy dC dI 2 _ _ (.invokevirtual j) true S) (List.forall_mem_cons.mpr ⟨f_cokX C rfl (mJ0_indexOf_0f7a4 hinj) (fun av I L h => by unfold pJ0_indexOf_0f7a4 at h; split at h <;> first | exact ⟨_, rfl⟩ | exact h.elim) (List.forall_mem_cons.mpr ⟨(mlX9_ok _ (List.mem_of_getElem? (i := 1) rfl)), kc_J0_indexOf_0f7a4⟩) (by decide +kernel) ⟨Nat.le_of_ble_eq_true rfl, Nat.le_of_ble_eq_true rfl⟩, fun _ h => absurd h List.not_mem_nil⟩)) (fun j S h => by cases h) tX9_next_ok (cut := (f_cnl [(5, (fun (ls' : fLs) (st' : List Value) (I' : fM) (L' : fN) => ∃ f : Int32, (∀ q ∈ ([(1, .int f), (0, .ref 1)] : fLs), q ∈ ls') ∧ st' = [] ∧ I' = I ∧ L' = L ∧ ((0 ≤ f.toInt) ∧ (f.toInt ≤ 1600) ∧ (1600 - f.toInt) < 1601)))])) (f_cnl_of (P := fun (tQ : Nat) (P : fLs → List Value → fM → fN → Prop) => ∀ ls' st' I' L', P ls' st' I' L' → f_W pP l eP (f_rm 5) sP mP aP bP hP9 cP xY 80 a cy dC dI 2 (f_K 0 (qX9_next [.ref 1] I L)) tQ ls' st' I' L') (List.forall_mem_cons.mpr ⟨(fun ls' st' I' L' h => by obtain ⟨f, hs, e1, e2, e3, h9⟩ := h; rw [e1, e2, e3]; exact f_W_sub hs (lp5 1601 f h9)), fun _ h => absurd h List.not_mem_nil⟩)) 6 0 tX9_next tX9_next_ok _ _ _ _ ?_
    have r1_1 : 0 ≤ (I 1 5).toInt ∧ (I 1 5).toInt ≤ 1600 := hR 1 5
    exact ⟨I 1 5, (by intro q9 h9; simp only [List.mem_cons, List.not_mem_nil, or_false] at h9; rcases h9 with h9 | h9 <;> subst h9 <;> repeat (first | exact List.mem_cons_self | apply List.mem_cons_of_mem)), rfl, rfl, rfl, (show 0 ≤ (I 1 5).toInt from by first | assumption | omega), (show (I 1 5).toInt ≤ 1600 from by first | assumption | omega), (show (1600 - (I 1 5).toInt) < 1601 from by omega)⟩
def tX9_rewind : List (Instr × Nat) := [(.aload_n 0, 1), (.iconst 0, 1), (.putfield 17, 3), (.aload_n 0, 1), (.invokevirtual 20, 3), (.return_, 1)]
theorem tX9_rewind_ok : f_chk cX9_rewind 0 tX9_rewind = true := by decide +kernel
def pX9_rewind (av : List Value) (I : fM) (L : fN) : Prop := match av with
  | [.ref 1] => xR I
  | _ => False
def qX9_rewind (av : List Value) (I : fM) (L : fN) (r : Value) (I' : fM) (L' : fN) : Prop := match av, r with
  | [.ref 1], .null => xR I' ∧ f_fr [1] I I' ∧ f_fr [1] L L'
  | _, _ => False
set_option maxHeartbeats 4000000 in
set_option maxRecDepth 100000 in
theorem mX9_rewind {l : Launch} {a : Nat → Nat} {cy dC : Nat → ClassId} {dI : Nat → Nat → Nat} (hinj : ∀ i j, i < 80 → j < 80 → a i = a j → i = j) : f_Met (xE a) l xY 80 a cy dC dI yX9_rewind cX9_rewind 1 0 6 pX9_rewind qX9_rewind := by
  refine f_met_of (xE_c a) hinj xY_hi (by decide) (fun av I L h => by unfold pX9_rewind at h; split at h <;> first | exact Nat.le_of_ble_eq_true rfl | exact h.elim) ?_
  intro pP eP sP mP aP bP hP9 cP C av I L hp
  unfold pX9_rewind at hp
  split at hp
  case h_2 => exact hp.elim
  case h_1 =>
    have hR := hp
    have hF0 : f_fr [1] I I := f_fr_rf
    have hG0 : f_fr [1] L L := f_fr_rf
    refine f_wp_ok C f_cl flX9_ok fiX9_ok fjX9_ok (sn := none) (fun j h => by cases h) (cs := (f_cnl [(20, (1, 0, 8, pX9_next, qX9_next))])) (cz := (fun _ => none)) (f_cnl_of (P := fun j S => f_cok pP l eP (f_rm 6) sP mP aP bP hP9 cP xY 80 a cy dC dI 1 _ _ (.invokevirtual j) true S) (List.forall_mem_cons.mpr ⟨f_cokV C (mX9_next hinj) (ci := 8) rfl (List.forall_mem_cons.mpr ⟨(mlX9_ok _ (List.mem_of_getElem? (i := 0) rfl)), kc_X9_next⟩) (by decide +kernel) ⟨Nat.le_of_ble_eq_true rfl, Nat.le_of_ble_eq_true rfl⟩, fun _ h => absurd h List.not_mem_nil⟩)) (fun j S h => by cases h) tX9_rewind_ok (cut := (fun _ => none)) (fun t P h => by cases h) 9 0 tX9_rewind tX9_rewind_ok _ _ _ _ ?_
    have hR2 := xR_f (k := 1) (j := 5) (x := Int32.ofInt 0) hR (show 0 ≤ 0 ∧ 0 ≤ 1600 from ⟨by omega, by omega⟩)
    have hF2 := f_fr_up (k := 1) (r := va_up (I 1) 5 (Int32.ofInt 0)) hF0 rfl
    refine And.intro hR2 ?_
    intro I6 L6 hq6
    have hq6 : xR I6 ∧ f_fr [1] (va_up I 1 (va_up (I 1) 5 (Int32.ofInt 0))) I6 ∧ f_fr [1] L L6 := hq6
    obtain ⟨c6_0, c6_1, c6_2⟩ := hq6
    have hF6 := f_fr_tr hF2 c6_1 rfl
    have hG6 := f_fr_tr hG0 c6_2 rfl
    exact ⟨c6_0, hF6, hG6⟩
