theorem pinv_none {P : Nat → Int32} {n : Int} (h : pnone P) (hn : n ≤ 20) : pinv P n := fun e he h0 => by
  have := h e (by omega)
  omega
/-- what is picked up to a place, and laid -/
def kp1 (I : fM) (p : Int) : Prop := (∀ q : Nat, (q : Int) < p → (I 28 q).toInt < (I 27 q).toInt) ∧ (I 31 9).toInt = lcs (szs I (fun q => (I 28 q).toInt)) p.toNat
theorem kc_of {I J : fM} {p : Int} (h : kp1 I p) (hp : p = (I 25 7).toInt) (h16 : J 16 = I 16) (h25 : J 25 = I 25) (h26 : J 26 = I 26) (h27 : J 27 = I 27) (h28 : J 28 = I 28) (hc : (J 31 9).toInt = lcn (I 31 9).toInt (I 16 (I 25 8).toInt.toNat).toInt) : kc J := by
  subst hp
  refine ⟨fun q hq => ?_, ?_⟩
  · rw [h27, h28]
    rw [h25] at hq
    exact h.1 q hq
  · rw [hc, lca_cells h16 h25 h26, h28]
    unfold lca
    rw [h.2]
theorem kp1_step {I J K : fM} {p p' : Int} {t : Int32} (h : kp1 I p) (p0 : 0 ≤ p) (h28 : K 28 = upd (J 28) p.toNat t) (hj : ∀ j : Nat, (j : Int) < p → J 28 j = I 28 j) (h16 : K 16 = I 16) (h26 : K 26 = I 26) (h27 : K 27 = I 27) (ht : t.toInt < (I 27 p.toNat).toInt) (hc : (K 31 9).toInt = lcn (I 31 9).toInt (I 16 ((I 26 p.toNat).toInt + t.toInt).toNat).toInt) (hp' : p' = p + 1) : kp1 K p' := by
  subst hp'
  refine ⟨fun q hq => ?_, ?_⟩
  · rw [h27, h28]
    by_cases e : q = p.toNat
    · subst e
      rw [pk_us]
      exact ht
    · rw [pk_un e, hj q (by omega)]
      exact h.1 q (by omega)
  · rw [show (p + 1).toNat = p.toNat + 1 by omega, szs_cells h16 h26, hc, h.2]
    show _ = lcn _ _
    congr 1
    · refine lcs_congr (fun q hq => ?_)
      unfold szs
      show _ = (I 16 ((I 26 q).toInt + (K 28 q).toInt).toNat).toInt
      rw [h28, pk_un (by omega), hj q (by omega)]
    · unfold szs
      show _ = (I 16 ((I 26 p.toNat).toInt + (K 28 p.toNat).toInt).toNat).toInt
      rw [h28, pk_us]
theorem xK_L {I : fM} {L L' : fN} (h : L' 70 = L 70) (hK : xK I L) : xK I L' := by
  intro r hr
  have e : ∀ s, kb L' r s = kb L r s := fun s => by unfold kb; rw [h]
  have q := hK r hr
  unfold good at q ⊢
  simp only [e]
  exact q
def tX10_pick : List (Instr × Nat) := [(.aload_n 0, 1), (.getfield 39, 3), (.getfield 97, 3), (.istore 5, 2), (.iload_n 1, 1), (.aload_n 0, 1), (.getfield 43, 3), (.if_icmp .lt 57, 3), (.aload_n 0, 1), (.getfield 39, 3), (.aload_n 0, 1), (.getfield 47, 3), (.iconst (-1), 1), (.invokevirtual 98, 3), (.aload_n 0, 1), (.getfield 39, 3), (.invokevirtual 101, 3), (.ifCond .eq 20, 3), (.aload_n 0, 1), (.getfield 39, 3), (.iconst 0, 1), (.aload 4, 2), (.invokevirtual 105, 3), (.ifCond .eq 7, 3), (.iconst 1, 1), (.goto 4, 3), (.iconst 0, 1), (.istore 6, 2), (.aload_n 0, 1), (.getfield 39, 3), (.iload 5, 2), (.invokevirtual 109, 3), (.iload 6, 2), (.ireturn, 1), (.iconst 0, 1), (.istore 6, 2), (.iload 6, 2), (.aload_n 0, 1), (.getfield 17, 3), (.iload_n 1, 1), (.iaload, 1), (.if_icmp .ge 103, 3), (.aload_n 0, 1), (.getfield 13, 3), (.iload_n 1, 1), (.iaload, 1), (.iload 6, 2), (.iadd, 1), (.istore 7, 2), (.lload_n 2, 1), (.aload_n 0, 1), (.getfield 30, 3), (.getfield 86, 3), (.iload 7, 2), (.laload, 1), (.ladd, 1), (.lstore 8, 2), (.aload_n 0, 1), (.iload_n 1, 1), (.iconst 1, 1), (.iadd, 1), (.lload 8, 2), (.invokevirtual 89, 3), (.ifCond .eq 60, 3), (.lload 8, 2), (.invokestatic 112, 3), (.bipush 20, 2), (.if_icmp .gt 50, 3), (.aload_n 0, 1), (.getfield 20, 3), (.iload_n 1, 1), (.iload 6, 2), (.iastore, 1), (.aload_n 0, 1), (.getfield 39, 3), (.iload 7, 2), (.iload_n 1, 1), (.invokevirtual 98, 3), (.aload_n 0, 1), (.iload_n 1, 1), (.iconst 1, 1), (.iadd, 1), (.lload 8, 2), (.aload 4, 2), (.invokevirtual 93, 3), (.istore 10, 2), (.aload_n 0, 1), (.getfield 39, 3), (.iload 5, 2), (.invokevirtual 109, 3), (.iload 10, 2), (.ifCond .eq 5, 3), (.iconst 1, 1), (.ireturn, 1), (.iinc 6 1, 3), (.goto (-108), 3), (.iconst 0, 1), (.ireturn, 1)]
theorem tX10_pick_ok : f_chk cX10_pick 0 tX10_pick = true := by decide +kernel
def pX10_pick (d : Nat) (av : List Value) (I : fM) (L : fN) : Prop := match av with
  | [.ref 25, .int p, .long sm, kp] => dpos d ∧ xR I ∧ xO I ∧ xT I ∧ (kp = Value.null ∨ kp = Value.ref 69) ∧ 0 ≤ p.toInt ∧ p.toInt ≤ (I 25 7).toInt ∧ (I 25 7).toInt - p.toInt < d ∧ pnone (I 37) ∧ (kp = Value.ref 69 → kp1 I p.toInt ∧ xK I L)
  | _ => False
def qX10_pick (av : List Value) (I : fM) (L : fN) (r : Value) (I' : fM) (L' : fN) : Prop := match av, r with
  | [.ref 25, .int p, .long sm, kp], .int x => xR I' ∧ xO I' ∧ xT I' ∧ f_fr [28, 31, 32, 33, 34, 35, 36, 37, 38, 39, 69] I I' ∧ f_fr [70] L L' ∧ I' 37 = I 37 ∧ (I' 31 9).toInt = (I 31 9).toInt ∧ (∀ j : Nat, (j : Int) < p.toInt → I' 28 j = I 28 j) ∧ (kp = Value.ref 69 → xK I' L') ∧ (x.toInt = 0 ∨ x.toInt = 1)
  | _, _ => False
set_option maxHeartbeats 4000000 in
set_option maxRecDepth 100000 in
theorem mX10_pick {l : Launch} {a : Nat → Nat} {cy dC : Nat → ClassId} {dI : Nat → Nat → Nat} (hinj : ∀ i j, i < 80 → j < 80 → a i = a j → i = j) : ∀ d : Nat, f_Met (xE a) l xY 80 a cy dC dI yX10_pick cX10_pick 11 3 (d + 25) (pX10_pick d) qX10_pick := by
  intro d
  induction d with
  | zero =>
    intro av I L hp
    exfalso
    unfold pX10_pick at hp
    split at hp
    case h_2 => exact hp.elim
    case h_1 p sm kp => exact hp.1.elim
  | succ d ih =>
  refine f_met_of (xE_c a) hinj xY_hi (by decide) (fun av I L h => by unfold pX10_pick at h; split at h <;> first | (rcases h.2.2.2.2.1 with rfl | rfl <;> exact Nat.le_of_ble_eq_true rfl) | exact Nat.le_of_ble_eq_true rfl | exact h.elim) ?_
  intro pP eP sP mP aP bP hP9 cP C av I L hp
  unfold pX10_pick at hp
  split at hp
  case h_2 => exact hp.elim
  case h_1 p sm kp =>
    obtain ⟨p0, hR, hxO, hxT, p4, p5, p6, p7, p8, p9⟩ := hp
    rcases p4 with rfl | rfl
    -- pat [.ref 25, .int p, .long sm, .null]
    · skip
      have p0 : dpos (d + 1) := p0
      have hR : xR I := hR
      have hxO : xO I := hxO
      have hxT : xT I := hxT
      have p5 : 0 ≤ p.toInt := p5
      have p6 : p.toInt ≤ (I 25 7).toInt := p6
      have p7 : (I 25 7).toInt - p.toInt < (d + 1) := p7
      have p8 : pnone (I 37) := p8
      have p9 : (Value.null = Value.ref 69 → kp1 I p.toInt ∧ xK I L) := p9
      have hn : 0 ≤ (I 31 9).toInt ∧ (I 31 9).toInt ≤ 20 := hR 31 9
      have hc8 : 0 ≤ (I 25 7).toInt ∧ (I 25 7).toInt ≤ 8 := hR 25 7
      have hm : 0 ≤ (I 27 p.toInt.toNat).toInt ∧ (I 27 p.toInt.toNat).toInt ≤ 3 := hR 27 _
      have hT := hxT p.toInt.toNat
      have hF0 : f_fr [28, 31, 32, 33, 34, 35, 36, 37, 38, 39, 69] I I := f_fr_rf
      have hG0 : f_fr [70] L L := f_fr_rf
      have lp74 : ∀ (n74 : Nat), ∀ (b : Int32) (t : Int32) (J74 : fM) (M74 : fN), xR J74 ∧ f_fr [28, 31, 32, 33, 34, 35, 36, 37, 38, 39, 69] I J74 ∧ f_fr [70] L M74 ∧ xO J74 ∧ xT J74 ∧ (p.toInt < (I 25 7).toInt) ∧ (b.toInt = (I 31 9).toInt) ∧ (0 ≤ t.toInt) ∧ (t.toInt ≤ (I 27 p.toInt.toNat).toInt) ∧ (J74 37 = I 37) ∧ ((J74 31 9).toInt = (I 31 9).toInt) ∧ ((∀ j : Nat, (j : Int) < p.toInt → J74 28 j = I 28 j)) ∧ ((Value.null = Value.ref 69 → xK J74 M74)) ∧ ((I 27 p.toInt.toNat).toInt - t.toInt) < n74 → f_W pP l eP (f_rm (d + 1 + 25)) sP mP aP bP hP9 cP xY 80 a cy dC dI 11 (f_K 3 (qX10_pick [.ref 25, .int p, .long sm, .null] I L)) 74 [(6, .int t), (5, .int b), (4, .null), (2, .long sm), (1, .int p), (0, .ref 25)] [] J74 M74 := by
        intro n74
        induction n74 with
        | zero =>
          intro b t J74 M74 h9
          obtain ⟨hR74c, hF74c, hG74c, hxO74c, hxT74c, u74_1, u74_2, u74_3, u74_4, u74_5, u74_6, u74_7, u74_8, hm74⟩ := h9
          omega
        | succ n74 ih74 =>
          intro b t J74 M74 h9
          obtain ⟨hR74c, hF74c, hG74c, hxO74c, hxT74c, u74_1, u74_2, u74_3, u74_4, u74_5, u74_6, u74_7, u74_8, hm74⟩ := h9
          refine f_wp_ok C f_cl flX10_ok fiX10_ok fjX10_ok (sn := none) (fun j h => by cases h) (cs := (f_cnl [(98, (3, 0, 7, pX7_lay, qX7_lay)), (101, (1, 3, 7, pX7_isFlat, qX7_isFlat)), (105, (3, 3, 7, (pX7_tieFrom 21), qX7_tieFrom)), (109, (2, 0, 7, pX7_liftTo, qX7_liftTo)), (89, (3, 3, 9, pX10_canComeOutEven, qX10_canComeOutEven)), (93, (4, 3, 9, (pX10_pick d), qX10_pick))])) (cz := (f_cnl [(112, (1, 1, 3, pX3_sizeOf, qX3_sizeOf))])) (f_cnl_of (P := fun j S => f_cok pP l eP (f_rm (d + 1 + 25)) sP mP aP bP hP9 cP xY 80 a cy dC dI 11 _ _ (.invokevirtual j) true S) (List.forall_mem_cons.mpr ⟨f_cokV C (mX7_lay hinj) (ci := 7) rfl (List.forall_mem_cons.mpr ⟨(mlX10_ok _ (List.mem_of_getElem? (i := 8) rfl)), kc_X7_lay⟩) (by decide +kernel) ⟨by simp only [f_rm]; omega, by simp only [f_rm]; omega⟩, List.forall_mem_cons.mpr ⟨f_cokV C (mX7_isFlat hinj) (ci := 7) rfl (List.forall_mem_cons.mpr ⟨(mlX10_ok _ (List.mem_of_getElem? (i := 9) rfl)), kc_X7_isFlat⟩) (by decide +kernel) ⟨by simp only [f_rm]; omega, by simp only [f_rm]; omega⟩, List.forall_mem_cons.mpr ⟨f_cokV C (mX7_tieFrom hinj 21) (ci := 7) rfl (List.forall_mem_cons.mpr ⟨(mlX10_ok _ (List.mem_of_getElem? (i := 10) rfl)), kc_X7_tieFrom⟩) (by decide +kernel) ⟨by simp only [f_rm]; omega, by simp only [f_rm]; omega⟩, List.forall_mem_cons.mpr ⟨f_cokV C (mX7_liftTo hinj) (ci := 7) rfl (List.forall_mem_cons.mpr ⟨(mlX10_ok _ (List.mem_of_getElem? (i := 11) rfl)), kc_X7_liftTo⟩) (by decide +kernel) ⟨by simp only [f_rm]; omega, by simp only [f_rm]; omega⟩, List.forall_mem_cons.mpr ⟨f_cokV C (mX10_canComeOutEven hinj) (ci := 9) rfl (List.forall_mem_cons.mpr ⟨(mlX10_ok _ (List.mem_of_getElem? (i := 6) rfl)), kc_X10_canComeOutEven⟩) (by decide +kernel) ⟨by simp only [f_rm]; omega, by simp only [f_rm]; omega⟩, List.forall_mem_cons.mpr ⟨f_cokV C ih (ci := 9) rfl (List.forall_mem_cons.mpr ⟨(mlX10_ok _ (List.mem_of_getElem? (i := 7) rfl)), kc_X10_pick⟩) (by decide +kernel) ⟨by simp only [f_rm]; omega, by simp only [f_rm]; omega⟩, fun _ h => absurd h List.not_mem_nil⟩⟩⟩⟩⟩⟩)) (f_cnl_of (P := fun j S => f_cok pP l eP (f_rm (d + 1 + 25)) sP mP aP bP hP9 cP xY 80 a cy dC dI 11 _ _ (.invokestatic j) false S) (List.forall_mem_cons.mpr ⟨f_cokS C (mX3_sizeOf hinj) (List.forall_mem_cons.mpr ⟨(mlX10_ok _ (List.mem_of_getElem? (i := 12) rfl)), kc_X3_sizeOf⟩) (by decide +kernel) ⟨by simp only [f_rm]; omega, by simp only [f_rm]; omega⟩, fun _ h => absurd h List.not_mem_nil⟩)) tX10_pick_ok (cut := (f_cnl [(74, (fun (ls' : fLs) (st' : List Value) (I' : fM) (L' : fN) => ∃ b : Int32, ∃ t : Int32, (∀ q ∈ ([(6, .int t), (5, .int b), (4, .null), (2, .long sm), (1, .int p), (0, .ref 25)] : fLs), q ∈ ls') ∧ st' = [] ∧ (xR I' ∧ f_fr [28, 31, 32, 33, 34, 35, 36, 37, 38, 39, 69] I I' ∧ f_fr [70] L L' ∧ xO I' ∧ xT I' ∧ (p.toInt < (I 25 7).toInt) ∧ (b.toInt = (I 31 9).toInt) ∧ (0 ≤ t.toInt) ∧ (t.toInt ≤ (I 27 p.toInt.toNat).toInt) ∧ (I' 37 = I 37) ∧ ((I' 31 9).toInt = (I 31 9).toInt) ∧ ((∀ j : Nat, (j : Int) < p.toInt → I' 28 j = I 28 j)) ∧ ((Value.null = Value.ref 69 → xK I' L')) ∧ ((I 27 p.toInt.toNat).toInt - t.toInt) < n74)))])) (f_cnl_of (P := fun (tQ : Nat) (P : fLs → List Value → fM → fN → Prop) => ∀ ls' st' I' L', P ls' st' I' L' → f_W pP l eP (f_rm (d + 1 + 25)) sP mP aP bP hP9 cP xY 80 a cy dC dI 11 (f_K 3 (qX10_pick [.ref 25, .int p, .long sm, .null] I L)) tQ ls' st' I' L') (List.forall_mem_cons.mpr ⟨(fun ls' st' I' L' h => by obtain ⟨b, t, hs, e1, h9⟩ := h; rw [e1]; exact f_W_sub hs (ih74 b t I' L' h9)), fun _ h => absurd h List.not_mem_nil⟩)) 61 74 (f_seek 74 0 tX10_pick) (f_seek_ok 74 0 tX10_pick tX10_pick_ok) _ _ _ _ ?_
          have e27 : (J74 27 p.toInt.toNat).toInt = (I 27 p.toInt.toNat).toInt := congrArg Int32.toInt (congrFun (hF74c 27 rfl) _)
          have e26 : (J74 26 p.toInt.toNat).toInt = (I 26 p.toInt.toNat).toInt := congrArg Int32.toInt (congrFun (hF74c 26 rfl) _)
          refine And.intro (show f_in p 8 from ⟨show 0 ≤ p.toInt from by omega, show p.toInt < 8 from by omega⟩) ?_
          have r81_1 : 0 ≤ (J74 27 (p.toInt.toNat)).toInt ∧ (J74 27 (p.toInt.toNat)).toInt ≤ 3 := hR74c 27 (p.toInt.toNat)
          have e81_2 : (J74 27 (p.toInt.toNat)).toInt = (I 27 (p.toInt.toNat)).toInt := congrArg Int32.toInt (congrFun (hF74c 27 rfl) (p.toInt.toNat))
          apply And.intro
          · intro h82
            have h82 : (J74 27 (p.toInt.toNat)).toInt ≤ t.toInt := h82
            have r186_3 : 0 ≤ (J74 31 9).toInt ∧ (J74 31 9).toInt ≤ 20 := hR74c 31 9
            exact ⟨Or.inl rfl, hR74c, hxO74c, hxT74c, hF74c, hG74c, (show J74 37 = I 37 from by first | assumption | omega | rfl), (show (J74 31 9).toInt = (I 31 9).toInt from by first | assumption | omega | rfl), (show (∀ j : Nat, (j : Int) < p.toInt → J74 28 j = I 28 j) from by first | assumption | omega | rfl | exact fun _ _ => rfl | exact fun _ _ => ⟨rfl, rfl⟩ | exact fun _ _ => ⟨rfl, rfl, rfl⟩ | (intro j9 hj9; omega)), (show (Value.null = Value.ref 69 → xK J74 M74) from by first | assumption | omega | rfl), (show ((0 : Int) = 0 ∨ (0 : Int) = 1) from by first | assumption | omega | rfl)⟩
          · intro h82
            have h82 : t.toInt < (J74 27 (p.toInt.toNat)).toInt := h82
            refine And.intro (show f_in p 8 from ⟨show 0 ≤ p.toInt from by omega, show p.toInt < 8 from by omega⟩) ?_
            have r90_3 : 0 ≤ (J74 26 (p.toInt.toNat)).toInt ∧ (J74 26 (p.toInt.toNat)).toInt ≤ 52 := hR74c 26 (p.toInt.toNat)
            have e90_4 : (J74 26 (p.toInt.toNat)).toInt = (I 26 (p.toInt.toNat)).toInt := congrArg Int32.toInt (congrFun (hF74c 26 rfl) (p.toInt.toNat))
            intro z93 q93 _ hq93 hl93 hu93
            have hq93 : z93.toInt = (J74 26 (p.toInt.toNat)).toInt + t.toInt + 4294967296 * q93 := hq93
            try have hz93 : z93.toInt = (J74 26 (p.toInt.toNat)).toInt + t.toInt := by omega
            refine And.intro (show f_in z93 53 from ⟨show 0 ≤ z93.toInt from by omega, show z93.toInt < 53 from by omega⟩) ?_
            intro z113 q113 _ hq113 hl113 hu113
            have hq113 : z113.toInt = p.toInt + 1 + 4294967296 * q113 := hq113
            try have hz113 : z113.toInt = p.toInt + 1 := by omega
            refine And.intro ⟨(show 0 ≤ z113.toInt from by first | assumption | omega), (show z113.toInt ≤ 8 from by first | assumption | omega)⟩ ?_
            intro x116 I116 L116 hq116
            have hq116 : I116 = J74 ∧ L116 = M74 ∧ ((x116.toInt = 0 ∨ x116.toInt = 1)) := hq116
            obtain ⟨eI116, eL116, c116_2⟩ := hq116
            replace eI116 := eI116.symm
            subst eI116
            replace eL116 := eL116.symm
            subst eL116
            apply And.intro
            · intro h119
              have h119 : x116.toInt = 0 := h119
              intro z179 q179 _ hq179 hl179 hu179
              have hq179 : z179.toInt = t.toInt + 1 + 4294967296 * q179 := hq179
              try have hz179 : z179.toInt = t.toInt + 1 := by omega
              have r74_5 : 0 ≤ (J74 31 9).toInt ∧ (J74 31 9).toInt ≤ 20 := hR74c 31 9
              exact ⟨b, z179, (by intro q9 h9; simp only [List.mem_cons, List.not_mem_nil, or_false] at h9; rcases h9 with h9 | h9 | h9 | h9 | h9 | h9 <;> subst h9 <;> repeat (first | exact List.mem_cons_self | apply List.mem_cons_of_mem)), rfl, hR74c, hF74c, hG74c, hxO74c, hxT74c, (show p.toInt < (I 25 7).toInt from by first | assumption | omega), (show b.toInt = (I 31 9).toInt from by first | assumption | omega | rfl), (show 0 ≤ z179.toInt from by first | assumption | omega), (show z179.toInt ≤ (I 27 p.toInt.toNat).toInt from by first | assumption | omega), (show J74 37 = I 37 from by first | assumption | omega | rfl), (show (J74 31 9).toInt = (I 31 9).toInt from by first | assumption | omega | rfl), (show (∀ j : Nat, (j : Int) < p.toInt → J74 28 j = I 28 j) from by first | assumption | omega | exact fun _ _ => rfl | exact fun _ _ => ⟨rfl, rfl⟩ | exact fun _ _ => ⟨rfl, rfl, rfl⟩ | (intro j9 hj9; omega)), (by first | assumption | exact Or.inl rfl | exact Or.inr rfl | (intro h; cases h)), (show ((I 27 p.toInt.toNat).toInt - z179.toInt) < n74 from by omega)⟩
            · intro h119
              have h119 : ¬ x116.toInt = 0 := h119
              refine And.intro trivial ?_
              intro x124 I124 L124 hq124
              have hq124 : I124 = J74 ∧ L124 = M74 := hq124
              obtain ⟨eI124, eL124⟩ := hq124
              replace eI124 := eI124.symm
              subst eI124
              replace eL124 := eL124.symm
              subst eL124
              apply And.intro
              · intro h129
                have h129 : 20 < x124.toInt := h129
                intro z179 q179 _ hq179 hl179 hu179
                have hq179 : z179.toInt = t.toInt + 1 + 4294967296 * q179 := hq179
                try have hz179 : z179.toInt = t.toInt + 1 := by omega
                have r74_5 : 0 ≤ (J74 31 9).toInt ∧ (J74 31 9).toInt ≤ 20 := hR74c 31 9
                exact ⟨b, z179, (by intro q9 h9; simp only [List.mem_cons, List.not_mem_nil, or_false] at h9; rcases h9 with h9 | h9 | h9 | h9 | h9 | h9 <;> subst h9 <;> repeat (first | exact List.mem_cons_self | apply List.mem_cons_of_mem)), rfl, hR74c, hF74c, hG74c, hxO74c, hxT74c, (show p.toInt < (I 25 7).toInt from by first | assumption | omega), (show b.toInt = (I 31 9).toInt from by first | assumption | omega | rfl), (show 0 ≤ z179.toInt from by first | assumption | omega), (show z179.toInt ≤ (I 27 p.toInt.toNat).toInt from by first | assumption | omega), (show J74 37 = I 37 from by first | assumption | omega | rfl), (show (J74 31 9).toInt = (I 31 9).toInt from by first | assumption | omega | rfl), (show (∀ j : Nat, (j : Int) < p.toInt → J74 28 j = I 28 j) from by first | assumption | omega | exact fun _ _ => rfl | exact fun _ _ => ⟨rfl, rfl⟩ | exact fun _ _ => ⟨rfl, rfl, rfl⟩ | (intro j9 hj9; omega)), (by first | assumption | exact Or.inl rfl | exact Or.inr rfl | (intro h; cases h)), (show ((I 27 p.toInt.toNat).toInt - z179.toInt) < n74 from by omega)⟩
              · intro h129
                have h129 : x124.toInt ≤ 20 := h129
                refine And.intro (show f_in p 8 from ⟨show 0 ≤ p.toInt from by omega, show p.toInt < 8 from by omega⟩) ?_
                have hR139 := xR_a (k := 28) (j := p.toInt.toNat) (x := t) hR74c (show 0 ≤ t.toInt ∧ t.toInt ≤ 2 from ⟨by omega, by omega⟩)
                have hF139 := f_fr_up (k := 28) (r := upd (J74 28) (p.toInt.toNat) t) hF74c rfl
                have hxO139 := f_dep_up xO_dep (k := 28) (r := upd (J74 28) (p.toInt.toNat) t) hxO74c rfl
                have hxT139 := f_dep_up xT_dep (k := 28) (r := upd (J74 28) (p.toInt.toNat) t) hxT74c rfl
                refine And.intro ⟨hR139, hxO139, (show 0 ≤ z93.toInt from by first | assumption | omega), (show z93.toInt ≤ 52 from by first | assumption | omega), (show -1 ≤ p.toInt from by first | assumption | omega), (show p.toInt ≤ 7 from by first | assumption | omega)⟩ ?_
                intro I147 L147 hq147
                have hq147 : xR I147 ∧ f_fr [31, 32, 33, 34, 35, 36, 38, 39] (va_up J74 28 (upd (J74 28) (p.toInt.toNat) t)) I147 ∧ L147 = M74 ∧ (I147 31 9).toInt = lcn (J74 31 9).toInt ((J74 16) z93.toInt.toNat).toInt ∧ ((sn ((J74 33)) ((J74 34)) ((J74 35)) (J74 31 9).toInt → sn (I147 33) (I147 34) (I147 35) (I147 31 9).toInt)) := hq147
                obtain ⟨c147_0, c147_1, eL147, c147_3, c147_4⟩ := hq147
                replace eL147 := eL147.symm
                subst eL147
                have hxO147 := f_dep_fr xO_dep hxO139 c147_1 rfl
                have hxT147 := f_dep_fr xT_dep hxT139 c147_1 rfl
                have hF147 := f_fr_tr hF139 c147_1 rfl
                have g147 : Value.null = Value.ref 69 → xK I147 M74 := fun h => xK_cells (c147_1 16 rfl) (c147_1 25 rfl) (c147_1 26 rfl) (c147_1 27 rfl) (c147_1 69 rfl) (u74_8 h)
                have f147 : (I147 31 9).toInt = lcn (I 31 9).toInt (I 16 ((I 26 p.toInt.toNat).toInt + t.toInt).toNat).toInt := by rw [c147_3, u74_6, hF74c 16 rfl, show z93.toInt.toNat = ((I 26 p.toInt.toNat).toInt + t.toInt).toNat by omega]
                intro z153 q153 _ hq153 hl153 hu153
                have hq153 : z153.toInt = p.toInt + 1 + 4294967296 * q153 := hq153
                try have hz153 : z153.toInt = p.toInt + 1 := by omega
                have r158_5 : 0 ≤ (I147 25 7).toInt ∧ (I147 25 7).toInt ≤ 8 := c147_0 25 7
                have e158_6 : (I147 25 7).toInt = (J74 25 7).toInt := congrArg Int32.toInt (congrFun (c147_1 25 rfl) 7)
                have e158_7 : (J74 25 7).toInt = (I 25 7).toInt := congrArg Int32.toInt (congrFun (hF74c 25 rfl) 7)
                refine And.intro ⟨(dpos_of (by omega)), c147_0, hxO147, hxT147, (by first | assumption | exact Or.inl rfl | exact Or.inr rfl | (intro h; cases h)), (show 0 ≤ z153.toInt from by first | assumption | omega), (show z153.toInt ≤ (I147 25 7).toInt from by first | assumption | omega), (show (I147 25 7).toInt - z153.toInt < d from by first | assumption | omega), (by rw [(c147_1 37 rfl).trans u74_5]; exact p8), (fun h => ⟨kp1_step (J := J74) (p9 h).1 (by omega) (c147_1 28 rfl) u74_7 ((c147_1 16 rfl).trans (hF74c 16 rfl)) ((c147_1 26 rfl).trans (hF74c 26 rfl)) ((c147_1 27 rfl).trans (hF74c 27 rfl)) (by omega) f147 (by omega), g147 h⟩)⟩ ?_
                intro x158 I158 L158 hq158
                have hq158 : xR I158 ∧ xO I158 ∧ xT I158 ∧ f_fr [28, 31, 32, 33, 34, 35, 36, 37, 38, 39, 69] I147 I158 ∧ f_fr [70] M74 L158 ∧ I158 37 = I147 37 ∧ (I158 31 9).toInt = (I147 31 9).toInt ∧ ((∀ j : Nat, (j : Int) < z153.toInt → I158 28 j = I147 28 j)) ∧ ((Value.null = Value.ref 69 → xK I158 L158)) ∧ ((x158.toInt = 0 ∨ x158.toInt = 1)) := hq158
                obtain ⟨c158_0, c158_1, c158_2, c158_3, c158_4, c158_5, c158_6, c158_7, c158_8, c158_9⟩ := hq158
                have hF158 := f_fr_tr hF147 c158_3 rfl
                have hG158 := f_fr_tr hG74c c158_4 rfl
                refine And.intro ⟨c158_0, (show 0 ≤ b.toInt from by first | assumption | omega), (show b.toInt ≤ 20 from by first | assumption | omega)⟩ ?_
                intro I169 L169 hq169
                have hq169 : xR I169 ∧ f_fr [31, 38] I158 I169 ∧ L169 = L158 ∧ I169 31 9 = b := hq169
                obtain ⟨c169_0, c169_1, eL169, c169_3⟩ := hq169
                replace eL169 := eL169.symm
                subst eL169
                have hxO169 := f_dep_fr xO_dep c158_1 c169_1 rfl
                have hxT169 := f_dep_fr xT_dep c158_2 c169_1 rfl
                have hF169 := f_fr_tr hF158 c169_1 rfl
                have q5 : I169 37 = I 37 := (c169_1 37 rfl).trans (c158_5.trans ((c147_1 37 rfl).trans u74_5))
                have q6 : (I169 31 9).toInt = (I 31 9).toInt := (congrArg Int32.toInt c169_3).trans u74_2
                have q7 : ∀ j : Nat, (j : Int) < p.toInt → I169 28 j = I 28 j := fun j hj => by
                  rw [c169_1 28 rfl, c158_7 j (by omega), c147_1 28 rfl]
                  show upd (J74 28) p.toInt.toNat t j = _
                  rw [pk_un (by omega)]
                  exact u74_7 j hj
                have q8 : Value.null = Value.ref 69 → xK I169 L158 := fun h => xK_cells (c169_1 16 rfl) (c169_1 25 rfl) (c169_1 26 rfl) (c169_1 27 rfl) (c169_1 69 rfl) (c158_8 h)
                apply And.intro
                · intro h174
                  have h174 : x158.toInt = 0 := h174
                  intro z179 q179 _ hq179 hl179 hu179
                  have hq179 : z179.toInt = t.toInt + 1 + 4294967296 * q179 := hq179
                  try have hz179 : z179.toInt = t.toInt + 1 := by omega
                  have r74_8 : 0 ≤ (I169 31 9).toInt ∧ (I169 31 9).toInt ≤ 20 := c169_0 31 9
                  exact ⟨b, z179, (by intro q9 h9; simp only [List.mem_cons, List.not_mem_nil, or_false] at h9; rcases h9 with h9 | h9 | h9 | h9 | h9 | h9 <;> subst h9 <;> repeat (first | exact List.mem_cons_self | apply List.mem_cons_of_mem)), rfl, c169_0, hF169, hG158, hxO169, hxT169, (show p.toInt < (I 25 7).toInt from by first | assumption | omega), (show b.toInt = (I 31 9).toInt from by first | assumption | omega | rfl), (show 0 ≤ z179.toInt from by first | assumption | omega), (show z179.toInt ≤ (I 27 p.toInt.toNat).toInt from by first | assumption | omega), (show I169 37 = I 37 from by first | assumption | omega | rfl), (show (I169 31 9).toInt = (I 31 9).toInt from by first | assumption | omega | rfl), (show (∀ j : Nat, (j : Int) < p.toInt → I169 28 j = I 28 j) from by first | assumption | omega | exact fun _ _ => rfl | exact fun _ _ => ⟨rfl, rfl⟩ | exact fun _ _ => ⟨rfl, rfl, rfl⟩ | (intro j9 hj9; omega)), (by first | assumption | exact Or.inl rfl | exact Or.inr rfl | (intro h; cases h)), (show ((I 27 p.toInt.toNat).toInt - z179.toInt) < n74 from by omega)⟩
                · intro h174
                  have h174 : ¬ x158.toInt = 0 := h174
                  have r178_8 : 0 ≤ (I169 31 9).toInt ∧ (I169 31 9).toInt ≤ 20 := c169_0 31 9
                  exact ⟨Or.inr rfl, c169_0, hxO169, hxT169, hF169, hG158, (show I169 37 = I 37 from by first | assumption | omega | rfl), (show (I169 31 9).toInt = (I 31 9).toInt from by first | assumption | omega | rfl), (show (∀ j : Nat, (j : Int) < p.toInt → I169 28 j = I 28 j) from by first | assumption | omega | rfl | exact fun _ _ => rfl | exact fun _ _ => ⟨rfl, rfl⟩ | exact fun _ _ => ⟨rfl, rfl, rfl⟩ | (intro j9 hj9; omega)), (show (Value.null = Value.ref 69 → xK I169 L158) from by first | assumption | omega | rfl), (show ((1 : Int) = 0 ∨ (1 : Int) = 1) from by first | assumption | omega | rfl)⟩
      refine f_wp_ok C f_cl flX10_ok fiX10_ok fjX10_ok (sn := none) (fun j h => by cases h) (cs := (f_cnl [(98, (3, 0, 7, pX7_lay, qX7_lay)), (101, (1, 3, 7, pX7_isFlat, qX7_isFlat)), (105, (3, 3, 7, (pX7_tieFrom 21), qX7_tieFrom)), (109, (2, 0, 7, pX7_liftTo, qX7_liftTo)), (89, (3, 3, 9, pX10_canComeOutEven, qX10_canComeOutEven)), (93, (4, 3, 9, (pX10_pick d), qX10_pick))])) (cz := (f_cnl [(112, (1, 1, 3, pX3_sizeOf, qX3_sizeOf))])) (f_cnl_of (P := fun j S => f_cok pP l eP (f_rm (d + 1 + 25)) sP mP aP bP hP9 cP xY 80 a cy dC dI 11 _ _ (.invokevirtual j) true S) (List.forall_mem_cons.mpr ⟨f_cokV C (mX7_lay hinj) (ci := 7) rfl (List.forall_mem_cons.mpr ⟨(mlX10_ok _ (List.mem_of_getElem? (i := 8) rfl)), kc_X7_lay⟩) (by decide +kernel) ⟨by simp only [f_rm]; omega, by simp only [f_rm]; omega⟩, List.forall_mem_cons.mpr ⟨f_cokV C (mX7_isFlat hinj) (ci := 7) rfl (List.forall_mem_cons.mpr ⟨(mlX10_ok _ (List.mem_of_getElem? (i := 9) rfl)), kc_X7_isFlat⟩) (by decide +kernel) ⟨by simp only [f_rm]; omega, by simp only [f_rm]; omega⟩, List.forall_mem_cons.mpr ⟨f_cokV C (mX7_tieFrom hinj 21) (ci := 7) rfl (List.forall_mem_cons.mpr ⟨(mlX10_ok _ (List.mem_of_getElem? (i := 10) rfl)), kc_X7_tieFrom⟩) (by decide +kernel) ⟨by simp only [f_rm]; omega, by simp only [f_rm]; omega⟩, List.forall_mem_cons.mpr ⟨f_cokV C (mX7_liftTo hinj) (ci := 7) rfl (List.forall_mem_cons.mpr ⟨(mlX10_ok _ (List.mem_of_getElem? (i := 11) rfl)), kc_X7_liftTo⟩) (by decide +kernel) ⟨by simp only [f_rm]; omega, by simp only [f_rm]; omega⟩, List.forall_mem_cons.mpr ⟨f_cokV C (mX10_canComeOutEven hinj) (ci := 9) rfl (List.forall_mem_cons.mpr ⟨(mlX10_ok _ (List.mem_of_getElem? (i := 6) rfl)), kc_X10_canComeOutEven⟩) (by decide +kernel) ⟨by simp only [f_rm]; omega, by simp only [f_rm]; omega⟩, List.forall_mem_cons.mpr ⟨f_cokV C ih (ci := 9) rfl (List.forall_mem_cons.mpr ⟨(mlX10_ok _ (List.mem_of_getElem? (i := 7) rfl)), kc_X10_pick⟩) (by decide +kernel) ⟨by simp only [f_rm]; omega, by simp only [f_rm]; omega⟩, fun _ h => absurd h List.not_mem_nil⟩⟩⟩⟩⟩⟩)) (f_cnl_of (P := fun j S => f_cok pP l eP (f_rm (d + 1 + 25)) sP mP aP bP hP9 cP xY 80 a cy dC dI 11 _ _ (.invokestatic j) false S) (List.forall_mem_cons.mpr ⟨f_cokS C (mX3_sizeOf hinj) (List.forall_mem_cons.mpr ⟨(mlX10_ok _ (List.mem_of_getElem? (i := 12) rfl)), kc_X3_sizeOf⟩) (by decide +kernel) ⟨by simp only [f_rm]; omega, by simp only [f_rm]; omega⟩, fun _ h => absurd h List.not_mem_nil⟩)) tX10_pick_ok (cut := (f_cnl [(74, (fun (ls' : fLs) (st' : List Value) (I' : fM) (L' : fN) => ∃ b : Int32, ∃ t : Int32, (∀ q ∈ ([(6, .int t), (5, .int b), (4, .null), (2, .long sm), (1, .int p), (0, .ref 25)] : fLs), q ∈ ls') ∧ st' = [] ∧ (xR I' ∧ f_fr [28, 31, 32, 33, 34, 35, 36, 37, 38, 39, 69] I I' ∧ f_fr [70] L L' ∧ xO I' ∧ xT I' ∧ (p.toInt < (I 25 7).toInt) ∧ (b.toInt = (I 31 9).toInt) ∧ (0 ≤ t.toInt) ∧ (t.toInt ≤ (I 27 p.toInt.toNat).toInt) ∧ (I' 37 = I 37) ∧ ((I' 31 9).toInt = (I 31 9).toInt) ∧ ((∀ j : Nat, (j : Int) < p.toInt → I' 28 j = I 28 j)) ∧ ((Value.null = Value.ref 69 → xK I' L')) ∧ ((I 27 p.toInt.toNat).toInt - t.toInt) < 4)))])) (f_cnl_of (P := fun (tQ : Nat) (P : fLs → List Value → fM → fN → Prop) => ∀ ls' st' I' L', P ls' st' I' L' → f_W pP l eP (f_rm (d + 1 + 25)) sP mP aP bP hP9 cP xY 80 a cy dC dI 11 (f_K 3 (qX10_pick [.ref 25, .int p, .long sm, .null] I L)) tQ ls' st' I' L') (List.forall_mem_cons.mpr ⟨(fun ls' st' I' L' h => by obtain ⟨b, t, hs, e1, h9⟩ := h; rw [e1]; exact f_W_sub hs (lp74 4 b t I' L' h9)), fun _ h => absurd h List.not_mem_nil⟩)) 36 0 tX10_pick tX10_pick_ok _ _ _ _ ?_
      have r4_1 : 0 ≤ (I 31 9).toInt ∧ (I 31 9).toInt ≤ 20 := hR 31 9
      have r11_2 : 0 ≤ (I 25 7).toInt ∧ (I 25 7).toInt ≤ 8 := hR 25 7
      apply And.intro
      · intro h14
        have h14 : p.toInt < (I 25 7).toInt := h14
        have q71 : Value.null = Value.ref 69 → xK I L := fun h => (p9 h).2
        have r74_3 : 0 ≤ (I 27 (p.toInt.toNat)).toInt ∧ (I 27 (p.toInt.toNat)).toInt ≤ 3 := hR 27 (p.toInt.toNat)
        exact ⟨I 31 9, Int32.ofInt 0, (by intro q9 h9; simp only [List.mem_cons, List.not_mem_nil, or_false] at h9; rcases h9 with h9 | h9 | h9 | h9 | h9 | h9 <;> subst h9 <;> repeat (first | exact List.mem_cons_self | apply List.mem_cons_of_mem)), rfl, hR, hF0, hG0, hxO, hxT, (show p.toInt < (I 25 7).toInt from by first | assumption | omega), (show (I 31 9).toInt = (I 31 9).toInt from by first | assumption | omega | rfl), (show 0 ≤ (0 : Int) from by first | assumption | omega), (show (0 : Int) ≤ (I 27 p.toInt.toNat).toInt from by first | assumption | omega), (show I 37 = I 37 from by first | assumption | omega | rfl), (show (I 31 9).toInt = (I 31 9).toInt from by first | assumption | omega | rfl), (show (∀ j : Nat, (j : Int) < p.toInt → I 28 j = I 28 j) from by first | assumption | omega | exact fun _ _ => rfl | exact fun _ _ => ⟨rfl, rfl⟩ | exact fun _ _ => ⟨rfl, rfl, rfl⟩ | (intro j9 hj9; omega)), (by first | assumption | exact Or.inl rfl | exact Or.inr rfl | (intro h; cases h)), (show ((I 27 p.toInt.toNat).toInt - (0 : Int)) < 4 from by omega)⟩
      · intro h14
        have h14 : (I 25 7).toInt ≤ p.toInt := h14
        have r22_3 : 0 ≤ (I 25 8).toInt ∧ (I 25 8).toInt ≤ 52 := hR 25 8
        refine And.intro ⟨hR, hxO, (show 0 ≤ (I 25 8).toInt from by first | assumption | omega), (show (I 25 8).toInt ≤ 52 from by first | assumption | omega), (show -1 ≤ (-1 : Int) from by first | assumption | omega), (show (-1 : Int) ≤ 7 from by first | assumption | omega)⟩ ?_
        intro I26 L26 hq26
        have hq26 : xR I26 ∧ f_fr [31, 32, 33, 34, 35, 36, 38, 39] I I26 ∧ L26 = L ∧ (I26 31 9).toInt = lcn (I 31 9).toInt (I 16 (I 25 8).toInt.toNat).toInt ∧ ((sn (I 33) (I 34) (I 35) (I 31 9).toInt → sn (I26 33) (I26 34) (I26 35) (I26 31 9).toInt)) := hq26
        obtain ⟨c26_0, c26_1, eL26, c26_3, c26_4⟩ := hq26
        replace eL26 := eL26.symm
        subst eL26
        have hxO26 := f_dep_fr xO_dep hxO c26_1 rfl
        have hxT26 := f_dep_fr xT_dep hxT c26_1 rfl
        have hF26 := f_fr_tr hF0 c26_1 rfl
        have g26 : Value.null = Value.ref 69 → xK I26 L := fun h => xK_cells (c26_1 16 rfl) (c26_1 25 rfl) (c26_1 26 rfl) (c26_1 27 rfl) (c26_1 69 rfl) (p9 h).2
        refine And.intro c26_0 ?_
        intro x33 I33 L33 hq33
        have hq33 : I33 = I26 ∧ L33 = L ∧ ((x33.toInt = 0 ∨ x33.toInt = 1)) := hq33
        obtain ⟨eI33, eL33, c33_2⟩ := hq33
        replace eI33 := eI33.symm
        subst eI33
        replace eL33 := eL33.symm
        subst eL33
        apply And.intro
        · intro h36
          have h36 : x33.toInt = 0 := h36
          refine And.intro ⟨c26_0, (show 0 ≤ (I 31 9).toInt from by first | assumption | omega), (show (I 31 9).toInt ≤ 20 from by first | assumption | omega)⟩ ?_
          intro I65 L65 hq65
          have hq65 : xR I65 ∧ f_fr [31, 38] I26 I65 ∧ L65 = L ∧ I65 31 9 = (I 31 9) := hq65
          obtain ⟨c65_0, c65_1, eL65, c65_3⟩ := hq65
          replace eL65 := eL65.symm
          subst eL65
          have hxO65 := f_dep_fr xO_dep hxO26 c65_1 rfl
          have hxT65 := f_dep_fr xT_dep hxT26 c65_1 rfl
          have hF65 := f_fr_tr hF26 c65_1 rfl
          exact ⟨Or.inl rfl, c65_0, hxO65, hxT65, hF65, hG0, (by first | exact (c65_1 37 rfl).trans (c46_3.trans (c26_1 37 rfl)) | exact (c65_1 37 rfl).trans (c26_1 37 rfl)), (congrArg Int32.toInt c65_3), (fun j _ => by first | rw [c65_1 28 rfl, c46_1 28 rfl, c26_1 28 rfl] | rw [c65_1 28 rfl, c26_1 28 rfl]), (fun h => by first | exact xK_cells (c65_1 16 rfl) (c65_1 25 rfl) (c65_1 26 rfl) (c65_1 27 rfl) (c65_1 69 rfl) (c46_4 h) | exact xK_cells (c65_1 16 rfl) (c65_1 25 rfl) (c65_1 26 rfl) (c65_1 27 rfl) (c65_1 69 rfl) (g26 h)), (show ((0 : Int) = 0 ∨ (0 : Int) = 1) from by first | assumption | omega | rfl)⟩
        · intro h36
          have h36 : ¬ x33.toInt = 0 := h36
          have r46_4 : 0 ≤ (I26 31 9).toInt ∧ (I26 31 9).toInt ≤ 20 := c26_0 31 9
          refine And.intro ⟨(dpos_of (by omega)), c26_0, (by first | assumption | exact Or.inl rfl | exact Or.inr rfl | (intro h; cases h)), (show 0 ≤ (0 : Int) from by first | assumption | omega), (show (0 : Int) ≤ (I26 31 9).toInt from by first | assumption | omega), (show (I26 31 9).toInt - (0 : Int) < 21 from by first | assumption | omega), (pinv_none (by rw [c26_1 37 rfl]; exact p8) (c26_0 31 9).2), (show ptd (I26 37) (0 : Int) from fun e he => by omega), (fun h => ⟨kc_of (p9 h).1 (by omega) (c26_1 16 rfl) (c26_1 25 rfl) (c26_1 26 rfl) (c26_1 27 rfl) (c26_1 28 rfl) c26_3, g26 h⟩)⟩ ?_
          intro x46 I46 L46 hq46
          have hq46 : xR I46 ∧ f_fr [37, 69] I26 I46 ∧ f_fr [70] L L46 ∧ I46 37 = I26 37 ∧ (((Value.null) = Value.ref 69 → xK I46 L46)) ∧ ((x46.toInt = 0 ∨ x46.toInt = 1)) := hq46
          obtain ⟨c46_0, c46_1, c46_2, c46_3, c46_4, c46_5⟩ := hq46
          have hxO46 := f_dep_fr xO_dep hxO26 c46_1 rfl
          have hxT46 := f_dep_fr xT_dep hxT26 c46_1 rfl
          have hF46 := f_fr_tr hF26 c46_1 rfl
          have hG46 := f_fr_tr hG0 c46_2 rfl
          apply And.intro
          · intro h49
            have h49 : x46.toInt = 0 := h49
            refine And.intro ⟨c46_0, (show 0 ≤ (I 31 9).toInt from by first | assumption | omega), (show (I 31 9).toInt ≤ 20 from by first | assumption | omega)⟩ ?_
            intro I65 L65 hq65
            have hq65 : xR I65 ∧ f_fr [31, 38] I46 I65 ∧ L65 = L46 ∧ I65 31 9 = (I 31 9) := hq65
            obtain ⟨c65_0, c65_1, eL65, c65_3⟩ := hq65
            replace eL65 := eL65.symm
            subst eL65
            have hxO65 := f_dep_fr xO_dep hxO46 c65_1 rfl
            have hxT65 := f_dep_fr xT_dep hxT46 c65_1 rfl
            have hF65 := f_fr_tr hF46 c65_1 rfl
            exact ⟨Or.inl rfl, c65_0, hxO65, hxT65, hF65, hG46, (by first | exact (c65_1 37 rfl).trans (c46_3.trans (c26_1 37 rfl)) | exact (c65_1 37 rfl).trans (c26_1 37 rfl)), (congrArg Int32.toInt c65_3), (fun j _ => by first | rw [c65_1 28 rfl, c46_1 28 rfl, c26_1 28 rfl] | rw [c65_1 28 rfl, c26_1 28 rfl]), (fun h => by first | exact xK_cells (c65_1 16 rfl) (c65_1 25 rfl) (c65_1 26 rfl) (c65_1 27 rfl) (c65_1 69 rfl) (c46_4 h) | exact xK_cells (c65_1 16 rfl) (c65_1 25 rfl) (c65_1 26 rfl) (c65_1 27 rfl) (c65_1 69 rfl) (g26 h)), (show ((0 : Int) = 0 ∨ (0 : Int) = 1) from by first | assumption | omega | rfl)⟩
          · intro h49
            have h49 : ¬ x46.toInt = 0 := h49
            refine And.intro ⟨c46_0, (show 0 ≤ (I 31 9).toInt from by first | assumption | omega), (show (I 31 9).toInt ≤ 20 from by first | assumption | omega)⟩ ?_
            intro I65 L65 hq65
            have hq65 : xR I65 ∧ f_fr [31, 38] I46 I65 ∧ L65 = L46 ∧ I65 31 9 = (I 31 9) := hq65
            obtain ⟨c65_0, c65_1, eL65, c65_3⟩ := hq65
            replace eL65 := eL65.symm
            subst eL65
            have hxO65 := f_dep_fr xO_dep hxO46 c65_1 rfl
            have hxT65 := f_dep_fr xT_dep hxT46 c65_1 rfl
            have hF65 := f_fr_tr hF46 c65_1 rfl
            exact ⟨Or.inr rfl, c65_0, hxO65, hxT65, hF65, hG46, (by first | exact (c65_1 37 rfl).trans (c46_3.trans (c26_1 37 rfl)) | exact (c65_1 37 rfl).trans (c26_1 37 rfl)), (congrArg Int32.toInt c65_3), (fun j _ => by first | rw [c65_1 28 rfl, c46_1 28 rfl, c26_1 28 rfl] | rw [c65_1 28 rfl, c26_1 28 rfl]), (fun h => by first | exact xK_cells (c65_1 16 rfl) (c65_1 25 rfl) (c65_1 26 rfl) (c65_1 27 rfl) (c65_1 69 rfl) (c46_4 h) | exact xK_cells (c65_1 16 rfl) (c65_1 25 rfl) (c65_1 26 rfl) (c65_1 27 rfl) (c65_1 69 rfl) (g26 h)), (show ((1 : Int) = 0 ∨ (1 : Int) = 1) from by first | assumption | omega | rfl)⟩
    -- pat [.ref 25, .int p, .long sm, .ref 69]
    · skip
      have p0 : dpos (d + 1) := p0
      have hR : xR I := hR
      have hxO : xO I := hxO
      have hxT : xT I := hxT
      have p5 : 0 ≤ p.toInt := p5
      have p6 : p.toInt ≤ (I 25 7).toInt := p6
      have p7 : (I 25 7).toInt - p.toInt < (d + 1) := p7
      have p8 : pnone (I 37) := p8
      have p9 : ((Value.ref 69) = Value.ref 69 → kp1 I p.toInt ∧ xK I L) := p9
      have hn : 0 ≤ (I 31 9).toInt ∧ (I 31 9).toInt ≤ 20 := hR 31 9
      have hc8 : 0 ≤ (I 25 7).toInt ∧ (I 25 7).toInt ≤ 8 := hR 25 7
      have hm : 0 ≤ (I 27 p.toInt.toNat).toInt ∧ (I 27 p.toInt.toNat).toInt ≤ 3 := hR 27 _
      have hT := hxT p.toInt.toNat
      have hF0 : f_fr [28, 31, 32, 33, 34, 35, 36, 37, 38, 39, 69] I I := f_fr_rf
      have hG0 : f_fr [70] L L := f_fr_rf
      have lp74 : ∀ (n74 : Nat), ∀ (b : Int32) (t : Int32) (J74 : fM) (M74 : fN), xR J74 ∧ f_fr [28, 31, 32, 33, 34, 35, 36, 37, 38, 39, 69] I J74 ∧ f_fr [70] L M74 ∧ xO J74 ∧ xT J74 ∧ (p.toInt < (I 25 7).toInt) ∧ (b.toInt = (I 31 9).toInt) ∧ (0 ≤ t.toInt) ∧ (t.toInt ≤ (I 27 p.toInt.toNat).toInt) ∧ (J74 37 = I 37) ∧ ((J74 31 9).toInt = (I 31 9).toInt) ∧ ((∀ j : Nat, (j : Int) < p.toInt → J74 28 j = I 28 j)) ∧ (((Value.ref 69) = Value.ref 69 → xK J74 M74)) ∧ ((I 27 p.toInt.toNat).toInt - t.toInt) < n74 → f_W pP l eP (f_rm (d + 1 + 25)) sP mP aP bP hP9 cP xY 80 a cy dC dI 11 (f_K 3 (qX10_pick [.ref 25, .int p, .long sm, .ref 69] I L)) 74 [(6, .int t), (5, .int b), (4, .ref 69), (2, .long sm), (1, .int p), (0, .ref 25)] [] J74 M74 := by
        intro n74
        induction n74 with
        | zero =>
          intro b t J74 M74 h9
          obtain ⟨hR74c, hF74c, hG74c, hxO74c, hxT74c, u74_1, u74_2, u74_3, u74_4, u74_5, u74_6, u74_7, u74_8, hm74⟩ := h9
          omega
        | succ n74 ih74 =>
          intro b t J74 M74 h9
          obtain ⟨hR74c, hF74c, hG74c, hxO74c, hxT74c, u74_1, u74_2, u74_3, u74_4, u74_5, u74_6, u74_7, u74_8, hm74⟩ := h9
          refine f_wp_ok C f_cl flX10_ok fiX10_ok fjX10_ok (sn := none) (fun j h => by cases h) (cs := (f_cnl [(98, (3, 0, 7, pX7_lay, qX7_lay)), (101, (1, 3, 7, pX7_isFlat, qX7_isFlat)), (105, (3, 3, 7, (pX7_tieFrom 21), qX7_tieFrom)), (109, (2, 0, 7, pX7_liftTo, qX7_liftTo)), (89, (3, 3, 9, pX10_canComeOutEven, qX10_canComeOutEven)), (93, (4, 3, 9, (pX10_pick d), qX10_pick))])) (cz := (f_cnl [(112, (1, 1, 3, pX3_sizeOf, qX3_sizeOf))])) (f_cnl_of (P := fun j S => f_cok pP l eP (f_rm (d + 1 + 25)) sP mP aP bP hP9 cP xY 80 a cy dC dI 11 _ _ (.invokevirtual j) true S) (List.forall_mem_cons.mpr ⟨f_cokV C (mX7_lay hinj) (ci := 7) rfl (List.forall_mem_cons.mpr ⟨(mlX10_ok _ (List.mem_of_getElem? (i := 8) rfl)), kc_X7_lay⟩) (by decide +kernel) ⟨by simp only [f_rm]; omega, by simp only [f_rm]; omega⟩, List.forall_mem_cons.mpr ⟨f_cokV C (mX7_isFlat hinj) (ci := 7) rfl (List.forall_mem_cons.mpr ⟨(mlX10_ok _ (List.mem_of_getElem? (i := 9) rfl)), kc_X7_isFlat⟩) (by decide +kernel) ⟨by simp only [f_rm]; omega, by simp only [f_rm]; omega⟩, List.forall_mem_cons.mpr ⟨f_cokV C (mX7_tieFrom hinj 21) (ci := 7) rfl (List.forall_mem_cons.mpr ⟨(mlX10_ok _ (List.mem_of_getElem? (i := 10) rfl)), kc_X7_tieFrom⟩) (by decide +kernel) ⟨by simp only [f_rm]; omega, by simp only [f_rm]; omega⟩, List.forall_mem_cons.mpr ⟨f_cokV C (mX7_liftTo hinj) (ci := 7) rfl (List.forall_mem_cons.mpr ⟨(mlX10_ok _ (List.mem_of_getElem? (i := 11) rfl)), kc_X7_liftTo⟩) (by decide +kernel) ⟨by simp only [f_rm]; omega, by simp only [f_rm]; omega⟩, List.forall_mem_cons.mpr ⟨f_cokV C (mX10_canComeOutEven hinj) (ci := 9) rfl (List.forall_mem_cons.mpr ⟨(mlX10_ok _ (List.mem_of_getElem? (i := 6) rfl)), kc_X10_canComeOutEven⟩) (by decide +kernel) ⟨by simp only [f_rm]; omega, by simp only [f_rm]; omega⟩, List.forall_mem_cons.mpr ⟨f_cokV C ih (ci := 9) rfl (List.forall_mem_cons.mpr ⟨(mlX10_ok _ (List.mem_of_getElem? (i := 7) rfl)), kc_X10_pick⟩) (by decide +kernel) ⟨by simp only [f_rm]; omega, by simp only [f_rm]; omega⟩, fun _ h => absurd h List.not_mem_nil⟩⟩⟩⟩⟩⟩)) (f_cnl_of (P := fun j S => f_cok pP l eP (f_rm (d + 1 + 25)) sP mP aP bP hP9 cP xY 80 a cy dC dI 11 _ _ (.invokestatic j) false S) (List.forall_mem_cons.mpr ⟨f_cokS C (mX3_sizeOf hinj) (List.forall_mem_cons.mpr ⟨(mlX10_ok _ (List.mem_of_getElem? (i := 12) rfl)), kc_X3_sizeOf⟩) (by decide +kernel) ⟨by simp only [f_rm]; omega, by simp only [f_rm]; omega⟩, fun _ h => absurd h List.not_mem_nil⟩)) tX10_pick_ok (cut := (f_cnl [(74, (fun (ls' : fLs) (st' : List Value) (I' : fM) (L' : fN) => ∃ b : Int32, ∃ t : Int32, (∀ q ∈ ([(6, .int t), (5, .int b), (4, .ref 69), (2, .long sm), (1, .int p), (0, .ref 25)] : fLs), q ∈ ls') ∧ st' = [] ∧ (xR I' ∧ f_fr [28, 31, 32, 33, 34, 35, 36, 37, 38, 39, 69] I I' ∧ f_fr [70] L L' ∧ xO I' ∧ xT I' ∧ (p.toInt < (I 25 7).toInt) ∧ (b.toInt = (I 31 9).toInt) ∧ (0 ≤ t.toInt) ∧ (t.toInt ≤ (I 27 p.toInt.toNat).toInt) ∧ (I' 37 = I 37) ∧ ((I' 31 9).toInt = (I 31 9).toInt) ∧ ((∀ j : Nat, (j : Int) < p.toInt → I' 28 j = I 28 j)) ∧ (((Value.ref 69) = Value.ref 69 → xK I' L')) ∧ ((I 27 p.toInt.toNat).toInt - t.toInt) < n74)))])) (f_cnl_of (P := fun (tQ : Nat) (P : fLs → List Value → fM → fN → Prop) => ∀ ls' st' I' L', P ls' st' I' L' → f_W pP l eP (f_rm (d + 1 + 25)) sP mP aP bP hP9 cP xY 80 a cy dC dI 11 (f_K 3 (qX10_pick [.ref 25, .int p, .long sm, .ref 69] I L)) tQ ls' st' I' L') (List.forall_mem_cons.mpr ⟨(fun ls' st' I' L' h => by obtain ⟨b, t, hs, e1, h9⟩ := h; rw [e1]; exact f_W_sub hs (ih74 b t I' L' h9)), fun _ h => absurd h List.not_mem_nil⟩)) 61 74 (f_seek 74 0 tX10_pick) (f_seek_ok 74 0 tX10_pick tX10_pick_ok) _ _ _ _ ?_
          have e27 : (J74 27 p.toInt.toNat).toInt = (I 27 p.toInt.toNat).toInt := congrArg Int32.toInt (congrFun (hF74c 27 rfl) _)
          have e26 : (J74 26 p.toInt.toNat).toInt = (I 26 p.toInt.toNat).toInt := congrArg Int32.toInt (congrFun (hF74c 26 rfl) _)
          refine And.intro (show f_in p 8 from ⟨show 0 ≤ p.toInt from by omega, show p.toInt < 8 from by omega⟩) ?_
          have r81_1 : 0 ≤ (J74 27 (p.toInt.toNat)).toInt ∧ (J74 27 (p.toInt.toNat)).toInt ≤ 3 := hR74c 27 (p.toInt.toNat)
          have e81_2 : (J74 27 (p.toInt.toNat)).toInt = (I 27 (p.toInt.toNat)).toInt := congrArg Int32.toInt (congrFun (hF74c 27 rfl) (p.toInt.toNat))
          apply And.intro
          · intro h82
            have h82 : (J74 27 (p.toInt.toNat)).toInt ≤ t.toInt := h82
            have r186_3 : 0 ≤ (J74 31 9).toInt ∧ (J74 31 9).toInt ≤ 20 := hR74c 31 9
            exact ⟨Or.inl rfl, hR74c, hxO74c, hxT74c, hF74c, hG74c, (show J74 37 = I 37 from by first | assumption | omega | rfl), (show (J74 31 9).toInt = (I 31 9).toInt from by first | assumption | omega | rfl), (show (∀ j : Nat, (j : Int) < p.toInt → J74 28 j = I 28 j) from by first | assumption | omega | rfl | exact fun _ _ => rfl | exact fun _ _ => ⟨rfl, rfl⟩ | exact fun _ _ => ⟨rfl, rfl, rfl⟩ | (intro j9 hj9; omega)), (show ((Value.ref 69) = Value.ref 69 → xK J74 M74) from by first | assumption | omega | rfl), (show ((0 : Int) = 0 ∨ (0 : Int) = 1) from by first | assumption | omega | rfl)⟩
          · intro h82
            have h82 : t.toInt < (J74 27 (p.toInt.toNat)).toInt := h82
            refine And.intro (show f_in p 8 from ⟨show 0 ≤ p.toInt from by omega, show p.toInt < 8 from by omega⟩) ?_
            have r90_3 : 0 ≤ (J74 26 (p.toInt.toNat)).toInt ∧ (J74 26 (p.toInt.toNat)).toInt ≤ 52 := hR74c 26 (p.toInt.toNat)
            have e90_4 : (J74 26 (p.toInt.toNat)).toInt = (I 26 (p.toInt.toNat)).toInt := congrArg Int32.toInt (congrFun (hF74c 26 rfl) (p.toInt.toNat))
            intro z93 q93 _ hq93 hl93 hu93
            have hq93 : z93.toInt = (J74 26 (p.toInt.toNat)).toInt + t.toInt + 4294967296 * q93 := hq93
            try have hz93 : z93.toInt = (J74 26 (p.toInt.toNat)).toInt + t.toInt := by omega
            refine And.intro (show f_in z93 53 from ⟨show 0 ≤ z93.toInt from by omega, show z93.toInt < 53 from by omega⟩) ?_
            intro z113 q113 _ hq113 hl113 hu113
            have hq113 : z113.toInt = p.toInt + 1 + 4294967296 * q113 := hq113
            try have hz113 : z113.toInt = p.toInt + 1 := by omega
            refine And.intro ⟨(show 0 ≤ z113.toInt from by first | assumption | omega), (show z113.toInt ≤ 8 from by first | assumption | omega)⟩ ?_
            intro x116 I116 L116 hq116
            have hq116 : I116 = J74 ∧ L116 = M74 ∧ ((x116.toInt = 0 ∨ x116.toInt = 1)) := hq116
            obtain ⟨eI116, eL116, c116_2⟩ := hq116
            replace eI116 := eI116.symm
            subst eI116
            replace eL116 := eL116.symm
            subst eL116
            apply And.intro
            · intro h119
              have h119 : x116.toInt = 0 := h119
              intro z179 q179 _ hq179 hl179 hu179
              have hq179 : z179.toInt = t.toInt + 1 + 4294967296 * q179 := hq179
              try have hz179 : z179.toInt = t.toInt + 1 := by omega
              have r74_5 : 0 ≤ (J74 31 9).toInt ∧ (J74 31 9).toInt ≤ 20 := hR74c 31 9
              exact ⟨b, z179, (by intro q9 h9; simp only [List.mem_cons, List.not_mem_nil, or_false] at h9; rcases h9 with h9 | h9 | h9 | h9 | h9 | h9 <;> subst h9 <;> repeat (first | exact List.mem_cons_self | apply List.mem_cons_of_mem)), rfl, hR74c, hF74c, hG74c, hxO74c, hxT74c, (show p.toInt < (I 25 7).toInt from by first | assumption | omega), (show b.toInt = (I 31 9).toInt from by first | assumption | omega | rfl), (show 0 ≤ z179.toInt from by first | assumption | omega), (show z179.toInt ≤ (I 27 p.toInt.toNat).toInt from by first | assumption | omega), (show J74 37 = I 37 from by first | assumption | omega | rfl), (show (J74 31 9).toInt = (I 31 9).toInt from by first | assumption | omega | rfl), (show (∀ j : Nat, (j : Int) < p.toInt → J74 28 j = I 28 j) from by first | assumption | omega | exact fun _ _ => rfl | exact fun _ _ => ⟨rfl, rfl⟩ | exact fun _ _ => ⟨rfl, rfl, rfl⟩ | (intro j9 hj9; omega)), (by first | assumption | exact Or.inl rfl | exact Or.inr rfl | (intro h; cases h)), (show ((I 27 p.toInt.toNat).toInt - z179.toInt) < n74 from by omega)⟩
            · intro h119
              have h119 : ¬ x116.toInt = 0 := h119
              refine And.intro trivial ?_
              intro x124 I124 L124 hq124
              have hq124 : I124 = J74 ∧ L124 = M74 := hq124
              obtain ⟨eI124, eL124⟩ := hq124
              replace eI124 := eI124.symm
              subst eI124
              replace eL124 := eL124.symm
              subst eL124
              apply And.intro
              · intro h129
                have h129 : 20 < x124.toInt := h129
                intro z179 q179 _ hq179 hl179 hu179
                have hq179 : z179.toInt = t.toInt + 1 + 4294967296 * q179 := hq179
                try have hz179 : z179.toInt = t.toInt + 1 := by omega
                have r74_5 : 0 ≤ (J74 31 9).toInt ∧ (J74 31 9).toInt ≤ 20 := hR74c 31 9
                exact ⟨b, z179, (by intro q9 h9; simp only [List.mem_cons, List.not_mem_nil, or_false] at h9; rcases h9 with h9 | h9 | h9 | h9 | h9 | h9 <;> subst h9 <;> repeat (first | exact List.mem_cons_self | apply List.mem_cons_of_mem)), rfl, hR74c, hF74c, hG74c, hxO74c, hxT74c, (show p.toInt < (I 25 7).toInt from by first | assumption | omega), (show b.toInt = (I 31 9).toInt from by first | assumption | omega | rfl), (show 0 ≤ z179.toInt from by first | assumption | omega), (show z179.toInt ≤ (I 27 p.toInt.toNat).toInt from by first | assumption | omega), (show J74 37 = I 37 from by first | assumption | omega | rfl), (show (J74 31 9).toInt = (I 31 9).toInt from by first | assumption | omega | rfl), (show (∀ j : Nat, (j : Int) < p.toInt → J74 28 j = I 28 j) from by first | assumption | omega | exact fun _ _ => rfl | exact fun _ _ => ⟨rfl, rfl⟩ | exact fun _ _ => ⟨rfl, rfl, rfl⟩ | (intro j9 hj9; omega)), (by first | assumption | exact Or.inl rfl | exact Or.inr rfl | (intro h; cases h)), (show ((I 27 p.toInt.toNat).toInt - z179.toInt) < n74 from by omega)⟩
              · intro h129
                have h129 : x124.toInt ≤ 20 := h129
                refine And.intro (show f_in p 8 from ⟨show 0 ≤ p.toInt from by omega, show p.toInt < 8 from by omega⟩) ?_
                have hR139 := xR_a (k := 28) (j := p.toInt.toNat) (x := t) hR74c (show 0 ≤ t.toInt ∧ t.toInt ≤ 2 from ⟨by omega, by omega⟩)
                have hF139 := f_fr_up (k := 28) (r := upd (J74 28) (p.toInt.toNat) t) hF74c rfl
                have hxO139 := f_dep_up xO_dep (k := 28) (r := upd (J74 28) (p.toInt.toNat) t) hxO74c rfl
                have hxT139 := f_dep_up xT_dep (k := 28) (r := upd (J74 28) (p.toInt.toNat) t) hxT74c rfl
                refine And.intro ⟨hR139, hxO139, (show 0 ≤ z93.toInt from by first | assumption | omega), (show z93.toInt ≤ 52 from by first | assumption | omega), (show -1 ≤ p.toInt from by first | assumption | omega), (show p.toInt ≤ 7 from by first | assumption | omega)⟩ ?_
                intro I147 L147 hq147
                have hq147 : xR I147 ∧ f_fr [31, 32, 33, 34, 35, 36, 38, 39] (va_up J74 28 (upd (J74 28) (p.toInt.toNat) t)) I147 ∧ L147 = M74 ∧ (I147 31 9).toInt = lcn (J74 31 9).toInt ((J74 16) z93.toInt.toNat).toInt ∧ ((sn ((J74 33)) ((J74 34)) ((J74 35)) (J74 31 9).toInt → sn (I147 33) (I147 34) (I147 35) (I147 31 9).toInt)) := hq147
                obtain ⟨c147_0, c147_1, eL147, c147_3, c147_4⟩ := hq147
                replace eL147 := eL147.symm
                subst eL147
                have hxO147 := f_dep_fr xO_dep hxO139 c147_1 rfl
                have hxT147 := f_dep_fr xT_dep hxT139 c147_1 rfl
                have hF147 := f_fr_tr hF139 c147_1 rfl
                have g147 : (Value.ref 69) = Value.ref 69 → xK I147 M74 := fun h => xK_cells (c147_1 16 rfl) (c147_1 25 rfl) (c147_1 26 rfl) (c147_1 27 rfl) (c147_1 69 rfl) (u74_8 h)
                have f147 : (I147 31 9).toInt = lcn (I 31 9).toInt (I 16 ((I 26 p.toInt.toNat).toInt + t.toInt).toNat).toInt := by rw [c147_3, u74_6, hF74c 16 rfl, show z93.toInt.toNat = ((I 26 p.toInt.toNat).toInt + t.toInt).toNat by omega]
                intro z153 q153 _ hq153 hl153 hu153
                have hq153 : z153.toInt = p.toInt + 1 + 4294967296 * q153 := hq153
                try have hz153 : z153.toInt = p.toInt + 1 := by omega
                have r158_5 : 0 ≤ (I147 25 7).toInt ∧ (I147 25 7).toInt ≤ 8 := c147_0 25 7
                have e158_6 : (I147 25 7).toInt = (J74 25 7).toInt := congrArg Int32.toInt (congrFun (c147_1 25 rfl) 7)
                have e158_7 : (J74 25 7).toInt = (I 25 7).toInt := congrArg Int32.toInt (congrFun (hF74c 25 rfl) 7)
                refine And.intro ⟨(dpos_of (by omega)), c147_0, hxO147, hxT147, (by first | assumption | exact Or.inl rfl | exact Or.inr rfl | (intro h; cases h)), (show 0 ≤ z153.toInt from by first | assumption | omega), (show z153.toInt ≤ (I147 25 7).toInt from by first | assumption | omega), (show (I147 25 7).toInt - z153.toInt < d from by first | assumption | omega), (by rw [(c147_1 37 rfl).trans u74_5]; exact p8), (fun h => ⟨kp1_step (J := J74) (p9 h).1 (by omega) (c147_1 28 rfl) u74_7 ((c147_1 16 rfl).trans (hF74c 16 rfl)) ((c147_1 26 rfl).trans (hF74c 26 rfl)) ((c147_1 27 rfl).trans (hF74c 27 rfl)) (by omega) f147 (by omega), g147 h⟩)⟩ ?_
                intro x158 I158 L158 hq158
                have hq158 : xR I158 ∧ xO I158 ∧ xT I158 ∧ f_fr [28, 31, 32, 33, 34, 35, 36, 37, 38, 39, 69] I147 I158 ∧ f_fr [70] M74 L158 ∧ I158 37 = I147 37 ∧ (I158 31 9).toInt = (I147 31 9).toInt ∧ ((∀ j : Nat, (j : Int) < z153.toInt → I158 28 j = I147 28 j)) ∧ (((Value.ref 69) = Value.ref 69 → xK I158 L158)) ∧ ((x158.toInt = 0 ∨ x158.toInt = 1)) := hq158
                obtain ⟨c158_0, c158_1, c158_2, c158_3, c158_4, c158_5, c158_6, c158_7, c158_8, c158_9⟩ := hq158
                have hF158 := f_fr_tr hF147 c158_3 rfl
                have hG158 := f_fr_tr hG74c c158_4 rfl
                refine And.intro ⟨c158_0, (show 0 ≤ b.toInt from by first | assumption | omega), (show b.toInt ≤ 20 from by first | assumption | omega)⟩ ?_
                intro I169 L169 hq169
                have hq169 : xR I169 ∧ f_fr [31, 38] I158 I169 ∧ L169 = L158 ∧ I169 31 9 = b := hq169
                obtain ⟨c169_0, c169_1, eL169, c169_3⟩ := hq169
                replace eL169 := eL169.symm
                subst eL169
                have hxO169 := f_dep_fr xO_dep c158_1 c169_1 rfl
                have hxT169 := f_dep_fr xT_dep c158_2 c169_1 rfl
                have hF169 := f_fr_tr hF158 c169_1 rfl
                have q5 : I169 37 = I 37 := (c169_1 37 rfl).trans (c158_5.trans ((c147_1 37 rfl).trans u74_5))
                have q6 : (I169 31 9).toInt = (I 31 9).toInt := (congrArg Int32.toInt c169_3).trans u74_2
                have q7 : ∀ j : Nat, (j : Int) < p.toInt → I169 28 j = I 28 j := fun j hj => by
                  rw [c169_1 28 rfl, c158_7 j (by omega), c147_1 28 rfl]
                  show upd (J74 28) p.toInt.toNat t j = _
                  rw [pk_un (by omega)]
                  exact u74_7 j hj
                have q8 : (Value.ref 69) = Value.ref 69 → xK I169 L158 := fun h => xK_cells (c169_1 16 rfl) (c169_1 25 rfl) (c169_1 26 rfl) (c169_1 27 rfl) (c169_1 69 rfl) (c158_8 h)
                apply And.intro
                · intro h174
                  have h174 : x158.toInt = 0 := h174
                  intro z179 q179 _ hq179 hl179 hu179
                  have hq179 : z179.toInt = t.toInt + 1 + 4294967296 * q179 := hq179
                  try have hz179 : z179.toInt = t.toInt + 1 := by omega
                  have r74_8 : 0 ≤ (I169 31 9).toInt ∧ (I169 31 9).toInt ≤ 20 := c169_0 31 9
                  exact ⟨b, z179, (by intro q9 h9; simp only [List.mem_cons, List.not_mem_nil, or_false] at h9; rcases h9 with h9 | h9 | h9 | h9 | h9 | h9 <;> subst h9 <;> repeat (first | exact List.mem_cons_self | apply List.mem_cons_of_mem)), rfl, c169_0, hF169, hG158, hxO169, hxT169, (show p.toInt < (I 25 7).toInt from by first | assumption | omega), (show b.toInt = (I 31 9).toInt from by first | assumption | omega | rfl), (show 0 ≤ z179.toInt from by first | assumption | omega), (show z179.toInt ≤ (I 27 p.toInt.toNat).toInt from by first | assumption | omega), (show I169 37 = I 37 from by first | assumption | omega | rfl), (show (I169 31 9).toInt = (I 31 9).toInt from by first | assumption | omega | rfl), (show (∀ j : Nat, (j : Int) < p.toInt → I169 28 j = I 28 j) from by first | assumption | omega | exact fun _ _ => rfl | exact fun _ _ => ⟨rfl, rfl⟩ | exact fun _ _ => ⟨rfl, rfl, rfl⟩ | (intro j9 hj9; omega)), (by first | assumption | exact Or.inl rfl | exact Or.inr rfl | (intro h; cases h)), (show ((I 27 p.toInt.toNat).toInt - z179.toInt) < n74 from by omega)⟩
                · intro h174
                  have h174 : ¬ x158.toInt = 0 := h174
                  have r178_8 : 0 ≤ (I169 31 9).toInt ∧ (I169 31 9).toInt ≤ 20 := c169_0 31 9
                  exact ⟨Or.inr rfl, c169_0, hxO169, hxT169, hF169, hG158, (show I169 37 = I 37 from by first | assumption | omega | rfl), (show (I169 31 9).toInt = (I 31 9).toInt from by first | assumption | omega | rfl), (show (∀ j : Nat, (j : Int) < p.toInt → I169 28 j = I 28 j) from by first | assumption | omega | rfl | exact fun _ _ => rfl | exact fun _ _ => ⟨rfl, rfl⟩ | exact fun _ _ => ⟨rfl, rfl, rfl⟩ | (intro j9 hj9; omega)), (show ((Value.ref 69) = Value.ref 69 → xK I169 L158) from by first | assumption | omega | rfl), (show ((1 : Int) = 0 ∨ (1 : Int) = 1) from by first | assumption | omega | rfl)⟩
      refine f_wp_ok C f_cl flX10_ok fiX10_ok fjX10_ok (sn := none) (fun j h => by cases h) (cs := (f_cnl [(98, (3, 0, 7, pX7_lay, qX7_lay)), (101, (1, 3, 7, pX7_isFlat, qX7_isFlat)), (105, (3, 3, 7, (pX7_tieFrom 21), qX7_tieFrom)), (109, (2, 0, 7, pX7_liftTo, qX7_liftTo)), (89, (3, 3, 9, pX10_canComeOutEven, qX10_canComeOutEven)), (93, (4, 3, 9, (pX10_pick d), qX10_pick))])) (cz := (f_cnl [(112, (1, 1, 3, pX3_sizeOf, qX3_sizeOf))])) (f_cnl_of (P := fun j S => f_cok pP l eP (f_rm (d + 1 + 25)) sP mP aP bP hP9 cP xY 80 a cy dC dI 11 _ _ (.invokevirtual j) true S) (List.forall_mem_cons.mpr ⟨f_cokV C (mX7_lay hinj) (ci := 7) rfl (List.forall_mem_cons.mpr ⟨(mlX10_ok _ (List.mem_of_getElem? (i := 8) rfl)), kc_X7_lay⟩) (by decide +kernel) ⟨by simp only [f_rm]; omega, by simp only [f_rm]; omega⟩, List.forall_mem_cons.mpr ⟨f_cokV C (mX7_isFlat hinj) (ci := 7) rfl (List.forall_mem_cons.mpr ⟨(mlX10_ok _ (List.mem_of_getElem? (i := 9) rfl)), kc_X7_isFlat⟩) (by decide +kernel) ⟨by simp only [f_rm]; omega, by simp only [f_rm]; omega⟩, List.forall_mem_cons.mpr ⟨f_cokV C (mX7_tieFrom hinj 21) (ci := 7) rfl (List.forall_mem_cons.mpr ⟨(mlX10_ok _ (List.mem_of_getElem? (i := 10) rfl)), kc_X7_tieFrom⟩) (by decide +kernel) ⟨by simp only [f_rm]; omega, by simp only [f_rm]; omega⟩, List.forall_mem_cons.mpr ⟨f_cokV C (mX7_liftTo hinj) (ci := 7) rfl (List.forall_mem_cons.mpr ⟨(mlX10_ok _ (List.mem_of_getElem? (i := 11) rfl)), kc_X7_liftTo⟩) (by decide +kernel) ⟨by simp only [f_rm]; omega, by simp only [f_rm]; omega⟩, List.forall_mem_cons.mpr ⟨f_cokV C (mX10_canComeOutEven hinj) (ci := 9) rfl (List.forall_mem_cons.mpr ⟨(mlX10_ok _ (List.mem_of_getElem? (i := 6) rfl)), kc_X10_canComeOutEven⟩) (by decide +kernel) ⟨by simp only [f_rm]; omega, by simp only [f_rm]; omega⟩, List.forall_mem_cons.mpr ⟨f_cokV C ih (ci := 9) rfl (List.forall_mem_cons.mpr ⟨(mlX10_ok _ (List.mem_of_getElem? (i := 7) rfl)), kc_X10_pick⟩) (by decide +kernel) ⟨by simp only [f_rm]; omega, by simp only [f_rm]; omega⟩, fun _ h => absurd h List.not_mem_nil⟩⟩⟩⟩⟩⟩)) (f_cnl_of (P := fun j S => f_cok pP l eP (f_rm (d + 1 + 25)) sP mP aP bP hP9 cP xY 80 a cy dC dI 11 _ _ (.invokestatic j) false S) (List.forall_mem_cons.mpr ⟨f_cokS C (mX3_sizeOf hinj) (List.forall_mem_cons.mpr ⟨(mlX10_ok _ (List.mem_of_getElem? (i := 12) rfl)), kc_X3_sizeOf⟩) (by decide +kernel) ⟨by simp only [f_rm]; omega, by simp only [f_rm]; omega⟩, fun _ h => absurd h List.not_mem_nil⟩)) tX10_pick_ok (cut := (f_cnl [(74, (fun (ls' : fLs) (st' : List Value) (I' : fM) (L' : fN) => ∃ b : Int32, ∃ t : Int32, (∀ q ∈ ([(6, .int t), (5, .int b), (4, .ref 69), (2, .long sm), (1, .int p), (0, .ref 25)] : fLs), q ∈ ls') ∧ st' = [] ∧ (xR I' ∧ f_fr [28, 31, 32, 33, 34, 35, 36, 37, 38, 39, 69] I I' ∧ f_fr [70] L L' ∧ xO I' ∧ xT I' ∧ (p.toInt < (I 25 7).toInt) ∧ (b.toInt = (I 31 9).toInt) ∧ (0 ≤ t.toInt) ∧ (t.toInt ≤ (I 27 p.toInt.toNat).toInt) ∧ (I' 37 = I 37) ∧ ((I' 31 9).toInt = (I 31 9).toInt) ∧ ((∀ j : Nat, (j : Int) < p.toInt → I' 28 j = I 28 j)) ∧ (((Value.ref 69) = Value.ref 69 → xK I' L')) ∧ ((I 27 p.toInt.toNat).toInt - t.toInt) < 4)))])) (f_cnl_of (P := fun (tQ : Nat) (P : fLs → List Value → fM → fN → Prop) => ∀ ls' st' I' L', P ls' st' I' L' → f_W pP l eP (f_rm (d + 1 + 25)) sP mP aP bP hP9 cP xY 80 a cy dC dI 11 (f_K 3 (qX10_pick [.ref 25, .int p, .long sm, .ref 69] I L)) tQ ls' st' I' L') (List.forall_mem_cons.mpr ⟨(fun ls' st' I' L' h => by obtain ⟨b, t, hs, e1, h9⟩ := h; rw [e1]; exact f_W_sub hs (lp74 4 b t I' L' h9)), fun _ h => absurd h List.not_mem_nil⟩)) 36 0 tX10_pick tX10_pick_ok _ _ _ _ ?_
      have r4_1 : 0 ≤ (I 31 9).toInt ∧ (I 31 9).toInt ≤ 20 := hR 31 9
      have r11_2 : 0 ≤ (I 25 7).toInt ∧ (I 25 7).toInt ≤ 8 := hR 25 7
      apply And.intro
      · intro h14
        have h14 : p.toInt < (I 25 7).toInt := h14
        have q71 : (Value.ref 69) = Value.ref 69 → xK I L := fun h => (p9 h).2
        have r74_3 : 0 ≤ (I 27 (p.toInt.toNat)).toInt ∧ (I 27 (p.toInt.toNat)).toInt ≤ 3 := hR 27 (p.toInt.toNat)
        exact ⟨I 31 9, Int32.ofInt 0, (by intro q9 h9; simp only [List.mem_cons, List.not_mem_nil, or_false] at h9; rcases h9 with h9 | h9 | h9 | h9 | h9 | h9 <;> subst h9 <;> repeat (first | exact List.mem_cons_self | apply List.mem_cons_of_mem)), rfl, hR, hF0, hG0, hxO, hxT, (show p.toInt < (I 25 7).toInt from by first | assumption | omega), (show (I 31 9).toInt = (I 31 9).toInt from by first | assumption | omega | rfl), (show 0 ≤ (0 : Int) from by first | assumption | omega), (show (0 : Int) ≤ (I 27 p.toInt.toNat).toInt from by first | assumption | omega), (show I 37 = I 37 from by first | assumption | omega | rfl), (show (I 31 9).toInt = (I 31 9).toInt from by first | assumption | omega | rfl), (show (∀ j : Nat, (j : Int) < p.toInt → I 28 j = I 28 j) from by first | assumption | omega | exact fun _ _ => rfl | exact fun _ _ => ⟨rfl, rfl⟩ | exact fun _ _ => ⟨rfl, rfl, rfl⟩ | (intro j9 hj9; omega)), (by first | assumption | exact Or.inl rfl | exact Or.inr rfl | (intro h; cases h)), (show ((I 27 p.toInt.toNat).toInt - (0 : Int)) < 4 from by omega)⟩
      · intro h14
        have h14 : (I 25 7).toInt ≤ p.toInt := h14
        have r22_3 : 0 ≤ (I 25 8).toInt ∧ (I 25 8).toInt ≤ 52 := hR 25 8
        refine And.intro ⟨hR, hxO, (show 0 ≤ (I 25 8).toInt from by first | assumption | omega), (show (I 25 8).toInt ≤ 52 from by first | assumption | omega), (show -1 ≤ (-1 : Int) from by first | assumption | omega), (show (-1 : Int) ≤ 7 from by first | assumption | omega)⟩ ?_
        intro I26 L26 hq26
        have hq26 : xR I26 ∧ f_fr [31, 32, 33, 34, 35, 36, 38, 39] I I26 ∧ L26 = L ∧ (I26 31 9).toInt = lcn (I 31 9).toInt (I 16 (I 25 8).toInt.toNat).toInt ∧ ((sn (I 33) (I 34) (I 35) (I 31 9).toInt → sn (I26 33) (I26 34) (I26 35) (I26 31 9).toInt)) := hq26
        obtain ⟨c26_0, c26_1, eL26, c26_3, c26_4⟩ := hq26
        replace eL26 := eL26.symm
        subst eL26
        have hxO26 := f_dep_fr xO_dep hxO c26_1 rfl
        have hxT26 := f_dep_fr xT_dep hxT c26_1 rfl
        have hF26 := f_fr_tr hF0 c26_1 rfl
        have g26 : (Value.ref 69) = Value.ref 69 → xK I26 L := fun h => xK_cells (c26_1 16 rfl) (c26_1 25 rfl) (c26_1 26 rfl) (c26_1 27 rfl) (c26_1 69 rfl) (p9 h).2
        refine And.intro c26_0 ?_
        intro x33 I33 L33 hq33
        have hq33 : I33 = I26 ∧ L33 = L ∧ ((x33.toInt = 0 ∨ x33.toInt = 1)) := hq33
        obtain ⟨eI33, eL33, c33_2⟩ := hq33
        replace eI33 := eI33.symm
        subst eI33
        replace eL33 := eL33.symm
        subst eL33
        apply And.intro
        · intro h36
          have h36 : x33.toInt = 0 := h36
          refine And.intro ⟨c26_0, (show 0 ≤ (I 31 9).toInt from by first | assumption | omega), (show (I 31 9).toInt ≤ 20 from by first | assumption | omega)⟩ ?_
          intro I65 L65 hq65
          have hq65 : xR I65 ∧ f_fr [31, 38] I26 I65 ∧ L65 = L ∧ I65 31 9 = (I 31 9) := hq65
          obtain ⟨c65_0, c65_1, eL65, c65_3⟩ := hq65
          replace eL65 := eL65.symm
          subst eL65
          have hxO65 := f_dep_fr xO_dep hxO26 c65_1 rfl
          have hxT65 := f_dep_fr xT_dep hxT26 c65_1 rfl
          have hF65 := f_fr_tr hF26 c65_1 rfl
          exact ⟨Or.inl rfl, c65_0, hxO65, hxT65, hF65, hG0, (by first | exact (c65_1 37 rfl).trans (c46_3.trans (c26_1 37 rfl)) | exact (c65_1 37 rfl).trans (c26_1 37 rfl)), (congrArg Int32.toInt c65_3), (fun j _ => by first | rw [c65_1 28 rfl, c46_1 28 rfl, c26_1 28 rfl] | rw [c65_1 28 rfl, c26_1 28 rfl]), (fun h => by first | exact xK_cells (c65_1 16 rfl) (c65_1 25 rfl) (c65_1 26 rfl) (c65_1 27 rfl) (c65_1 69 rfl) (c46_4 h) | exact xK_cells (c65_1 16 rfl) (c65_1 25 rfl) (c65_1 26 rfl) (c65_1 27 rfl) (c65_1 69 rfl) (g26 h)), (show ((0 : Int) = 0 ∨ (0 : Int) = 1) from by first | assumption | omega | rfl)⟩
        · intro h36
          have h36 : ¬ x33.toInt = 0 := h36
          have r46_4 : 0 ≤ (I26 31 9).toInt ∧ (I26 31 9).toInt ≤ 20 := c26_0 31 9
          refine And.intro ⟨(dpos_of (by omega)), c26_0, (by first | assumption | exact Or.inl rfl | exact Or.inr rfl | (intro h; cases h)), (show 0 ≤ (0 : Int) from by first | assumption | omega), (show (0 : Int) ≤ (I26 31 9).toInt from by first | assumption | omega), (show (I26 31 9).toInt - (0 : Int) < 21 from by first | assumption | omega), (pinv_none (by rw [c26_1 37 rfl]; exact p8) (c26_0 31 9).2), (show ptd (I26 37) (0 : Int) from fun e he => by omega), (fun h => ⟨kc_of (p9 h).1 (by omega) (c26_1 16 rfl) (c26_1 25 rfl) (c26_1 26 rfl) (c26_1 27 rfl) (c26_1 28 rfl) c26_3, g26 h⟩)⟩ ?_
          intro x46 I46 L46 hq46
          have hq46 : xR I46 ∧ f_fr [37, 69] I26 I46 ∧ f_fr [70] L L46 ∧ I46 37 = I26 37 ∧ (((Value.ref 69) = Value.ref 69 → xK I46 L46)) ∧ ((x46.toInt = 0 ∨ x46.toInt = 1)) := hq46
          obtain ⟨c46_0, c46_1, c46_2, c46_3, c46_4, c46_5⟩ := hq46
          have hxO46 := f_dep_fr xO_dep hxO26 c46_1 rfl
          have hxT46 := f_dep_fr xT_dep hxT26 c46_1 rfl
          have hF46 := f_fr_tr hF26 c46_1 rfl
          have hG46 := f_fr_tr hG0 c46_2 rfl
          apply And.intro
          · intro h49
            have h49 : x46.toInt = 0 := h49
            refine And.intro ⟨c46_0, (show 0 ≤ (I 31 9).toInt from by first | assumption | omega), (show (I 31 9).toInt ≤ 20 from by first | assumption | omega)⟩ ?_
            intro I65 L65 hq65
            have hq65 : xR I65 ∧ f_fr [31, 38] I46 I65 ∧ L65 = L46 ∧ I65 31 9 = (I 31 9) := hq65
            obtain ⟨c65_0, c65_1, eL65, c65_3⟩ := hq65
            replace eL65 := eL65.symm
            subst eL65
            have hxO65 := f_dep_fr xO_dep hxO46 c65_1 rfl
            have hxT65 := f_dep_fr xT_dep hxT46 c65_1 rfl
            have hF65 := f_fr_tr hF46 c65_1 rfl
            exact ⟨Or.inl rfl, c65_0, hxO65, hxT65, hF65, hG46, (by first | exact (c65_1 37 rfl).trans (c46_3.trans (c26_1 37 rfl)) | exact (c65_1 37 rfl).trans (c26_1 37 rfl)), (congrArg Int32.toInt c65_3), (fun j _ => by first | rw [c65_1 28 rfl, c46_1 28 rfl, c26_1 28 rfl] | rw [c65_1 28 rfl, c26_1 28 rfl]), (fun h => by first | exact xK_cells (c65_1 16 rfl) (c65_1 25 rfl) (c65_1 26 rfl) (c65_1 27 rfl) (c65_1 69 rfl) (c46_4 h) | exact xK_cells (c65_1 16 rfl) (c65_1 25 rfl) (c65_1 26 rfl) (c65_1 27 rfl) (c65_1 69 rfl) (g26 h)), (show ((0 : Int) = 0 ∨ (0 : Int) = 1) from by first | assumption | omega | rfl)⟩
          · intro h49
            have h49 : ¬ x46.toInt = 0 := h49
            refine And.intro ⟨c46_0, (show 0 ≤ (I 31 9).toInt from by first | assumption | omega), (show (I 31 9).toInt ≤ 20 from by first | assumption | omega)⟩ ?_
            intro I65 L65 hq65
            have hq65 : xR I65 ∧ f_fr [31, 38] I46 I65 ∧ L65 = L46 ∧ I65 31 9 = (I 31 9) := hq65
            obtain ⟨c65_0, c65_1, eL65, c65_3⟩ := hq65
            replace eL65 := eL65.symm
            subst eL65
            have hxO65 := f_dep_fr xO_dep hxO46 c65_1 rfl
            have hxT65 := f_dep_fr xT_dep hxT46 c65_1 rfl
            have hF65 := f_fr_tr hF46 c65_1 rfl
            exact ⟨Or.inr rfl, c65_0, hxO65, hxT65, hF65, hG46, (by first | exact (c65_1 37 rfl).trans (c46_3.trans (c26_1 37 rfl)) | exact (c65_1 37 rfl).trans (c26_1 37 rfl)), (congrArg Int32.toInt c65_3), (fun j _ => by first | rw [c65_1 28 rfl, c46_1 28 rfl, c26_1 28 rfl] | rw [c65_1 28 rfl, c26_1 28 rfl]), (fun h => by first | exact xK_cells (c65_1 16 rfl) (c65_1 25 rfl) (c65_1 26 rfl) (c65_1 27 rfl) (c65_1 69 rfl) (c46_4 h) | exact xK_cells (c65_1 16 rfl) (c65_1 25 rfl) (c65_1 26 rfl) (c65_1 27 rfl) (c65_1 69 rfl) (g26 h)), (show ((1 : Int) = 0 ∨ (1 : Int) = 1) from by first | assumption | omega | rfl)⟩
    -- pat [.ref 25, .int p, .long sm, kp]
-- callers take X10_pick at depth 9
/-- no end lies there, none is tied -/
def xS (I : fM) : Prop := pnone (I 37) ∧ (I 31 9).toInt = 0
-- @inv xS [31, 37]
theorem xS_dep : ∀ I I' : fM, (∀ k, [31, 37].contains k = true → I' k = I k) → xS I → xS I' := by
  intro I I' h hS
  unfold xS
  rw [h 31 rfl, h 37 rfl]
  exact hS
def tX10_search : List (Instr × Nat) := [(.aload_n 0, 1), (.getfield 43, 3), (.ifCond .eq 18, 3), (.aload_n 0, 1), (.getfield 30, 3), (.getfield 80, 3), (.aload_n 0, 1), (.getfield 47, 3), (.iaload, 1), (.ifCond .ne 5, 3), (.iconst 0, 1), (.ireturn, 1), (.aload_n 0, 1), (.invokevirtual 83, 3), (.aload_n 0, 1), (.getfield 30, 3), (.getfield 86, 3), (.aload_n 0, 1), (.getfield 47, 3), (.laload, 1), (.lstore_n 2, 1), (.aload_n 0, 1), (.iconst 0, 1), (.lload_n 2, 1), (.invokevirtual 89, 3), (.ifCond .eq 17, 3), (.aload_n 0, 1), (.iconst 0, 1), (.lload_n 2, 1), (.aload_n 1, 1), (.invokevirtual 93, 3), (.ifCond .eq 7, 3), (.iconst 1, 1), (.goto 4, 3), (.iconst 0, 1), (.ireturn, 1)]
theorem tX10_search_ok : f_chk cX10_search 0 tX10_search = true := by decide +kernel
def pX10_search (av : List Value) (I : fM) (L : fN) : Prop := match av with
  | [.ref 25, kp] => xR I ∧ xO I ∧ xT I ∧ xS I ∧ (kp = Value.null ∨ kp = Value.ref 69) ∧ (kp = Value.ref 69 → xK I L)
  | _ => False
def qX10_search (av : List Value) (I : fM) (L : fN) (r : Value) (I' : fM) (L' : fN) : Prop := match av, r with
  | [.ref 25, kp], .int x => xR I' ∧ xO I' ∧ xT I' ∧ xS I' ∧ f_fr [28, 31, 32, 33, 34, 35, 36, 37, 38, 39, 69] I I' ∧ f_fr [29, 30, 70] L L' ∧ (kp = Value.ref 69 → xK I' L') ∧ (I' 69 = I 69 ∨ 0 < (I 16 (I 25 8).toInt.toNat).toInt) ∧ (x.toInt = 0 ∨ x.toInt = 1)
  | _, _ => False
set_option maxHeartbeats 4000000 in
set_option maxRecDepth 100000 in
theorem mX10_search {l : Launch} {a : Nat → Nat} {cy dC : Nat → ClassId} {dI : Nat → Nat → Nat} (hinj : ∀ i j, i < 80 → j < 80 → a i = a j → i = j) : f_Met (xE a) l xY 80 a cy dC dI yX10_search cX10_search 4 3 35 pX10_search qX10_search := by
  refine f_met_of (xE_c a) hinj xY_hi (by decide) (fun av I L h => by unfold pX10_search at h; split at h <;> first | (rcases h.2.2.2.2.1 with rfl | rfl <;> exact Nat.le_of_ble_eq_true rfl) | exact Nat.le_of_ble_eq_true rfl | exact h.elim) ?_
  intro pP eP sP mP aP bP hP9 cP C av I L hp
  unfold pX10_search at hp
  split at hp
  case h_2 => exact hp.elim
  case h_1 kp =>
    obtain ⟨hR, hxO, hxT, hxS, p4, p5⟩ := hp
    rcases p4 with rfl | rfl
    -- pat [.ref 25, .null]
    · skip
      have hR : xR I := hR
      have hxO : xO I := hxO
      have hxT : xT I := hxT
      have hxS : xS I := hxS
      have p5 : (Value.null = Value.ref 69 → xK I L) := p5
      have hc8 : 0 ≤ (I 25 7).toInt ∧ (I 25 7).toInt ≤ 8 := hR 25 7
      have hF0 : f_fr [28, 31, 32, 33, 34, 35, 36, 37, 38, 39, 69] I I := f_fr_rf
      have hG0 : f_fr [29, 30, 70] L L := f_fr_rf
      refine f_wp_ok C f_cl flX10_ok fiX10_ok fjX10_ok (sn := none) (fun j h => by cases h) (cs := (f_cnl [(83, (1, 0, 9, pX10_measure, qX10_measure)), (89, (3, 3, 9, pX10_canComeOutEven, qX10_canComeOutEven)), (93, (4, 3, 9, (pX10_pick 9), qX10_pick))])) (cz := (fun _ => none)) (f_cnl_of (P := fun j S => f_cok pP l eP (f_rm 35) sP mP aP bP hP9 cP xY 80 a cy dC dI 4 _ _ (.invokevirtual j) true S) (List.forall_mem_cons.mpr ⟨f_cokV C (mX10_measure hinj) (ci := 9) rfl (List.forall_mem_cons.mpr ⟨(mlX10_ok _ (List.mem_of_getElem? (i := 5) rfl)), kc_X10_measure⟩) (by decide +kernel) ⟨Nat.le_of_ble_eq_true rfl, Nat.le_of_ble_eq_true rfl⟩, List.forall_mem_cons.mpr ⟨f_cokV C (mX10_canComeOutEven hinj) (ci := 9) rfl (List.forall_mem_cons.mpr ⟨(mlX10_ok _ (List.mem_of_getElem? (i := 6) rfl)), kc_X10_canComeOutEven⟩) (by decide +kernel) ⟨Nat.le_of_ble_eq_true rfl, Nat.le_of_ble_eq_true rfl⟩, List.forall_mem_cons.mpr ⟨f_cokV C (mX10_pick hinj 9) (ci := 9) rfl (List.forall_mem_cons.mpr ⟨(mlX10_ok _ (List.mem_of_getElem? (i := 7) rfl)), kc_X10_pick⟩) (by decide +kernel) ⟨Nat.le_of_ble_eq_true rfl, Nat.le_of_ble_eq_true rfl⟩, fun _ h => absurd h List.not_mem_nil⟩⟩⟩)) (fun j S h => by cases h) tX10_search_ok (cut := (fun _ => none)) (fun t P h => by cases h) 36 0 tX10_search tX10_search_ok _ _ _ _ ?_
      have r1_1 : 0 ≤ (I 25 7).toInt ∧ (I 25 7).toInt ≤ 8 := hR 25 7
      apply And.intro
      · intro h4
        have h4 : (I 25 7).toInt = 0 := h4
        exact ⟨Or.inl rfl, hR, hxO, hxT, hxS, hF0, hG0, (by first | exact c54_8 | exact k25 | exact p5), (Or.inl rfl), (show ((0 : Int) = 0 ∨ (0 : Int) = 1) from by first | assumption | omega | rfl)⟩
      · intro h4
        have h4 : ¬ (I 25 7).toInt = 0 := h4
        have r15_2 : 0 ≤ (I 25 8).toInt ∧ (I 25 8).toInt ≤ 52 := hR 25 8
        refine And.intro (show f_in (I 25 8) 53 from ⟨show 0 ≤ (I 25 8).toInt from by omega, show (I 25 8).toInt < 53 from by omega⟩) ?_
        have r18_3 : 0 ≤ (I 16 ((I 25 8).toInt.toNat)).toInt ∧ (I 16 ((I 25 8).toInt.toNat)).toInt ≤ 4 := hR 16 ((I 25 8).toInt.toNat)
        apply And.intro
        · intro h19
          have h19 : ¬ (I 16 ((I 25 8).toInt.toNat)).toInt = 0 := h19
          refine And.intro hR ?_
          intro I25 L25 hq25
          have hq25 : I25 = I ∧ f_fr [29, 30] L L25 := hq25
          obtain ⟨eI25, c25_1⟩ := hq25
          replace eI25 := eI25.symm
          subst eI25
          have hG25 := f_fr_tr hG0 c25_1 rfl
          have k25 : Value.null = Value.ref 69 → xK I L25 := fun h => xK_L (c25_1 70 rfl) (p5 h)
          refine And.intro (show f_in (I 25 8) 53 from ⟨show 0 ≤ (I 25 8).toInt from by omega, show (I 25 8).toInt < 53 from by omega⟩) ?_
          refine And.intro ⟨(show 0 ≤ (0 : Int) from by first | assumption | omega), (show (0 : Int) ≤ 8 from by first | assumption | omega)⟩ ?_
          intro x44 I44 L44 hq44
          have hq44 : I44 = I ∧ L44 = L25 ∧ ((x44.toInt = 0 ∨ x44.toInt = 1)) := hq44
          obtain ⟨eI44, eL44, c44_2⟩ := hq44
          replace eI44 := eI44.symm
          subst eI44
          replace eL44 := eL44.symm
          subst eL44
          apply And.intro
          · intro h47
            have h47 : x44.toInt = 0 := h47
            exact ⟨Or.inl rfl, hR, hxO, hxT, hxS, hF0, hG25, (by first | exact c54_8 | exact k25 | exact p5), (Or.inr (by omega)), (show ((0 : Int) = 0 ∨ (0 : Int) = 1) from by first | assumption | omega | rfl)⟩
          · intro h47
            have h47 : ¬ x44.toInt = 0 := h47
            refine And.intro ⟨(dpos_of (by omega)), hR, hxO, hxT, (by first | assumption | exact Or.inl rfl | exact Or.inr rfl | (intro h; cases h)), (show 0 ≤ (0 : Int) from by first | assumption | omega), (show (0 : Int) ≤ (I 25 7).toInt from by first | assumption | omega), (show (I 25 7).toInt - (0 : Int) < 9 from by first | assumption | omega), hxS.1, (fun h => ⟨⟨fun q hq => by have hq : (q : Int) < 0 := hq; omega, by rw [hxS.2]; rfl⟩, k25 h⟩)⟩ ?_
            intro x54 I54 L54 hq54
            have hq54 : xR I54 ∧ xO I54 ∧ xT I54 ∧ f_fr [28, 31, 32, 33, 34, 35, 36, 37, 38, 39, 69] I I54 ∧ f_fr [70] L25 L54 ∧ I54 37 = I 37 ∧ (I54 31 9).toInt = (I 31 9).toInt ∧ ((∀ j : Nat, (j : Int) < (0 : Int) → I54 28 j = I 28 j)) ∧ (((Value.null) = Value.ref 69 → xK I54 L54)) ∧ ((x54.toInt = 0 ∨ x54.toInt = 1)) := hq54
            obtain ⟨c54_0, c54_1, c54_2, c54_3, c54_4, c54_5, c54_6, c54_7, c54_8, c54_9⟩ := hq54
            have hF54 := f_fr_tr hF0 c54_3 rfl
            have hG54 := f_fr_tr hG25 c54_4 rfl
            have hxS54 : xS I54 := ⟨by rw [c54_5]; exact hxS.1, by rw [c54_6]; exact hxS.2⟩
            apply And.intro
            · intro h57
              have h57 : x54.toInt = 0 := h57
              exact ⟨Or.inl rfl, c54_0, c54_1, c54_2, hxS54, hF54, hG54, (by first | exact c54_8 | exact k25 | exact p5), (Or.inr (by omega)), (show ((0 : Int) = 0 ∨ (0 : Int) = 1) from by first | assumption | omega | rfl)⟩
            · intro h57
              have h57 : ¬ x54.toInt = 0 := h57
              exact ⟨Or.inr rfl, c54_0, c54_1, c54_2, hxS54, hF54, hG54, (by first | exact c54_8 | exact k25 | exact p5), (Or.inr (by omega)), (show ((1 : Int) = 0 ∨ (1 : Int) = 1) from by first | assumption | omega | rfl)⟩
        · intro h19
          have h19 : (I 16 ((I 25 8).toInt.toNat)).toInt = 0 := h19
          exact ⟨Or.inl rfl, hR, hxO, hxT, hxS, hF0, hG0, (by first | exact c54_8 | exact k25 | exact p5), (Or.inl rfl), (show ((0 : Int) = 0 ∨ (0 : Int) = 1) from by first | assumption | omega | rfl)⟩
    -- pat [.ref 25, .ref 69]
    · skip
      have hR : xR I := hR
      have hxO : xO I := hxO
      have hxT : xT I := hxT
      have hxS : xS I := hxS
      have p5 : ((Value.ref 69) = Value.ref 69 → xK I L) := p5
      have hc8 : 0 ≤ (I 25 7).toInt ∧ (I 25 7).toInt ≤ 8 := hR 25 7
      have hF0 : f_fr [28, 31, 32, 33, 34, 35, 36, 37, 38, 39, 69] I I := f_fr_rf
      have hG0 : f_fr [29, 30, 70] L L := f_fr_rf
      refine f_wp_ok C f_cl flX10_ok fiX10_ok fjX10_ok (sn := none) (fun j h => by cases h) (cs := (f_cnl [(83, (1, 0, 9, pX10_measure, qX10_measure)), (89, (3, 3, 9, pX10_canComeOutEven, qX10_canComeOutEven)), (93, (4, 3, 9, (pX10_pick 9), qX10_pick))])) (cz := (fun _ => none)) (f_cnl_of (P := fun j S => f_cok pP l eP (f_rm 35) sP mP aP bP hP9 cP xY 80 a cy dC dI 4 _ _ (.invokevirtual j) true S) (List.forall_mem_cons.mpr ⟨f_cokV C (mX10_measure hinj) (ci := 9) rfl (List.forall_mem_cons.mpr ⟨(mlX10_ok _ (List.mem_of_getElem? (i := 5) rfl)), kc_X10_measure⟩) (by decide +kernel) ⟨Nat.le_of_ble_eq_true rfl, Nat.le_of_ble_eq_true rfl⟩, List.forall_mem_cons.mpr ⟨f_cokV C (mX10_canComeOutEven hinj) (ci := 9) rfl (List.forall_mem_cons.mpr ⟨(mlX10_ok _ (List.mem_of_getElem? (i := 6) rfl)), kc_X10_canComeOutEven⟩) (by decide +kernel) ⟨Nat.le_of_ble_eq_true rfl, Nat.le_of_ble_eq_true rfl⟩, List.forall_mem_cons.mpr ⟨f_cokV C (mX10_pick hinj 9) (ci := 9) rfl (List.forall_mem_cons.mpr ⟨(mlX10_ok _ (List.mem_of_getElem? (i := 7) rfl)), kc_X10_pick⟩) (by decide +kernel) ⟨Nat.le_of_ble_eq_true rfl, Nat.le_of_ble_eq_true rfl⟩, fun _ h => absurd h List.not_mem_nil⟩⟩⟩)) (fun j S h => by cases h) tX10_search_ok (cut := (fun _ => none)) (fun t P h => by cases h) 36 0 tX10_search tX10_search_ok _ _ _ _ ?_
      have r1_1 : 0 ≤ (I 25 7).toInt ∧ (I 25 7).toInt ≤ 8 := hR 25 7
      apply And.intro
      · intro h4
        have h4 : (I 25 7).toInt = 0 := h4
        exact ⟨Or.inl rfl, hR, hxO, hxT, hxS, hF0, hG0, (by first | exact c54_8 | exact k25 | exact p5), (Or.inl rfl), (show ((0 : Int) = 0 ∨ (0 : Int) = 1) from by first | assumption | omega | rfl)⟩
      · intro h4
        have h4 : ¬ (I 25 7).toInt = 0 := h4
        have r15_2 : 0 ≤ (I 25 8).toInt ∧ (I 25 8).toInt ≤ 52 := hR 25 8
        refine And.intro (show f_in (I 25 8) 53 from ⟨show 0 ≤ (I 25 8).toInt from by omega, show (I 25 8).toInt < 53 from by omega⟩) ?_
        have r18_3 : 0 ≤ (I 16 ((I 25 8).toInt.toNat)).toInt ∧ (I 16 ((I 25 8).toInt.toNat)).toInt ≤ 4 := hR 16 ((I 25 8).toInt.toNat)
        apply And.intro
        · intro h19
          have h19 : ¬ (I 16 ((I 25 8).toInt.toNat)).toInt = 0 := h19
          refine And.intro hR ?_
          intro I25 L25 hq25
          have hq25 : I25 = I ∧ f_fr [29, 30] L L25 := hq25
          obtain ⟨eI25, c25_1⟩ := hq25
          replace eI25 := eI25.symm
          subst eI25
          have hG25 := f_fr_tr hG0 c25_1 rfl
          have k25 : (Value.ref 69) = Value.ref 69 → xK I L25 := fun h => xK_L (c25_1 70 rfl) (p5 h)
          refine And.intro (show f_in (I 25 8) 53 from ⟨show 0 ≤ (I 25 8).toInt from by omega, show (I 25 8).toInt < 53 from by omega⟩) ?_
          refine And.intro ⟨(show 0 ≤ (0 : Int) from by first | assumption | omega), (show (0 : Int) ≤ 8 from by first | assumption | omega)⟩ ?_
          intro x44 I44 L44 hq44
          have hq44 : I44 = I ∧ L44 = L25 ∧ ((x44.toInt = 0 ∨ x44.toInt = 1)) := hq44
          obtain ⟨eI44, eL44, c44_2⟩ := hq44
          replace eI44 := eI44.symm
          subst eI44
          replace eL44 := eL44.symm
          subst eL44
          apply And.intro
          · intro h47
            have h47 : x44.toInt = 0 := h47
            exact ⟨Or.inl rfl, hR, hxO, hxT, hxS, hF0, hG25, (by first | exact c54_8 | exact k25 | exact p5), (Or.inr (by omega)), (show ((0 : Int) = 0 ∨ (0 : Int) = 1) from by first | assumption | omega | rfl)⟩
          · intro h47
            have h47 : ¬ x44.toInt = 0 := h47
            refine And.intro ⟨(dpos_of (by omega)), hR, hxO, hxT, (by first | assumption | exact Or.inl rfl | exact Or.inr rfl | (intro h; cases h)), (show 0 ≤ (0 : Int) from by first | assumption | omega), (show (0 : Int) ≤ (I 25 7).toInt from by first | assumption | omega), (show (I 25 7).toInt - (0 : Int) < 9 from by first | assumption | omega), hxS.1, (fun h => ⟨⟨fun q hq => by have hq : (q : Int) < 0 := hq; omega, by rw [hxS.2]; rfl⟩, k25 h⟩)⟩ ?_
            intro x54 I54 L54 hq54
            have hq54 : xR I54 ∧ xO I54 ∧ xT I54 ∧ f_fr [28, 31, 32, 33, 34, 35, 36, 37, 38, 39, 69] I I54 ∧ f_fr [70] L25 L54 ∧ I54 37 = I 37 ∧ (I54 31 9).toInt = (I 31 9).toInt ∧ ((∀ j : Nat, (j : Int) < (0 : Int) → I54 28 j = I 28 j)) ∧ (((Value.ref 69) = Value.ref 69 → xK I54 L54)) ∧ ((x54.toInt = 0 ∨ x54.toInt = 1)) := hq54
            obtain ⟨c54_0, c54_1, c54_2, c54_3, c54_4, c54_5, c54_6, c54_7, c54_8, c54_9⟩ := hq54
            have hF54 := f_fr_tr hF0 c54_3 rfl
            have hG54 := f_fr_tr hG25 c54_4 rfl
            have hxS54 : xS I54 := ⟨by rw [c54_5]; exact hxS.1, by rw [c54_6]; exact hxS.2⟩
            apply And.intro
            · intro h57
              have h57 : x54.toInt = 0 := h57
              exact ⟨Or.inl rfl, c54_0, c54_1, c54_2, hxS54, hF54, hG54, (by first | exact c54_8 | exact k25 | exact p5), (Or.inr (by omega)), (show ((0 : Int) = 0 ∨ (0 : Int) = 1) from by first | assumption | omega | rfl)⟩
            · intro h57
              have h57 : ¬ x54.toInt = 0 := h57
              exact ⟨Or.inr rfl, c54_0, c54_1, c54_2, hxS54, hF54, hG54, (by first | exact c54_8 | exact k25 | exact p5), (Or.inr (by omega)), (show ((1 : Int) = 0 ∨ (1 : Int) = 1) from by first | assumption | omega | rfl)⟩
        · intro h19
          have h19 : (I 16 ((I 25 8).toInt.toNat)).toInt = 0 := h19
          exact ⟨Or.inl rfl, hR, hxO, hxT, hxS, hF0, hG0, (by first | exact c54_8 | exact k25 | exact p5), (Or.inl rfl), (show ((0 : Int) = 0 ∨ (0 : Int) = 1) from by first | assumption | omega | rfl)⟩
    -- pat [.ref 25, kp]
def tX10_countFrom : List (Instr × Nat) := [(.aload_n 0, 1), (.iload_n 1, 1), (.lload_n 2, 1), (.invokevirtual 89, 3), (.ifCond .ne 5, 3), (.iconst 0, 1), (.ireturn, 1), (.iload_n 1, 1), (.aload_n 0, 1), (.getfield 43, 3), (.if_icmp .lt 5, 3), (.iconst 1, 1), (.ireturn, 1), (.iconst 0, 1), (.istore 5, 2), (.iconst 0, 1), (.istore 6, 2), (.iload 6, 2), (.aload_n 0, 1), (.getfield 17, 3), (.iload_n 1, 1), (.iaload, 1), (.if_icmp .ge 52, 3), (.iload 5, 2), (.iload 4, 2), (.if_icmp .ge 45, 3), (.iload 5, 2), (.aload_n 0, 1), (.iload_n 1, 1), (.iconst 1, 1), (.iadd, 1), (.lload_n 2, 1), (.aload_n 0, 1), (.getfield 30, 3), (.getfield 86, 3), (.aload_n 0, 1), (.getfield 13, 3), (.iload_n 1, 1), (.iaload, 1), (.iload 6, 2), (.iadd, 1), (.laload, 1), (.ladd, 1), (.iload 4, 2), (.iload 5, 2), (.isub, 1), (.invokevirtual 116, 3), (.iadd, 1), (.istore 5, 2), (.iinc 6 1, 3), (.goto (-57), 3), (.iload 5, 2), (.ireturn, 1)]
theorem tX10_countFrom_ok : f_chk cX10_countFrom 0 tX10_countFrom = true := by decide +kernel
def pX10_countFrom (d : Nat) (av : List Value) (I : fM) (L : fN) : Prop := match av with
  | [.ref 25, .int p, .long sm, .int m] => dpos d ∧ xR I ∧ xT I ∧ 0 ≤ p.toInt ∧ p.toInt ≤ (I 25 7).toInt ∧ (I 25 7).toInt - p.toInt < d
  | _ => False
def qX10_countFrom (av : List Value) (I : fM) (L : fN) (r : Value) (I' : fM) (L' : fN) : Prop := match av, r with
  | [.ref 25, .int p, .long sm, .int m], .int x => I' = I ∧ L' = L
  | _, _ => False
set_option maxHeartbeats 4000000 in
set_option maxRecDepth 100000 in
theorem mX10_countFrom {l : Launch} {a : Nat → Nat} {cy dC : Nat → ClassId} {dI : Nat → Nat → Nat} (hinj : ∀ i j, i < 80 → j < 80 → a i = a j → i = j) : ∀ d : Nat, f_Met (xE a) l xY 80 a cy dC dI yX10_countFrom cX10_countFrom 7 1 (d + 1) (pX10_countFrom d) qX10_countFrom := by
  intro d
  induction d with
  | zero =>
    intro av I L hp
    exfalso
    unfold pX10_countFrom at hp
    split at hp
    case h_2 => exact hp.elim
    case h_1 p sm m => exact hp.1.elim
  | succ d ih =>
  refine f_met_of (xE_c a) hinj xY_hi (by decide) (fun av I L h => by unfold pX10_countFrom at h; split at h <;> first | exact Nat.le_of_ble_eq_true rfl | exact h.elim) ?_
  intro pP eP sP mP aP bP hP9 cP C av I L hp
  unfold pX10_countFrom at hp
  split at hp
  case h_2 => exact hp.elim
  case h_1 p sm m =>
    obtain ⟨p0, hR, hxT, p3, p4, p5⟩ := hp
    have hc8 : 0 ≤ (I 25 7).toInt ∧ (I 25 7).toInt ≤ 8 := hR 25 7
    have hm : 0 ≤ (I 27 p.toInt.toNat).toInt ∧ (I 27 p.toInt.toNat).toInt ≤ 3 := hR 27 _
    have hT := hxT p.toInt.toNat
    have lp27 : ∀ (n27 : Nat), ∀ (f : Int32) (t : Int32), (p.toInt < (I 25 7).toInt) ∧ (0 ≤ t.toInt) ∧ (t.toInt ≤ (I 27 p.toInt.toNat).toInt) ∧ ((I 27 p.toInt.toNat).toInt - t.toInt) < n27 → f_W pP l eP (f_rm (d + 1 + 1)) sP mP aP bP hP9 cP xY 80 a cy dC dI 7 (f_K 1 (qX10_countFrom [.ref 25, .int p, .long sm, .int m] I L)) 27 [(6, .int t), (5, .int f), (4, .int m), (2, .long sm), (1, .int p), (0, .ref 25)] [] I L := by
      intro n27
      induction n27 with
      | zero =>
        intro f t h9
        obtain ⟨u27_1, u27_2, u27_3, hm27⟩ := h9
        omega
      | succ n27 ih27 =>
        intro f t h9
        obtain ⟨u27_1, u27_2, u27_3, hm27⟩ := h9
        refine f_wp_ok C f_cl flX10_ok fiX10_ok fjX10_ok (sn := none) (fun j h => by cases h) (cs := (f_cnl [(89, (3, 3, 9, pX10_canComeOutEven, qX10_canComeOutEven)), (116, (4, 1, 9, (pX10_countFrom d), qX10_countFrom))])) (cz := (fun _ => none)) (f_cnl_of (P := fun j S => f_cok pP l eP (f_rm (d + 1 + 1)) sP mP aP bP hP9 cP xY 80 a cy dC dI 7 _ _ (.invokevirtual j) true S) (List.forall_mem_cons.mpr ⟨f_cokV C (mX10_canComeOutEven hinj) (ci := 9) rfl (List.forall_mem_cons.mpr ⟨(mlX10_ok _ (List.mem_of_getElem? (i := 6) rfl)), kc_X10_canComeOutEven⟩) (by decide +kernel) ⟨by simp only [f_rm]; omega, by simp only [f_rm]; omega⟩, List.forall_mem_cons.mpr ⟨f_cokV C ih (ci := 9) rfl (List.forall_mem_cons.mpr ⟨(mlX10_ok _ (List.mem_of_getElem? (i := 13) rfl)), kc_X10_countFrom⟩) (by decide +kernel) ⟨by simp only [f_rm]; omega, by simp only [f_rm]; omega⟩, fun _ h => absurd h List.not_mem_nil⟩⟩)) (fun j S h => by cases h) tX10_countFrom_ok (cut := (f_cnl [(27, (fun (ls' : fLs) (st' : List Value) (I' : fM) (L' : fN) => ∃ f : Int32, ∃ t : Int32, (∀ q ∈ ([(6, .int t), (5, .int f), (4, .int m), (2, .long sm), (1, .int p), (0, .ref 25)] : fLs), q ∈ ls') ∧ st' = [] ∧ I' = I ∧ L' = L ∧ ((p.toInt < (I 25 7).toInt) ∧ (0 ≤ t.toInt) ∧ (t.toInt ≤ (I 27 p.toInt.toNat).toInt) ∧ ((I 27 p.toInt.toNat).toInt - t.toInt) < n27)))])) (f_cnl_of (P := fun (tQ : Nat) (P : fLs → List Value → fM → fN → Prop) => ∀ ls' st' I' L', P ls' st' I' L' → f_W pP l eP (f_rm (d + 1 + 1)) sP mP aP bP hP9 cP xY 80 a cy dC dI 7 (f_K 1 (qX10_countFrom [.ref 25, .int p, .long sm, .int m] I L)) tQ ls' st' I' L') (List.forall_mem_cons.mpr ⟨(fun ls' st' I' L' h => by obtain ⟨f, t, hs, e1, e2, e3, h9⟩ := h; rw [e1, e2, e3]; exact f_W_sub hs (ih27 f t h9)), fun _ h => absurd h List.not_mem_nil⟩)) 37 27 (f_seek 27 0 tX10_countFrom) (f_seek_ok 27 0 tX10_countFrom tX10_countFrom_ok) _ _ _ _ ?_
        refine And.intro (show f_in p 8 from ⟨show 0 ≤ p.toInt from by omega, show p.toInt < 8 from by omega⟩) ?_
        have r34_1 : 0 ≤ (I 27 (p.toInt.toNat)).toInt ∧ (I 27 (p.toInt.toNat)).toInt ≤ 3 := hR 27 (p.toInt.toNat)
        apply And.intro
        · intro h35
          have h35 : (I 27 (p.toInt.toNat)).toInt ≤ t.toInt := h35
          exact ⟨rfl, rfl⟩
        · intro h35
          have h35 : t.toInt < (I 27 (p.toInt.toNat)).toInt := h35
          apply And.intro
          · intro h42
            have h42 : m.toInt ≤ f.toInt := h42
            exact ⟨rfl, rfl⟩
          · intro h42
            have h42 : f.toInt < m.toInt := h42
            intro z50 q50 _ hq50 hl50 hu50
            have hq50 : z50.toInt = p.toInt + 1 + 4294967296 * q50 := hq50
            try have hz50 : z50.toInt = p.toInt + 1 := by omega
            refine And.intro (show f_in p 8 from ⟨show 0 ≤ p.toInt from by omega, show p.toInt < 8 from by omega⟩) ?_
            have r64_2 : 0 ≤ (I 26 (p.toInt.toNat)).toInt ∧ (I 26 (p.toInt.toNat)).toInt ≤ 52 := hR 26 (p.toInt.toNat)
            intro z67 q67 _ hq67 hl67 hu67
            have hq67 : z67.toInt = (I 26 (p.toInt.toNat)).toInt + t.toInt + 4294967296 * q67 := hq67
            try have hz67 : z67.toInt = (I 26 (p.toInt.toNat)).toInt + t.toInt := by omega
            refine And.intro (show f_in z67 53 from ⟨show 0 ≤ z67.toInt from by omega, show z67.toInt < 53 from by omega⟩) ?_
            intro z74 q74 _ hq74 hl74 hu74
            have hq74 : z74.toInt = m.toInt - f.toInt + 4294967296 * q74 := hq74
            try have hz74 : z74.toInt = m.toInt - f.toInt := by omega
            have r75_3 : 0 ≤ (I 25 7).toInt ∧ (I 25 7).toInt ≤ 8 := hR 25 7
            refine And.intro ⟨(dpos_of (by omega)), hR, hxT, (show 0 ≤ z50.toInt from by first | assumption | omega), (show z50.toInt ≤ (I 25 7).toInt from by first | assumption | omega), (show (I 25 7).toInt - z50.toInt < d from by first | assumption | omega)⟩ ?_
            intro x75 I75 L75 hq75
            have hq75 : I75 = I ∧ L75 = L := hq75
            obtain ⟨eI75, eL75⟩ := hq75
            replace eI75 := eI75.symm
            subst eI75
            replace eL75 := eL75.symm
            subst eL75
            intro z78 q78 _ hq78 hl78 hu78
            have hq78 : z78.toInt = f.toInt + x75.toInt + 4294967296 * q78 := hq78
            try have hz78 : z78.toInt = f.toInt + x75.toInt := by omega
            intro z81 q81 _ hq81 hl81 hu81
            have hq81 : z81.toInt = t.toInt + 1 + 4294967296 * q81 := hq81
            try have hz81 : z81.toInt = t.toInt + 1 := by omega
            exact ⟨z78, z81, (by intro q9 h9; simp only [List.mem_cons, List.not_mem_nil, or_false] at h9; rcases h9 with h9 | h9 | h9 | h9 | h9 | h9 <;> subst h9 <;> repeat (first | exact List.mem_cons_self | apply List.mem_cons_of_mem)), rfl, rfl, rfl, (show p.toInt < (I 25 7).toInt from by first | assumption | omega), (show 0 ≤ z81.toInt from by first | assumption | omega), (show z81.toInt ≤ (I 27 p.toInt.toNat).toInt from by first | assumption | omega), (show ((I 27 p.toInt.toNat).toInt - z81.toInt) < n27 from by omega)⟩
    refine f_wp_ok C f_cl flX10_ok fiX10_ok fjX10_ok (sn := none) (fun j h => by cases h) (cs := (f_cnl [(89, (3, 3, 9, pX10_canComeOutEven, qX10_canComeOutEven)), (116, (4, 1, 9, (pX10_countFrom d), qX10_countFrom))])) (cz := (fun _ => none)) (f_cnl_of (P := fun j S => f_cok pP l eP (f_rm (d + 1 + 1)) sP mP aP bP hP9 cP xY 80 a cy dC dI 7 _ _ (.invokevirtual j) true S) (List.forall_mem_cons.mpr ⟨f_cokV C (mX10_canComeOutEven hinj) (ci := 9) rfl (List.forall_mem_cons.mpr ⟨(mlX10_ok _ (List.mem_of_getElem? (i := 6) rfl)), kc_X10_canComeOutEven⟩) (by decide +kernel) ⟨by simp only [f_rm]; omega, by simp only [f_rm]; omega⟩, List.forall_mem_cons.mpr ⟨f_cokV C ih (ci := 9) rfl (List.forall_mem_cons.mpr ⟨(mlX10_ok _ (List.mem_of_getElem? (i := 13) rfl)), kc_X10_countFrom⟩) (by decide +kernel) ⟨by simp only [f_rm]; omega, by simp only [f_rm]; omega⟩, fun _ h => absurd h List.not_mem_nil⟩⟩)) (fun j S h => by cases h) tX10_countFrom_ok (cut := (f_cnl [(27, (fun (ls' : fLs) (st' : List Value) (I' : fM) (L' : fN) => ∃ f : Int32, ∃ t : Int32, (∀ q ∈ ([(6, .int t), (5, .int f), (4, .int m), (2, .long sm), (1, .int p), (0, .ref 25)] : fLs), q ∈ ls') ∧ st' = [] ∧ I' = I ∧ L' = L ∧ ((p.toInt < (I 25 7).toInt) ∧ (0 ≤ t.toInt) ∧ (t.toInt ≤ (I 27 p.toInt.toNat).toInt) ∧ ((I 27 p.toInt.toNat).toInt - t.toInt) < 4)))])) (f_cnl_of (P := fun (tQ : Nat) (P : fLs → List Value → fM → fN → Prop) => ∀ ls' st' I' L', P ls' st' I' L' → f_W pP l eP (f_rm (d + 1 + 1)) sP mP aP bP hP9 cP xY 80 a cy dC dI 7 (f_K 1 (qX10_countFrom [.ref 25, .int p, .long sm, .int m] I L)) tQ ls' st' I' L') (List.forall_mem_cons.mpr ⟨(fun ls' st' I' L' h => by obtain ⟨f, t, hs, e1, e2, e3, h9⟩ := h; rw [e1, e2, e3]; exact f_W_sub hs (lp27 4 f t h9)), fun _ h => absurd h List.not_mem_nil⟩)) 16 0 tX10_countFrom tX10_countFrom_ok _ _ _ _ ?_
    refine And.intro ⟨(show 0 ≤ p.toInt from by first | assumption | omega), (show p.toInt ≤ 8 from by first | assumption | omega)⟩ ?_
    intro x3 I3 L3 hq3
    have hq3 : I3 = I ∧ L3 = L ∧ ((x3.toInt = 0 ∨ x3.toInt = 1)) := hq3
    obtain ⟨eI3, eL3, c3_2⟩ := hq3
    replace eI3 := eI3.symm
    subst eI3
    replace eL3 := eL3.symm
    subst eL3
    apply And.intro
    · intro h6
      have h6 : ¬ x3.toInt = 0 := h6
      have r13_1 : 0 ≤ (I 25 7).toInt ∧ (I 25 7).toInt ≤ 8 := hR 25 7
      apply And.intro
      · intro h16
        have h16 : p.toInt < (I 25 7).toInt := h16
        have r27_2 : 0 ≤ (I 27 (p.toInt.toNat)).toInt ∧ (I 27 (p.toInt.toNat)).toInt ≤ 3 := hR 27 (p.toInt.toNat)
        exact ⟨Int32.ofInt 0, Int32.ofInt 0, (by intro q9 h9; simp only [List.mem_cons, List.not_mem_nil, or_false] at h9; rcases h9 with h9 | h9 | h9 | h9 | h9 | h9 <;> subst h9 <;> repeat (first | exact List.mem_cons_self | apply List.mem_cons_of_mem)), rfl, rfl, rfl, (show p.toInt < (I 25 7).toInt from by first | assumption | omega), (show 0 ≤ (0 : Int) from by first | assumption | omega), (show (0 : Int) ≤ (I 27 p.toInt.toNat).toInt from by first | assumption | omega), (show ((I 27 p.toInt.toNat).toInt - (0 : Int)) < 4 from by omega)⟩
      · intro h16
        have h16 : (I 25 7).toInt ≤ p.toInt := h16
        exact ⟨rfl, rfl⟩
    · intro h6
      have h6 : x3.toInt = 0 := h6
      exact ⟨rfl, rfl⟩
-- callers take X10_countFrom at depth 9
def tX10_countEven : List (Instr × Nat) := [(.aload_n 0, 1), (.invokevirtual 83, 3), (.aload_n 0, 1), (.getfield 30, 3), (.getfield 80, 3), (.aload_n 0, 1), (.getfield 47, 3), (.iaload, 1), (.ifCond .ne 7, 3), (.iconst 0, 1), (.goto 21, 3), (.aload_n 0, 1), (.iconst 0, 1), (.aload_n 0, 1), (.getfield 30, 3), (.getfield 86, 3), (.aload_n 0, 1), (.getfield 47, 3), (.laload, 1), (.iload_n 1, 1), (.invokevirtual 116, 3), (.ireturn, 1)]
theorem tX10_countEven_ok : f_chk cX10_countEven 0 tX10_countEven = true := by decide +kernel
def pX10_countEven (av : List Value) (I : fM) (L : fN) : Prop := match av with
  | [.ref 25, .int m] => xR I ∧ xT I
  | _ => False
def qX10_countEven (av : List Value) (I : fM) (L : fN) (r : Value) (I' : fM) (L' : fN) : Prop := match av, r with
  | [.ref 25, .int m], .int x => I' = I ∧ f_fr [29, 30] L L'
  | _, _ => False
set_option maxHeartbeats 4000000 in
set_option maxRecDepth 100000 in
theorem mX10_countEven {l : Launch} {a : Nat → Nat} {cy dC : Nat → ClassId} {dI : Nat → Nat → Nat} (hinj : ∀ i j, i < 80 → j < 80 → a i = a j → i = j) : f_Met (xE a) l xY 80 a cy dC dI yX10_countEven cX10_countEven 2 1 11 pX10_countEven qX10_countEven := by
  refine f_met_of (xE_c a) hinj xY_hi (by decide) (fun av I L h => by unfold pX10_countEven at h; split at h <;> first | exact Nat.le_of_ble_eq_true rfl | exact h.elim) ?_
  intro pP eP sP mP aP bP hP9 cP C av I L hp
  unfold pX10_countEven at hp
  split at hp
  case h_2 => exact hp.elim
  case h_1 m =>
    obtain ⟨hR, hxT⟩ := hp
    have hc8 : 0 ≤ (I 25 7).toInt ∧ (I 25 7).toInt ≤ 8 := hR 25 7
    have hG0 : f_fr [29, 30] L L := f_fr_rf
    refine f_wp_ok C f_cl flX10_ok fiX10_ok fjX10_ok (sn := none) (fun j h => by cases h) (cs := (f_cnl [(83, (1, 0, 9, pX10_measure, qX10_measure)), (116, (4, 1, 9, (pX10_countFrom 9), qX10_countFrom))])) (cz := (fun _ => none)) (f_cnl_of (P := fun j S => f_cok pP l eP (f_rm 11) sP mP aP bP hP9 cP xY 80 a cy dC dI 2 _ _ (.invokevirtual j) true S) (List.forall_mem_cons.mpr ⟨f_cokV C (mX10_measure hinj) (ci := 9) rfl (List.forall_mem_cons.mpr ⟨(mlX10_ok _ (List.mem_of_getElem? (i := 5) rfl)), kc_X10_measure⟩) (by decide +kernel) ⟨Nat.le_of_ble_eq_true rfl, Nat.le_of_ble_eq_true rfl⟩, List.forall_mem_cons.mpr ⟨f_cokV C (mX10_countFrom hinj 9) (ci := 9) rfl (List.forall_mem_cons.mpr ⟨(mlX10_ok _ (List.mem_of_getElem? (i := 13) rfl)), kc_X10_countFrom⟩) (by decide +kernel) ⟨Nat.le_of_ble_eq_true rfl, Nat.le_of_ble_eq_true rfl⟩, fun _ h => absurd h List.not_mem_nil⟩⟩)) (fun j S h => by cases h) tX10_countEven_ok (cut := (fun _ => none)) (fun t P h => by cases h) 23 0 tX10_countEven tX10_countEven_ok _ _ _ _ ?_
    refine And.intro hR ?_
    intro I1 L1 hq1
    have hq1 : I1 = I ∧ f_fr [29, 30] L L1 := hq1
    obtain ⟨eI1, c1_1⟩ := hq1
    replace eI1 := eI1.symm
    subst eI1
    have hG1 := f_fr_tr hG0 c1_1 rfl
    have r12_1 : 0 ≤ (I 25 8).toInt ∧ (I 25 8).toInt ≤ 52 := hR 25 8
    refine And.intro (show f_in (I 25 8) 53 from ⟨show 0 ≤ (I 25 8).toInt from by omega, show (I 25 8).toInt < 53 from by omega⟩) ?_
    have r15_2 : 0 ≤ (I 16 ((I 25 8).toInt.toNat)).toInt ∧ (I 16 ((I 25 8).toInt.toNat)).toInt ≤ 4 := hR 16 ((I 25 8).toInt.toNat)
    apply And.intro
    · intro h16
      have h16 : ¬ (I 16 ((I 25 8).toInt.toNat)).toInt = 0 := h16
      refine And.intro (show f_in (I 25 8) 53 from ⟨show 0 ≤ (I 25 8).toInt from by omega, show (I 25 8).toInt < 53 from by omega⟩) ?_
      have r38_3 : 0 ≤ (I 25 7).toInt ∧ (I 25 7).toInt ≤ 8 := hR 25 7
      refine And.intro ⟨(dpos_of (by omega)), hR, hxT, (show 0 ≤ (0 : Int) from by first | assumption | omega), (show (0 : Int) ≤ (I 25 7).toInt from by first | assumption | omega), (show (I 25 7).toInt - (0 : Int) < 9 from by first | assumption | omega)⟩ ?_
      intro x38 I38 L38 hq38
      have hq38 : I38 = I ∧ L38 = L1 := hq38
      obtain ⟨eI38, eL38⟩ := hq38
      replace eI38 := eI38.symm
      subst eI38
      replace eL38 := eL38.symm
      subst eL38
      exact ⟨rfl, hG1⟩
    · intro h16
      have h16 : (I 16 ((I 25 8).toInt.toNat)).toInt = 0 := h16
      exact ⟨rfl, hG1⟩
