theorem kb_L {L L' : fN} (h : L' 70 = L 70) (r s : Nat) : kb L' r s = kb L r s := by unfold kb; rw [h]
theorem lcn_nn {c m : Int} (hc : 0 ≤ c) (hm : 0 ≤ m) : 0 ≤ lcn c m := by unfold lcn; split <;> omega
theorem lcn_pos {c m : Int} (hc : 0 ≤ c) (hm : 0 < m) (h4 : m ≤ 4) : 0 < lcn c m := by unfold lcn; split <;> omega
theorem lcs_nn {f : Nat → Int} (h : ∀ p, 0 ≤ f p) : ∀ n, 0 ≤ lcs f n
  | 0 => by show (0 : Int) ≤ 0; decide
  | n + 1 => lcn_nn (lcs_nn h n) (h n)
theorem sn_0 {P C B : Nat → Int32} {n : Int} (h : n = 0) : sn P C B n := ⟨osl_0 (by omega), fun q => by omega⟩
theorem lca_pos {I : fM} (hR : xR I) (ch : Nat → Int) (h : 0 < (I 16 (I 25 8).toInt.toNat).toInt) : 0 < lca I ch :=
  lcn_pos (lcs_nn (fun p => (hR 16 _).1) _) h (hR 16 _).2
theorem tlW_of {I J : fM} {L : fN} {r : Nat} (hg : good I L r) (hn : (J 31 9).toInt = lca I (fun p => kb L r (48 + p))) (hs : sn (J 33) (J 34) (J 35) (J 31 9).toInt) (hq : ∀ s : Nat, (s : Int) < (J 31 9).toInt → (J 37 s).toInt = kb L r s) (h0 : 0 ≤ (J 31 9).toInt) : tlW (J 37) (J 33) (J 34) (J 35) (J 31 9).toInt.toNat := by
  refine ⟨fun e he _ => ?_, fun e e' he he' _ q => ?_, by rw [Int.toNat_of_nonneg h0]; exact hs⟩
  · rw [hq e (by omega), Int.toNat_of_nonneg h0, hn]
    exact hg.2.1 e (by omega)
  · rw [hq e (by omega), hq e' (by omega)] at q
    exact hg.2.2 e e' (by omega) (by omega) q
def tX5_readOff : List (Instr × Nat) := [(.iconst 0, 1), (.istore_n 2, 1), (.iload_n 2, 1), (.aload_n 0, 1), (.getfield 21, 3), (.getfield 71, 3), (.if_icmp .ge 35, 3), (.aload_n 0, 1), (.getfield 31, 3), (.aload_n 0, 1), (.getfield 21, 3), (.getfield 75, 3), (.iload_n 2, 1), (.iaload, 1), (.aload_n 0, 1), (.iload_n 1, 1), (.bipush 48, 2), (.iload_n 2, 1), (.invokevirtual 78, 3), (.iadd, 1), (.iload_n 2, 1), (.invokevirtual 82, 3), (.iinc 2 1, 3), (.goto (-40), 3), (.aload_n 0, 1), (.getfield 31, 3), (.aload_n 0, 1), (.getfield 21, 3), (.getfield 86, 3), (.iconst (-1), 1), (.invokevirtual 82, 3), (.iconst 0, 1), (.istore_n 2, 1), (.iload_n 2, 1), (.aload_n 0, 1), (.getfield 31, 3), (.getfield 67, 3), (.if_icmp .ge 25, 3), (.aload_n 0, 1), (.getfield 31, 3), (.getfield 68, 3), (.iload_n 2, 1), (.aload_n 0, 1), (.iload_n 1, 1), (.iconst 0, 1), (.iload_n 2, 1), (.invokevirtual 78, 3), (.iastore, 1), (.iinc 2 1, 3), (.goto (-30), 3), (.aload_n 0, 1), (.iload_n 1, 1), (.bipush 8, 2), (.imul, 1), (.putfield 89, 3), (.aload_n 0, 1), (.iconst 0, 1), (.putfield 92, 3), (.aload_n 0, 1), (.iconst 0, 1), (.putfield 95, 3), (.aload_n 0, 1), (.aload_n 0, 1), (.invokevirtual 98, 3), (.iconst (-1), 1), (.iconst 0, 1), (.invokevirtual 102, 3), (.aload_n 0, 1), (.getfield 31, 3), (.getfield 68, 3), (.iconst (-1), 1), (.invokestatic 106, 3), (.aload_n 0, 1), (.getfield 31, 3), (.iconst 0, 1), (.invokevirtual 109, 3), (.return_, 1)]
theorem tX5_readOff_ok : f_chk cX5_readOff 0 tX5_readOff = true := by decide +kernel
def pX5_readOff (av : List Value) (I : fM) (L : fN) : Prop := match av with
  | [.ref 69, .int r] => xR I ∧ xO I ∧ xT I ∧ 0 ≤ r.toInt ∧ r.toInt < (I 69 5).toInt ∧ (I 69 6).toInt = 0 ∧ xS I ∧ good I L r.toInt.toNat ∧ 0 < (I 16 (I 25 8).toInt.toNat).toInt
  | _ => False
def qX5_readOff (av : List Value) (I : fM) (L : fN) (r : Value) (I' : fM) (L' : fN) : Prop := match av, r with
  | [.ref 69, .int r], .null => xR I' ∧ xO I' ∧ xT I' ∧ f_fr [31, 32, 33, 34, 35, 36, 37, 38, 39, 69, 71] I I' ∧ f_fr [70] L L' ∧ xS I' ∧ (I' 69 5).toInt = (I 69 5).toInt ∧ (I' 69 6).toInt = (I 69 6).toInt ∧ (∀ j : Nat, (j < 8 * r.toInt.toNat ∨ 8 * r.toInt.toNat + 8 ≤ j) → L' 70 j = L 70 j)
  | _, _ => False
set_option maxHeartbeats 4000000 in
set_option maxRecDepth 100000 in
theorem mX5_readOff {l : Launch} {a : Nat → Nat} {cy dC : Nat → ClassId} {dI : Nat → Nat → Nat} (hinj : ∀ i j, i < 80 → j < 80 → a i = a j → i = j) : f_Met (xE a) l xY 80 a cy dC dI yX5_readOff cX5_readOff 3 0 24 pX5_readOff qX5_readOff := by
  refine f_met_of (xE_c a) hinj xY_hi (by decide) (fun av I L h => by unfold pX5_readOff at h; split at h <;> first | exact Nat.le_of_ble_eq_true rfl | exact h.elim) ?_
  intro pP eP sP mP aP bP hP9 cP C av I L hp
  unfold pX5_readOff at hp
  split at hp
  case h_2 => exact hp.elim
  case h_1 r =>
    obtain ⟨hR, hxO, hxT, p3, p4, p5, hxS, p7, p8⟩ := hp
    have hc : 0 ≤ (I 25 7).toInt ∧ (I 25 7).toInt ≤ 8 := hR 25 7
    have hr3 : (I 69 5).toInt ≤ 300 := (hR 69 5).2
    have hN : lca I (fun q => kb L r.toInt.toNat (48 + q)) ≤ 20 := lca_le I (fun q => kb L r.toInt.toNat (48 + q))
    have hN1 : 0 < lca I (fun q => kb L r.toInt.toNat (48 + q)) := lca_pos hR (fun q => kb L r.toInt.toNat (48 + q)) p8
    have hF0 : f_fr [31, 32, 33, 34, 35, 36, 37, 38, 39, 69, 71] I I := f_fr_rf
    have hG0 : f_fr [70] L L := f_fr_rf
    have lp62 : ∀ (n62 : Nat), ∀ (e : Int32) (J62 : fM) (M62 : fN), xR J62 ∧ f_fr [31, 32, 33, 34, 35, 36, 37, 38, 39, 69, 71] I J62 ∧ f_fr [70] L M62 ∧ xO J62 ∧ xT J62 ∧ (0 ≤ e.toInt) ∧ (e.toInt ≤ (J62 31 9).toInt) ∧ ((J62 31 9).toInt = lca I (fun q => kb L r.toInt.toNat (48 + q))) ∧ (sn (J62 33) (J62 34) (J62 35) (J62 31 9).toInt) ∧ ((∀ s : Nat, (s : Int) < e.toInt → (J62 37 s).toInt = kb L r.toInt.toNat s)) ∧ ((J62 69 5).toInt = (I 69 5).toInt) ∧ ((J62 69 6).toInt = (I 69 6).toInt) ∧ (M62 70 = L 70) ∧ (20 - e.toInt) < n62 → f_W pP l eP (f_rm 24) sP mP aP bP hP9 cP xY 80 a cy dC dI 3 (f_K 0 (qX5_readOff [.ref 69, .int r] I L)) 62 [(2, .int e), (1, .int r), (0, .ref 69)] [] J62 M62 := by
      intro n62
      induction n62 with
      | zero =>
        intro e J62 M62 h9
        obtain ⟨hR62c, hF62c, hG62c, hxO62c, hxT62c, u62_1, u62_2, u62_3, u62_4, u62_5, u62_6, u62_7, u62_8, hm62⟩ := h9
        omega
      | succ n62 ih62 =>
        intro e J62 M62 h9
        obtain ⟨hR62c, hF62c, hG62c, hxO62c, hxT62c, u62_1, u62_2, u62_3, u62_4, u62_5, u62_6, u62_7, u62_8, hm62⟩ := h9
        refine f_wp_ok C f_cl flX5_ok fiX5_ok fjX5_ok (sn := none) (fun j h => by cases h) (cs := (f_cnl [(78, (4, 1, 5, pX5_value, qX5_value)), (82, (3, 0, 7, pX7_lay, qX7_lay)), (98, (1, 1, 5, pX5_goalEnd, qX5_goalEnd)), (102, (4, 0, 5, (pX5_tell 22), qX5_tell)), (109, (2, 0, 7, pX7_liftTo, qX7_liftTo))])) (cz := (f_cnl [(106, (2, 0, 0, pJ7_fill_53178, qJ7_fill_53178))])) (f_cnl_of (P := fun j S => f_cok pP l eP (f_rm 24) sP mP aP bP hP9 cP xY 80 a cy dC dI 3 _ _ (.invokevirtual j) true S) (List.forall_mem_cons.mpr ⟨f_cokV C (mX5_value hinj) (ci := 5) rfl (List.forall_mem_cons.mpr ⟨(mlX5_ok _ (List.mem_of_getElem? (i := 4) rfl)), kc_X5_value⟩) (by decide +kernel) ⟨Nat.le_of_ble_eq_true rfl, Nat.le_of_ble_eq_true rfl⟩, List.forall_mem_cons.mpr ⟨f_cokV C (mX7_lay hinj) (ci := 7) rfl (List.forall_mem_cons.mpr ⟨(mlX5_ok _ (List.mem_of_getElem? (i := 5) rfl)), kc_X7_lay⟩) (by decide +kernel) ⟨Nat.le_of_ble_eq_true rfl, Nat.le_of_ble_eq_true rfl⟩, List.forall_mem_cons.mpr ⟨f_cokV C (mX5_goalEnd hinj) (ci := 5) rfl (List.forall_mem_cons.mpr ⟨(mlX5_ok _ (List.mem_of_getElem? (i := 6) rfl)), kc_X5_goalEnd⟩) (by decide +kernel) ⟨Nat.le_of_ble_eq_true rfl, Nat.le_of_ble_eq_true rfl⟩, List.forall_mem_cons.mpr ⟨f_cokV C (mX5_tell hinj 22) (ci := 5) rfl (List.forall_mem_cons.mpr ⟨(mlX5_ok _ (List.mem_of_getElem? (i := 7) rfl)), kc_X5_tell⟩) (by decide +kernel) ⟨Nat.le_of_ble_eq_true rfl, Nat.le_of_ble_eq_true rfl⟩, List.forall_mem_cons.mpr ⟨f_cokV C (mX7_liftTo hinj) (ci := 7) rfl (List.forall_mem_cons.mpr ⟨(mlX5_ok _ (List.mem_of_getElem? (i := 9) rfl)), kc_X7_liftTo⟩) (by decide +kernel) ⟨Nat.le_of_ble_eq_true rfl, Nat.le_of_ble_eq_true rfl⟩, fun _ h => absurd h List.not_mem_nil⟩⟩⟩⟩⟩)) (f_cnl_of (P := fun j S => f_cok pP l eP (f_rm 24) sP mP aP bP hP9 cP xY 80 a cy dC dI 3 _ _ (.invokestatic j) false S) (List.forall_mem_cons.mpr ⟨f_cokS C (mJ7_fill_53178 hinj) (List.forall_mem_cons.mpr ⟨(mlX5_ok _ (List.mem_of_getElem? (i := 8) rfl)), kc_J7_fill_53178⟩) (by decide +kernel) ⟨Nat.le_of_ble_eq_true rfl, Nat.le_of_ble_eq_true rfl⟩, fun _ h => absurd h List.not_mem_nil⟩)) tX5_readOff_ok (cut := (f_cnl [(62, (fun (ls' : fLs) (st' : List Value) (I' : fM) (L' : fN) => ∃ e : Int32, (∀ q ∈ ([(2, .int e), (1, .int r), (0, .ref 69)] : fLs), q ∈ ls') ∧ st' = [] ∧ (xR I' ∧ f_fr [31, 32, 33, 34, 35, 36, 37, 38, 39, 69, 71] I I' ∧ f_fr [70] L L' ∧ xO I' ∧ xT I' ∧ (0 ≤ e.toInt) ∧ (e.toInt ≤ (I' 31 9).toInt) ∧ ((I' 31 9).toInt = lca I (fun q => kb L r.toInt.toNat (48 + q))) ∧ (sn (I' 33) (I' 34) (I' 35) (I' 31 9).toInt) ∧ ((∀ s : Nat, (s : Int) < e.toInt → (I' 37 s).toInt = kb L r.toInt.toNat s)) ∧ ((I' 69 5).toInt = (I 69 5).toInt) ∧ ((I' 69 6).toInt = (I 69 6).toInt) ∧ (L' 70 = L 70) ∧ (20 - e.toInt) < n62)))])) (f_cnl_of (P := fun (tQ : Nat) (P : fLs → List Value → fM → fN → Prop) => ∀ ls' st' I' L', P ls' st' I' L' → f_W pP l eP (f_rm 24) sP mP aP bP hP9 cP xY 80 a cy dC dI 3 (f_K 0 (qX5_readOff [.ref 69, .int r] I L)) tQ ls' st' I' L') (List.forall_mem_cons.mpr ⟨(fun ls' st' I' L' h => by obtain ⟨e, hs, e1, h9⟩ := h; rw [e1]; exact f_W_sub hs (ih62 e I' L' h9)), fun _ h => absurd h List.not_mem_nil⟩)) 35 62 (f_seek 62 0 tX5_readOff) (f_seek_ok 62 0 tX5_readOff tX5_readOff_ok) _ _ _ _ ?_
        have r67_1 : 0 ≤ (J62 31 9).toInt ∧ (J62 31 9).toInt ≤ 20 := hR62c 31 9
        apply And.intro
        · intro h70
          have h70 : (J62 31 9).toInt ≤ e.toInt := h70
          have W : tlW (J62 37) (J62 33) (J62 34) (J62 35) (J62 31 9).toInt.toNat := tlW_of p7 u62_3 u62_4 (fun s hs => u62_5 s (by omega)) (by omega)
          intro z99 q99 _ hq99 hl99 hu99
          have hq99 : z99.toInt = r.toInt * 8 + 4294967296 * q99 := hq99
          try have hz99 : z99.toInt = r.toInt * 8 := by omega
          have hR100 := xR_f (k := 69) (j := 8) (x := z99) hR62c (by exact f_rng _)
          have hF100 := f_fr_up (k := 69) (r := va_up (J62 69) 8 z99) hF62c rfl
          have hxO100 := f_dep_up xO_dep (k := 69) (r := va_up (J62 69) 8 z99) hxO62c rfl
          have hxT100 := f_dep_up xT_dep (k := 69) (r := va_up (J62 69) 8 z99) hxT62c rfl
          have hR105 := xR_f (k := 69) (j := 9) (x := Int32.ofInt 0) hR100 (by exact f_rng _)
          have hF105 := f_fr_up (k := 69) (r := va_up (va_up (J62 69) 8 z99) 9 (Int32.ofInt 0)) hF100 rfl
          have hxO105 := f_dep_up xO_dep (k := 69) (r := va_up (va_up (J62 69) 8 z99) 9 (Int32.ofInt 0)) hxO100 rfl
          have hxT105 := f_dep_up xT_dep (k := 69) (r := va_up (va_up (J62 69) 8 z99) 9 (Int32.ofInt 0)) hxT100 rfl
          have hR110 := xR_f (k := 69) (j := 10) (x := Int32.ofInt 0) hR105 (by exact f_rng _)
          have hF110 := f_fr_up (k := 69) (r := va_up (va_up (va_up (J62 69) 8 z99) 9 (Int32.ofInt 0)) 10 (Int32.ofInt 0)) hF105 rfl
          have hxO110 := f_dep_up xO_dep (k := 69) (r := va_up (va_up (va_up (J62 69) 8 z99) 9 (Int32.ofInt 0)) 10 (Int32.ofInt 0)) hxO105 rfl
          have hxT110 := f_dep_up xT_dep (k := 69) (r := va_up (va_up (va_up (J62 69) 8 z99) 9 (Int32.ofInt 0)) 10 (Int32.ofInt 0)) hxT105 rfl
          refine And.intro ⟨hR110, (show 0 < (J62 31 9).toInt from by first | assumption | omega), (u62_4.2 (by omega))⟩ ?_
          intro x115 I115 L115 hq115
          have hq115 : I115 = (va_up (va_up (va_up J62 69 (va_up (J62 69) 8 z99)) 69 (va_up (va_up (J62 69) 8 z99) 9 (Int32.ofInt 0))) 69 (va_up (va_up (va_up (J62 69) 8 z99) 9 (Int32.ofInt 0)) 10 (Int32.ofInt 0))) ∧ L115 = M62 ∧ 0 ≤ x115.toInt ∧ x115.toInt < (J62 31 9).toInt ∧ ((J62 33) x115.toInt.toNat).toInt = -1 := hq115
          obtain ⟨eI115, eL115, c115_2, c115_3, c115_4⟩ := hq115
          replace eI115 := eI115.symm
          subst eI115
          replace eL115 := eL115.symm
          subst eL115
          refine And.intro ⟨(dpos_of (by omega)), hR110, (show 0 ≤ x115.toInt from by first | assumption | omega), (show x115.toInt ≤ 19 from by first | assumption | omega), (show 0 ≤ (0 : Int) from by first | assumption | omega), (show (0 : Int) ≤ 21 from by first | assumption | omega), (show 22 - (0 : Int) ≤ 22 from by first | assumption | omega), (show 0 ≤ z99.toInt from by first | assumption | omega), (show z99.toInt ≤ 2392 from by first | assumption | omega), (show 0 ≤ (0 : Int) from by first | assumption | omega), (show (0 : Int) + (tlT ((J62 37)) ((J62 34)) ((J62 35)) (21 - (0 : Int)).toNat x115.toInt.toNat : Int) ≤ 40 from by have q := tlT_40 W (by omega) c115_4 (by omega) 21; have e1 : tlT (J62 37) (J62 34) (J62 35) ((21 : Int) - 0).toNat x115.toInt.toNat = tlT (J62 37) (J62 34) (J62 35) 21 x115.toInt.toNat := rfl; rw [e1]; omega)⟩ ?_
          intro I120 L120 hq120
          have hq120 : xR I120 ∧ f_fr [69, 71] (va_up (va_up (va_up J62 69 (va_up (J62 69) 8 z99)) 69 (va_up (va_up (J62 69) 8 z99) 9 (Int32.ofInt 0))) 69 (va_up (va_up (va_up (J62 69) 8 z99) 9 (Int32.ofInt 0)) 10 (Int32.ofInt 0))) I120 ∧ f_fr [70] M62 L120 ∧ (I120 69 5).toInt = (J62 69 5).toInt ∧ (I120 69 6).toInt = (J62 69 6).toInt ∧ (I120 69 8).toInt = z99.toInt ∧ (I120 69 10).toInt = (0 : Int) + (tlT ((J62 37)) ((J62 34)) ((J62 35)) (21 - (0 : Int)).toNat x115.toInt.toNat : Int) ∧ ((∀ j : Nat, (j < z99.toInt.toNat ∨ z99.toInt.toNat + 8 ≤ j) → L120 70 j = M62 70 j)) := hq120
          obtain ⟨c120_0, c120_1, c120_2, c120_3, c120_4, c120_5, c120_6, c120_7⟩ := hq120
          have hxO120 := f_dep_fr xO_dep hxO110 c120_1 rfl
          have hxT120 := f_dep_fr xT_dep hxT110 c120_1 rfl
          have hF120 := f_fr_tr hF110 c120_1 rfl
          have hG120 := f_fr_tr hG62c c120_2 rfl
          have o120 : (∀ j : Nat, (j < 8 * r.toInt.toNat ∨ 8 * r.toInt.toNat + 8 ≤ j) → L120 70 j = L 70 j) := fun j hj => by rw [c120_7 j (by omega), u62_8]
          refine And.intro ⟨(by decide), c120_0, (fun _ => (show (-1 : Int) ≤ (Int32.ofInt (-1)).toInt ∧ (Int32.ofInt (-1)).toInt ≤ (19 : Int) from ⟨by decide, by decide⟩))⟩ ?_
          intro I131 L131 hq131
          have hq131 : xR I131 ∧ f_fr [37] I120 I131 ∧ L131 = L120 ∧ (∀ j : Nat, j < (fillN 37) → I131 37 j = (Int32.ofInt (-1))) := hq131
          obtain ⟨c131_0, c131_1, eL131, c131_3⟩ := hq131
          replace eL131 := eL131.symm
          subst eL131
          have hxO131 := f_dep_fr xO_dep hxO120 c131_1 rfl
          have hxT131 := f_dep_fr xT_dep hxT120 c131_1 rfl
          have hF131 := f_fr_tr hF120 c131_1 rfl
          refine And.intro ⟨c131_0, (show 0 ≤ (0 : Int) from by first | assumption | omega), (show (0 : Int) ≤ 20 from by first | assumption | omega)⟩ ?_
          intro I139 L139 hq139
          have hq139 : xR I139 ∧ f_fr [31, 38] I131 I139 ∧ L139 = L120 ∧ I139 31 9 = (Int32.ofInt 0) := hq139
          obtain ⟨c139_0, c139_1, eL139, c139_3⟩ := hq139
          replace eL139 := eL139.symm
          subst eL139
          have hxO139 := f_dep_fr xO_dep hxO131 c139_1 rfl
          have hxT139 := f_dep_fr xT_dep hxT131 c139_1 rfl
          have hF139 := f_fr_tr hF131 c139_1 rfl
          have r142_2 : 0 ≤ (I139 69 5).toInt ∧ (I139 69 5).toInt ≤ 300 := c139_0 69 5
          have e142_3 : (I139 69 5).toInt = (I131 69 5).toInt := congrArg Int32.toInt (congrFun (c139_1 69 rfl) 5)
          have e142_4 : (I131 69 5).toInt = (I120 69 5).toInt := congrArg Int32.toInt (congrFun (c131_1 69 rfl) 5)
          have e142_6 : (I139 69 6).toInt = (I131 69 6).toInt := congrArg Int32.toInt (congrFun (c139_1 69 rfl) 6)
          have e142_7 : (I131 69 6).toInt = (I120 69 6).toInt := congrArg Int32.toInt (congrFun (c131_1 69 rfl) 6)
          exact ⟨c139_0, hxO139, hxT139, hF139, hG120, ⟨fun e he => by rw [c139_1 37 rfl, c131_3 e (by exact he)]; rfl, by rw [c139_3]; rfl⟩, (show (I139 69 5).toInt = (I 69 5).toInt from by first | assumption | omega | rfl), (show (I139 69 6).toInt = (I 69 6).toInt from by first | assumption | omega | rfl), (show (∀ j : Nat, (j < 8 * r.toInt.toNat ∨ 8 * r.toInt.toNat + 8 ≤ j) → L120 70 j = L 70 j) from by first | assumption | omega | rfl | exact fun _ _ => rfl | exact fun _ _ => ⟨rfl, rfl⟩ | exact fun _ _ => ⟨rfl, rfl, rfl⟩ | (intro j9 hj9; omega))⟩
        · intro h70
          have h70 : e.toInt < (J62 31 9).toInt := h70
          have g73 := p7.2.1 e.toInt.toNat (by omega)
          have k73 := (kb_rng L r.toInt.toNat e.toInt.toNat).1
          refine And.intro ⟨hR62c, (show 0 ≤ (0 : Int) from by first | assumption | omega), (show 0 ≤ e.toInt from by first | assumption | omega), (show (0 : Int) + e.toInt ≤ 63 from by first | assumption | omega)⟩ ?_
          intro x85 I85 L85 hq85
          have hq85 : I85 = J62 ∧ L85 = M62 ∧ (((J62 69 6).toInt = 0 → 0 ≤ r.toInt → r.toInt < (J62 69 5).toInt → kb M62 r.toInt.toNat ((0 : Int) + e.toInt).toNat < 255 → x85.toInt = kb M62 r.toInt.toNat ((0 : Int) + e.toInt).toNat)) := hq85
          obtain ⟨eI85, eL85, c85_2⟩ := hq85
          replace eI85 := eI85.symm
          subst eI85
          replace eL85 := eL85.symm
          subst eL85
          have v85 : x85.toInt = kb L r.toInt.toNat e.toInt.toNat := by
            have q := c85_2
            rw [kb_L u62_8, show ((0 : Int) + e.toInt).toNat = e.toInt.toNat by omega] at q
            exact q (by omega) (by omega) (by omega) (by omega)
          refine And.intro (show f_in e 20 from ⟨show 0 ≤ e.toInt from by omega, show e.toInt < 20 from by omega⟩) ?_
          have hR88 := xR_a (k := 37) (j := e.toInt.toNat) (x := x85) hR62c (show -1 ≤ x85.toInt ∧ x85.toInt ≤ 19 from ⟨by omega, by omega⟩)
          have hF88 := f_fr_up (k := 37) (r := upd (J62 37) (e.toInt.toNat) x85) hF62c rfl
          have hxO88 := f_dep_up xO_dep (k := 37) (r := upd (J62 37) (e.toInt.toNat) x85) hxO62c rfl
          have hxT88 := f_dep_up xT_dep (k := 37) (r := upd (J62 37) (e.toInt.toNat) x85) hxT62c rfl
          intro z89 q89 _ hq89 hl89 hu89
          have hq89 : z89.toInt = e.toInt + 1 + 4294967296 * q89 := hq89
          try have hz89 : z89.toInt = e.toInt + 1 := by omega
          have t89 : ∀ s : Nat, (s : Int) < z89.toInt → ((upd (J62 37) e.toInt.toNat x85) s).toInt = kb L r.toInt.toNat s := fun s hs => by
            by_cases q : s = e.toInt.toNat
            · rw [q, pk_us]; exact v85
            · rw [pk_un q]; exact u62_5 s (by omega)
          exact ⟨z89, (by intro q9 h9; simp only [List.mem_cons, List.not_mem_nil, or_false] at h9; rcases h9 with h9 | h9 | h9 <;> subst h9 <;> repeat (first | exact List.mem_cons_self | apply List.mem_cons_of_mem)), rfl, hR88, hF88, hG62c, hxO88, hxT88, (show 0 ≤ z89.toInt from by first | assumption | omega), (show z89.toInt ≤ (J62 31 9).toInt from by first | assumption | omega), (show (J62 31 9).toInt = lca I (fun q => kb L r.toInt.toNat (48 + q)) from by first | assumption | omega | rfl), (show sn ((J62 33)) ((J62 34)) ((J62 35)) (J62 31 9).toInt from by first | assumption | omega), (show (∀ s : Nat, (s : Int) < z89.toInt → ((upd (J62 37) (e.toInt.toNat) x85) s).toInt = kb L r.toInt.toNat s) from by first | assumption | omega | exact fun _ _ => rfl | exact fun _ _ => ⟨rfl, rfl⟩ | exact fun _ _ => ⟨rfl, rfl, rfl⟩ | (intro j9 hj9; omega)), (show (J62 69 5).toInt = (I 69 5).toInt from by first | assumption | omega | rfl), (show (J62 69 6).toInt = (I 69 6).toInt from by first | assumption | omega | rfl), (show M62 70 = L 70 from by first | assumption | omega | rfl), (show (20 - z89.toInt) < n62 from by omega)⟩
    have lp2 : ∀ (n2 : Nat), ∀ (p : Int32) (J2 : fM) (M2 : fN), xR J2 ∧ f_fr [31, 32, 33, 34, 35, 36, 37, 38, 39, 69, 71] I J2 ∧ f_fr [70] L M2 ∧ xO J2 ∧ xT J2 ∧ (0 ≤ p.toInt) ∧ (p.toInt ≤ (I 25 7).toInt) ∧ ((J2 31 9).toInt = lcs (szs I (fun q => kb L r.toInt.toNat (48 + q))) p.toInt.toNat) ∧ (sn (J2 33) (J2 34) (J2 35) (J2 31 9).toInt) ∧ (J2 37 = I 37) ∧ ((J2 69 5).toInt = (I 69 5).toInt) ∧ ((J2 69 6).toInt = (I 69 6).toInt) ∧ (M2 70 = L 70) ∧ ((I 25 7).toInt - p.toInt) < n2 → f_W pP l eP (f_rm 24) sP mP aP bP hP9 cP xY 80 a cy dC dI 3 (f_K 0 (qX5_readOff [.ref 69, .int r] I L)) 2 [(2, .int p), (1, .int r), (0, .ref 69)] [] J2 M2 := by
      intro n2
      induction n2 with
      | zero =>
        intro p J2 M2 h9
        obtain ⟨hR2c, hF2c, hG2c, hxO2c, hxT2c, u2_1, u2_2, u2_3, u2_4, u2_5, u2_6, u2_7, u2_8, hm2⟩ := h9
        omega
      | succ n2 ih2 =>
        intro p J2 M2 h9
        obtain ⟨hR2c, hF2c, hG2c, hxO2c, hxT2c, u2_1, u2_2, u2_3, u2_4, u2_5, u2_6, u2_7, u2_8, hm2⟩ := h9
        refine f_wp_ok C f_cl flX5_ok fiX5_ok fjX5_ok (sn := none) (fun j h => by cases h) (cs := (f_cnl [(78, (4, 1, 5, pX5_value, qX5_value)), (82, (3, 0, 7, pX7_lay, qX7_lay)), (98, (1, 1, 5, pX5_goalEnd, qX5_goalEnd)), (102, (4, 0, 5, (pX5_tell 22), qX5_tell)), (109, (2, 0, 7, pX7_liftTo, qX7_liftTo))])) (cz := (f_cnl [(106, (2, 0, 0, pJ7_fill_53178, qJ7_fill_53178))])) (f_cnl_of (P := fun j S => f_cok pP l eP (f_rm 24) sP mP aP bP hP9 cP xY 80 a cy dC dI 3 _ _ (.invokevirtual j) true S) (List.forall_mem_cons.mpr ⟨f_cokV C (mX5_value hinj) (ci := 5) rfl (List.forall_mem_cons.mpr ⟨(mlX5_ok _ (List.mem_of_getElem? (i := 4) rfl)), kc_X5_value⟩) (by decide +kernel) ⟨Nat.le_of_ble_eq_true rfl, Nat.le_of_ble_eq_true rfl⟩, List.forall_mem_cons.mpr ⟨f_cokV C (mX7_lay hinj) (ci := 7) rfl (List.forall_mem_cons.mpr ⟨(mlX5_ok _ (List.mem_of_getElem? (i := 5) rfl)), kc_X7_lay⟩) (by decide +kernel) ⟨Nat.le_of_ble_eq_true rfl, Nat.le_of_ble_eq_true rfl⟩, List.forall_mem_cons.mpr ⟨f_cokV C (mX5_goalEnd hinj) (ci := 5) rfl (List.forall_mem_cons.mpr ⟨(mlX5_ok _ (List.mem_of_getElem? (i := 6) rfl)), kc_X5_goalEnd⟩) (by decide +kernel) ⟨Nat.le_of_ble_eq_true rfl, Nat.le_of_ble_eq_true rfl⟩, List.forall_mem_cons.mpr ⟨f_cokV C (mX5_tell hinj 22) (ci := 5) rfl (List.forall_mem_cons.mpr ⟨(mlX5_ok _ (List.mem_of_getElem? (i := 7) rfl)), kc_X5_tell⟩) (by decide +kernel) ⟨Nat.le_of_ble_eq_true rfl, Nat.le_of_ble_eq_true rfl⟩, List.forall_mem_cons.mpr ⟨f_cokV C (mX7_liftTo hinj) (ci := 7) rfl (List.forall_mem_cons.mpr ⟨(mlX5_ok _ (List.mem_of_getElem? (i := 9) rfl)), kc_X7_liftTo⟩) (by decide +kernel) ⟨Nat.le_of_ble_eq_true rfl, Nat.le_of_ble_eq_true rfl⟩, fun _ h => absurd h List.not_mem_nil⟩⟩⟩⟩⟩)) (f_cnl_of (P := fun j S => f_cok pP l eP (f_rm 24) sP mP aP bP hP9 cP xY 80 a cy dC dI 3 _ _ (.invokestatic j) false S) (List.forall_mem_cons.mpr ⟨f_cokS C (mJ7_fill_53178 hinj) (List.forall_mem_cons.mpr ⟨(mlX5_ok _ (List.mem_of_getElem? (i := 8) rfl)), kc_J7_fill_53178⟩) (by decide +kernel) ⟨Nat.le_of_ble_eq_true rfl, Nat.le_of_ble_eq_true rfl⟩, fun _ h => absurd h List.not_mem_nil⟩)) tX5_readOff_ok (cut := (f_cnl [(2, (fun (ls' : fLs) (st' : List Value) (I' : fM) (L' : fN) => ∃ p : Int32, (∀ q ∈ ([(2, .int p), (1, .int r), (0, .ref 69)] : fLs), q ∈ ls') ∧ st' = [] ∧ (xR I' ∧ f_fr [31, 32, 33, 34, 35, 36, 37, 38, 39, 69, 71] I I' ∧ f_fr [70] L L' ∧ xO I' ∧ xT I' ∧ (0 ≤ p.toInt) ∧ (p.toInt ≤ (I 25 7).toInt) ∧ ((I' 31 9).toInt = lcs (szs I (fun q => kb L r.toInt.toNat (48 + q))) p.toInt.toNat) ∧ (sn (I' 33) (I' 34) (I' 35) (I' 31 9).toInt) ∧ (I' 37 = I 37) ∧ ((I' 69 5).toInt = (I 69 5).toInt) ∧ ((I' 69 6).toInt = (I 69 6).toInt) ∧ (L' 70 = L 70) ∧ ((I 25 7).toInt - p.toInt) < n2))), (62, (fun (ls' : fLs) (st' : List Value) (I' : fM) (L' : fN) => ∃ e : Int32, (∀ q ∈ ([(2, .int e), (1, .int r), (0, .ref 69)] : fLs), q ∈ ls') ∧ st' = [] ∧ (xR I' ∧ f_fr [31, 32, 33, 34, 35, 36, 37, 38, 39, 69, 71] I I' ∧ f_fr [70] L L' ∧ xO I' ∧ xT I' ∧ (0 ≤ e.toInt) ∧ (e.toInt ≤ (I' 31 9).toInt) ∧ ((I' 31 9).toInt = lca I (fun q => kb L r.toInt.toNat (48 + q))) ∧ (sn (I' 33) (I' 34) (I' 35) (I' 31 9).toInt) ∧ ((∀ s : Nat, (s : Int) < e.toInt → (I' 37 s).toInt = kb L r.toInt.toNat s)) ∧ ((I' 69 5).toInt = (I 69 5).toInt) ∧ ((I' 69 6).toInt = (I 69 6).toInt) ∧ (L' 70 = L 70) ∧ (20 - e.toInt) < 21)))])) (f_cnl_of (P := fun (tQ : Nat) (P : fLs → List Value → fM → fN → Prop) => ∀ ls' st' I' L', P ls' st' I' L' → f_W pP l eP (f_rm 24) sP mP aP bP hP9 cP xY 80 a cy dC dI 3 (f_K 0 (qX5_readOff [.ref 69, .int r] I L)) tQ ls' st' I' L') (List.forall_mem_cons.mpr ⟨(fun ls' st' I' L' h => by obtain ⟨p, hs, e1, h9⟩ := h; rw [e1]; exact f_W_sub hs (ih2 p I' L' h9)), List.forall_mem_cons.mpr ⟨(fun ls' st' I' L' h => by obtain ⟨e, hs, e1, h9⟩ := h; rw [e1]; exact f_W_sub hs (lp62 21 e I' L' h9)), fun _ h => absurd h List.not_mem_nil⟩⟩)) 25 2 (f_seek 2 0 tX5_readOff) (f_seek_ok 2 0 tX5_readOff tX5_readOff_ok) _ _ _ _ ?_
        have r7_1 : 0 ≤ (J2 25 7).toInt ∧ (J2 25 7).toInt ≤ 8 := hR2c 25 7
        have e7_2 : (J2 25 7).toInt = (I 25 7).toInt := congrArg Int32.toInt (congrFun (hF2c 25 rfl) 7)
        apply And.intro
        · intro h10
          have h10 : (J2 25 7).toInt ≤ p.toInt := h10
          have r53_3 : 0 ≤ (J2 25 8).toInt ∧ (J2 25 8).toInt ≤ 52 := hR2c 25 8
          have e53_4 : (J2 25 8).toInt = (I 25 8).toInt := congrArg Int32.toInt (congrFun (hF2c 25 rfl) 8)
          refine And.intro ⟨hR2c, hxO2c, (show 0 ≤ (J2 25 8).toInt from by first | assumption | omega), (show (J2 25 8).toInt ≤ 52 from by first | assumption | omega), (show -1 ≤ (-1 : Int) from by first | assumption | omega), (show (-1 : Int) ≤ 7 from by first | assumption | omega)⟩ ?_
          intro I57 L57 hq57
          have hq57 : xR I57 ∧ f_fr [31, 32, 33, 34, 35, 36, 38, 39] J2 I57 ∧ L57 = M2 ∧ (I57 31 9).toInt = lcn (J2 31 9).toInt (J2 16 (J2 25 8).toInt.toNat).toInt ∧ ((sn (J2 33) (J2 34) (J2 35) (J2 31 9).toInt → sn (I57 33) (I57 34) (I57 35) (I57 31 9).toInt)) := hq57
          obtain ⟨c57_0, c57_1, eL57, c57_3, c57_4⟩ := hq57
          replace eL57 := eL57.symm
          subst eL57
          have hxO57 := f_dep_fr xO_dep hxO2c c57_1 rfl
          have hxT57 := f_dep_fr xT_dep hxT2c c57_1 rfl
          have hF57 := f_fr_tr hF2c c57_1 rfl
          have s57 : sn (I57 33) (I57 34) (I57 35) (I57 31 9).toInt := c57_4 u2_4
          have l57 : (I57 31 9).toInt = lca I (fun q => kb L r.toInt.toNat (48 + q)) := by
            rw [c57_3, u2_3, hF2c 16 rfl, hF2c 25 rfl, show p.toInt.toNat = (I 25 7).toInt.toNat by omega]
            rfl
          have r62_5 : 0 ≤ (I57 31 9).toInt ∧ (I57 31 9).toInt ≤ 20 := c57_0 31 9
          have r62_6 : 0 ≤ (I57 69 5).toInt ∧ (I57 69 5).toInt ≤ 300 := c57_0 69 5
          have e62_7 : (I57 69 5).toInt = (J2 69 5).toInt := congrArg Int32.toInt (congrFun (c57_1 69 rfl) 5)
          have e62_9 : (I57 69 6).toInt = (J2 69 6).toInt := congrArg Int32.toInt (congrFun (c57_1 69 rfl) 6)
          exact ⟨Int32.ofInt 0, (by intro q9 h9; simp only [List.mem_cons, List.not_mem_nil, or_false] at h9; rcases h9 with h9 | h9 | h9 <;> subst h9 <;> repeat (first | exact List.mem_cons_self | apply List.mem_cons_of_mem)), rfl, c57_0, hF57, hG2c, hxO57, hxT57, (show 0 ≤ (0 : Int) from by first | assumption | omega), (show (0 : Int) ≤ (I57 31 9).toInt from by first | assumption | omega), (show (I57 31 9).toInt = lca I (fun q => kb L r.toInt.toNat (48 + q)) from by first | assumption | omega | rfl), (show sn (I57 33) (I57 34) (I57 35) (I57 31 9).toInt from by first | assumption | omega), (show (∀ s : Nat, (s : Int) < (0 : Int) → (I57 37 s).toInt = kb L r.toInt.toNat s) from by first | assumption | omega | exact fun _ _ => rfl | exact fun _ _ => ⟨rfl, rfl⟩ | exact fun _ _ => ⟨rfl, rfl, rfl⟩ | (intro j9 hj9; omega)), (show (I57 69 5).toInt = (I 69 5).toInt from by first | assumption | omega | rfl), (show (I57 69 6).toInt = (I 69 6).toInt from by first | assumption | omega | rfl), (show M2 70 = L 70 from by first | assumption | omega | rfl), (show (20 - (0 : Int)) < 21 from by omega)⟩
        · intro h10
          have h10 : p.toInt < (J2 25 7).toInt := h10
          have g13 : kb L r.toInt.toNat (48 + p.toInt.toNat) < (I 27 p.toInt.toNat).toInt := p7.1 p.toInt.toNat (by omega)
          have m13 : (I 27 p.toInt.toNat).toInt ≤ 3 := (hR 27 _).2
          have t13 := hxT p.toInt.toNat
          have k13 := (kb_rng L r.toInt.toNat (48 + p.toInt.toNat)).1
          refine And.intro (show f_in p 8 from ⟨show 0 ≤ p.toInt from by omega, show p.toInt < 8 from by omega⟩) ?_
          have r25_3 : 0 ≤ (J2 26 (p.toInt.toNat)).toInt ∧ (J2 26 (p.toInt.toNat)).toInt ≤ 52 := hR2c 26 (p.toInt.toNat)
          have e25_4 : (J2 26 (p.toInt.toNat)).toInt = (I 26 (p.toInt.toNat)).toInt := congrArg Int32.toInt (congrFun (hF2c 26 rfl) (p.toInt.toNat))
          refine And.intro ⟨hR2c, (show 0 ≤ (48 : Int) from by first | assumption | omega), (show 0 ≤ p.toInt from by first | assumption | omega), (show (48 : Int) + p.toInt ≤ 63 from by first | assumption | omega)⟩ ?_
          intro x31 I31 L31 hq31
          have hq31 : I31 = J2 ∧ L31 = M2 ∧ (((J2 69 6).toInt = 0 → 0 ≤ r.toInt → r.toInt < (J2 69 5).toInt → kb M2 r.toInt.toNat ((48 : Int) + p.toInt).toNat < 255 → x31.toInt = kb M2 r.toInt.toNat ((48 : Int) + p.toInt).toNat)) := hq31
          obtain ⟨eI31, eL31, c31_2⟩ := hq31
          replace eI31 := eI31.symm
          subst eI31
          replace eL31 := eL31.symm
          subst eL31
          have v31 : x31.toInt = kb L r.toInt.toNat (48 + p.toInt.toNat) := by
            have q := c31_2
            rw [kb_L u2_8, show ((48 : Int) + p.toInt).toNat = 48 + p.toInt.toNat by omega] at q
            exact q (by omega) (by omega) (by omega) (by omega)
          intro z34 q34 _ hq34 hl34 hu34
          have hq34 : z34.toInt = (J2 26 (p.toInt.toNat)).toInt + x31.toInt + 4294967296 * q34 := hq34
          try have hz34 : z34.toInt = (J2 26 (p.toInt.toNat)).toInt + x31.toInt := by omega
          refine And.intro ⟨hR2c, hxO2c, (show 0 ≤ z34.toInt from by first | assumption | omega), (show z34.toInt ≤ 52 from by first | assumption | omega), (show -1 ≤ p.toInt from by first | assumption | omega), (show p.toInt ≤ 7 from by first | assumption | omega)⟩ ?_
          intro I36 L36 hq36
          have hq36 : xR I36 ∧ f_fr [31, 32, 33, 34, 35, 36, 38, 39] J2 I36 ∧ L36 = M2 ∧ (I36 31 9).toInt = lcn (J2 31 9).toInt (J2 16 z34.toInt.toNat).toInt ∧ ((sn (J2 33) (J2 34) (J2 35) (J2 31 9).toInt → sn (I36 33) (I36 34) (I36 35) (I36 31 9).toInt)) := hq36
          obtain ⟨c36_0, c36_1, eL36, c36_3, c36_4⟩ := hq36
          replace eL36 := eL36.symm
          subst eL36
          have hxO36 := f_dep_fr xO_dep hxO2c c36_1 rfl
          have hxT36 := f_dep_fr xT_dep hxT2c c36_1 rfl
          have hF36 := f_fr_tr hF2c c36_1 rfl
          have s36 : sn (I36 33) (I36 34) (I36 35) (I36 31 9).toInt := c36_4 u2_4
          have q36 : I36 37 = I 37 := (c36_1 37 rfl).trans u2_5
          intro z39 q39 _ hq39 hl39 hu39
          have hq39 : z39.toInt = p.toInt + 1 + 4294967296 * q39 := hq39
          try have hz39 : z39.toInt = p.toInt + 1 := by omega
          have l39 : (I36 31 9).toInt = lcs (szs I (fun q => kb L r.toInt.toNat (48 + q))) z39.toInt.toNat := by
            rw [show z39.toInt.toNat = p.toInt.toNat + 1 by omega, c36_3, u2_3, hF2c 16 rfl]
            show _ = lcn _ (I 16 ((I 26 p.toInt.toNat).toInt + kb L r.toInt.toNat (48 + p.toInt.toNat)).toNat).toInt
            rw [show z34.toInt.toNat = ((I 26 p.toInt.toNat).toInt + kb L r.toInt.toNat (48 + p.toInt.toNat)).toNat by omega]
          have r2_5 : 0 ≤ (I36 31 9).toInt ∧ (I36 31 9).toInt ≤ 20 := c36_0 31 9
          have r2_6 : 0 ≤ (I36 69 5).toInt ∧ (I36 69 5).toInt ≤ 300 := c36_0 69 5
          have e2_7 : (I36 69 5).toInt = (J2 69 5).toInt := congrArg Int32.toInt (congrFun (c36_1 69 rfl) 5)
          have e2_9 : (I36 69 6).toInt = (J2 69 6).toInt := congrArg Int32.toInt (congrFun (c36_1 69 rfl) 6)
          exact ⟨z39, (by intro q9 h9; simp only [List.mem_cons, List.not_mem_nil, or_false] at h9; rcases h9 with h9 | h9 | h9 <;> subst h9 <;> repeat (first | exact List.mem_cons_self | apply List.mem_cons_of_mem)), rfl, c36_0, hF36, hG2c, hxO36, hxT36, (show 0 ≤ z39.toInt from by first | assumption | omega), (show z39.toInt ≤ (I 25 7).toInt from by first | assumption | omega), (show (I36 31 9).toInt = lcs (szs I (fun q => kb L r.toInt.toNat (48 + q))) z39.toInt.toNat from by first | assumption | omega | rfl), (show sn (I36 33) (I36 34) (I36 35) (I36 31 9).toInt from by first | assumption | omega), (show I36 37 = I 37 from by first | assumption | omega | rfl), (show (I36 69 5).toInt = (I 69 5).toInt from by first | assumption | omega | rfl), (show (I36 69 6).toInt = (I 69 6).toInt from by first | assumption | omega | rfl), (show M2 70 = L 70 from by first | assumption | omega | rfl), (show ((I 25 7).toInt - z39.toInt) < n2 from by omega)⟩
    refine f_wp_ok C f_cl flX5_ok fiX5_ok fjX5_ok (sn := none) (fun j h => by cases h) (cs := (f_cnl [(78, (4, 1, 5, pX5_value, qX5_value)), (82, (3, 0, 7, pX7_lay, qX7_lay)), (98, (1, 1, 5, pX5_goalEnd, qX5_goalEnd)), (102, (4, 0, 5, (pX5_tell 22), qX5_tell)), (109, (2, 0, 7, pX7_liftTo, qX7_liftTo))])) (cz := (f_cnl [(106, (2, 0, 0, pJ7_fill_53178, qJ7_fill_53178))])) (f_cnl_of (P := fun j S => f_cok pP l eP (f_rm 24) sP mP aP bP hP9 cP xY 80 a cy dC dI 3 _ _ (.invokevirtual j) true S) (List.forall_mem_cons.mpr ⟨f_cokV C (mX5_value hinj) (ci := 5) rfl (List.forall_mem_cons.mpr ⟨(mlX5_ok _ (List.mem_of_getElem? (i := 4) rfl)), kc_X5_value⟩) (by decide +kernel) ⟨Nat.le_of_ble_eq_true rfl, Nat.le_of_ble_eq_true rfl⟩, List.forall_mem_cons.mpr ⟨f_cokV C (mX7_lay hinj) (ci := 7) rfl (List.forall_mem_cons.mpr ⟨(mlX5_ok _ (List.mem_of_getElem? (i := 5) rfl)), kc_X7_lay⟩) (by decide +kernel) ⟨Nat.le_of_ble_eq_true rfl, Nat.le_of_ble_eq_true rfl⟩, List.forall_mem_cons.mpr ⟨f_cokV C (mX5_goalEnd hinj) (ci := 5) rfl (List.forall_mem_cons.mpr ⟨(mlX5_ok _ (List.mem_of_getElem? (i := 6) rfl)), kc_X5_goalEnd⟩) (by decide +kernel) ⟨Nat.le_of_ble_eq_true rfl, Nat.le_of_ble_eq_true rfl⟩, List.forall_mem_cons.mpr ⟨f_cokV C (mX5_tell hinj 22) (ci := 5) rfl (List.forall_mem_cons.mpr ⟨(mlX5_ok _ (List.mem_of_getElem? (i := 7) rfl)), kc_X5_tell⟩) (by decide +kernel) ⟨Nat.le_of_ble_eq_true rfl, Nat.le_of_ble_eq_true rfl⟩, List.forall_mem_cons.mpr ⟨f_cokV C (mX7_liftTo hinj) (ci := 7) rfl (List.forall_mem_cons.mpr ⟨(mlX5_ok _ (List.mem_of_getElem? (i := 9) rfl)), kc_X7_liftTo⟩) (by decide +kernel) ⟨Nat.le_of_ble_eq_true rfl, Nat.le_of_ble_eq_true rfl⟩, fun _ h => absurd h List.not_mem_nil⟩⟩⟩⟩⟩)) (f_cnl_of (P := fun j S => f_cok pP l eP (f_rm 24) sP mP aP bP hP9 cP xY 80 a cy dC dI 3 _ _ (.invokestatic j) false S) (List.forall_mem_cons.mpr ⟨f_cokS C (mJ7_fill_53178 hinj) (List.forall_mem_cons.mpr ⟨(mlX5_ok _ (List.mem_of_getElem? (i := 8) rfl)), kc_J7_fill_53178⟩) (by decide +kernel) ⟨Nat.le_of_ble_eq_true rfl, Nat.le_of_ble_eq_true rfl⟩, fun _ h => absurd h List.not_mem_nil⟩)) tX5_readOff_ok (cut := (f_cnl [(2, (fun (ls' : fLs) (st' : List Value) (I' : fM) (L' : fN) => ∃ p : Int32, (∀ q ∈ ([(2, .int p), (1, .int r), (0, .ref 69)] : fLs), q ∈ ls') ∧ st' = [] ∧ (xR I' ∧ f_fr [31, 32, 33, 34, 35, 36, 37, 38, 39, 69, 71] I I' ∧ f_fr [70] L L' ∧ xO I' ∧ xT I' ∧ (0 ≤ p.toInt) ∧ (p.toInt ≤ (I 25 7).toInt) ∧ ((I' 31 9).toInt = lcs (szs I (fun q => kb L r.toInt.toNat (48 + q))) p.toInt.toNat) ∧ (sn (I' 33) (I' 34) (I' 35) (I' 31 9).toInt) ∧ (I' 37 = I 37) ∧ ((I' 69 5).toInt = (I 69 5).toInt) ∧ ((I' 69 6).toInt = (I 69 6).toInt) ∧ (L' 70 = L 70) ∧ ((I 25 7).toInt - p.toInt) < 9)))])) (f_cnl_of (P := fun (tQ : Nat) (P : fLs → List Value → fM → fN → Prop) => ∀ ls' st' I' L', P ls' st' I' L' → f_W pP l eP (f_rm 24) sP mP aP bP hP9 cP xY 80 a cy dC dI 3 (f_K 0 (qX5_readOff [.ref 69, .int r] I L)) tQ ls' st' I' L') (List.forall_mem_cons.mpr ⟨(fun ls' st' I' L' h => by obtain ⟨p, hs, e1, h9⟩ := h; rw [e1]; exact f_W_sub hs (lp2 9 p I' L' h9)), fun _ h => absurd h List.not_mem_nil⟩)) 5 0 tX5_readOff tX5_readOff_ok _ _ _ _ ?_
    have s0 : sn (I 33) (I 34) (I 35) (I 31 9).toInt := sn_0 hxS.2
    have l0 : (I 31 9).toInt = lcs (szs I (fun q => kb L r.toInt.toNat (48 + q))) (0 : Nat) := hxS.2
    have r2_1 : 0 ≤ (I 25 7).toInt ∧ (I 25 7).toInt ≤ 8 := hR 25 7
    have r2_2 : 0 ≤ (I 31 9).toInt ∧ (I 31 9).toInt ≤ 20 := hR 31 9
    have r2_3 : 0 ≤ (I 69 5).toInt ∧ (I 69 5).toInt ≤ 300 := hR 69 5
    exact ⟨Int32.ofInt 0, (by intro q9 h9; simp only [List.mem_cons, List.not_mem_nil, or_false] at h9; rcases h9 with h9 | h9 | h9 <;> subst h9 <;> repeat (first | exact List.mem_cons_self | apply List.mem_cons_of_mem)), rfl, hR, hF0, hG0, hxO, hxT, (show 0 ≤ (0 : Int) from by first | assumption | omega), (show (0 : Int) ≤ (I 25 7).toInt from by first | assumption | omega), (show (I 31 9).toInt = lcs (szs I (fun q => kb L r.toInt.toNat (48 + q))) 0 from by first | assumption | omega | rfl), (show sn (I 33) (I 34) (I 35) (I 31 9).toInt from by first | assumption | omega), (show I 37 = I 37 from by first | assumption | omega | rfl), (show (I 69 5).toInt = (I 69 5).toInt from by first | assumption | omega | rfl), (show (I 69 6).toInt = (I 69 6).toInt from by first | assumption | omega | rfl), (show L 70 = L 70 from by first | assumption | omega | rfl), (show ((I 25 7).toInt - (0 : Int)) < 9 from by omega)⟩
def tX5_find : List (Instr × Nat) := [(.aload_n 0, 1), (.getfield 36, 3), (.ifCond .eq 4, 3), (.return_, 1), (.aload_n 0, 1), (.iconst 1, 1), (.putfield 36, 3), (.aload_n 0, 1), (.iconst 0, 1), (.putfield 40, 3), (.aload_n 0, 1), (.iconst 0, 1), (.putfield 43, 3), (.aload_n 0, 1), (.getfield 21, 3), (.aload_n 0, 1), (.getfield 32, 3), (.invokevirtual 47, 3), (.aload_n 0, 1), (.getfield 21, 3), (.aload_n 0, 1), (.invokevirtual 51, 3), (.pop, 1), (.iconst 0, 1), (.istore_n 1, 1), (.iload_n 1, 1), (.aload_n 0, 1), (.getfield 43, 3), (.if_icmp .ge 21, 3), (.aload_n 0, 1), (.getfield 40, 3), (.ifCond .ne 14, 3), (.aload_n 0, 1), (.iload_n 1, 1), (.invokevirtual 55, 3), (.iinc 1 1, 3), (.goto (-23), 3), (.return_, 1)]
theorem tX5_find_ok : f_chk cX5_find 0 tX5_find = true := by decide +kernel
def pX5_find (av : List Value) (I : fM) (L : fN) : Prop := match av with
  | [.ref 69] => xR I ∧ xO I ∧ xT I ∧ xS I
  | _ => False
def qX5_find (av : List Value) (I : fM) (L : fN) (r : Value) (I' : fM) (L' : fN) : Prop := match av, r with
  | [.ref 69], .null => xR I' ∧ xO I' ∧ xT I' ∧ f_fr [25, 26, 27, 28, 31, 32, 33, 34, 35, 36, 37, 38, 39, 69, 71] I I' ∧ f_fr [29, 30, 70] L L' ∧ xS I'
  | _, _ => False
set_option maxHeartbeats 4000000 in
set_option maxRecDepth 100000 in
theorem mX5_find {l : Launch} {a : Nat → Nat} {cy dC : Nat → ClassId} {dI : Nat → Nat → Nat} (hinj : ∀ i j, i < 80 → j < 80 → a i = a j → i = j) : f_Met (xE a) l xY 80 a cy dC dI yX5_find cX5_find 2 0 36 pX5_find qX5_find := by
  refine f_met_of (xE_c a) hinj xY_hi (by decide) (fun av I L h => by unfold pX5_find at h; split at h <;> first | exact Nat.le_of_ble_eq_true rfl | exact h.elim) ?_
  intro pP eP sP mP aP bP hP9 cP C av I L hp
  unfold pX5_find at hp
  split at hp
  case h_2 => exact hp.elim
  case h_1 =>
    obtain ⟨hR, hxO, hxT, hxS⟩ := hp
    have hF0 : f_fr [25, 26, 27, 28, 31, 32, 33, 34, 35, 36, 37, 38, 39, 69, 71] I I := f_fr_rf
    have hG0 : f_fr [29, 30, 70] L L := f_fr_rf
    have lp45 : ∀ (n45 : Nat), ∀ (i : Int32) (J45 : fM) (M45 : fN), xR J45 ∧ f_fr [25, 26, 27, 28, 31, 32, 33, 34, 35, 36, 37, 38, 39, 69, 71] I J45 ∧ f_fr [29, 30, 70] L M45 ∧ xO J45 ∧ xT J45 ∧ xS J45 ∧ (0 ≤ i.toInt) ∧ (i.toInt ≤ 300) ∧ ((∀ r : Nat, i.toInt ≤ (r : Int) → (r : Int) < (J45 69 5).toInt → good J45 M45 r)) ∧ (((J45 69 5).toInt ≤ 0 ∨ 0 < (J45 16 (J45 25 8).toInt.toNat).toInt)) ∧ (300 - i.toInt) < n45 → f_W pP l eP (f_rm 36) sP mP aP bP hP9 cP xY 80 a cy dC dI 2 (f_K 0 (qX5_find [.ref 69] I L)) 45 [(1, .int i), (0, .ref 69)] [] J45 M45 := by
      intro n45
      induction n45 with
      | zero =>
        intro i J45 M45 h9
        obtain ⟨hR45c, hF45c, hG45c, hxO45c, hxT45c, hxS45c, u45_1, u45_2, u45_3, u45_4, hm45⟩ := h9
        omega
      | succ n45 ih45 =>
        intro i J45 M45 h9
        obtain ⟨hR45c, hF45c, hG45c, hxO45c, hxT45c, hxS45c, u45_1, u45_2, u45_3, u45_4, hm45⟩ := h9
        refine f_wp_ok C f_cl flX5_ok fiX5_ok fjX5_ok (sn := none) (fun j h => by cases h) (cs := (f_cnl [(47, (2, 0, 9, pX10_beginWithRow, qX10_beginWithRow)), (51, (2, 3, 9, pX10_search, qX10_search)), (55, (2, 0, 5, pX5_readOff, qX5_readOff))])) (cz := (fun _ => none)) (f_cnl_of (P := fun j S => f_cok pP l eP (f_rm 36) sP mP aP bP hP9 cP xY 80 a cy dC dI 2 _ _ (.invokevirtual j) true S) (List.forall_mem_cons.mpr ⟨f_cokV C (mX10_beginWithRow hinj) (ci := 9) rfl (List.forall_mem_cons.mpr ⟨(mlX5_ok _ (List.mem_of_getElem? (i := 0) rfl)), kc_X10_beginWithRow⟩) (by decide +kernel) ⟨Nat.le_of_ble_eq_true rfl, Nat.le_of_ble_eq_true rfl⟩, List.forall_mem_cons.mpr ⟨f_cokV C (mX10_search hinj) (ci := 9) rfl (List.forall_mem_cons.mpr ⟨(mlX5_ok _ (List.mem_of_getElem? (i := 1) rfl)), kc_X10_search⟩) (by decide +kernel) ⟨Nat.le_of_ble_eq_true rfl, Nat.le_of_ble_eq_true rfl⟩, List.forall_mem_cons.mpr ⟨f_cokV C (mX5_readOff hinj) (ci := 5) rfl (List.forall_mem_cons.mpr ⟨(mlX5_ok _ (List.mem_of_getElem? (i := 2) rfl)), kc_X5_readOff⟩) (by decide +kernel) ⟨Nat.le_of_ble_eq_true rfl, Nat.le_of_ble_eq_true rfl⟩, fun _ h => absurd h List.not_mem_nil⟩⟩⟩)) (fun j S h => by cases h) tX5_find_ok (cut := (f_cnl [(45, (fun (ls' : fLs) (st' : List Value) (I' : fM) (L' : fN) => ∃ i : Int32, (∀ q ∈ ([(1, .int i), (0, .ref 69)] : fLs), q ∈ ls') ∧ st' = [] ∧ (xR I' ∧ f_fr [25, 26, 27, 28, 31, 32, 33, 34, 35, 36, 37, 38, 39, 69, 71] I I' ∧ f_fr [29, 30, 70] L L' ∧ xO I' ∧ xT I' ∧ xS I' ∧ (0 ≤ i.toInt) ∧ (i.toInt ≤ 300) ∧ ((∀ r : Nat, i.toInt ≤ (r : Int) → (r : Int) < (I' 69 5).toInt → good I' L' r)) ∧ (((I' 69 5).toInt ≤ 0 ∨ 0 < (I' 16 (I' 25 8).toInt.toNat).toInt)) ∧ (300 - i.toInt) < n45)))])) (f_cnl_of (P := fun (tQ : Nat) (P : fLs → List Value → fM → fN → Prop) => ∀ ls' st' I' L', P ls' st' I' L' → f_W pP l eP (f_rm 36) sP mP aP bP hP9 cP xY 80 a cy dC dI 2 (f_K 0 (qX5_find [.ref 69] I L)) tQ ls' st' I' L') (List.forall_mem_cons.mpr ⟨(fun ls' st' I' L' h => by obtain ⟨i, hs, e1, h9⟩ := h; rw [e1]; exact f_W_sub hs (ih45 i I' L' h9)), fun _ h => absurd h List.not_mem_nil⟩)) 15 45 (f_seek 45 0 tX5_find) (f_seek_ok 45 0 tX5_find tX5_find_ok) _ _ _ _ ?_
        have r47_1 : 0 ≤ (J45 69 5).toInt ∧ (J45 69 5).toInt ≤ 300 := hR45c 69 5
        apply And.intro
        · intro h50
          have h50 : (J45 69 5).toInt ≤ i.toInt := h50
          exact ⟨hR45c, hxO45c, hxT45c, hF45c, hG45c, hxS45c⟩
        · intro h50
          have h50 : i.toInt < (J45 69 5).toInt := h50
          apply And.intro
          · intro h57
            have h57 : ¬ (J45 69 6).toInt = 0 := h57
            exact ⟨hR45c, hxO45c, hxT45c, hF45c, hG45c, hxS45c⟩
          · intro h57
            have h57 : (J45 69 6).toInt = 0 := h57
            have r62_3 : 0 ≤ (J45 16 ((J45 25 8).toInt.toNat)).toInt ∧ (J45 16 ((J45 25 8).toInt.toNat)).toInt ≤ 4 := hR45c 16 ((J45 25 8).toInt.toNat)
            have e62_4 : (J45 16 ((J45 25 8).toInt.toNat)).toInt = (I 16 ((J45 25 8).toInt.toNat)).toInt := congrArg Int32.toInt (congrFun (hF45c 16 rfl) ((J45 25 8).toInt.toNat))
            have r62_5 : 0 ≤ (J45 25 8).toInt ∧ (J45 25 8).toInt ≤ 52 := hR45c 25 8
            refine And.intro ⟨hR45c, hxO45c, hxT45c, (show 0 ≤ i.toInt from by first | assumption | omega), (show i.toInt < (J45 69 5).toInt from by first | assumption | omega), (show (J45 69 6).toInt = 0 from by first | assumption | omega | rfl), hxS45c, (u45_3 i.toInt.toNat (by omega) (by omega)), (show 0 < (J45 16 (J45 25 8).toInt.toNat).toInt from by first | assumption | omega)⟩ ?_
            intro I62 L62 hq62
            have hq62 : xR I62 ∧ xO I62 ∧ xT I62 ∧ f_fr [31, 32, 33, 34, 35, 36, 37, 38, 39, 69, 71] J45 I62 ∧ f_fr [70] M45 L62 ∧ xS I62 ∧ (I62 69 5).toInt = (J45 69 5).toInt ∧ (I62 69 6).toInt = (J45 69 6).toInt ∧ ((∀ j : Nat, (j < 8 * i.toInt.toNat ∨ 8 * i.toInt.toNat + 8 ≤ j) → L62 70 j = M45 70 j)) := hq62
            obtain ⟨c62_0, c62_1, c62_2, c62_3, c62_4, c62_5, c62_6, c62_7, c62_8⟩ := hq62
            have hF62 := f_fr_tr hF45c c62_3 rfl
            have hG62 := f_fr_tr hG45c c62_4 rfl
            intro z65 q65 _ hq65 hl65 hu65
            have hq65 : z65.toInt = i.toInt + 1 + 4294967296 * q65 := hq65
            try have hz65 : z65.toInt = i.toInt + 1 := by omega
            have k65 : ∀ r : Nat, z65.toInt ≤ (r : Int) → (r : Int) < (I62 69 5).toInt → good I62 L62 r := fun r h1 h2 => good_congr hR45c (c62_3 16 rfl) (c62_3 25 rfl) (c62_3 26 rfl) (c62_3 27 rfl) (fun s hs => by unfold kb; rw [c62_8 _ (by omega)]) (u45_3 r (by omega) (by omega))
            have g65 : (I62 69 5).toInt ≤ 0 ∨ 0 < (I62 16 (I62 25 8).toInt.toNat).toInt := by rw [c62_3 16 rfl, c62_3 25 rfl]; omega
            have r45_6 : 0 ≤ (I62 69 5).toInt ∧ (I62 69 5).toInt ≤ 300 := c62_0 69 5
            have r45_7 : 0 ≤ (I62 16 ((I62 25 8).toInt.toNat)).toInt ∧ (I62 16 ((I62 25 8).toInt.toNat)).toInt ≤ 4 := c62_0 16 ((I62 25 8).toInt.toNat)
            have e45_8 : (I62 16 ((I62 25 8).toInt.toNat)).toInt = (J45 16 ((I62 25 8).toInt.toNat)).toInt := congrArg Int32.toInt (congrFun (c62_3 16 rfl) ((I62 25 8).toInt.toNat))
            have e45_9 : (J45 16 ((I62 25 8).toInt.toNat)).toInt = (I 16 ((I62 25 8).toInt.toNat)).toInt := congrArg Int32.toInt (congrFun (hF45c 16 rfl) ((I62 25 8).toInt.toNat))
            have r45_10 : 0 ≤ (I62 25 8).toInt ∧ (I62 25 8).toInt ≤ 52 := c62_0 25 8
            have e45_11 : (I62 25 8).toInt = (J45 25 8).toInt := congrArg Int32.toInt (congrFun (c62_3 25 rfl) 8)
            exact ⟨z65, (by intro q9 h9; simp only [List.mem_cons, List.not_mem_nil, or_false] at h9; rcases h9 with h9 | h9 <;> subst h9 <;> repeat (first | exact List.mem_cons_self | apply List.mem_cons_of_mem)), rfl, c62_0, hF62, hG62, c62_1, c62_2, c62_5, (show 0 ≤ z65.toInt from by first | assumption | omega), (show z65.toInt ≤ 300 from by first | assumption | omega), (show (∀ r : Nat, z65.toInt ≤ (r : Int) → (r : Int) < (I62 69 5).toInt → good I62 L62 r) from by first | assumption | omega | exact fun _ _ => rfl | exact fun _ _ => ⟨rfl, rfl⟩ | exact fun _ _ => ⟨rfl, rfl, rfl⟩ | (intro j9 hj9; omega)), (show ((I62 69 5).toInt ≤ 0 ∨ 0 < (I62 16 (I62 25 8).toInt.toNat).toInt) from by first | assumption | omega), (show (300 - z65.toInt) < n45 from by omega)⟩
    refine f_wp_ok C f_cl flX5_ok fiX5_ok fjX5_ok (sn := none) (fun j h => by cases h) (cs := (f_cnl [(47, (2, 0, 9, pX10_beginWithRow, qX10_beginWithRow)), (51, (2, 3, 9, pX10_search, qX10_search)), (55, (2, 0, 5, pX5_readOff, qX5_readOff))])) (cz := (fun _ => none)) (f_cnl_of (P := fun j S => f_cok pP l eP (f_rm 36) sP mP aP bP hP9 cP xY 80 a cy dC dI 2 _ _ (.invokevirtual j) true S) (List.forall_mem_cons.mpr ⟨f_cokV C (mX10_beginWithRow hinj) (ci := 9) rfl (List.forall_mem_cons.mpr ⟨(mlX5_ok _ (List.mem_of_getElem? (i := 0) rfl)), kc_X10_beginWithRow⟩) (by decide +kernel) ⟨Nat.le_of_ble_eq_true rfl, Nat.le_of_ble_eq_true rfl⟩, List.forall_mem_cons.mpr ⟨f_cokV C (mX10_search hinj) (ci := 9) rfl (List.forall_mem_cons.mpr ⟨(mlX5_ok _ (List.mem_of_getElem? (i := 1) rfl)), kc_X10_search⟩) (by decide +kernel) ⟨Nat.le_of_ble_eq_true rfl, Nat.le_of_ble_eq_true rfl⟩, List.forall_mem_cons.mpr ⟨f_cokV C (mX5_readOff hinj) (ci := 5) rfl (List.forall_mem_cons.mpr ⟨(mlX5_ok _ (List.mem_of_getElem? (i := 2) rfl)), kc_X5_readOff⟩) (by decide +kernel) ⟨Nat.le_of_ble_eq_true rfl, Nat.le_of_ble_eq_true rfl⟩, fun _ h => absurd h List.not_mem_nil⟩⟩⟩)) (fun j S h => by cases h) tX5_find_ok (cut := (f_cnl [(45, (fun (ls' : fLs) (st' : List Value) (I' : fM) (L' : fN) => ∃ i : Int32, (∀ q ∈ ([(1, .int i), (0, .ref 69)] : fLs), q ∈ ls') ∧ st' = [] ∧ (xR I' ∧ f_fr [25, 26, 27, 28, 31, 32, 33, 34, 35, 36, 37, 38, 39, 69, 71] I I' ∧ f_fr [29, 30, 70] L L' ∧ xO I' ∧ xT I' ∧ xS I' ∧ (0 ≤ i.toInt) ∧ (i.toInt ≤ 300) ∧ ((∀ r : Nat, i.toInt ≤ (r : Int) → (r : Int) < (I' 69 5).toInt → good I' L' r)) ∧ (((I' 69 5).toInt ≤ 0 ∨ 0 < (I' 16 (I' 25 8).toInt.toNat).toInt)) ∧ (300 - i.toInt) < 301)))])) (f_cnl_of (P := fun (tQ : Nat) (P : fLs → List Value → fM → fN → Prop) => ∀ ls' st' I' L', P ls' st' I' L' → f_W pP l eP (f_rm 36) sP mP aP bP hP9 cP xY 80 a cy dC dI 2 (f_K 0 (qX5_find [.ref 69] I L)) tQ ls' st' I' L') (List.forall_mem_cons.mpr ⟨(fun ls' st' I' L' h => by obtain ⟨i, hs, e1, h9⟩ := h; rw [e1]; exact f_W_sub hs (lp45 301 i I' L' h9)), fun _ h => absurd h List.not_mem_nil⟩)) 27 0 tX5_find tX5_find_ok _ _ _ _ ?_
    apply And.intro
    · intro h4
      have h4 : (I 69 7).toInt = 0 := h4
      refine And.intro (Or.inr rfl) ?_
      have hR10 := xR_f (k := 69) (j := 7) (x := Int32.ofInt 1) hR (by exact f_rng _)
      have hF10 := f_fr_up (k := 69) (r := va_up (I 69) 7 (Int32.ofInt 1)) hF0 rfl
      have hxO10 := f_dep_up xO_dep (k := 69) (r := va_up (I 69) 7 (Int32.ofInt 1)) hxO rfl
      have hxT10 := f_dep_up xT_dep (k := 69) (r := va_up (I 69) 7 (Int32.ofInt 1)) hxT rfl
      have hxS10 := f_dep_up xS_dep (k := 69) (r := va_up (I 69) 7 (Int32.ofInt 1)) hxS rfl
      refine And.intro (Or.inl rfl) ?_
      have hR15 := xR_f (k := 69) (j := 6) (x := Int32.ofInt 0) hR10 (by exact f_rng _)
      have hF15 := f_fr_up (k := 69) (r := va_up (va_up (I 69) 7 (Int32.ofInt 1)) 6 (Int32.ofInt 0)) hF10 rfl
      have hxO15 := f_dep_up xO_dep (k := 69) (r := va_up (va_up (I 69) 7 (Int32.ofInt 1)) 6 (Int32.ofInt 0)) hxO10 rfl
      have hxT15 := f_dep_up xT_dep (k := 69) (r := va_up (va_up (I 69) 7 (Int32.ofInt 1)) 6 (Int32.ofInt 0)) hxT10 rfl
      have hxS15 := f_dep_up xS_dep (k := 69) (r := va_up (va_up (I 69) 7 (Int32.ofInt 1)) 6 (Int32.ofInt 0)) hxS10 rfl
      have hR20 := xR_f (k := 69) (j := 5) (x := Int32.ofInt 0) hR15 (show 0 ≤ 0 ∧ 0 ≤ 300 from ⟨by omega, by omega⟩)
      have hF20 := f_fr_up (k := 69) (r := va_up (va_up (va_up (I 69) 7 (Int32.ofInt 1)) 6 (Int32.ofInt 0)) 5 (Int32.ofInt 0)) hF15 rfl
      have hxO20 := f_dep_up xO_dep (k := 69) (r := va_up (va_up (va_up (I 69) 7 (Int32.ofInt 1)) 6 (Int32.ofInt 0)) 5 (Int32.ofInt 0)) hxO15 rfl
      have hxT20 := f_dep_up xT_dep (k := 69) (r := va_up (va_up (va_up (I 69) 7 (Int32.ofInt 1)) 6 (Int32.ofInt 0)) 5 (Int32.ofInt 0)) hxT15 rfl
      have hxS20 := f_dep_up xS_dep (k := 69) (r := va_up (va_up (va_up (I 69) 7 (Int32.ofInt 1)) 6 (Int32.ofInt 0)) 5 (Int32.ofInt 0)) hxS15 rfl
      refine And.intro ⟨hR20, hxT20⟩ ?_
      intro I31 L31 hq31
      have hq31 : xR I31 ∧ xT I31 ∧ f_fr [25, 26, 27] (va_up (va_up (va_up I 69 (va_up (I 69) 7 (Int32.ofInt 1))) 69 (va_up (va_up (I 69) 7 (Int32.ofInt 1)) 6 (Int32.ofInt 0))) 69 (va_up (va_up (va_up (I 69) 7 (Int32.ofInt 1)) 6 (Int32.ofInt 0)) 5 (Int32.ofInt 0))) I31 ∧ L31 = L ∧ (I31 25 8).toInt = 36 := hq31
      obtain ⟨c31_0, c31_1, c31_2, eL31, c31_4⟩ := hq31
      replace eL31 := eL31.symm
      subst eL31
      have hxO31 := f_dep_fr xO_dep hxO20 c31_2 rfl
      have hxS31 := f_dep_fr xS_dep hxS20 c31_2 rfl
      have hF31 := f_fr_tr hF20 c31_2 rfl
      refine And.intro ⟨c31_0, hxO31, c31_1, hxS31, (by first | assumption | exact Or.inl rfl | exact Or.inr rfl | (intro h; cases h)), (fun _ r h => by have e : (I31 69 5).toInt = 0 := congrArg Int32.toInt (congrFun (c31_2 69 rfl) 5); rw [e] at h; omega)⟩ ?_
      intro x39 I39 L39 hq39
      have hq39 : xR I39 ∧ xO I39 ∧ xT I39 ∧ xS I39 ∧ f_fr [28, 31, 32, 33, 34, 35, 36, 37, 38, 39, 69] I31 I39 ∧ f_fr [29, 30, 70] L L39 ∧ (((Value.ref 69) = Value.ref 69 → xK I39 L39)) ∧ ((I39 69 = I31 69 ∨ 0 < (I31 16 (I31 25 8).toInt.toNat).toInt)) ∧ ((x39.toInt = 0 ∨ x39.toInt = 1)) := hq39
      obtain ⟨c39_0, c39_1, c39_2, c39_3, c39_4, c39_5, c39_6, c39_7, c39_8⟩ := hq39
      have hF39 := f_fr_tr hF31 c39_4 rfl
      have hG39 := f_fr_tr hG0 c39_5 rfl
      have z39 : (I31 69 5).toInt = 0 := congrArg Int32.toInt (congrFun (c31_2 69 rfl) 5)
      have g39 : (I39 69 5).toInt ≤ 0 ∨ 0 < (I39 16 (I39 25 8).toInt.toNat).toInt := by
        rcases c39_7 with q | q
        · left; rw [q]; omega
        · right; rw [c39_4 16 rfl, c39_4 25 rfl]; exact q
      have k39 : ∀ r : Nat, (0 : Int) ≤ (r : Int) → (r : Int) < (I39 69 5).toInt → good I39 L39 r := fun r _ h => c39_6 rfl r h
      have r45_2 : 0 ≤ (I39 69 5).toInt ∧ (I39 69 5).toInt ≤ 300 := c39_0 69 5
      have r45_3 : 0 ≤ (I39 16 ((I39 25 8).toInt.toNat)).toInt ∧ (I39 16 ((I39 25 8).toInt.toNat)).toInt ≤ 4 := c39_0 16 ((I39 25 8).toInt.toNat)
      have e45_4 : (I39 16 ((I39 25 8).toInt.toNat)).toInt = (I31 16 ((I39 25 8).toInt.toNat)).toInt := congrArg Int32.toInt (congrFun (c39_4 16 rfl) ((I39 25 8).toInt.toNat))
      have e45_5 : (I31 16 ((I39 25 8).toInt.toNat)).toInt = (I 16 ((I39 25 8).toInt.toNat)).toInt := congrArg Int32.toInt (congrFun (c31_2 16 rfl) ((I39 25 8).toInt.toNat))
      have r45_6 : 0 ≤ (I39 25 8).toInt ∧ (I39 25 8).toInt ≤ 52 := c39_0 25 8
      have e45_7 : (I39 25 8).toInt = (I31 25 8).toInt := congrArg Int32.toInt (congrFun (c39_4 25 rfl) 8)
      exact ⟨Int32.ofInt 0, (by intro q9 h9; simp only [List.mem_cons, List.not_mem_nil, or_false] at h9; rcases h9 with h9 | h9 <;> subst h9 <;> repeat (first | exact List.mem_cons_self | apply List.mem_cons_of_mem)), rfl, c39_0, hF39, hG39, c39_1, c39_2, c39_3, (show 0 ≤ (0 : Int) from by first | assumption | omega), (show (0 : Int) ≤ 300 from by first | assumption | omega), (show (∀ r : Nat, (0 : Int) ≤ (r : Int) → (r : Int) < (I39 69 5).toInt → good I39 L39 r) from by first | assumption | omega | exact fun _ _ => rfl | exact fun _ _ => ⟨rfl, rfl⟩ | exact fun _ _ => ⟨rfl, rfl, rfl⟩ | (intro j9 hj9; omega)), (show ((I39 69 5).toInt ≤ 0 ∨ 0 < (I39 16 (I39 25 8).toInt.toNat).toInt) from by first | assumption | omega), (show (300 - (0 : Int)) < 301 from by omega)⟩
    · intro h4
      have h4 : ¬ (I 69 7).toInt = 0 := h4
      exact ⟨hR, hxO, hxT, hF0, hG0, hxS⟩
def tX5_isAlike : List (Instr × Nat) := [(.iconst 3, 1), (.istore_n 3, 1), (.iload_n 3, 1), (.bipush 6, 2), (.if_icmp .ge 37, 3), (.aload_n 0, 1), (.getfield 11, 3), (.iload_n 1, 1), (.bipush 8, 2), (.imul, 1), (.iload_n 3, 1), (.iadd, 1), (.laload, 1), (.aload_n 0, 1), (.getfield 11, 3), (.iload_n 2, 1), (.bipush 8, 2), (.imul, 1), (.iload_n 3, 1), (.iadd, 1), (.laload, 1), (.lcmp, 1), (.ifCond .eq 5, 3), (.iconst 0, 1), (.ireturn, 1), (.iinc 3 1, 3), (.goto (-37), 3), (.iconst 1, 1), (.ireturn, 1)]
theorem tX5_isAlike_ok : f_chk cX5_isAlike 0 tX5_isAlike = true := by decide +kernel
def pX5_isAlike (av : List Value) (I : fM) (L : fN) : Prop := match av with
  | [.ref 69, .int u, .int v] => 0 ≤ u.toInt ∧ u.toInt < 300 ∧ 0 ≤ v.toInt ∧ v.toInt < 300
  | _ => False
def qX5_isAlike (av : List Value) (I : fM) (L : fN) (r : Value) (I' : fM) (L' : fN) : Prop := match av, r with
  | [.ref 69, .int u, .int v], .int x => I' = I ∧ L' = L ∧ (x.toInt = 0 ∨ x.toInt = 1)
  | _, _ => False
set_option maxHeartbeats 4000000 in
set_option maxRecDepth 100000 in
theorem mX5_isAlike {l : Launch} {a : Nat → Nat} {cy dC : Nat → ClassId} {dI : Nat → Nat → Nat} (hinj : ∀ i j, i < 80 → j < 80 → a i = a j → i = j) : f_Met (xE a) l xY 80 a cy dC dI yX5_isAlike cX5_isAlike 4 3 0 pX5_isAlike qX5_isAlike := by
  refine f_met_of (xE_c a) hinj xY_hi (by decide) (fun av I L h => by unfold pX5_isAlike at h; split at h <;> first | exact Nat.le_of_ble_eq_true rfl | exact h.elim) ?_
  intro pP eP sP mP aP bP hP9 cP C av I L hp
  unfold pX5_isAlike at hp
  split at hp
  case h_2 => exact hp.elim
  case h_1 u v =>
    obtain ⟨p0, p1, p2, p3⟩ := hp
    have lp2 : ∀ (n2 : Nat), ∀ (i : Int32), (3 ≤ i.toInt) ∧ (i.toInt ≤ 6) ∧ (6 - i.toInt) < n2 → f_W pP l eP (f_rm 0) sP mP aP bP hP9 cP xY 80 a cy dC dI 4 (f_K 3 (qX5_isAlike [.ref 69, .int u, .int v] I L)) 2 [(3, .int i), (2, .int v), (1, .int u), (0, .ref 69)] [] I L := by
      intro n2
      induction n2 with
      | zero =>
        intro i h9
        obtain ⟨u2_1, u2_2, hm2⟩ := h9
        omega
      | succ n2 ih2 =>
        intro i h9
        obtain ⟨u2_1, u2_2, hm2⟩ := h9
        refine f_wp_ok C f_cl flX5_ok fiX5_ok fjX5_ok (sn := none) (fun j h => by cases h) (cs := (fun _ => none)) (cz := (fun _ => none)) (fun j S h => by cases h) (fun j S h => by cases h) tX5_isAlike_ok (cut := (f_cnl [(2, (fun (ls' : fLs) (st' : List Value) (I' : fM) (L' : fN) => ∃ i : Int32, (∀ q ∈ ([(3, .int i), (2, .int v), (1, .int u), (0, .ref 69)] : fLs), q ∈ ls') ∧ st' = [] ∧ I' = I ∧ L' = L ∧ ((3 ≤ i.toInt) ∧ (i.toInt ≤ 6) ∧ (6 - i.toInt) < n2)))])) (f_cnl_of (P := fun (tQ : Nat) (P : fLs → List Value → fM → fN → Prop) => ∀ ls' st' I' L', P ls' st' I' L' → f_W pP l eP (f_rm 0) sP mP aP bP hP9 cP xY 80 a cy dC dI 4 (f_K 3 (qX5_isAlike [.ref 69, .int u, .int v] I L)) tQ ls' st' I' L') (List.forall_mem_cons.mpr ⟨(fun ls' st' I' L' h => by obtain ⟨i, hs, e1, e2, e3, h9⟩ := h; rw [e1, e2, e3]; exact f_W_sub hs (ih2 i h9)), fun _ h => absurd h List.not_mem_nil⟩)) 26 2 (f_seek 2 0 tX5_isAlike) (f_seek_ok 2 0 tX5_isAlike tX5_isAlike_ok) _ _ _ _ ?_
        apply And.intro
        · intro h5
          have h5 : 6 ≤ i.toInt := h5
          exact ⟨Or.inr rfl, rfl, rfl, (show ((1 : Int) = 0 ∨ (1 : Int) = 1) from by first | assumption | omega | rfl)⟩
        · intro h5
          have h5 : i.toInt < 6 := h5
          intro z15 q15 _ hq15 hl15 hu15
          have hq15 : z15.toInt = u.toInt * 8 + 4294967296 * q15 := hq15
          try have hz15 : z15.toInt = u.toInt * 8 := by omega
          intro z17 q17 _ hq17 hl17 hu17
          have hq17 : z17.toInt = z15.toInt + i.toInt + 4294967296 * q17 := hq17
          try have hz17 : z17.toInt = z15.toInt + i.toInt := by omega
          refine And.intro (show f_in z17 2400 from ⟨show 0 ≤ z17.toInt from by omega, show z17.toInt < 2400 from by omega⟩) ?_
          intro z26 q26 _ hq26 hl26 hu26
          have hq26 : z26.toInt = v.toInt * 8 + 4294967296 * q26 := hq26
          try have hz26 : z26.toInt = v.toInt * 8 := by omega
          intro z28 q28 _ hq28 hl28 hu28
          have hq28 : z28.toInt = z26.toInt + i.toInt + 4294967296 * q28 := hq28
          try have hz28 : z28.toInt = z26.toInt + i.toInt := by omega
          refine And.intro (show f_in z28 2400 from ⟨show 0 ≤ z28.toInt from by omega, show z28.toInt < 2400 from by omega⟩) ?_
          apply And.intro
          · intro h31
            have h31 : (lg_cmp (L 70 (z17.toInt.toNat)) (L 70 (z28.toInt.toNat))).toInt = 0 := h31
            intro z36 q36 _ hq36 hl36 hu36
            have hq36 : z36.toInt = i.toInt + 1 + 4294967296 * q36 := hq36
            try have hz36 : z36.toInt = i.toInt + 1 := by omega
            exact ⟨z36, (by intro q9 h9; simp only [List.mem_cons, List.not_mem_nil, or_false] at h9; rcases h9 with h9 | h9 | h9 | h9 <;> subst h9 <;> repeat (first | exact List.mem_cons_self | apply List.mem_cons_of_mem)), rfl, rfl, rfl, (show 3 ≤ z36.toInt from by first | assumption | omega), (show z36.toInt ≤ 6 from by first | assumption | omega), (show (6 - z36.toInt) < n2 from by omega)⟩
          · intro h31
            have h31 : ¬ (lg_cmp (L 70 (z17.toInt.toNat)) (L 70 (z28.toInt.toNat))).toInt = 0 := h31
            exact ⟨Or.inl rfl, rfl, rfl, (show ((0 : Int) = 0 ∨ (0 : Int) = 1) from by first | assumption | omega | rfl)⟩
    refine f_wp_ok C f_cl flX5_ok fiX5_ok fjX5_ok (sn := none) (fun j h => by cases h) (cs := (fun _ => none)) (cz := (fun _ => none)) (fun j S h => by cases h) (fun j S h => by cases h) tX5_isAlike_ok (cut := (f_cnl [(2, (fun (ls' : fLs) (st' : List Value) (I' : fM) (L' : fN) => ∃ i : Int32, (∀ q ∈ ([(3, .int i), (2, .int v), (1, .int u), (0, .ref 69)] : fLs), q ∈ ls') ∧ st' = [] ∧ I' = I ∧ L' = L ∧ ((3 ≤ i.toInt) ∧ (i.toInt ≤ 6) ∧ (6 - i.toInt) < 4)))])) (f_cnl_of (P := fun (tQ : Nat) (P : fLs → List Value → fM → fN → Prop) => ∀ ls' st' I' L', P ls' st' I' L' → f_W pP l eP (f_rm 0) sP mP aP bP hP9 cP xY 80 a cy dC dI 4 (f_K 3 (qX5_isAlike [.ref 69, .int u, .int v] I L)) tQ ls' st' I' L') (List.forall_mem_cons.mpr ⟨(fun ls' st' I' L' h => by obtain ⟨i, hs, e1, e2, e3, h9⟩ := h; rw [e1, e2, e3]; exact f_W_sub hs (lp2 4 i h9)), fun _ h => absurd h List.not_mem_nil⟩)) 5 0 tX5_isAlike tX5_isAlike_ok _ _ _ _ ?_
    exact ⟨Int32.ofInt 3, (by intro q9 h9; simp only [List.mem_cons, List.not_mem_nil, or_false] at h9; rcases h9 with h9 | h9 | h9 | h9 <;> subst h9 <;> repeat (first | exact List.mem_cons_self | apply List.mem_cons_of_mem)), rfl, rfl, rfl, (show 3 ≤ (3 : Int) from by first | assumption | omega), (show (3 : Int) ≤ 6 from by first | assumption | omega), (show (6 - (3 : Int)) < 4 from by omega)⟩
def tX5_firstLike : List (Instr × Nat) := [(.iload_n 1, 1), (.ifCond .lt 11, 3), (.iload_n 1, 1), (.aload_n 0, 1), (.getfield 43, 3), (.if_icmp .lt 5, 3), (.iconst (-1), 1), (.ireturn, 1), (.iconst 0, 1), (.istore_n 2, 1), (.iload_n 2, 1), (.iload_n 1, 1), (.if_icmp .ge 18, 3), (.aload_n 0, 1), (.iload_n 2, 1), (.iload_n 1, 1), (.invokevirtual 129, 3), (.ifCond .ne 9, 3), (.iinc 2 1, 3), (.goto (-17), 3), (.iload_n 2, 1), (.ireturn, 1)]
theorem tX5_firstLike_ok : f_chk cX5_firstLike 0 tX5_firstLike = true := by decide +kernel
def pX5_firstLike (av : List Value) (I : fM) (L : fN) : Prop := match av with
  | [.ref 69, .int r] => xR I
  | _ => False
def qX5_firstLike (av : List Value) (I : fM) (L : fN) (r : Value) (I' : fM) (L' : fN) : Prop := match av, r with
  | [.ref 69, .int r], .int x => I' = I ∧ L' = L
  | _, _ => False
set_option maxHeartbeats 4000000 in
set_option maxRecDepth 100000 in
theorem mX5_firstLike {l : Launch} {a : Nat → Nat} {cy dC : Nat → ClassId} {dI : Nat → Nat → Nat} (hinj : ∀ i j, i < 80 → j < 80 → a i = a j → i = j) : f_Met (xE a) l xY 80 a cy dC dI yX5_firstLike cX5_firstLike 3 1 1 pX5_firstLike qX5_firstLike := by
  refine f_met_of (xE_c a) hinj xY_hi (by decide) (fun av I L h => by unfold pX5_firstLike at h; split at h <;> first | exact Nat.le_of_ble_eq_true rfl | exact h.elim) ?_
  intro pP eP sP mP aP bP hP9 cP C av I L hp
  unfold pX5_firstLike at hp
  split at hp
  case h_2 => exact hp.elim
  case h_1 r =>
    have hR := hp
    have hr3 : (I 69 5).toInt ≤ 300 := (hR 69 5).2
    have lp16 : ∀ (n16 : Nat), ∀ (i : Int32), (0 ≤ r.toInt) ∧ (r.toInt < (I 69 5).toInt) ∧ (0 ≤ i.toInt) ∧ (i.toInt ≤ r.toInt) ∧ (r.toInt - i.toInt) < n16 → f_W pP l eP (f_rm 1) sP mP aP bP hP9 cP xY 80 a cy dC dI 3 (f_K 1 (qX5_firstLike [.ref 69, .int r] I L)) 16 [(2, .int i), (1, .int r), (0, .ref 69)] [] I L := by
      intro n16
      induction n16 with
      | zero =>
        intro i h9
        obtain ⟨u16_1, u16_2, u16_3, u16_4, hm16⟩ := h9
        omega
      | succ n16 ih16 =>
        intro i h9
        obtain ⟨u16_1, u16_2, u16_3, u16_4, hm16⟩ := h9
        refine f_wp_ok C f_cl flX5_ok fiX5_ok fjX5_ok (sn := none) (fun j h => by cases h) (cs := (f_cnl [(129, (3, 3, 5, pX5_isAlike, qX5_isAlike))])) (cz := (fun _ => none)) (f_cnl_of (P := fun j S => f_cok pP l eP (f_rm 1) sP mP aP bP hP9 cP xY 80 a cy dC dI 3 _ _ (.invokevirtual j) true S) (List.forall_mem_cons.mpr ⟨f_cokV C (mX5_isAlike hinj) (ci := 5) rfl (List.forall_mem_cons.mpr ⟨(mlX5_ok _ (List.mem_of_getElem? (i := 11) rfl)), kc_X5_isAlike⟩) (by decide +kernel) ⟨Nat.le_of_ble_eq_true rfl, Nat.le_of_ble_eq_true rfl⟩, fun _ h => absurd h List.not_mem_nil⟩)) (fun j S h => by cases h) tX5_firstLike_ok (cut := (f_cnl [(16, (fun (ls' : fLs) (st' : List Value) (I' : fM) (L' : fN) => ∃ i : Int32, (∀ q ∈ ([(2, .int i), (1, .int r), (0, .ref 69)] : fLs), q ∈ ls') ∧ st' = [] ∧ I' = I ∧ L' = L ∧ ((0 ≤ r.toInt) ∧ (r.toInt < (I 69 5).toInt) ∧ (0 ≤ i.toInt) ∧ (i.toInt ≤ r.toInt) ∧ (r.toInt - i.toInt) < n16)))])) (f_cnl_of (P := fun (tQ : Nat) (P : fLs → List Value → fM → fN → Prop) => ∀ ls' st' I' L', P ls' st' I' L' → f_W pP l eP (f_rm 1) sP mP aP bP hP9 cP xY 80 a cy dC dI 3 (f_K 1 (qX5_firstLike [.ref 69, .int r] I L)) tQ ls' st' I' L') (List.forall_mem_cons.mpr ⟨(fun ls' st' I' L' h => by obtain ⟨i, hs, e1, e2, e3, h9⟩ := h; rw [e1, e2, e3]; exact f_W_sub hs (ih16 i h9)), fun _ h => absurd h List.not_mem_nil⟩)) 13 16 (f_seek 16 0 tX5_firstLike) (f_seek_ok 16 0 tX5_firstLike tX5_firstLike_ok) _ _ _ _ ?_
        apply And.intro
        · intro h18
          have h18 : r.toInt ≤ i.toInt := h18
          exact ⟨rfl, rfl⟩
        · intro h18
          have h18 : i.toInt < r.toInt := h18
          refine And.intro ⟨(show 0 ≤ i.toInt from by first | assumption | omega), (show i.toInt < 300 from by first | assumption | omega), (show 0 ≤ r.toInt from by first | assumption | omega), (show r.toInt < 300 from by first | assumption | omega)⟩ ?_
          intro x24 I24 L24 hq24
          have hq24 : I24 = I ∧ L24 = L ∧ ((x24.toInt = 0 ∨ x24.toInt = 1)) := hq24
          obtain ⟨eI24, eL24, c24_2⟩ := hq24
          replace eI24 := eI24.symm
          subst eI24
          replace eL24 := eL24.symm
          subst eL24
          apply And.intro
          · intro h27
            have h27 : ¬ x24.toInt = 0 := h27
            exact ⟨rfl, rfl⟩
          · intro h27
            have h27 : x24.toInt = 0 := h27
            intro z30 q30 _ hq30 hl30 hu30
            have hq30 : z30.toInt = i.toInt + 1 + 4294967296 * q30 := hq30
            try have hz30 : z30.toInt = i.toInt + 1 := by omega
            have r16_1 : 0 ≤ (I 69 5).toInt ∧ (I 69 5).toInt ≤ 300 := hR 69 5
            exact ⟨z30, (by intro q9 h9; simp only [List.mem_cons, List.not_mem_nil, or_false] at h9; rcases h9 with h9 | h9 | h9 <;> subst h9 <;> repeat (first | exact List.mem_cons_self | apply List.mem_cons_of_mem)), rfl, rfl, rfl, (show 0 ≤ r.toInt from by first | assumption | omega), (show r.toInt < (I 69 5).toInt from by first | assumption | omega), (show 0 ≤ z30.toInt from by first | assumption | omega), (show z30.toInt ≤ r.toInt from by first | assumption | omega), (show (r.toInt - z30.toInt) < n16 from by omega)⟩
    refine f_wp_ok C f_cl flX5_ok fiX5_ok fjX5_ok (sn := none) (fun j h => by cases h) (cs := (f_cnl [(129, (3, 3, 5, pX5_isAlike, qX5_isAlike))])) (cz := (fun _ => none)) (f_cnl_of (P := fun j S => f_cok pP l eP (f_rm 1) sP mP aP bP hP9 cP xY 80 a cy dC dI 3 _ _ (.invokevirtual j) true S) (List.forall_mem_cons.mpr ⟨f_cokV C (mX5_isAlike hinj) (ci := 5) rfl (List.forall_mem_cons.mpr ⟨(mlX5_ok _ (List.mem_of_getElem? (i := 11) rfl)), kc_X5_isAlike⟩) (by decide +kernel) ⟨Nat.le_of_ble_eq_true rfl, Nat.le_of_ble_eq_true rfl⟩, fun _ h => absurd h List.not_mem_nil⟩)) (fun j S h => by cases h) tX5_firstLike_ok (cut := (f_cnl [(16, (fun (ls' : fLs) (st' : List Value) (I' : fM) (L' : fN) => ∃ i : Int32, (∀ q ∈ ([(2, .int i), (1, .int r), (0, .ref 69)] : fLs), q ∈ ls') ∧ st' = [] ∧ I' = I ∧ L' = L ∧ ((0 ≤ r.toInt) ∧ (r.toInt < (I 69 5).toInt) ∧ (0 ≤ i.toInt) ∧ (i.toInt ≤ r.toInt) ∧ (r.toInt - i.toInt) < 301)))])) (f_cnl_of (P := fun (tQ : Nat) (P : fLs → List Value → fM → fN → Prop) => ∀ ls' st' I' L', P ls' st' I' L' → f_W pP l eP (f_rm 1) sP mP aP bP hP9 cP xY 80 a cy dC dI 3 (f_K 1 (qX5_firstLike [.ref 69, .int r] I L)) tQ ls' st' I' L') (List.forall_mem_cons.mpr ⟨(fun ls' st' I' L' h => by obtain ⟨i, hs, e1, e2, e3, h9⟩ := h; rw [e1, e2, e3]; exact f_W_sub hs (lp16 301 i h9)), fun _ h => absurd h List.not_mem_nil⟩)) 11 0 tX5_firstLike tX5_firstLike_ok _ _ _ _ ?_
    apply And.intro
    · intro h1
      have h1 : r.toInt < 0 := h1
      exact ⟨rfl, rfl⟩
    · intro h1
      have h1 : 0 ≤ r.toInt := h1
      have r6_1 : 0 ≤ (I 69 5).toInt ∧ (I 69 5).toInt ≤ 300 := hR 69 5
      apply And.intro
      · intro h9
        have h9 : r.toInt < (I 69 5).toInt := h9
        exact ⟨Int32.ofInt 0, (by intro q9 h9; simp only [List.mem_cons, List.not_mem_nil, or_false] at h9; rcases h9 with h9 | h9 | h9 <;> subst h9 <;> repeat (first | exact List.mem_cons_self | apply List.mem_cons_of_mem)), rfl, rfl, rfl, (show 0 ≤ r.toInt from by first | assumption | omega), (show r.toInt < (I 69 5).toInt from by first | assumption | omega), (show 0 ≤ (0 : Int) from by first | assumption | omega), (show (0 : Int) ≤ r.toInt from by first | assumption | omega), (show (r.toInt - (0 : Int)) < 301 from by omega)⟩
      · intro h9
        have h9 : (I 69 5).toInt ≤ r.toInt := h9
        exact ⟨rfl, rfl⟩
def tX5_forget : List (Instr × Nat) := [(.aload_n 0, 1), (.iconst 0, 1), (.putfield 36, 3), (.return_, 1)]
theorem tX5_forget_ok : f_chk cX5_forget 0 tX5_forget = true := by decide +kernel
def pX5_forget (av : List Value) (I : fM) (L : fN) : Prop := match av with
  | [.ref 69] => xR I
  | _ => False
def qX5_forget (av : List Value) (I : fM) (L : fN) (r : Value) (I' : fM) (L' : fN) : Prop := match av, r with
  | [.ref 69], .null => xR I' ∧ f_fr [69] I I' ∧ L' = L
  | _, _ => False
set_option maxHeartbeats 4000000 in
set_option maxRecDepth 100000 in
theorem mX5_forget {l : Launch} {a : Nat → Nat} {cy dC : Nat → ClassId} {dI : Nat → Nat → Nat} (hinj : ∀ i j, i < 80 → j < 80 → a i = a j → i = j) : f_Met (xE a) l xY 80 a cy dC dI yX5_forget cX5_forget 1 0 0 pX5_forget qX5_forget := by
  refine f_met_of (xE_c a) hinj xY_hi (by decide) (fun av I L h => by unfold pX5_forget at h; split at h <;> first | exact Nat.le_of_ble_eq_true rfl | exact h.elim) ?_
  intro pP eP sP mP aP bP hP9 cP C av I L hp
  unfold pX5_forget at hp
  split at hp
  case h_2 => exact hp.elim
  case h_1 =>
    have hR := hp
    have hF0 : f_fr [69] I I := f_fr_rf
    refine f_wp_ok C f_cl flX5_ok fiX5_ok fjX5_ok (sn := none) (fun j h => by cases h) (cs := (fun _ => none)) (cz := (fun _ => none)) (fun j S h => by cases h) (fun j S h => by cases h) tX5_forget_ok (cut := (fun _ => none)) (fun t P h => by cases h) 7 0 tX5_forget tX5_forget_ok _ _ _ _ ?_
    refine And.intro (Or.inl rfl) ?_
    have hR2 := xR_f (k := 69) (j := 7) (x := Int32.ofInt 0) hR (by exact f_rng _)
    have hF2 := f_fr_up (k := 69) (r := va_up (I 69) 7 (Int32.ofInt 0)) hF0 rfl
    exact ⟨hR2, hF2, rfl⟩
