/-! strings are tied both ways -/
def pinv (P : Nat → Int32) (n : Int) : Prop := ∀ e : Nat, (e : Int) < n → 0 ≤ (P e).toInt → (P e).toInt < n ∧ (P (P e).toInt.toNat).toInt = e
def ptd (P : Nat → Int32) (s : Int) : Prop := ∀ e : Nat, (e : Int) < s → 0 ≤ (P e).toInt
def pnone (P : Nat → Int32) : Prop := ∀ e : Nat, e < 20 → (P e).toInt = -1
theorem ptie_of {P : Nat → Int32} {n l : Int} (h : pinv P n) (ht : ptd P l) (hl : n ≤ l) : ptie P n := by
  refine ⟨fun e he => ⟨ht e (by omega), (h e he (ht e (by omega))).1⟩, fun e e' he he' q => ?_⟩
  have h1 := (h e he (ht e (by omega))).2
  have h2 := (h e' he' (ht e' (by omega))).2
  rw [q] at h1
  omega
theorem pinv_tie {P : Nat → Int32} {n : Int} {u v : Nat} {x y : Int32} (h : pinv P n) (hu : (u : Int) < n) (hv : (v : Int) < n) (huv : u ≠ v) (pu : (P u).toInt = -1) (pv : (P v).toInt = -1) (hx : x.toInt = v) (hy : y.toInt = u) : pinv (upd (upd P u x) v y) n := by
  intro e he h0
  by_cases ev : e = v
  · subst ev
    rw [pk_us] at h0 ⊢
    rw [hy]
    refine ⟨by omega, ?_⟩
    rw [show ((u : Int)).toNat = u by omega, pk_un huv, pk_us, hx]
  · rw [pk_un ev] at h0 ⊢
    by_cases eu : e = u
    · subst eu
      rw [pk_us] at h0 ⊢
      rw [hx]
      refine ⟨by omega, ?_⟩
      rw [show ((v : Int)).toNat = v by omega, pk_us, hy]
    · rw [pk_un eu] at h0 ⊢
      obtain ⟨h1, h2⟩ := h e he h0
      refine ⟨h1, ?_⟩
      have n1 : (P e).toInt.toNat ≠ v := fun q => by rw [q, pv] at h2; omega
      have n2 : (P e).toInt.toNat ≠ u := fun q => by rw [q, pu] at h2; omega
      rw [pk_un n1, pk_un n2]
      exact h2
theorem ptd_tie {P : Nat → Int32} {u v : Nat} {x y : Int32} {l : Int} (h : ptd P u) (huv : u < v) (hx : 0 ≤ x.toInt) (hl : l = u + 1) : ptd (upd (upd P u x) v y) l := by
  intro e he
  rw [pk_un (by omega)]
  by_cases eu : e = u
  · rw [eu, pk_us]; exact hx
  · rw [pk_un eu]; exact h e (by omega)
theorem p_back {P Q : Nat → Int32} {u v : Nat} {x y z : Int32} (hz : z.toInt = -1) (pu : (P u).toInt = -1) (pv : (P v).toInt = -1) (hQ : Q = upd (upd P u x) v y) : upd (upd Q u z) v z = P := by
  funext e
  have e1 : ∀ w : Int32, w.toInt = -1 → z = w := fun w hw => Int32.toInt_inj.mp (by rw [hz, hw])
  by_cases ev : e = v
  · rw [ev, pk_us]; exact e1 _ pv
  · rw [pk_un ev]
    by_cases eu : e = u
    · rw [eu, pk_us]; exact e1 _ pu
    · rw [pk_un eu, hQ, pk_un ev, pk_un eu]
theorem szs_cells {I I' : fM} (h16 : I' 16 = I 16) (h26 : I' 26 = I 26) : szs I' = szs I := by
  funext ch p
  unfold szs
  rw [h16, h26]
theorem lca_cells {I I' : fM} (h16 : I' 16 = I 16) (h25 : I' 25 = I 25) (h26 : I' 26 = I 26) : lca I' = lca I := by
  funext ch
  unfold lca
  rw [szs_cells h16 h26, h16, h25]
theorem xK_cells {I I' : fM} {L : fN} (h16 : I' 16 = I 16) (h25 : I' 25 = I 25) (h26 : I' 26 = I 26) (h27 : I' 27 = I 27) (h69 : I' 69 = I 69) (h : xK I L) : xK I' L := by
  intro r hr
  rw [h69] at hr
  have q := h r hr
  unfold good at q ⊢
  rw [lca_cells h16 h25 h26, h25, h27]
  exact q
theorem kc_cells {I I' : fM} (h16 : I' 16 = I 16) (h25 : I' 25 = I 25) (h26 : I' 26 = I 26) (h27 : I' 27 = I 27) (h28 : I' 28 = I 28) (h31 : I' 31 = I 31) (h : kc I) : kc I' := by
  unfold kc
  rw [lca_cells h16 h25 h26, h25, h27, h28, h31]
  exact h
def tX7_tieFrom : List (Instr × Nat) := [(.iload_n 1, 1), (.istore_n 3, 1), (.iload_n 3, 1), (.aload_n 0, 1), (.getfield 48, 3), (.if_icmp .ge 19, 3), (.aload_n 0, 1), (.getfield 29, 3), (.iload_n 3, 1), (.iaload, 1), (.iconst (-1), 1), (.if_icmp .eq 9, 3), (.iinc 3 1, 3), (.goto (-21), 3), (.iload_n 3, 1), (.aload_n 0, 1), (.getfield 48, 3), (.if_icmp .lt 27, 3), (.aload_n 0, 1), (.invokevirtual 68, 3), (.ifCond .eq 18, 3), (.aload_n 2, 1), (.ifnull 10, 3), (.aload_n 2, 1), (.invokevirtual 72, 3), (.ifCond .eq 7, 3), (.iconst 1, 1), (.goto 4, 3), (.iconst 0, 1), (.ireturn, 1), (.iload_n 3, 1), (.iconst 1, 1), (.iadd, 1), (.istore 4, 2), (.iload 4, 2), (.aload_n 0, 1), (.getfield 48, 3), (.if_icmp .ge 20, 3), (.aload_n 0, 1), (.getfield 29, 3), (.iload 4, 2), (.iaload, 1), (.iconst (-1), 1), (.if_icmp .ne 9, 3), (.iinc 4 1, 3), (.goto (-23), 3), (.iload_n 3, 1), (.iconst 1, 1), (.iadd, 1), (.istore 5, 2), (.iload 5, 2), (.iload 4, 2), (.if_icmp .ge 79, 3), (.aload_n 0, 1), (.iload_n 3, 1), (.iload 5, 2), (.iload 4, 2), (.invokevirtual 77, 3), (.ifCond .eq 61, 3), (.aload_n 0, 1), (.iload_n 3, 1), (.iload 5, 2), (.invokevirtual 81, 3), (.ifCond .eq 51, 3), (.aload_n 0, 1), (.getfield 29, 3), (.iload_n 3, 1), (.iload 5, 2), (.iastore, 1), (.aload_n 0, 1), (.getfield 29, 3), (.iload 5, 2), (.iload_n 3, 1), (.iastore, 1), (.aload_n 0, 1), (.iload_n 3, 1), (.iconst 1, 1), (.iadd, 1), (.aload_n 2, 1), (.invokevirtual 85, 3), (.istore 6, 2), (.aload_n 0, 1), (.getfield 29, 3), (.iload_n 3, 1), (.iconst (-1), 1), (.iastore, 1), (.aload_n 0, 1), (.getfield 29, 3), (.iload 5, 2), (.iconst (-1), 1), (.iastore, 1), (.iload 6, 2), (.ifCond .eq 5, 3), (.iconst 1, 1), (.ireturn, 1), (.iinc 5 2, 3), (.goto (-80), 3), (.iconst 0, 1), (.ireturn, 1)]
theorem tX7_tieFrom_ok : f_chk cX7_tieFrom 0 tX7_tieFrom = true := by decide +kernel
def pX7_tieFrom (d : Nat) (av : List Value) (I : fM) (L : fN) : Prop := match av with
  | [.ref 31, .int s, kp] => dpos d ∧ xR I ∧ (kp = Value.null ∨ kp = Value.ref 69) ∧ 0 ≤ s.toInt ∧ s.toInt ≤ (I 31 9).toInt ∧ (I 31 9).toInt - s.toInt < d ∧ pinv (I 37) (I 31 9).toInt ∧ ptd (I 37) s.toInt ∧ (kp = Value.ref 69 → kc I ∧ xK I L)
  | _ => False
def qX7_tieFrom (av : List Value) (I : fM) (L : fN) (r : Value) (I' : fM) (L' : fN) : Prop := match av, r with
  | [.ref 31, .int s, kp], .int x => xR I' ∧ f_fr [37, 69] I I' ∧ f_fr [70] L L' ∧ I' 37 = I 37 ∧ (kp = Value.ref 69 → xK I' L') ∧ (x.toInt = 0 ∨ x.toInt = 1)
  | _, _ => False
set_option maxHeartbeats 4000000 in
set_option maxRecDepth 100000 in
theorem mX7_tieFrom {l : Launch} {a : Nat → Nat} {cy dC : Nat → ClassId} {dI : Nat → Nat → Nat} (hinj : ∀ i j, i < 80 → j < 80 → a i = a j → i = j) : ∀ d : Nat, f_Met (xE a) l xY 80 a cy dC dI yX7_tieFrom cX7_tieFrom 7 3 (d + 3) (pX7_tieFrom d) qX7_tieFrom := by
  intro d
  induction d with
  | zero =>
    intro av I L hp
    exfalso
    unfold pX7_tieFrom at hp
    split at hp
    case h_2 => exact hp.elim
    case h_1 s kp => exact hp.1.elim
  | succ d ih =>
  refine f_met_of (xE_c a) hinj xY_hi (by decide) (fun av I L h => by unfold pX7_tieFrom at h; split at h <;> first | (rcases h.2.2.1 with rfl | rfl <;> exact Nat.le_of_ble_eq_true rfl) | exact Nat.le_of_ble_eq_true rfl | exact h.elim) ?_
  intro pP eP sP mP aP bP hP9 cP C av I L hp
  unfold pX7_tieFrom at hp
  split at hp
  case h_2 => exact hp.elim
  case h_1 s kp =>
    obtain ⟨p0, hR, p2, p3, p4, p5, p6, p7, p8⟩ := hp
    rcases p2 with rfl | rfl
    -- pat [.ref 31, .int s, .null]
    · skip
      have p0 : dpos (d + 1) := p0
      have hR : xR I := hR
      have p3 : 0 ≤ s.toInt := p3
      have p4 : s.toInt ≤ (I 31 9).toInt := p4
      have p5 : (I 31 9).toInt - s.toInt < (d + 1) := p5
      have p6 : pinv (I 37) (I 31 9).toInt := p6
      have p7 : ptd (I 37) s.toInt := p7
      have p8 : (Value.null = Value.ref 69 → kc I ∧ xK I L) := p8
      have hn : 0 ≤ (I 31 9).toInt ∧ (I 31 9).toInt ≤ 20 := hR 31 9
      have hF0 : f_fr [37, 69] I I := f_fr_rf
      have hG0 : f_fr [70] L L := f_fr_rf
      have lp94 : ∀ (n94 : Nat), ∀ (u : Int32) (v : Int32) (i : Int32) (J94 : fM) (M94 : fN), xR J94 ∧ f_fr [37, 69] I J94 ∧ f_fr [70] L M94 ∧ (s.toInt ≤ u.toInt) ∧ (u.toInt < (I 31 9).toInt) ∧ (ptd (I 37) u.toInt) ∧ ((I 37 u.toInt.toNat).toInt = -1) ∧ (u.toInt < v.toInt) ∧ (v.toInt ≤ (I 31 9).toInt) ∧ ((∀ e : Nat, u.toInt < (e : Int) → (e : Int) < v.toInt → (I 37 e).toInt = -1)) ∧ (u.toInt < i.toInt) ∧ (i.toInt ≤ 22) ∧ (J94 37 = I 37) ∧ ((Value.null = Value.ref 69 → xK J94 M94)) ∧ (22 - i.toInt) < n94 → f_W pP l eP (f_rm (d + 1 + 3)) sP mP aP bP hP9 cP xY 80 a cy dC dI 7 (f_K 3 (qX7_tieFrom [.ref 31, .int s, .null] I L)) 94 [(5, .int i), (4, .int v), (3, .int u), (2, .null), (1, .int s), (0, .ref 31)] [] J94 M94 := by
        intro n94
        induction n94 with
        | zero =>
          intro u v i J94 M94 h9
          obtain ⟨hR94c, hF94c, hG94c, u94_1, u94_2, u94_3, u94_4, u94_5, u94_6, u94_7, u94_8, u94_9, u94_10, u94_11, hm94⟩ := h9
          omega
        | succ n94 ih94 =>
          intro u v i J94 M94 h9
          obtain ⟨hR94c, hF94c, hG94c, u94_1, u94_2, u94_3, u94_4, u94_5, u94_6, u94_7, u94_8, u94_9, u94_10, u94_11, hm94⟩ := h9
          refine f_wp_ok C f_cl flX7_ok fiX7_ok fjX7_ok (sn := none) (fun j h => by cases h) (cs := (f_cnl [(68, (1, 3, 7, pX7_isRight, qX7_isRight)), (72, (1, 3, 5, pX5_keep, qX5_keep)), (77, (4, 3, 7, pX7_leavesFlat, qX7_leavesFlat)), (81, (3, 3, 7, pX7_mayTie, qX7_mayTie)), (85, (3, 3, 7, (pX7_tieFrom d), qX7_tieFrom))])) (cz := (fun _ => none)) (f_cnl_of (P := fun j S => f_cok pP l eP (f_rm (d + 1 + 3)) sP mP aP bP hP9 cP xY 80 a cy dC dI 7 _ _ (.invokevirtual j) true S) (List.forall_mem_cons.mpr ⟨f_cokV C (mX7_isRight hinj) (ci := 7) rfl (List.forall_mem_cons.mpr ⟨(mlX7_ok _ (List.mem_of_getElem? (i := 3) rfl)), kc_X7_isRight⟩) (by decide +kernel) ⟨by simp only [f_rm]; omega, by simp only [f_rm]; omega⟩, List.forall_mem_cons.mpr ⟨f_cokV C (mX5_keep hinj) (ci := 5) rfl (List.forall_mem_cons.mpr ⟨(mlX7_ok _ (List.mem_of_getElem? (i := 4) rfl)), kc_X5_keep⟩) (by decide +kernel) ⟨by simp only [f_rm]; omega, by simp only [f_rm]; omega⟩, List.forall_mem_cons.mpr ⟨f_cokV C (mX7_leavesFlat hinj) (ci := 7) rfl (List.forall_mem_cons.mpr ⟨(mlX7_ok _ (List.mem_of_getElem? (i := 5) rfl)), kc_X7_leavesFlat⟩) (by decide +kernel) ⟨by simp only [f_rm]; omega, by simp only [f_rm]; omega⟩, List.forall_mem_cons.mpr ⟨f_cokV C (mX7_mayTie hinj) (ci := 7) rfl (List.forall_mem_cons.mpr ⟨(mlX7_ok _ (List.mem_of_getElem? (i := 6) rfl)), kc_X7_mayTie⟩) (by decide +kernel) ⟨by simp only [f_rm]; omega, by simp only [f_rm]; omega⟩, List.forall_mem_cons.mpr ⟨f_cokV C ih (ci := 7) rfl (List.forall_mem_cons.mpr ⟨(mlX7_ok _ (List.mem_of_getElem? (i := 7) rfl)), kc_X7_tieFrom⟩) (by decide +kernel) ⟨by simp only [f_rm]; omega, by simp only [f_rm]; omega⟩, fun _ h => absurd h List.not_mem_nil⟩⟩⟩⟩⟩)) (fun j S h => by cases h) tX7_tieFrom_ok (cut := (f_cnl [(94, (fun (ls' : fLs) (st' : List Value) (I' : fM) (L' : fN) => ∃ u : Int32, ∃ v : Int32, ∃ i : Int32, (∀ q ∈ ([(5, .int i), (4, .int v), (3, .int u), (2, .null), (1, .int s), (0, .ref 31)] : fLs), q ∈ ls') ∧ st' = [] ∧ (xR I' ∧ f_fr [37, 69] I I' ∧ f_fr [70] L L' ∧ (s.toInt ≤ u.toInt) ∧ (u.toInt < (I 31 9).toInt) ∧ (ptd (I 37) u.toInt) ∧ ((I 37 u.toInt.toNat).toInt = -1) ∧ (u.toInt < v.toInt) ∧ (v.toInt ≤ (I 31 9).toInt) ∧ ((∀ e : Nat, u.toInt < (e : Int) → (e : Int) < v.toInt → (I 37 e).toInt = -1)) ∧ (u.toInt < i.toInt) ∧ (i.toInt ≤ 22) ∧ (I' 37 = I 37) ∧ ((Value.null = Value.ref 69 → xK I' L')) ∧ (22 - i.toInt) < n94)))])) (f_cnl_of (P := fun (tQ : Nat) (P : fLs → List Value → fM → fN → Prop) => ∀ ls' st' I' L', P ls' st' I' L' → f_W pP l eP (f_rm (d + 1 + 3)) sP mP aP bP hP9 cP xY 80 a cy dC dI 7 (f_K 3 (qX7_tieFrom [.ref 31, .int s, .null] I L)) tQ ls' st' I' L') (List.forall_mem_cons.mpr ⟨(fun ls' st' I' L' h => by obtain ⟨u, v, i, hs, e1, h9⟩ := h; rw [e1]; exact f_W_sub hs (ih94 u v i I' L' h9)), fun _ h => absurd h List.not_mem_nil⟩)) 48 94 (f_seek 94 0 tX7_tieFrom) (f_seek_ok 94 0 tX7_tieFrom tX7_tieFrom_ok) _ _ _ _ ?_
          have e31 : (J94 31 9).toInt = (I 31 9).toInt := congrArg Int32.toInt (congrFun (hF94c 31 rfl) 9)
          apply And.intro
          · intro h98
            have h98 : v.toInt ≤ i.toInt := h98
            have pm := u94_7 i.toInt.toNat
            exact ⟨Or.inl rfl, hR94c, hF94c, hG94c, u94_10, u94_11, (show ((0 : Int) = 0 ∨ (0 : Int) = 1) from by first | assumption | omega | rfl)⟩
          · intro h98
            have h98 : i.toInt < v.toInt := h98
            have pm := u94_7 i.toInt.toNat
            refine And.intro ⟨(show 0 ≤ u.toInt from by first | assumption | omega), (show u.toInt ≤ 19 from by first | assumption | omega), (show 0 ≤ i.toInt from by first | assumption | omega), (show i.toInt ≤ 19 from by first | assumption | omega), (show 0 ≤ v.toInt from by first | assumption | omega), (show v.toInt ≤ 20 from by first | assumption | omega)⟩ ?_
            intro x107 I107 L107 hq107
            have hq107 : I107 = J94 ∧ L107 = M94 ∧ ((x107.toInt = 0 ∨ x107.toInt = 1)) := hq107
            obtain ⟨eI107, eL107, c107_2⟩ := hq107
            replace eI107 := eI107.symm
            subst eI107
            replace eL107 := eL107.symm
            subst eL107
            apply And.intro
            · intro h110
              have h110 : x107.toInt = 0 := h110
              intro z171 q171 _ hq171 hl171 hu171
              have hq171 : z171.toInt = i.toInt + 2 + 4294967296 * q171 := hq171
              try have hz171 : z171.toInt = i.toInt + 2 := by omega
              exact ⟨u, v, z171, (by intro q9 h9; simp only [List.mem_cons, List.not_mem_nil, or_false] at h9; rcases h9 with h9 | h9 | h9 | h9 | h9 | h9 <;> subst h9 <;> repeat (first | exact List.mem_cons_self | apply List.mem_cons_of_mem)), rfl, hR94c, hF94c, hG94c, (show s.toInt ≤ u.toInt from by first | assumption | omega), (show u.toInt < (I 31 9).toInt from by first | assumption | omega), (show ptd (I 37) u.toInt from by first | assumption | omega), (show (I 37 u.toInt.toNat).toInt = -1 from by first | assumption | omega | rfl), (show u.toInt < v.toInt from by first | assumption | omega), (show v.toInt ≤ (I 31 9).toInt from by first | assumption | omega), (show (∀ e : Nat, u.toInt < (e : Int) → (e : Int) < v.toInt → (I 37 e).toInt = -1) from by first | assumption | omega | exact fun _ _ => rfl | exact fun _ _ => ⟨rfl, rfl⟩ | exact fun _ _ => ⟨rfl, rfl, rfl⟩ | (intro j9 hj9; omega)), (show u.toInt < z171.toInt from by first | assumption | omega), (show z171.toInt ≤ 22 from by first | assumption | omega), (show J94 37 = I 37 from by first | assumption | omega | rfl), (by first | assumption | exact Or.inl rfl | exact Or.inr rfl | (intro h; cases h)), (show (22 - z171.toInt) < n94 from by omega)⟩
            · intro h110
              have h110 : ¬ x107.toInt = 0 := h110
              refine And.intro ⟨hR94c, (show 0 ≤ u.toInt from by first | assumption | omega), (show u.toInt ≤ 19 from by first | assumption | omega), (show 0 ≤ i.toInt from by first | assumption | omega), (show i.toInt ≤ 19 from by first | assumption | omega)⟩ ?_
              intro x117 I117 L117 hq117
              have hq117 : I117 = J94 ∧ L117 = M94 ∧ ((x117.toInt = 0 ∨ x117.toInt = 1)) := hq117
              obtain ⟨eI117, eL117, c117_2⟩ := hq117
              replace eI117 := eI117.symm
              subst eI117
              replace eL117 := eL117.symm
              subst eL117
              apply And.intro
              · intro h120
                have h120 : x117.toInt = 0 := h120
                intro z171 q171 _ hq171 hl171 hu171
                have hq171 : z171.toInt = i.toInt + 2 + 4294967296 * q171 := hq171
                try have hz171 : z171.toInt = i.toInt + 2 := by omega
                exact ⟨u, v, z171, (by intro q9 h9; simp only [List.mem_cons, List.not_mem_nil, or_false] at h9; rcases h9 with h9 | h9 | h9 | h9 | h9 | h9 <;> subst h9 <;> repeat (first | exact List.mem_cons_self | apply List.mem_cons_of_mem)), rfl, hR94c, hF94c, hG94c, (show s.toInt ≤ u.toInt from by first | assumption | omega), (show u.toInt < (I 31 9).toInt from by first | assumption | omega), (show ptd (I 37) u.toInt from by first | assumption | omega), (show (I 37 u.toInt.toNat).toInt = -1 from by first | assumption | omega | rfl), (show u.toInt < v.toInt from by first | assumption | omega), (show v.toInt ≤ (I 31 9).toInt from by first | assumption | omega), (show (∀ e : Nat, u.toInt < (e : Int) → (e : Int) < v.toInt → (I 37 e).toInt = -1) from by first | assumption | omega | exact fun _ _ => rfl | exact fun _ _ => ⟨rfl, rfl⟩ | exact fun _ _ => ⟨rfl, rfl, rfl⟩ | (intro j9 hj9; omega)), (show u.toInt < z171.toInt from by first | assumption | omega), (show z171.toInt ≤ 22 from by first | assumption | omega), (show J94 37 = I 37 from by first | assumption | omega | rfl), (by first | assumption | exact Or.inl rfl | exact Or.inr rfl | (intro h; cases h)), (show (22 - z171.toInt) < n94 from by omega)⟩
              · intro h120
                have h120 : ¬ x117.toInt = 0 := h120
                refine And.intro (show f_in u 20 from ⟨show 0 ≤ u.toInt from by omega, show u.toInt < 20 from by omega⟩) ?_
                have hR130 := xR_a (k := 37) (j := u.toInt.toNat) (x := i) hR94c (show -1 ≤ i.toInt ∧ i.toInt ≤ 19 from ⟨by omega, by omega⟩)
                have hF130 := f_fr_up (k := 37) (r := upd (J94 37) (u.toInt.toNat) i) hF94c rfl
                refine And.intro (show f_in i 20 from ⟨show 0 ≤ i.toInt from by omega, show i.toInt < 20 from by omega⟩) ?_
                have hR138 := xR_a (k := 37) (j := i.toInt.toNat) (x := u) hR130 (show -1 ≤ u.toInt ∧ u.toInt ≤ 19 from ⟨by omega, by omega⟩)
                have hF138 := f_fr_up (k := 37) (r := upd (upd (J94 37) (u.toInt.toNat) i) (i.toInt.toNat) u) hF130 rfl
                intro z142 q142 _ hq142 hl142 hu142
                have hq142 : z142.toInt = u.toInt + 1 + 4294967296 * q142 := hq142
                try have hz142 : z142.toInt = u.toInt + 1 := by omega
                have e144_2 : (J94 31 9).toInt = (I 31 9).toInt := congrArg Int32.toInt (congrFun (hF94c 31 rfl) 9)
                refine And.intro ⟨(dpos_of (by omega)), hR138, (by first | assumption | exact Or.inl rfl | exact Or.inr rfl | (intro h; cases h)), (show 0 ≤ z142.toInt from by first | assumption | omega), (show z142.toInt ≤ (J94 31 9).toInt from by first | assumption | omega), (show (J94 31 9).toInt - z142.toInt < d from by have q := p5; rw [hF94c 31 rfl]; omega), (show pinv ((upd (upd (J94 37) (u.toInt.toNat) i) (i.toInt.toNat) u)) (J94 31 9).toInt from by rw [u94_10, e31]; exact pinv_tie p6 (by omega) (by omega) (by omega) u94_4 (pm (by omega) (by omega)) (by omega) (by omega)), (show ptd ((upd (upd (J94 37) (u.toInt.toNat) i) (i.toInt.toNat) u)) z142.toInt from by rw [u94_10]; exact ptd_tie (fun e he => u94_3 e (by omega)) (by omega) (by omega) (by omega)), (fun h => ⟨kc_cells (hF94c 16 rfl) (hF94c 25 rfl) (hF94c 26 rfl) (hF94c 27 rfl) (hF94c 28 rfl) (hF94c 31 rfl) (p8 h).1, xK_cells rfl rfl rfl rfl rfl (u94_11 h)⟩)⟩ ?_
                intro x144 I144 L144 hq144
                have hq144 : xR I144 ∧ f_fr [37, 69] (va_up (va_up J94 37 (upd (J94 37) (u.toInt.toNat) i)) 37 (upd (upd (J94 37) (u.toInt.toNat) i) (i.toInt.toNat) u)) I144 ∧ f_fr [70] M94 L144 ∧ I144 37 = (upd (upd (J94 37) (u.toInt.toNat) i) (i.toInt.toNat) u) ∧ ((Value.null = Value.ref 69 → xK I144 L144)) ∧ ((x144.toInt = 0 ∨ x144.toInt = 1)) := hq144
                obtain ⟨c144_0, c144_1, c144_2, c144_3, c144_4, c144_5⟩ := hq144
                have hF144 := f_fr_tr hF138 c144_1 rfl
                have hG144 := f_fr_tr hG94c c144_2 rfl
                refine And.intro (show f_in u 20 from ⟨show 0 ≤ u.toInt from by omega, show u.toInt < 20 from by omega⟩) ?_
                have hR155 := xR_a (k := 37) (j := u.toInt.toNat) (x := Int32.ofInt (-1)) c144_0 (show (-1 : Int) ≤ (Int32.ofInt (-1)).toInt ∧ (Int32.ofInt (-1)).toInt ≤ (19 : Int) from ⟨by decide, by decide⟩)
                have hF155 := f_fr_up (k := 37) (r := upd (I144 37) (u.toInt.toNat) (Int32.ofInt (-1))) hF144 rfl
                refine And.intro (show f_in i 20 from ⟨show 0 ≤ i.toInt from by omega, show i.toInt < 20 from by omega⟩) ?_
                have hR163 := xR_a (k := 37) (j := i.toInt.toNat) (x := Int32.ofInt (-1)) hR155 (show (-1 : Int) ≤ (Int32.ofInt (-1)).toInt ∧ (Int32.ofInt (-1)).toInt ≤ (19 : Int) from ⟨by decide, by decide⟩)
                have hF163 := f_fr_up (k := 37) (r := upd (upd (I144 37) (u.toInt.toNat) (Int32.ofInt (-1))) (i.toInt.toNat) (Int32.ofInt (-1))) hF155 rfl
                have q163 : (upd (upd (I144 37) (u.toInt.toNat) (Int32.ofInt (-1))) (i.toInt.toNat) (Int32.ofInt (-1))) = I 37 := p_back rfl u94_4 (pm (by omega) (by omega)) (c144_3.trans (by show upd (upd (J94 37) u.toInt.toNat i) i.toInt.toNat u = _; rw [u94_10]))
                have k163 : Value.null = Value.ref 69 → xK (va_up (va_up I144 37 (upd (I144 37) (u.toInt.toNat) (Int32.ofInt (-1)))) 37 (upd (upd (I144 37) (u.toInt.toNat) (Int32.ofInt (-1))) (i.toInt.toNat) (Int32.ofInt (-1)))) L144 := fun h => xK_cells rfl rfl rfl rfl rfl (c144_4 h)
                apply And.intro
                · intro h166
                  have h166 : x144.toInt = 0 := h166
                  intro z171 q171 _ hq171 hl171 hu171
                  have hq171 : z171.toInt = i.toInt + 2 + 4294967296 * q171 := hq171
                  try have hz171 : z171.toInt = i.toInt + 2 := by omega
                  exact ⟨u, v, z171, (by intro q9 h9; simp only [List.mem_cons, List.not_mem_nil, or_false] at h9; rcases h9 with h9 | h9 | h9 | h9 | h9 | h9 <;> subst h9 <;> repeat (first | exact List.mem_cons_self | apply List.mem_cons_of_mem)), rfl, hR163, hF163, hG144, (show s.toInt ≤ u.toInt from by first | assumption | omega), (show u.toInt < (I 31 9).toInt from by first | assumption | omega), (show ptd (I 37) u.toInt from by first | assumption | omega), (show (I 37 u.toInt.toNat).toInt = -1 from by first | assumption | omega | rfl), (show u.toInt < v.toInt from by first | assumption | omega), (show v.toInt ≤ (I 31 9).toInt from by first | assumption | omega), (show (∀ e : Nat, u.toInt < (e : Int) → (e : Int) < v.toInt → (I 37 e).toInt = -1) from by first | assumption | omega | exact fun _ _ => rfl | exact fun _ _ => ⟨rfl, rfl⟩ | exact fun _ _ => ⟨rfl, rfl, rfl⟩ | (intro j9 hj9; omega)), (show u.toInt < z171.toInt from by first | assumption | omega), (show z171.toInt ≤ 22 from by first | assumption | omega), (show (upd (upd (I144 37) (u.toInt.toNat) (Int32.ofInt (-1))) (i.toInt.toNat) (Int32.ofInt (-1))) = I 37 from by first | assumption | omega | rfl), (by first | assumption | exact Or.inl rfl | exact Or.inr rfl | (intro h; cases h)), (show (22 - z171.toInt) < n94 from by omega)⟩
                · intro h166
                  have h166 : ¬ x144.toInt = 0 := h166
                  exact ⟨Or.inr rfl, hR163, hF163, hG144, q163, k163, (show ((1 : Int) = 0 ∨ (1 : Int) = 1) from by first | assumption | omega | rfl)⟩
      have lp89 : ∀ (u : Int32) (v : Int32), (s.toInt ≤ u.toInt) ∧ (u.toInt < (I 31 9).toInt) ∧ (ptd (I 37) u.toInt) ∧ ((I 37 u.toInt.toNat).toInt = -1) ∧ (u.toInt < v.toInt) ∧ (v.toInt ≤ (I 31 9).toInt) ∧ ((∀ e : Nat, u.toInt < (e : Int) → (e : Int) < v.toInt → (I 37 e).toInt = -1)) → f_W pP l eP (f_rm (d + 1 + 3)) sP mP aP bP hP9 cP xY 80 a cy dC dI 7 (f_K 3 (qX7_tieFrom [.ref 31, .int s, .null] I L)) 89 [(4, .int v), (3, .int u), (2, .null), (1, .int s), (0, .ref 31)] [] I L := by
        intro u v h9
        obtain ⟨u89_1, u89_2, u89_3, u89_4, u89_5, u89_6, u89_7⟩ := h9
        refine f_wp_ok C f_cl flX7_ok fiX7_ok fjX7_ok (sn := none) (fun j h => by cases h) (cs := (f_cnl [(68, (1, 3, 7, pX7_isRight, qX7_isRight)), (72, (1, 3, 5, pX5_keep, qX5_keep)), (77, (4, 3, 7, pX7_leavesFlat, qX7_leavesFlat)), (81, (3, 3, 7, pX7_mayTie, qX7_mayTie)), (85, (3, 3, 7, (pX7_tieFrom d), qX7_tieFrom))])) (cz := (fun _ => none)) (f_cnl_of (P := fun j S => f_cok pP l eP (f_rm (d + 1 + 3)) sP mP aP bP hP9 cP xY 80 a cy dC dI 7 _ _ (.invokevirtual j) true S) (List.forall_mem_cons.mpr ⟨f_cokV C (mX7_isRight hinj) (ci := 7) rfl (List.forall_mem_cons.mpr ⟨(mlX7_ok _ (List.mem_of_getElem? (i := 3) rfl)), kc_X7_isRight⟩) (by decide +kernel) ⟨by simp only [f_rm]; omega, by simp only [f_rm]; omega⟩, List.forall_mem_cons.mpr ⟨f_cokV C (mX5_keep hinj) (ci := 5) rfl (List.forall_mem_cons.mpr ⟨(mlX7_ok _ (List.mem_of_getElem? (i := 4) rfl)), kc_X5_keep⟩) (by decide +kernel) ⟨by simp only [f_rm]; omega, by simp only [f_rm]; omega⟩, List.forall_mem_cons.mpr ⟨f_cokV C (mX7_leavesFlat hinj) (ci := 7) rfl (List.forall_mem_cons.mpr ⟨(mlX7_ok _ (List.mem_of_getElem? (i := 5) rfl)), kc_X7_leavesFlat⟩) (by decide +kernel) ⟨by simp only [f_rm]; omega, by simp only [f_rm]; omega⟩, List.forall_mem_cons.mpr ⟨f_cokV C (mX7_mayTie hinj) (ci := 7) rfl (List.forall_mem_cons.mpr ⟨(mlX7_ok _ (List.mem_of_getElem? (i := 6) rfl)), kc_X7_mayTie⟩) (by decide +kernel) ⟨by simp only [f_rm]; omega, by simp only [f_rm]; omega⟩, List.forall_mem_cons.mpr ⟨f_cokV C ih (ci := 7) rfl (List.forall_mem_cons.mpr ⟨(mlX7_ok _ (List.mem_of_getElem? (i := 7) rfl)), kc_X7_tieFrom⟩) (by decide +kernel) ⟨by simp only [f_rm]; omega, by simp only [f_rm]; omega⟩, fun _ h => absurd h List.not_mem_nil⟩⟩⟩⟩⟩)) (fun j S h => by cases h) tX7_tieFrom_ok (cut := (f_cnl [(94, (fun (ls' : fLs) (st' : List Value) (I' : fM) (L' : fN) => ∃ u : Int32, ∃ v : Int32, ∃ i : Int32, (∀ q ∈ ([(5, .int i), (4, .int v), (3, .int u), (2, .null), (1, .int s), (0, .ref 31)] : fLs), q ∈ ls') ∧ st' = [] ∧ (xR I' ∧ f_fr [37, 69] I I' ∧ f_fr [70] L L' ∧ (s.toInt ≤ u.toInt) ∧ (u.toInt < (I 31 9).toInt) ∧ (ptd (I 37) u.toInt) ∧ ((I 37 u.toInt.toNat).toInt = -1) ∧ (u.toInt < v.toInt) ∧ (v.toInt ≤ (I 31 9).toInt) ∧ ((∀ e : Nat, u.toInt < (e : Int) → (e : Int) < v.toInt → (I 37 e).toInt = -1)) ∧ (u.toInt < i.toInt) ∧ (i.toInt ≤ 22) ∧ (I' 37 = I 37) ∧ ((Value.null = Value.ref 69 → xK I' L')) ∧ (22 - i.toInt) < 23)))])) (f_cnl_of (P := fun (tQ : Nat) (P : fLs → List Value → fM → fN → Prop) => ∀ ls' st' I' L', P ls' st' I' L' → f_W pP l eP (f_rm (d + 1 + 3)) sP mP aP bP hP9 cP xY 80 a cy dC dI 7 (f_K 3 (qX7_tieFrom [.ref 31, .int s, .null] I L)) tQ ls' st' I' L') (List.forall_mem_cons.mpr ⟨(fun ls' st' I' L' h => by obtain ⟨u, v, i, hs, e1, h9⟩ := h; rw [e1]; exact f_W_sub hs (lp94 23 u v i I' L' h9)), fun _ h => absurd h List.not_mem_nil⟩)) 7 89 (f_seek 89 0 tX7_tieFrom) (f_seek_ok 89 0 tX7_tieFrom tX7_tieFrom_ok) _ _ _ _ ?_
        intro z91 q91 _ hq91 hl91 hu91
        have hq91 : z91.toInt = u.toInt + 1 + 4294967296 * q91 := hq91
        try have hz91 : z91.toInt = u.toInt + 1 := by omega
        try have q91 : Value.null = Value.ref 69 → xK I L := fun h => (p8 h).2
        have r94_1 : 0 ≤ (I 31 9).toInt ∧ (I 31 9).toInt ≤ 20 := hR 31 9
        have r94_2 : -1 ≤ (I 37 (u.toInt.toNat)).toInt ∧ (I 37 (u.toInt.toNat)).toInt ≤ 19 := hR 37 (u.toInt.toNat)
        exact ⟨u, v, z91, (by intro q9 h9; simp only [List.mem_cons, List.not_mem_nil, or_false] at h9; rcases h9 with h9 | h9 | h9 | h9 | h9 | h9 <;> subst h9 <;> repeat (first | exact List.mem_cons_self | apply List.mem_cons_of_mem)), rfl, hR, hF0, hG0, (show s.toInt ≤ u.toInt from by first | assumption | omega), (show u.toInt < (I 31 9).toInt from by first | assumption | omega), (show ptd (I 37) u.toInt from by first | assumption | omega), (show (I 37 u.toInt.toNat).toInt = -1 from by first | assumption | omega | rfl), (show u.toInt < v.toInt from by first | assumption | omega), (show v.toInt ≤ (I 31 9).toInt from by first | assumption | omega), (show (∀ e : Nat, u.toInt < (e : Int) → (e : Int) < v.toInt → (I 37 e).toInt = -1) from by first | assumption | omega | exact fun _ _ => rfl | exact fun _ _ => ⟨rfl, rfl⟩ | exact fun _ _ => ⟨rfl, rfl, rfl⟩ | (intro j9 hj9; omega)), (show u.toInt < z91.toInt from by first | assumption | omega), (show z91.toInt ≤ 22 from by first | assumption | omega), (show I 37 = I 37 from by first | assumption | omega | rfl), (by first | assumption | exact Or.inl rfl | exact Or.inr rfl | (intro h; cases h)), (show (22 - z91.toInt) < 23 from by omega)⟩
      have lp63 : ∀ (n63 : Nat), ∀ (u : Int32) (v : Int32), (s.toInt ≤ u.toInt) ∧ (u.toInt < (I 31 9).toInt) ∧ (ptd (I 37) u.toInt) ∧ ((I 37 u.toInt.toNat).toInt = -1) ∧ (u.toInt < v.toInt) ∧ (v.toInt ≤ (I 31 9).toInt) ∧ ((∀ e : Nat, u.toInt < (e : Int) → (e : Int) < v.toInt → (I 37 e).toInt = -1)) ∧ ((I 31 9).toInt - v.toInt) < n63 → f_W pP l eP (f_rm (d + 1 + 3)) sP mP aP bP hP9 cP xY 80 a cy dC dI 7 (f_K 3 (qX7_tieFrom [.ref 31, .int s, .null] I L)) 63 [(4, .int v), (3, .int u), (2, .null), (1, .int s), (0, .ref 31)] [] I L := by
        intro n63
        induction n63 with
        | zero =>
          intro u v h9
          obtain ⟨u63_1, u63_2, u63_3, u63_4, u63_5, u63_6, u63_7, hm63⟩ := h9
          omega
        | succ n63 ih63 =>
          intro u v h9
          obtain ⟨u63_1, u63_2, u63_3, u63_4, u63_5, u63_6, u63_7, hm63⟩ := h9
          refine f_wp_ok C f_cl flX7_ok fiX7_ok fjX7_ok (sn := none) (fun j h => by cases h) (cs := (f_cnl [(68, (1, 3, 7, pX7_isRight, qX7_isRight)), (72, (1, 3, 5, pX5_keep, qX5_keep)), (77, (4, 3, 7, pX7_leavesFlat, qX7_leavesFlat)), (81, (3, 3, 7, pX7_mayTie, qX7_mayTie)), (85, (3, 3, 7, (pX7_tieFrom d), qX7_tieFrom))])) (cz := (fun _ => none)) (f_cnl_of (P := fun j S => f_cok pP l eP (f_rm (d + 1 + 3)) sP mP aP bP hP9 cP xY 80 a cy dC dI 7 _ _ (.invokevirtual j) true S) (List.forall_mem_cons.mpr ⟨f_cokV C (mX7_isRight hinj) (ci := 7) rfl (List.forall_mem_cons.mpr ⟨(mlX7_ok _ (List.mem_of_getElem? (i := 3) rfl)), kc_X7_isRight⟩) (by decide +kernel) ⟨by simp only [f_rm]; omega, by simp only [f_rm]; omega⟩, List.forall_mem_cons.mpr ⟨f_cokV C (mX5_keep hinj) (ci := 5) rfl (List.forall_mem_cons.mpr ⟨(mlX7_ok _ (List.mem_of_getElem? (i := 4) rfl)), kc_X5_keep⟩) (by decide +kernel) ⟨by simp only [f_rm]; omega, by simp only [f_rm]; omega⟩, List.forall_mem_cons.mpr ⟨f_cokV C (mX7_leavesFlat hinj) (ci := 7) rfl (List.forall_mem_cons.mpr ⟨(mlX7_ok _ (List.mem_of_getElem? (i := 5) rfl)), kc_X7_leavesFlat⟩) (by decide +kernel) ⟨by simp only [f_rm]; omega, by simp only [f_rm]; omega⟩, List.forall_mem_cons.mpr ⟨f_cokV C (mX7_mayTie hinj) (ci := 7) rfl (List.forall_mem_cons.mpr ⟨(mlX7_ok _ (List.mem_of_getElem? (i := 6) rfl)), kc_X7_mayTie⟩) (by decide +kernel) ⟨by simp only [f_rm]; omega, by simp only [f_rm]; omega⟩, List.forall_mem_cons.mpr ⟨f_cokV C ih (ci := 7) rfl (List.forall_mem_cons.mpr ⟨(mlX7_ok _ (List.mem_of_getElem? (i := 7) rfl)), kc_X7_tieFrom⟩) (by decide +kernel) ⟨by simp only [f_rm]; omega, by simp only [f_rm]; omega⟩, fun _ h => absurd h List.not_mem_nil⟩⟩⟩⟩⟩)) (fun j S h => by cases h) tX7_tieFrom_ok (cut := (f_cnl [(63, (fun (ls' : fLs) (st' : List Value) (I' : fM) (L' : fN) => ∃ u : Int32, ∃ v : Int32, (∀ q ∈ ([(4, .int v), (3, .int u), (2, .null), (1, .int s), (0, .ref 31)] : fLs), q ∈ ls') ∧ st' = [] ∧ I' = I ∧ L' = L ∧ ((s.toInt ≤ u.toInt) ∧ (u.toInt < (I 31 9).toInt) ∧ (ptd (I 37) u.toInt) ∧ ((I 37 u.toInt.toNat).toInt = -1) ∧ (u.toInt < v.toInt) ∧ (v.toInt ≤ (I 31 9).toInt) ∧ ((∀ e : Nat, u.toInt < (e : Int) → (e : Int) < v.toInt → (I 37 e).toInt = -1)) ∧ ((I 31 9).toInt - v.toInt) < n63))), (89, (fun (ls' : fLs) (st' : List Value) (I' : fM) (L' : fN) => ∃ u : Int32, ∃ v : Int32, (∀ q ∈ ([(4, .int v), (3, .int u), (2, .null), (1, .int s), (0, .ref 31)] : fLs), q ∈ ls') ∧ st' = [] ∧ I' = I ∧ L' = L ∧ ((s.toInt ≤ u.toInt) ∧ (u.toInt < (I 31 9).toInt) ∧ (ptd (I 37) u.toInt) ∧ ((I 37 u.toInt.toNat).toInt = -1) ∧ (u.toInt < v.toInt) ∧ (v.toInt ≤ (I 31 9).toInt) ∧ ((∀ e : Nat, u.toInt < (e : Int) → (e : Int) < v.toInt → (I 37 e).toInt = -1)))))])) (f_cnl_of (P := fun (tQ : Nat) (P : fLs → List Value → fM → fN → Prop) => ∀ ls' st' I' L', P ls' st' I' L' → f_W pP l eP (f_rm (d + 1 + 3)) sP mP aP bP hP9 cP xY 80 a cy dC dI 7 (f_K 3 (qX7_tieFrom [.ref 31, .int s, .null] I L)) tQ ls' st' I' L') (List.forall_mem_cons.mpr ⟨(fun ls' st' I' L' h => by obtain ⟨u, v, hs, e1, e2, e3, h9⟩ := h; rw [e1, e2, e3]; exact f_W_sub hs (ih63 u v h9)), List.forall_mem_cons.mpr ⟨(fun ls' st' I' L' h => by obtain ⟨u, v, hs, e1, e2, e3, h9⟩ := h; rw [e1, e2, e3]; exact f_W_sub hs (lp89 u v h9)), fun _ h => absurd h List.not_mem_nil⟩⟩)) 15 63 (f_seek 63 0 tX7_tieFrom) (f_seek_ok 63 0 tX7_tieFrom tX7_tieFrom_ok) _ _ _ _ ?_
          have r66_1 : 0 ≤ (I 31 9).toInt ∧ (I 31 9).toInt ≤ 20 := hR 31 9
          apply And.intro
          · intro h69
            have h69 : (I 31 9).toInt ≤ v.toInt := h69
            have r89_2 : -1 ≤ (I 37 (u.toInt.toNat)).toInt ∧ (I 37 (u.toInt.toNat)).toInt ≤ 19 := hR 37 (u.toInt.toNat)
            exact ⟨u, v, (by intro q9 h9; simp only [List.mem_cons, List.not_mem_nil, or_false] at h9; rcases h9 with h9 | h9 | h9 | h9 | h9 <;> subst h9 <;> repeat (first | exact List.mem_cons_self | apply List.mem_cons_of_mem)), rfl, rfl, rfl, (show s.toInt ≤ u.toInt from by first | assumption | omega), (show u.toInt < (I 31 9).toInt from by first | assumption | omega), (show ptd (I 37) u.toInt from by first | assumption | omega), (show (I 37 u.toInt.toNat).toInt = -1 from by first | assumption | omega | rfl), (show u.toInt < v.toInt from by first | assumption | omega), (show v.toInt ≤ (I 31 9).toInt from by first | assumption | omega), (show (∀ e : Nat, u.toInt < (e : Int) → (e : Int) < v.toInt → (I 37 e).toInt = -1) from by first | assumption | omega | exact fun _ _ => rfl | exact fun _ _ => ⟨rfl, rfl⟩ | exact fun _ _ => ⟨rfl, rfl, rfl⟩ | (intro j9 hj9; omega))⟩
          · intro h69
            have h69 : v.toInt < (I 31 9).toInt := h69
            refine And.intro (show f_in v 20 from ⟨show 0 ≤ v.toInt from by omega, show v.toInt < 20 from by omega⟩) ?_
            have r78_2 : -1 ≤ (I 37 (v.toInt.toNat)).toInt ∧ (I 37 (v.toInt.toNat)).toInt ≤ 19 := hR 37 (v.toInt.toNat)
            apply And.intro
            · intro h80
              have h80 : ¬ (I 37 (v.toInt.toNat)).toInt = (-1) := h80
              have r89_3 : -1 ≤ (I 37 (u.toInt.toNat)).toInt ∧ (I 37 (u.toInt.toNat)).toInt ≤ 19 := hR 37 (u.toInt.toNat)
              exact ⟨u, v, (by intro q9 h9; simp only [List.mem_cons, List.not_mem_nil, or_false] at h9; rcases h9 with h9 | h9 | h9 | h9 | h9 <;> subst h9 <;> repeat (first | exact List.mem_cons_self | apply List.mem_cons_of_mem)), rfl, rfl, rfl, (show s.toInt ≤ u.toInt from by first | assumption | omega), (show u.toInt < (I 31 9).toInt from by first | assumption | omega), (show ptd (I 37) u.toInt from by first | assumption | omega), (show (I 37 u.toInt.toNat).toInt = -1 from by first | assumption | omega | rfl), (show u.toInt < v.toInt from by first | assumption | omega), (show v.toInt ≤ (I 31 9).toInt from by first | assumption | omega), (show (∀ e : Nat, u.toInt < (e : Int) → (e : Int) < v.toInt → (I 37 e).toInt = -1) from by first | assumption | omega | exact fun _ _ => rfl | exact fun _ _ => ⟨rfl, rfl⟩ | exact fun _ _ => ⟨rfl, rfl, rfl⟩ | (intro j9 hj9; omega))⟩
            · intro h80
              have h80 : (I 37 (v.toInt.toNat)).toInt = (-1) := h80
              intro z83 q83 _ hq83 hl83 hu83
              have hq83 : z83.toInt = v.toInt + 1 + 4294967296 * q83 := hq83
              try have hz83 : z83.toInt = v.toInt + 1 := by omega
              have q83 : ∀ e : Nat, u.toInt < (e : Int) → (e : Int) < z83.toInt → (I 37 e).toInt = -1 := fun e h1 h2 => by
                by_cases q : e = v.toInt.toNat
                · rw [q]; omega
                · exact u63_7 e h1 (by omega)
              have r63_3 : -1 ≤ (I 37 (u.toInt.toNat)).toInt ∧ (I 37 (u.toInt.toNat)).toInt ≤ 19 := hR 37 (u.toInt.toNat)
              exact ⟨u, z83, (by intro q9 h9; simp only [List.mem_cons, List.not_mem_nil, or_false] at h9; rcases h9 with h9 | h9 | h9 | h9 | h9 <;> subst h9 <;> repeat (first | exact List.mem_cons_self | apply List.mem_cons_of_mem)), rfl, rfl, rfl, (show s.toInt ≤ u.toInt from by first | assumption | omega), (show u.toInt < (I 31 9).toInt from by first | assumption | omega), (show ptd (I 37) u.toInt from by first | assumption | omega), (show (I 37 u.toInt.toNat).toInt = -1 from by first | assumption | omega | rfl), (show u.toInt < z83.toInt from by first | assumption | omega), (show z83.toInt ≤ (I 31 9).toInt from by first | assumption | omega), (show (∀ e : Nat, u.toInt < (e : Int) → (e : Int) < z83.toInt → (I 37 e).toInt = -1) from by first | assumption | omega | exact fun _ _ => rfl | exact fun _ _ => ⟨rfl, rfl⟩ | exact fun _ _ => ⟨rfl, rfl, rfl⟩ | (intro j9 hj9; omega)), (show ((I 31 9).toInt - z83.toInt) < n63 from by omega)⟩
      have lp26 : ∀ (u : Int32), (s.toInt ≤ u.toInt) ∧ (u.toInt ≤ (I 31 9).toInt) ∧ (ptd (I 37) u.toInt) ∧ ((u.toInt < (I 31 9).toInt → (I 37 u.toInt.toNat).toInt = -1)) → f_W pP l eP (f_rm (d + 1 + 3)) sP mP aP bP hP9 cP xY 80 a cy dC dI 7 (f_K 3 (qX7_tieFrom [.ref 31, .int s, .null] I L)) 26 [(3, .int u), (2, .null), (1, .int s), (0, .ref 31)] [] I L := by
        intro u h9
        obtain ⟨u26_1, u26_2, u26_3, u26_4⟩ := h9
        refine f_wp_ok C f_cl flX7_ok fiX7_ok fjX7_ok (sn := none) (fun j h => by cases h) (cs := (f_cnl [(68, (1, 3, 7, pX7_isRight, qX7_isRight)), (72, (1, 3, 5, pX5_keep, qX5_keep)), (77, (4, 3, 7, pX7_leavesFlat, qX7_leavesFlat)), (81, (3, 3, 7, pX7_mayTie, qX7_mayTie)), (85, (3, 3, 7, (pX7_tieFrom d), qX7_tieFrom))])) (cz := (fun _ => none)) (f_cnl_of (P := fun j S => f_cok pP l eP (f_rm (d + 1 + 3)) sP mP aP bP hP9 cP xY 80 a cy dC dI 7 _ _ (.invokevirtual j) true S) (List.forall_mem_cons.mpr ⟨f_cokV C (mX7_isRight hinj) (ci := 7) rfl (List.forall_mem_cons.mpr ⟨(mlX7_ok _ (List.mem_of_getElem? (i := 3) rfl)), kc_X7_isRight⟩) (by decide +kernel) ⟨by simp only [f_rm]; omega, by simp only [f_rm]; omega⟩, List.forall_mem_cons.mpr ⟨f_cokV C (mX5_keep hinj) (ci := 5) rfl (List.forall_mem_cons.mpr ⟨(mlX7_ok _ (List.mem_of_getElem? (i := 4) rfl)), kc_X5_keep⟩) (by decide +kernel) ⟨by simp only [f_rm]; omega, by simp only [f_rm]; omega⟩, List.forall_mem_cons.mpr ⟨f_cokV C (mX7_leavesFlat hinj) (ci := 7) rfl (List.forall_mem_cons.mpr ⟨(mlX7_ok _ (List.mem_of_getElem? (i := 5) rfl)), kc_X7_leavesFlat⟩) (by decide +kernel) ⟨by simp only [f_rm]; omega, by simp only [f_rm]; omega⟩, List.forall_mem_cons.mpr ⟨f_cokV C (mX7_mayTie hinj) (ci := 7) rfl (List.forall_mem_cons.mpr ⟨(mlX7_ok _ (List.mem_of_getElem? (i := 6) rfl)), kc_X7_mayTie⟩) (by decide +kernel) ⟨by simp only [f_rm]; omega, by simp only [f_rm]; omega⟩, List.forall_mem_cons.mpr ⟨f_cokV C ih (ci := 7) rfl (List.forall_mem_cons.mpr ⟨(mlX7_ok _ (List.mem_of_getElem? (i := 7) rfl)), kc_X7_tieFrom⟩) (by decide +kernel) ⟨by simp only [f_rm]; omega, by simp only [f_rm]; omega⟩, fun _ h => absurd h List.not_mem_nil⟩⟩⟩⟩⟩)) (fun j S h => by cases h) tX7_tieFrom_ok (cut := (f_cnl [(63, (fun (ls' : fLs) (st' : List Value) (I' : fM) (L' : fN) => ∃ u : Int32, ∃ v : Int32, (∀ q ∈ ([(4, .int v), (3, .int u), (2, .null), (1, .int s), (0, .ref 31)] : fLs), q ∈ ls') ∧ st' = [] ∧ I' = I ∧ L' = L ∧ ((s.toInt ≤ u.toInt) ∧ (u.toInt < (I 31 9).toInt) ∧ (ptd (I 37) u.toInt) ∧ ((I 37 u.toInt.toNat).toInt = -1) ∧ (u.toInt < v.toInt) ∧ (v.toInt ≤ (I 31 9).toInt) ∧ ((∀ e : Nat, u.toInt < (e : Int) → (e : Int) < v.toInt → (I 37 e).toInt = -1)) ∧ ((I 31 9).toInt - v.toInt) < 21)))])) (f_cnl_of (P := fun (tQ : Nat) (P : fLs → List Value → fM → fN → Prop) => ∀ ls' st' I' L', P ls' st' I' L' → f_W pP l eP (f_rm (d + 1 + 3)) sP mP aP bP hP9 cP xY 80 a cy dC dI 7 (f_K 3 (qX7_tieFrom [.ref 31, .int s, .null] I L)) tQ ls' st' I' L') (List.forall_mem_cons.mpr ⟨(fun ls' st' I' L' h => by obtain ⟨u, v, hs, e1, e2, e3, h9⟩ := h; rw [e1, e2, e3]; exact f_W_sub hs (lp63 21 u v h9)), fun _ h => absurd h List.not_mem_nil⟩)) 15 26 (f_seek 26 0 tX7_tieFrom) (f_seek_ok 26 0 tX7_tieFrom tX7_tieFrom_ok) _ _ _ _ ?_
        skip
        have r28_1 : 0 ≤ (I 31 9).toInt ∧ (I 31 9).toInt ≤ 20 := hR 31 9
        apply And.intro
        · intro h31
          have h31 : u.toInt < (I 31 9).toInt := h31
          intro z60 q60 _ hq60 hl60 hu60
          have hq60 : z60.toInt = u.toInt + 1 + 4294967296 * q60 := hq60
          try have hz60 : z60.toInt = u.toInt + 1 := by omega
          have q60 : ∀ e : Nat, u.toInt < (e : Int) → (e : Int) < z60.toInt → (I 37 e).toInt = -1 := fun e h1 h2 => by omega
          have r63_2 : -1 ≤ (I 37 (u.toInt.toNat)).toInt ∧ (I 37 (u.toInt.toNat)).toInt ≤ 19 := hR 37 (u.toInt.toNat)
          exact ⟨u, z60, (by intro q9 h9; simp only [List.mem_cons, List.not_mem_nil, or_false] at h9; rcases h9 with h9 | h9 | h9 | h9 | h9 <;> subst h9 <;> repeat (first | exact List.mem_cons_self | apply List.mem_cons_of_mem)), rfl, rfl, rfl, (show s.toInt ≤ u.toInt from by first | assumption | omega), (show u.toInt < (I 31 9).toInt from by first | assumption | omega), (show ptd (I 37) u.toInt from by first | assumption | omega), (show (I 37 u.toInt.toNat).toInt = -1 from by first | assumption | omega | rfl), (show u.toInt < z60.toInt from by first | assumption | omega), (show z60.toInt ≤ (I 31 9).toInt from by first | assumption | omega), (show (∀ e : Nat, u.toInt < (e : Int) → (e : Int) < z60.toInt → (I 37 e).toInt = -1) from by first | assumption | omega | exact fun _ _ => rfl | exact fun _ _ => ⟨rfl, rfl⟩ | exact fun _ _ => ⟨rfl, rfl, rfl⟩ | (intro j9 hj9; omega)), (show ((I 31 9).toInt - z60.toInt) < 21 from by omega)⟩
        · intro h31
          have h31 : (I 31 9).toInt ≤ u.toInt := h31
          refine And.intro hR ?_
          intro x35 I35 L35 hq35
          have hq35 : I35 = I ∧ L35 = L ∧ ((x35.toInt = 0 ∨ x35.toInt = 1)) := hq35
          obtain ⟨eI35, eL35, c35_2⟩ := hq35
          replace eI35 := eI35.symm
          subst eI35
          replace eL35 := eL35.symm
          subst eL35
          apply And.intro
          · intro h38
            have h38 : x35.toInt = 0 := h38
            exact ⟨Or.inl rfl, hR, hF0, hG0, (by first | rfl | exact c46_1 37 rfl), (by first | exact fun _ => c46_3 | exact fun h => (p8 h).2 | (intro h; cases h)), (show ((0 : Int) = 0 ∨ (0 : Int) = 1) from by first | assumption | omega | rfl)⟩
          · intro h38
            have h38 : ¬ x35.toInt = 0 := h38
            exact ⟨Or.inr rfl, hR, hF0, hG0, (by first | rfl | exact c46_1 37 rfl), (by first | exact fun _ => c46_3 | exact fun h => (p8 h).2 | (intro h; cases h)), (show ((1 : Int) = 0 ∨ (1 : Int) = 1) from by first | assumption | omega | rfl)⟩
      have lp2 : ∀ (n2 : Nat), ∀ (u : Int32), (s.toInt ≤ u.toInt) ∧ (u.toInt ≤ (I 31 9).toInt) ∧ (ptd (I 37) u.toInt) ∧ ((I 31 9).toInt - u.toInt) < n2 → f_W pP l eP (f_rm (d + 1 + 3)) sP mP aP bP hP9 cP xY 80 a cy dC dI 7 (f_K 3 (qX7_tieFrom [.ref 31, .int s, .null] I L)) 2 [(3, .int u), (2, .null), (1, .int s), (0, .ref 31)] [] I L := by
        intro n2
        induction n2 with
        | zero =>
          intro u h9
          obtain ⟨u2_1, u2_2, u2_3, hm2⟩ := h9
          omega
        | succ n2 ih2 =>
          intro u h9
          obtain ⟨u2_1, u2_2, u2_3, hm2⟩ := h9
          refine f_wp_ok C f_cl flX7_ok fiX7_ok fjX7_ok (sn := none) (fun j h => by cases h) (cs := (f_cnl [(68, (1, 3, 7, pX7_isRight, qX7_isRight)), (72, (1, 3, 5, pX5_keep, qX5_keep)), (77, (4, 3, 7, pX7_leavesFlat, qX7_leavesFlat)), (81, (3, 3, 7, pX7_mayTie, qX7_mayTie)), (85, (3, 3, 7, (pX7_tieFrom d), qX7_tieFrom))])) (cz := (fun _ => none)) (f_cnl_of (P := fun j S => f_cok pP l eP (f_rm (d + 1 + 3)) sP mP aP bP hP9 cP xY 80 a cy dC dI 7 _ _ (.invokevirtual j) true S) (List.forall_mem_cons.mpr ⟨f_cokV C (mX7_isRight hinj) (ci := 7) rfl (List.forall_mem_cons.mpr ⟨(mlX7_ok _ (List.mem_of_getElem? (i := 3) rfl)), kc_X7_isRight⟩) (by decide +kernel) ⟨by simp only [f_rm]; omega, by simp only [f_rm]; omega⟩, List.forall_mem_cons.mpr ⟨f_cokV C (mX5_keep hinj) (ci := 5) rfl (List.forall_mem_cons.mpr ⟨(mlX7_ok _ (List.mem_of_getElem? (i := 4) rfl)), kc_X5_keep⟩) (by decide +kernel) ⟨by simp only [f_rm]; omega, by simp only [f_rm]; omega⟩, List.forall_mem_cons.mpr ⟨f_cokV C (mX7_leavesFlat hinj) (ci := 7) rfl (List.forall_mem_cons.mpr ⟨(mlX7_ok _ (List.mem_of_getElem? (i := 5) rfl)), kc_X7_leavesFlat⟩) (by decide +kernel) ⟨by simp only [f_rm]; omega, by simp only [f_rm]; omega⟩, List.forall_mem_cons.mpr ⟨f_cokV C (mX7_mayTie hinj) (ci := 7) rfl (List.forall_mem_cons.mpr ⟨(mlX7_ok _ (List.mem_of_getElem? (i := 6) rfl)), kc_X7_mayTie⟩) (by decide +kernel) ⟨by simp only [f_rm]; omega, by simp only [f_rm]; omega⟩, List.forall_mem_cons.mpr ⟨f_cokV C ih (ci := 7) rfl (List.forall_mem_cons.mpr ⟨(mlX7_ok _ (List.mem_of_getElem? (i := 7) rfl)), kc_X7_tieFrom⟩) (by decide +kernel) ⟨by simp only [f_rm]; omega, by simp only [f_rm]; omega⟩, fun _ h => absurd h List.not_mem_nil⟩⟩⟩⟩⟩)) (fun j S h => by cases h) tX7_tieFrom_ok (cut := (f_cnl [(2, (fun (ls' : fLs) (st' : List Value) (I' : fM) (L' : fN) => ∃ u : Int32, (∀ q ∈ ([(3, .int u), (2, .null), (1, .int s), (0, .ref 31)] : fLs), q ∈ ls') ∧ st' = [] ∧ I' = I ∧ L' = L ∧ ((s.toInt ≤ u.toInt) ∧ (u.toInt ≤ (I 31 9).toInt) ∧ (ptd (I 37) u.toInt) ∧ ((I 31 9).toInt - u.toInt) < n2))), (26, (fun (ls' : fLs) (st' : List Value) (I' : fM) (L' : fN) => ∃ u : Int32, (∀ q ∈ ([(3, .int u), (2, .null), (1, .int s), (0, .ref 31)] : fLs), q ∈ ls') ∧ st' = [] ∧ I' = I ∧ L' = L ∧ ((s.toInt ≤ u.toInt) ∧ (u.toInt ≤ (I 31 9).toInt) ∧ (ptd (I 37) u.toInt) ∧ ((u.toInt < (I 31 9).toInt → (I 37 u.toInt.toNat).toInt = -1)))))])) (f_cnl_of (P := fun (tQ : Nat) (P : fLs → List Value → fM → fN → Prop) => ∀ ls' st' I' L', P ls' st' I' L' → f_W pP l eP (f_rm (d + 1 + 3)) sP mP aP bP hP9 cP xY 80 a cy dC dI 7 (f_K 3 (qX7_tieFrom [.ref 31, .int s, .null] I L)) tQ ls' st' I' L') (List.forall_mem_cons.mpr ⟨(fun ls' st' I' L' h => by obtain ⟨u, hs, e1, e2, e3, h9⟩ := h; rw [e1, e2, e3]; exact f_W_sub hs (ih2 u h9)), List.forall_mem_cons.mpr ⟨(fun ls' st' I' L' h => by obtain ⟨u, hs, e1, e2, e3, h9⟩ := h; rw [e1, e2, e3]; exact f_W_sub hs (lp26 u h9)), fun _ h => absurd h List.not_mem_nil⟩⟩)) 15 2 (f_seek 2 0 tX7_tieFrom) (f_seek_ok 2 0 tX7_tieFrom tX7_tieFrom_ok) _ _ _ _ ?_
          have r4_1 : 0 ≤ (I 31 9).toInt ∧ (I 31 9).toInt ≤ 20 := hR 31 9
          apply And.intro
          · intro h7
            have h7 : (I 31 9).toInt ≤ u.toInt := h7
            have r26_2 : -1 ≤ (I 37 (u.toInt.toNat)).toInt ∧ (I 37 (u.toInt.toNat)).toInt ≤ 19 := hR 37 (u.toInt.toNat)
            exact ⟨u, (by intro q9 h9; simp only [List.mem_cons, List.not_mem_nil, or_false] at h9; rcases h9 with h9 | h9 | h9 | h9 <;> subst h9 <;> repeat (first | exact List.mem_cons_self | apply List.mem_cons_of_mem)), rfl, rfl, rfl, (show s.toInt ≤ u.toInt from by first | assumption | omega), (show u.toInt ≤ (I 31 9).toInt from by first | assumption | omega), (show ptd (I 37) u.toInt from by first | assumption | omega), (show (u.toInt < (I 31 9).toInt → (I 37 u.toInt.toNat).toInt = -1) from by first | assumption | omega | rfl)⟩
          · intro h7
            have h7 : u.toInt < (I 31 9).toInt := h7
            refine And.intro (show f_in u 20 from ⟨show 0 ≤ u.toInt from by omega, show u.toInt < 20 from by omega⟩) ?_
            have r15_2 : -1 ≤ (I 37 (u.toInt.toNat)).toInt ∧ (I 37 (u.toInt.toNat)).toInt ≤ 19 := hR 37 (u.toInt.toNat)
            apply And.intro
            · intro h17
              have h17 : (I 37 (u.toInt.toNat)).toInt = (-1) := h17
              exact ⟨u, (by intro q9 h9; simp only [List.mem_cons, List.not_mem_nil, or_false] at h9; rcases h9 with h9 | h9 | h9 | h9 <;> subst h9 <;> repeat (first | exact List.mem_cons_self | apply List.mem_cons_of_mem)), rfl, rfl, rfl, (show s.toInt ≤ u.toInt from by first | assumption | omega), (show u.toInt ≤ (I 31 9).toInt from by first | assumption | omega), (show ptd (I 37) u.toInt from by first | assumption | omega), (show (u.toInt < (I 31 9).toInt → (I 37 u.toInt.toNat).toInt = -1) from by first | assumption | omega | rfl)⟩
            · intro h17
              have h17 : ¬ (I 37 (u.toInt.toNat)).toInt = (-1) := h17
              intro z20 q20 _ hq20 hl20 hu20
              have hq20 : z20.toInt = u.toInt + 1 + 4294967296 * q20 := hq20
              try have hz20 : z20.toInt = u.toInt + 1 := by omega
              have q20 : ptd (I 37) z20.toInt := by
                intro e he
                by_cases q : e = u.toInt.toNat
                · rw [q]; omega
                · exact u2_3 e (by omega)
              exact ⟨z20, (by intro q9 h9; simp only [List.mem_cons, List.not_mem_nil, or_false] at h9; rcases h9 with h9 | h9 | h9 | h9 <;> subst h9 <;> repeat (first | exact List.mem_cons_self | apply List.mem_cons_of_mem)), rfl, rfl, rfl, (show s.toInt ≤ z20.toInt from by first | assumption | omega), (show z20.toInt ≤ (I 31 9).toInt from by first | assumption | omega), (show ptd (I 37) z20.toInt from by first | assumption | omega), (show ((I 31 9).toInt - z20.toInt) < n2 from by omega)⟩
      refine f_wp_ok C f_cl flX7_ok fiX7_ok fjX7_ok (sn := none) (fun j h => by cases h) (cs := (f_cnl [(68, (1, 3, 7, pX7_isRight, qX7_isRight)), (72, (1, 3, 5, pX5_keep, qX5_keep)), (77, (4, 3, 7, pX7_leavesFlat, qX7_leavesFlat)), (81, (3, 3, 7, pX7_mayTie, qX7_mayTie)), (85, (3, 3, 7, (pX7_tieFrom d), qX7_tieFrom))])) (cz := (fun _ => none)) (f_cnl_of (P := fun j S => f_cok pP l eP (f_rm (d + 1 + 3)) sP mP aP bP hP9 cP xY 80 a cy dC dI 7 _ _ (.invokevirtual j) true S) (List.forall_mem_cons.mpr ⟨f_cokV C (mX7_isRight hinj) (ci := 7) rfl (List.forall_mem_cons.mpr ⟨(mlX7_ok _ (List.mem_of_getElem? (i := 3) rfl)), kc_X7_isRight⟩) (by decide +kernel) ⟨by simp only [f_rm]; omega, by simp only [f_rm]; omega⟩, List.forall_mem_cons.mpr ⟨f_cokV C (mX5_keep hinj) (ci := 5) rfl (List.forall_mem_cons.mpr ⟨(mlX7_ok _ (List.mem_of_getElem? (i := 4) rfl)), kc_X5_keep⟩) (by decide +kernel) ⟨by simp only [f_rm]; omega, by simp only [f_rm]; omega⟩, List.forall_mem_cons.mpr ⟨f_cokV C (mX7_leavesFlat hinj) (ci := 7) rfl (List.forall_mem_cons.mpr ⟨(mlX7_ok _ (List.mem_of_getElem? (i := 5) rfl)), kc_X7_leavesFlat⟩) (by decide +kernel) ⟨by simp only [f_rm]; omega, by simp only [f_rm]; omega⟩, List.forall_mem_cons.mpr ⟨f_cokV C (mX7_mayTie hinj) (ci := 7) rfl (List.forall_mem_cons.mpr ⟨(mlX7_ok _ (List.mem_of_getElem? (i := 6) rfl)), kc_X7_mayTie⟩) (by decide +kernel) ⟨by simp only [f_rm]; omega, by simp only [f_rm]; omega⟩, List.forall_mem_cons.mpr ⟨f_cokV C ih (ci := 7) rfl (List.forall_mem_cons.mpr ⟨(mlX7_ok _ (List.mem_of_getElem? (i := 7) rfl)), kc_X7_tieFrom⟩) (by decide +kernel) ⟨by simp only [f_rm]; omega, by simp only [f_rm]; omega⟩, fun _ h => absurd h List.not_mem_nil⟩⟩⟩⟩⟩)) (fun j S h => by cases h) tX7_tieFrom_ok (cut := (f_cnl [(2, (fun (ls' : fLs) (st' : List Value) (I' : fM) (L' : fN) => ∃ u : Int32, (∀ q ∈ ([(3, .int u), (2, .null), (1, .int s), (0, .ref 31)] : fLs), q ∈ ls') ∧ st' = [] ∧ I' = I ∧ L' = L ∧ ((s.toInt ≤ u.toInt) ∧ (u.toInt ≤ (I 31 9).toInt) ∧ (ptd (I 37) u.toInt) ∧ ((I 31 9).toInt - u.toInt) < 21)))])) (f_cnl_of (P := fun (tQ : Nat) (P : fLs → List Value → fM → fN → Prop) => ∀ ls' st' I' L', P ls' st' I' L' → f_W pP l eP (f_rm (d + 1 + 3)) sP mP aP bP hP9 cP xY 80 a cy dC dI 7 (f_K 3 (qX7_tieFrom [.ref 31, .int s, .null] I L)) tQ ls' st' I' L') (List.forall_mem_cons.mpr ⟨(fun ls' st' I' L' h => by obtain ⟨u, hs, e1, e2, e3, h9⟩ := h; rw [e1, e2, e3]; exact f_W_sub hs (lp2 21 u h9)), fun _ h => absurd h List.not_mem_nil⟩)) 5 0 tX7_tieFrom tX7_tieFrom_ok _ _ _ _ ?_
      have r2_1 : 0 ≤ (I 31 9).toInt ∧ (I 31 9).toInt ≤ 20 := hR 31 9
      exact ⟨s, (by intro q9 h9; simp only [List.mem_cons, List.not_mem_nil, or_false] at h9; rcases h9 with h9 | h9 | h9 | h9 <;> subst h9 <;> repeat (first | exact List.mem_cons_self | apply List.mem_cons_of_mem)), rfl, rfl, rfl, (show s.toInt ≤ s.toInt from by first | assumption | omega), (show s.toInt ≤ (I 31 9).toInt from by first | assumption | omega), (show ptd (I 37) s.toInt from by first | assumption | omega), (show ((I 31 9).toInt - s.toInt) < 21 from by omega)⟩
    -- pat [.ref 31, .int s, .ref 69]
    · skip
      have p0 : dpos (d + 1) := p0
      have hR : xR I := hR
      have p3 : 0 ≤ s.toInt := p3
      have p4 : s.toInt ≤ (I 31 9).toInt := p4
      have p5 : (I 31 9).toInt - s.toInt < (d + 1) := p5
      have p6 : pinv (I 37) (I 31 9).toInt := p6
      have p7 : ptd (I 37) s.toInt := p7
      have p8 : ((Value.ref 69) = Value.ref 69 → kc I ∧ xK I L) := p8
      have hn : 0 ≤ (I 31 9).toInt ∧ (I 31 9).toInt ≤ 20 := hR 31 9
      have hF0 : f_fr [37, 69] I I := f_fr_rf
      have hG0 : f_fr [70] L L := f_fr_rf
      have lp94 : ∀ (n94 : Nat), ∀ (u : Int32) (v : Int32) (i : Int32) (J94 : fM) (M94 : fN), xR J94 ∧ f_fr [37, 69] I J94 ∧ f_fr [70] L M94 ∧ (s.toInt ≤ u.toInt) ∧ (u.toInt < (I 31 9).toInt) ∧ (ptd (I 37) u.toInt) ∧ ((I 37 u.toInt.toNat).toInt = -1) ∧ (u.toInt < v.toInt) ∧ (v.toInt ≤ (I 31 9).toInt) ∧ ((∀ e : Nat, u.toInt < (e : Int) → (e : Int) < v.toInt → (I 37 e).toInt = -1)) ∧ (u.toInt < i.toInt) ∧ (i.toInt ≤ 22) ∧ (J94 37 = I 37) ∧ (((Value.ref 69) = Value.ref 69 → xK J94 M94)) ∧ (22 - i.toInt) < n94 → f_W pP l eP (f_rm (d + 1 + 3)) sP mP aP bP hP9 cP xY 80 a cy dC dI 7 (f_K 3 (qX7_tieFrom [.ref 31, .int s, .ref 69] I L)) 94 [(5, .int i), (4, .int v), (3, .int u), (2, .ref 69), (1, .int s), (0, .ref 31)] [] J94 M94 := by
        intro n94
        induction n94 with
        | zero =>
          intro u v i J94 M94 h9
          obtain ⟨hR94c, hF94c, hG94c, u94_1, u94_2, u94_3, u94_4, u94_5, u94_6, u94_7, u94_8, u94_9, u94_10, u94_11, hm94⟩ := h9
          omega
        | succ n94 ih94 =>
          intro u v i J94 M94 h9
          obtain ⟨hR94c, hF94c, hG94c, u94_1, u94_2, u94_3, u94_4, u94_5, u94_6, u94_7, u94_8, u94_9, u94_10, u94_11, hm94⟩ := h9
          refine f_wp_ok C f_cl flX7_ok fiX7_ok fjX7_ok (sn := none) (fun j h => by cases h) (cs := (f_cnl [(68, (1, 3, 7, pX7_isRight, qX7_isRight)), (72, (1, 3, 5, pX5_keep, qX5_keep)), (77, (4, 3, 7, pX7_leavesFlat, qX7_leavesFlat)), (81, (3, 3, 7, pX7_mayTie, qX7_mayTie)), (85, (3, 3, 7, (pX7_tieFrom d), qX7_tieFrom))])) (cz := (fun _ => none)) (f_cnl_of (P := fun j S => f_cok pP l eP (f_rm (d + 1 + 3)) sP mP aP bP hP9 cP xY 80 a cy dC dI 7 _ _ (.invokevirtual j) true S) (List.forall_mem_cons.mpr ⟨f_cokV C (mX7_isRight hinj) (ci := 7) rfl (List.forall_mem_cons.mpr ⟨(mlX7_ok _ (List.mem_of_getElem? (i := 3) rfl)), kc_X7_isRight⟩) (by decide +kernel) ⟨by simp only [f_rm]; omega, by simp only [f_rm]; omega⟩, List.forall_mem_cons.mpr ⟨f_cokV C (mX5_keep hinj) (ci := 5) rfl (List.forall_mem_cons.mpr ⟨(mlX7_ok _ (List.mem_of_getElem? (i := 4) rfl)), kc_X5_keep⟩) (by decide +kernel) ⟨by simp only [f_rm]; omega, by simp only [f_rm]; omega⟩, List.forall_mem_cons.mpr ⟨f_cokV C (mX7_leavesFlat hinj) (ci := 7) rfl (List.forall_mem_cons.mpr ⟨(mlX7_ok _ (List.mem_of_getElem? (i := 5) rfl)), kc_X7_leavesFlat⟩) (by decide +kernel) ⟨by simp only [f_rm]; omega, by simp only [f_rm]; omega⟩, List.forall_mem_cons.mpr ⟨f_cokV C (mX7_mayTie hinj) (ci := 7) rfl (List.forall_mem_cons.mpr ⟨(mlX7_ok _ (List.mem_of_getElem? (i := 6) rfl)), kc_X7_mayTie⟩) (by decide +kernel) ⟨by simp only [f_rm]; omega, by simp only [f_rm]; omega⟩, List.forall_mem_cons.mpr ⟨f_cokV C ih (ci := 7) rfl (List.forall_mem_cons.mpr ⟨(mlX7_ok _ (List.mem_of_getElem? (i := 7) rfl)), kc_X7_tieFrom⟩) (by decide +kernel) ⟨by simp only [f_rm]; omega, by simp only [f_rm]; omega⟩, fun _ h => absurd h List.not_mem_nil⟩⟩⟩⟩⟩)) (fun j S h => by cases h) tX7_tieFrom_ok (cut := (f_cnl [(94, (fun (ls' : fLs) (st' : List Value) (I' : fM) (L' : fN) => ∃ u : Int32, ∃ v : Int32, ∃ i : Int32, (∀ q ∈ ([(5, .int i), (4, .int v), (3, .int u), (2, .ref 69), (1, .int s), (0, .ref 31)] : fLs), q ∈ ls') ∧ st' = [] ∧ (xR I' ∧ f_fr [37, 69] I I' ∧ f_fr [70] L L' ∧ (s.toInt ≤ u.toInt) ∧ (u.toInt < (I 31 9).toInt) ∧ (ptd (I 37) u.toInt) ∧ ((I 37 u.toInt.toNat).toInt = -1) ∧ (u.toInt < v.toInt) ∧ (v.toInt ≤ (I 31 9).toInt) ∧ ((∀ e : Nat, u.toInt < (e : Int) → (e : Int) < v.toInt → (I 37 e).toInt = -1)) ∧ (u.toInt < i.toInt) ∧ (i.toInt ≤ 22) ∧ (I' 37 = I 37) ∧ (((Value.ref 69) = Value.ref 69 → xK I' L')) ∧ (22 - i.toInt) < n94)))])) (f_cnl_of (P := fun (tQ : Nat) (P : fLs → List Value → fM → fN → Prop) => ∀ ls' st' I' L', P ls' st' I' L' → f_W pP l eP (f_rm (d + 1 + 3)) sP mP aP bP hP9 cP xY 80 a cy dC dI 7 (f_K 3 (qX7_tieFrom [.ref 31, .int s, .ref 69] I L)) tQ ls' st' I' L') (List.forall_mem_cons.mpr ⟨(fun ls' st' I' L' h => by obtain ⟨u, v, i, hs, e1, h9⟩ := h; rw [e1]; exact f_W_sub hs (ih94 u v i I' L' h9)), fun _ h => absurd h List.not_mem_nil⟩)) 48 94 (f_seek 94 0 tX7_tieFrom) (f_seek_ok 94 0 tX7_tieFrom tX7_tieFrom_ok) _ _ _ _ ?_
          have e31 : (J94 31 9).toInt = (I 31 9).toInt := congrArg Int32.toInt (congrFun (hF94c 31 rfl) 9)
          apply And.intro
          · intro h98
            have h98 : v.toInt ≤ i.toInt := h98
            have pm := u94_7 i.toInt.toNat
            exact ⟨Or.inl rfl, hR94c, hF94c, hG94c, u94_10, u94_11, (show ((0 : Int) = 0 ∨ (0 : Int) = 1) from by first | assumption | omega | rfl)⟩
          · intro h98
            have h98 : i.toInt < v.toInt := h98
            have pm := u94_7 i.toInt.toNat
            refine And.intro ⟨(show 0 ≤ u.toInt from by first | assumption | omega), (show u.toInt ≤ 19 from by first | assumption | omega), (show 0 ≤ i.toInt from by first | assumption | omega), (show i.toInt ≤ 19 from by first | assumption | omega), (show 0 ≤ v.toInt from by first | assumption | omega), (show v.toInt ≤ 20 from by first | assumption | omega)⟩ ?_
            intro x107 I107 L107 hq107
            have hq107 : I107 = J94 ∧ L107 = M94 ∧ ((x107.toInt = 0 ∨ x107.toInt = 1)) := hq107
            obtain ⟨eI107, eL107, c107_2⟩ := hq107
            replace eI107 := eI107.symm
            subst eI107
            replace eL107 := eL107.symm
            subst eL107
            apply And.intro
            · intro h110
              have h110 : x107.toInt = 0 := h110
              intro z171 q171 _ hq171 hl171 hu171
              have hq171 : z171.toInt = i.toInt + 2 + 4294967296 * q171 := hq171
              try have hz171 : z171.toInt = i.toInt + 2 := by omega
              exact ⟨u, v, z171, (by intro q9 h9; simp only [List.mem_cons, List.not_mem_nil, or_false] at h9; rcases h9 with h9 | h9 | h9 | h9 | h9 | h9 <;> subst h9 <;> repeat (first | exact List.mem_cons_self | apply List.mem_cons_of_mem)), rfl, hR94c, hF94c, hG94c, (show s.toInt ≤ u.toInt from by first | assumption | omega), (show u.toInt < (I 31 9).toInt from by first | assumption | omega), (show ptd (I 37) u.toInt from by first | assumption | omega), (show (I 37 u.toInt.toNat).toInt = -1 from by first | assumption | omega | rfl), (show u.toInt < v.toInt from by first | assumption | omega), (show v.toInt ≤ (I 31 9).toInt from by first | assumption | omega), (show (∀ e : Nat, u.toInt < (e : Int) → (e : Int) < v.toInt → (I 37 e).toInt = -1) from by first | assumption | omega | exact fun _ _ => rfl | exact fun _ _ => ⟨rfl, rfl⟩ | exact fun _ _ => ⟨rfl, rfl, rfl⟩ | (intro j9 hj9; omega)), (show u.toInt < z171.toInt from by first | assumption | omega), (show z171.toInt ≤ 22 from by first | assumption | omega), (show J94 37 = I 37 from by first | assumption | omega | rfl), (by first | assumption | exact Or.inl rfl | exact Or.inr rfl | (intro h; cases h)), (show (22 - z171.toInt) < n94 from by omega)⟩
            · intro h110
              have h110 : ¬ x107.toInt = 0 := h110
              refine And.intro ⟨hR94c, (show 0 ≤ u.toInt from by first | assumption | omega), (show u.toInt ≤ 19 from by first | assumption | omega), (show 0 ≤ i.toInt from by first | assumption | omega), (show i.toInt ≤ 19 from by first | assumption | omega)⟩ ?_
              intro x117 I117 L117 hq117
              have hq117 : I117 = J94 ∧ L117 = M94 ∧ ((x117.toInt = 0 ∨ x117.toInt = 1)) := hq117
              obtain ⟨eI117, eL117, c117_2⟩ := hq117
              replace eI117 := eI117.symm
              subst eI117
              replace eL117 := eL117.symm
              subst eL117
              apply And.intro
              · intro h120
                have h120 : x117.toInt = 0 := h120
                intro z171 q171 _ hq171 hl171 hu171
                have hq171 : z171.toInt = i.toInt + 2 + 4294967296 * q171 := hq171
                try have hz171 : z171.toInt = i.toInt + 2 := by omega
                exact ⟨u, v, z171, (by intro q9 h9; simp only [List.mem_cons, List.not_mem_nil, or_false] at h9; rcases h9 with h9 | h9 | h9 | h9 | h9 | h9 <;> subst h9 <;> repeat (first | exact List.mem_cons_self | apply List.mem_cons_of_mem)), rfl, hR94c, hF94c, hG94c, (show s.toInt ≤ u.toInt from by first | assumption | omega), (show u.toInt < (I 31 9).toInt from by first | assumption | omega), (show ptd (I 37) u.toInt from by first | assumption | omega), (show (I 37 u.toInt.toNat).toInt = -1 from by first | assumption | omega | rfl), (show u.toInt < v.toInt from by first | assumption | omega), (show v.toInt ≤ (I 31 9).toInt from by first | assumption | omega), (show (∀ e : Nat, u.toInt < (e : Int) → (e : Int) < v.toInt → (I 37 e).toInt = -1) from by first | assumption | omega | exact fun _ _ => rfl | exact fun _ _ => ⟨rfl, rfl⟩ | exact fun _ _ => ⟨rfl, rfl, rfl⟩ | (intro j9 hj9; omega)), (show u.toInt < z171.toInt from by first | assumption | omega), (show z171.toInt ≤ 22 from by first | assumption | omega), (show J94 37 = I 37 from by first | assumption | omega | rfl), (by first | assumption | exact Or.inl rfl | exact Or.inr rfl | (intro h; cases h)), (show (22 - z171.toInt) < n94 from by omega)⟩
              · intro h120
                have h120 : ¬ x117.toInt = 0 := h120
                refine And.intro (show f_in u 20 from ⟨show 0 ≤ u.toInt from by omega, show u.toInt < 20 from by omega⟩) ?_
                have hR130 := xR_a (k := 37) (j := u.toInt.toNat) (x := i) hR94c (show -1 ≤ i.toInt ∧ i.toInt ≤ 19 from ⟨by omega, by omega⟩)
                have hF130 := f_fr_up (k := 37) (r := upd (J94 37) (u.toInt.toNat) i) hF94c rfl
                refine And.intro (show f_in i 20 from ⟨show 0 ≤ i.toInt from by omega, show i.toInt < 20 from by omega⟩) ?_
                have hR138 := xR_a (k := 37) (j := i.toInt.toNat) (x := u) hR130 (show -1 ≤ u.toInt ∧ u.toInt ≤ 19 from ⟨by omega, by omega⟩)
                have hF138 := f_fr_up (k := 37) (r := upd (upd (J94 37) (u.toInt.toNat) i) (i.toInt.toNat) u) hF130 rfl
                intro z142 q142 _ hq142 hl142 hu142
                have hq142 : z142.toInt = u.toInt + 1 + 4294967296 * q142 := hq142
                try have hz142 : z142.toInt = u.toInt + 1 := by omega
                have e144_2 : (J94 31 9).toInt = (I 31 9).toInt := congrArg Int32.toInt (congrFun (hF94c 31 rfl) 9)
                refine And.intro ⟨(dpos_of (by omega)), hR138, (by first | assumption | exact Or.inl rfl | exact Or.inr rfl | (intro h; cases h)), (show 0 ≤ z142.toInt from by first | assumption | omega), (show z142.toInt ≤ (J94 31 9).toInt from by first | assumption | omega), (show (J94 31 9).toInt - z142.toInt < d from by have q := p5; rw [hF94c 31 rfl]; omega), (show pinv ((upd (upd (J94 37) (u.toInt.toNat) i) (i.toInt.toNat) u)) (J94 31 9).toInt from by rw [u94_10, e31]; exact pinv_tie p6 (by omega) (by omega) (by omega) u94_4 (pm (by omega) (by omega)) (by omega) (by omega)), (show ptd ((upd (upd (J94 37) (u.toInt.toNat) i) (i.toInt.toNat) u)) z142.toInt from by rw [u94_10]; exact ptd_tie (fun e he => u94_3 e (by omega)) (by omega) (by omega) (by omega)), (fun h => ⟨kc_cells (hF94c 16 rfl) (hF94c 25 rfl) (hF94c 26 rfl) (hF94c 27 rfl) (hF94c 28 rfl) (hF94c 31 rfl) (p8 h).1, xK_cells rfl rfl rfl rfl rfl (u94_11 h)⟩)⟩ ?_
                intro x144 I144 L144 hq144
                have hq144 : xR I144 ∧ f_fr [37, 69] (va_up (va_up J94 37 (upd (J94 37) (u.toInt.toNat) i)) 37 (upd (upd (J94 37) (u.toInt.toNat) i) (i.toInt.toNat) u)) I144 ∧ f_fr [70] M94 L144 ∧ I144 37 = (upd (upd (J94 37) (u.toInt.toNat) i) (i.toInt.toNat) u) ∧ (((Value.ref 69) = Value.ref 69 → xK I144 L144)) ∧ ((x144.toInt = 0 ∨ x144.toInt = 1)) := hq144
                obtain ⟨c144_0, c144_1, c144_2, c144_3, c144_4, c144_5⟩ := hq144
                have hF144 := f_fr_tr hF138 c144_1 rfl
                have hG144 := f_fr_tr hG94c c144_2 rfl
                refine And.intro (show f_in u 20 from ⟨show 0 ≤ u.toInt from by omega, show u.toInt < 20 from by omega⟩) ?_
                have hR155 := xR_a (k := 37) (j := u.toInt.toNat) (x := Int32.ofInt (-1)) c144_0 (show (-1 : Int) ≤ (Int32.ofInt (-1)).toInt ∧ (Int32.ofInt (-1)).toInt ≤ (19 : Int) from ⟨by decide, by decide⟩)
                have hF155 := f_fr_up (k := 37) (r := upd (I144 37) (u.toInt.toNat) (Int32.ofInt (-1))) hF144 rfl
                refine And.intro (show f_in i 20 from ⟨show 0 ≤ i.toInt from by omega, show i.toInt < 20 from by omega⟩) ?_
                have hR163 := xR_a (k := 37) (j := i.toInt.toNat) (x := Int32.ofInt (-1)) hR155 (show (-1 : Int) ≤ (Int32.ofInt (-1)).toInt ∧ (Int32.ofInt (-1)).toInt ≤ (19 : Int) from ⟨by decide, by decide⟩)
                have hF163 := f_fr_up (k := 37) (r := upd (upd (I144 37) (u.toInt.toNat) (Int32.ofInt (-1))) (i.toInt.toNat) (Int32.ofInt (-1))) hF155 rfl
                have q163 : (upd (upd (I144 37) (u.toInt.toNat) (Int32.ofInt (-1))) (i.toInt.toNat) (Int32.ofInt (-1))) = I 37 := p_back rfl u94_4 (pm (by omega) (by omega)) (c144_3.trans (by show upd (upd (J94 37) u.toInt.toNat i) i.toInt.toNat u = _; rw [u94_10]))
                have k163 : (Value.ref 69) = Value.ref 69 → xK (va_up (va_up I144 37 (upd (I144 37) (u.toInt.toNat) (Int32.ofInt (-1)))) 37 (upd (upd (I144 37) (u.toInt.toNat) (Int32.ofInt (-1))) (i.toInt.toNat) (Int32.ofInt (-1)))) L144 := fun h => xK_cells rfl rfl rfl rfl rfl (c144_4 h)
                apply And.intro
                · intro h166
                  have h166 : x144.toInt = 0 := h166
                  intro z171 q171 _ hq171 hl171 hu171
                  have hq171 : z171.toInt = i.toInt + 2 + 4294967296 * q171 := hq171
                  try have hz171 : z171.toInt = i.toInt + 2 := by omega
                  exact ⟨u, v, z171, (by intro q9 h9; simp only [List.mem_cons, List.not_mem_nil, or_false] at h9; rcases h9 with h9 | h9 | h9 | h9 | h9 | h9 <;> subst h9 <;> repeat (first | exact List.mem_cons_self | apply List.mem_cons_of_mem)), rfl, hR163, hF163, hG144, (show s.toInt ≤ u.toInt from by first | assumption | omega), (show u.toInt < (I 31 9).toInt from by first | assumption | omega), (show ptd (I 37) u.toInt from by first | assumption | omega), (show (I 37 u.toInt.toNat).toInt = -1 from by first | assumption | omega | rfl), (show u.toInt < v.toInt from by first | assumption | omega), (show v.toInt ≤ (I 31 9).toInt from by first | assumption | omega), (show (∀ e : Nat, u.toInt < (e : Int) → (e : Int) < v.toInt → (I 37 e).toInt = -1) from by first | assumption | omega | exact fun _ _ => rfl | exact fun _ _ => ⟨rfl, rfl⟩ | exact fun _ _ => ⟨rfl, rfl, rfl⟩ | (intro j9 hj9; omega)), (show u.toInt < z171.toInt from by first | assumption | omega), (show z171.toInt ≤ 22 from by first | assumption | omega), (show (upd (upd (I144 37) (u.toInt.toNat) (Int32.ofInt (-1))) (i.toInt.toNat) (Int32.ofInt (-1))) = I 37 from by first | assumption | omega | rfl), (by first | assumption | exact Or.inl rfl | exact Or.inr rfl | (intro h; cases h)), (show (22 - z171.toInt) < n94 from by omega)⟩
                · intro h166
                  have h166 : ¬ x144.toInt = 0 := h166
                  exact ⟨Or.inr rfl, hR163, hF163, hG144, q163, k163, (show ((1 : Int) = 0 ∨ (1 : Int) = 1) from by first | assumption | omega | rfl)⟩
      have lp89 : ∀ (u : Int32) (v : Int32), (s.toInt ≤ u.toInt) ∧ (u.toInt < (I 31 9).toInt) ∧ (ptd (I 37) u.toInt) ∧ ((I 37 u.toInt.toNat).toInt = -1) ∧ (u.toInt < v.toInt) ∧ (v.toInt ≤ (I 31 9).toInt) ∧ ((∀ e : Nat, u.toInt < (e : Int) → (e : Int) < v.toInt → (I 37 e).toInt = -1)) → f_W pP l eP (f_rm (d + 1 + 3)) sP mP aP bP hP9 cP xY 80 a cy dC dI 7 (f_K 3 (qX7_tieFrom [.ref 31, .int s, .ref 69] I L)) 89 [(4, .int v), (3, .int u), (2, .ref 69), (1, .int s), (0, .ref 31)] [] I L := by
        intro u v h9
        obtain ⟨u89_1, u89_2, u89_3, u89_4, u89_5, u89_6, u89_7⟩ := h9
        refine f_wp_ok C f_cl flX7_ok fiX7_ok fjX7_ok (sn := none) (fun j h => by cases h) (cs := (f_cnl [(68, (1, 3, 7, pX7_isRight, qX7_isRight)), (72, (1, 3, 5, pX5_keep, qX5_keep)), (77, (4, 3, 7, pX7_leavesFlat, qX7_leavesFlat)), (81, (3, 3, 7, pX7_mayTie, qX7_mayTie)), (85, (3, 3, 7, (pX7_tieFrom d), qX7_tieFrom))])) (cz := (fun _ => none)) (f_cnl_of (P := fun j S => f_cok pP l eP (f_rm (d + 1 + 3)) sP mP aP bP hP9 cP xY 80 a cy dC dI 7 _ _ (.invokevirtual j) true S) (List.forall_mem_cons.mpr ⟨f_cokV C (mX7_isRight hinj) (ci := 7) rfl (List.forall_mem_cons.mpr ⟨(mlX7_ok _ (List.mem_of_getElem? (i := 3) rfl)), kc_X7_isRight⟩) (by decide +kernel) ⟨by simp only [f_rm]; omega, by simp only [f_rm]; omega⟩, List.forall_mem_cons.mpr ⟨f_cokV C (mX5_keep hinj) (ci := 5) rfl (List.forall_mem_cons.mpr ⟨(mlX7_ok _ (List.mem_of_getElem? (i := 4) rfl)), kc_X5_keep⟩) (by decide +kernel) ⟨by simp only [f_rm]; omega, by simp only [f_rm]; omega⟩, List.forall_mem_cons.mpr ⟨f_cokV C (mX7_leavesFlat hinj) (ci := 7) rfl (List.forall_mem_cons.mpr ⟨(mlX7_ok _ (List.mem_of_getElem? (i := 5) rfl)), kc_X7_leavesFlat⟩) (by decide +kernel) ⟨by simp only [f_rm]; omega, by simp only [f_rm]; omega⟩, List.forall_mem_cons.mpr ⟨f_cokV C (mX7_mayTie hinj) (ci := 7) rfl (List.forall_mem_cons.mpr ⟨(mlX7_ok _ (List.mem_of_getElem? (i := 6) rfl)), kc_X7_mayTie⟩) (by decide +kernel) ⟨by simp only [f_rm]; omega, by simp only [f_rm]; omega⟩, List.forall_mem_cons.mpr ⟨f_cokV C ih (ci := 7) rfl (List.forall_mem_cons.mpr ⟨(mlX7_ok _ (List.mem_of_getElem? (i := 7) rfl)), kc_X7_tieFrom⟩) (by decide +kernel) ⟨by simp only [f_rm]; omega, by simp only [f_rm]; omega⟩, fun _ h => absurd h List.not_mem_nil⟩⟩⟩⟩⟩)) (fun j S h => by cases h) tX7_tieFrom_ok (cut := (f_cnl [(94, (fun (ls' : fLs) (st' : List Value) (I' : fM) (L' : fN) => ∃ u : Int32, ∃ v : Int32, ∃ i : Int32, (∀ q ∈ ([(5, .int i), (4, .int v), (3, .int u), (2, .ref 69), (1, .int s), (0, .ref 31)] : fLs), q ∈ ls') ∧ st' = [] ∧ (xR I' ∧ f_fr [37, 69] I I' ∧ f_fr [70] L L' ∧ (s.toInt ≤ u.toInt) ∧ (u.toInt < (I 31 9).toInt) ∧ (ptd (I 37) u.toInt) ∧ ((I 37 u.toInt.toNat).toInt = -1) ∧ (u.toInt < v.toInt) ∧ (v.toInt ≤ (I 31 9).toInt) ∧ ((∀ e : Nat, u.toInt < (e : Int) → (e : Int) < v.toInt → (I 37 e).toInt = -1)) ∧ (u.toInt < i.toInt) ∧ (i.toInt ≤ 22) ∧ (I' 37 = I 37) ∧ (((Value.ref 69) = Value.ref 69 → xK I' L')) ∧ (22 - i.toInt) < 23)))])) (f_cnl_of (P := fun (tQ : Nat) (P : fLs → List Value → fM → fN → Prop) => ∀ ls' st' I' L', P ls' st' I' L' → f_W pP l eP (f_rm (d + 1 + 3)) sP mP aP bP hP9 cP xY 80 a cy dC dI 7 (f_K 3 (qX7_tieFrom [.ref 31, .int s, .ref 69] I L)) tQ ls' st' I' L') (List.forall_mem_cons.mpr ⟨(fun ls' st' I' L' h => by obtain ⟨u, v, i, hs, e1, h9⟩ := h; rw [e1]; exact f_W_sub hs (lp94 23 u v i I' L' h9)), fun _ h => absurd h List.not_mem_nil⟩)) 7 89 (f_seek 89 0 tX7_tieFrom) (f_seek_ok 89 0 tX7_tieFrom tX7_tieFrom_ok) _ _ _ _ ?_
        intro z91 q91 _ hq91 hl91 hu91
        have hq91 : z91.toInt = u.toInt + 1 + 4294967296 * q91 := hq91
        try have hz91 : z91.toInt = u.toInt + 1 := by omega
        try have q91 : (Value.ref 69) = Value.ref 69 → xK I L := fun h => (p8 h).2
        have r94_1 : 0 ≤ (I 31 9).toInt ∧ (I 31 9).toInt ≤ 20 := hR 31 9
        have r94_2 : -1 ≤ (I 37 (u.toInt.toNat)).toInt ∧ (I 37 (u.toInt.toNat)).toInt ≤ 19 := hR 37 (u.toInt.toNat)
        exact ⟨u, v, z91, (by intro q9 h9; simp only [List.mem_cons, List.not_mem_nil, or_false] at h9; rcases h9 with h9 | h9 | h9 | h9 | h9 | h9 <;> subst h9 <;> repeat (first | exact List.mem_cons_self | apply List.mem_cons_of_mem)), rfl, hR, hF0, hG0, (show s.toInt ≤ u.toInt from by first | assumption | omega), (show u.toInt < (I 31 9).toInt from by first | assumption | omega), (show ptd (I 37) u.toInt from by first | assumption | omega), (show (I 37 u.toInt.toNat).toInt = -1 from by first | assumption | omega | rfl), (show u.toInt < v.toInt from by first | assumption | omega), (show v.toInt ≤ (I 31 9).toInt from by first | assumption | omega), (show (∀ e : Nat, u.toInt < (e : Int) → (e : Int) < v.toInt → (I 37 e).toInt = -1) from by first | assumption | omega | exact fun _ _ => rfl | exact fun _ _ => ⟨rfl, rfl⟩ | exact fun _ _ => ⟨rfl, rfl, rfl⟩ | (intro j9 hj9; omega)), (show u.toInt < z91.toInt from by first | assumption | omega), (show z91.toInt ≤ 22 from by first | assumption | omega), (show I 37 = I 37 from by first | assumption | omega | rfl), (by first | assumption | exact Or.inl rfl | exact Or.inr rfl | (intro h; cases h)), (show (22 - z91.toInt) < 23 from by omega)⟩
      have lp63 : ∀ (n63 : Nat), ∀ (u : Int32) (v : Int32), (s.toInt ≤ u.toInt) ∧ (u.toInt < (I 31 9).toInt) ∧ (ptd (I 37) u.toInt) ∧ ((I 37 u.toInt.toNat).toInt = -1) ∧ (u.toInt < v.toInt) ∧ (v.toInt ≤ (I 31 9).toInt) ∧ ((∀ e : Nat, u.toInt < (e : Int) → (e : Int) < v.toInt → (I 37 e).toInt = -1)) ∧ ((I 31 9).toInt - v.toInt) < n63 → f_W pP l eP (f_rm (d + 1 + 3)) sP mP aP bP hP9 cP xY 80 a cy dC dI 7 (f_K 3 (qX7_tieFrom [.ref 31, .int s, .ref 69] I L)) 63 [(4, .int v), (3, .int u), (2, .ref 69), (1, .int s), (0, .ref 31)] [] I L := by
        intro n63
        induction n63 with
        | zero =>
          intro u v h9
          obtain ⟨u63_1, u63_2, u63_3, u63_4, u63_5, u63_6, u63_7, hm63⟩ := h9
          omega
        | succ n63 ih63 =>
          intro u v h9
          obtain ⟨u63_1, u63_2, u63_3, u63_4, u63_5, u63_6, u63_7, hm63⟩ := h9
          refine f_wp_ok C f_cl flX7_ok fiX7_ok fjX7_ok (sn := none) (fun j h => by cases h) (cs := (f_cnl [(68, (1, 3, 7, pX7_isRight, qX7_isRight)), (72, (1, 3, 5, pX5_keep, qX5_keep)), (77, (4, 3, 7, pX7_leavesFlat, qX7_leavesFlat)), (81, (3, 3, 7, pX7_mayTie, qX7_mayTie)), (85, (3, 3, 7, (pX7_tieFrom d), qX7_tieFrom))])) (cz := (fun _ => none)) (f_cnl_of (P := fun j S => f_cok pP l eP (f_rm (d + 1 + 3)) sP mP aP bP hP9 cP xY 80 a cy dC dI 7 _ _ (.invokevirtual j) true S) (List.forall_mem_cons.mpr ⟨f_cokV C (mX7_isRight hinj) (ci := 7) rfl (List.forall_mem_cons.mpr ⟨(mlX7_ok _ (List.mem_of_getElem? (i := 3) rfl)), kc_X7_isRight⟩) (by decide +kernel) ⟨by simp only [f_rm]; omega, by simp only [f_rm]; omega⟩, List.forall_mem_cons.mpr ⟨f_cokV C (mX5_keep hinj) (ci := 5) rfl (List.forall_mem_cons.mpr ⟨(mlX7_ok _ (List.mem_of_getElem? (i := 4) rfl)), kc_X5_keep⟩) (by decide +kernel) ⟨by simp only [f_rm]; omega, by simp only [f_rm]; omega⟩, List.forall_mem_cons.mpr ⟨f_cokV C (mX7_leavesFlat hinj) (ci := 7) rfl (List.forall_mem_cons.mpr ⟨(mlX7_ok _ (List.mem_of_getElem? (i := 5) rfl)), kc_X7_leavesFlat⟩) (by decide +kernel) ⟨by simp only [f_rm]; omega, by simp only [f_rm]; omega⟩, List.forall_mem_cons.mpr ⟨f_cokV C (mX7_mayTie hinj) (ci := 7) rfl (List.forall_mem_cons.mpr ⟨(mlX7_ok _ (List.mem_of_getElem? (i := 6) rfl)), kc_X7_mayTie⟩) (by decide +kernel) ⟨by simp only [f_rm]; omega, by simp only [f_rm]; omega⟩, List.forall_mem_cons.mpr ⟨f_cokV C ih (ci := 7) rfl (List.forall_mem_cons.mpr ⟨(mlX7_ok _ (List.mem_of_getElem? (i := 7) rfl)), kc_X7_tieFrom⟩) (by decide +kernel) ⟨by simp only [f_rm]; omega, by simp only [f_rm]; omega⟩, fun _ h => absurd h List.not_mem_nil⟩⟩⟩⟩⟩)) (fun j S h => by cases h) tX7_tieFrom_ok (cut := (f_cnl [(63, (fun (ls' : fLs) (st' : List Value) (I' : fM) (L' : fN) => ∃ u : Int32, ∃ v : Int32, (∀ q ∈ ([(4, .int v), (3, .int u), (2, .ref 69), (1, .int s), (0, .ref 31)] : fLs), q ∈ ls') ∧ st' = [] ∧ I' = I ∧ L' = L ∧ ((s.toInt ≤ u.toInt) ∧ (u.toInt < (I 31 9).toInt) ∧ (ptd (I 37) u.toInt) ∧ ((I 37 u.toInt.toNat).toInt = -1) ∧ (u.toInt < v.toInt) ∧ (v.toInt ≤ (I 31 9).toInt) ∧ ((∀ e : Nat, u.toInt < (e : Int) → (e : Int) < v.toInt → (I 37 e).toInt = -1)) ∧ ((I 31 9).toInt - v.toInt) < n63))), (89, (fun (ls' : fLs) (st' : List Value) (I' : fM) (L' : fN) => ∃ u : Int32, ∃ v : Int32, (∀ q ∈ ([(4, .int v), (3, .int u), (2, .ref 69), (1, .int s), (0, .ref 31)] : fLs), q ∈ ls') ∧ st' = [] ∧ I' = I ∧ L' = L ∧ ((s.toInt ≤ u.toInt) ∧ (u.toInt < (I 31 9).toInt) ∧ (ptd (I 37) u.toInt) ∧ ((I 37 u.toInt.toNat).toInt = -1) ∧ (u.toInt < v.toInt) ∧ (v.toInt ≤ (I 31 9).toInt) ∧ ((∀ e : Nat, u.toInt < (e : Int) → (e : Int) < v.toInt → (I 37 e).toInt = -1)))))])) (f_cnl_of (P := fun (tQ : Nat) (P : fLs → List Value → fM → fN → Prop) => ∀ ls' st' I' L', P ls' st' I' L' → f_W pP l eP (f_rm (d + 1 + 3)) sP mP aP bP hP9 cP xY 80 a cy dC dI 7 (f_K 3 (qX7_tieFrom [.ref 31, .int s, .ref 69] I L)) tQ ls' st' I' L') (List.forall_mem_cons.mpr ⟨(fun ls' st' I' L' h => by obtain ⟨u, v, hs, e1, e2, e3, h9⟩ := h; rw [e1, e2, e3]; exact f_W_sub hs (ih63 u v h9)), List.forall_mem_cons.mpr ⟨(fun ls' st' I' L' h => by obtain ⟨u, v, hs, e1, e2, e3, h9⟩ := h; rw [e1, e2, e3]; exact f_W_sub hs (lp89 u v h9)), fun _ h => absurd h List.not_mem_nil⟩⟩)) 15 63 (f_seek 63 0 tX7_tieFrom) (f_seek_ok 63 0 tX7_tieFrom tX7_tieFrom_ok) _ _ _ _ ?_
          have r66_1 : 0 ≤ (I 31 9).toInt ∧ (I 31 9).toInt ≤ 20 := hR 31 9
          apply And.intro
          · intro h69
            have h69 : (I 31 9).toInt ≤ v.toInt := h69
            have r89_2 : -1 ≤ (I 37 (u.toInt.toNat)).toInt ∧ (I 37 (u.toInt.toNat)).toInt ≤ 19 := hR 37 (u.toInt.toNat)
            exact ⟨u, v, (by intro q9 h9; simp only [List.mem_cons, List.not_mem_nil, or_false] at h9; rcases h9 with h9 | h9 | h9 | h9 | h9 <;> subst h9 <;> repeat (first | exact List.mem_cons_self | apply List.mem_cons_of_mem)), rfl, rfl, rfl, (show s.toInt ≤ u.toInt from by first | assumption | omega), (show u.toInt < (I 31 9).toInt from by first | assumption | omega), (show ptd (I 37) u.toInt from by first | assumption | omega), (show (I 37 u.toInt.toNat).toInt = -1 from by first | assumption | omega | rfl), (show u.toInt < v.toInt from by first | assumption | omega), (show v.toInt ≤ (I 31 9).toInt from by first | assumption | omega), (show (∀ e : Nat, u.toInt < (e : Int) → (e : Int) < v.toInt → (I 37 e).toInt = -1) from by first | assumption | omega | exact fun _ _ => rfl | exact fun _ _ => ⟨rfl, rfl⟩ | exact fun _ _ => ⟨rfl, rfl, rfl⟩ | (intro j9 hj9; omega))⟩
          · intro h69
            have h69 : v.toInt < (I 31 9).toInt := h69
            refine And.intro (show f_in v 20 from ⟨show 0 ≤ v.toInt from by omega, show v.toInt < 20 from by omega⟩) ?_
            have r78_2 : -1 ≤ (I 37 (v.toInt.toNat)).toInt ∧ (I 37 (v.toInt.toNat)).toInt ≤ 19 := hR 37 (v.toInt.toNat)
            apply And.intro
            · intro h80
              have h80 : ¬ (I 37 (v.toInt.toNat)).toInt = (-1) := h80
              have r89_3 : -1 ≤ (I 37 (u.toInt.toNat)).toInt ∧ (I 37 (u.toInt.toNat)).toInt ≤ 19 := hR 37 (u.toInt.toNat)
              exact ⟨u, v, (by intro q9 h9; simp only [List.mem_cons, List.not_mem_nil, or_false] at h9; rcases h9 with h9 | h9 | h9 | h9 | h9 <;> subst h9 <;> repeat (first | exact List.mem_cons_self | apply List.mem_cons_of_mem)), rfl, rfl, rfl, (show s.toInt ≤ u.toInt from by first | assumption | omega), (show u.toInt < (I 31 9).toInt from by first | assumption | omega), (show ptd (I 37) u.toInt from by first | assumption | omega), (show (I 37 u.toInt.toNat).toInt = -1 from by first | assumption | omega | rfl), (show u.toInt < v.toInt from by first | assumption | omega), (show v.toInt ≤ (I 31 9).toInt from by first | assumption | omega), (show (∀ e : Nat, u.toInt < (e : Int) → (e : Int) < v.toInt → (I 37 e).toInt = -1) from by first | assumption | omega | exact fun _ _ => rfl | exact fun _ _ => ⟨rfl, rfl⟩ | exact fun _ _ => ⟨rfl, rfl, rfl⟩ | (intro j9 hj9; omega))⟩
            · intro h80
              have h80 : (I 37 (v.toInt.toNat)).toInt = (-1) := h80
              intro z83 q83 _ hq83 hl83 hu83
              have hq83 : z83.toInt = v.toInt + 1 + 4294967296 * q83 := hq83
              try have hz83 : z83.toInt = v.toInt + 1 := by omega
              have q83 : ∀ e : Nat, u.toInt < (e : Int) → (e : Int) < z83.toInt → (I 37 e).toInt = -1 := fun e h1 h2 => by
                by_cases q : e = v.toInt.toNat
                · rw [q]; omega
                · exact u63_7 e h1 (by omega)
              have r63_3 : -1 ≤ (I 37 (u.toInt.toNat)).toInt ∧ (I 37 (u.toInt.toNat)).toInt ≤ 19 := hR 37 (u.toInt.toNat)
              exact ⟨u, z83, (by intro q9 h9; simp only [List.mem_cons, List.not_mem_nil, or_false] at h9; rcases h9 with h9 | h9 | h9 | h9 | h9 <;> subst h9 <;> repeat (first | exact List.mem_cons_self | apply List.mem_cons_of_mem)), rfl, rfl, rfl, (show s.toInt ≤ u.toInt from by first | assumption | omega), (show u.toInt < (I 31 9).toInt from by first | assumption | omega), (show ptd (I 37) u.toInt from by first | assumption | omega), (show (I 37 u.toInt.toNat).toInt = -1 from by first | assumption | omega | rfl), (show u.toInt < z83.toInt from by first | assumption | omega), (show z83.toInt ≤ (I 31 9).toInt from by first | assumption | omega), (show (∀ e : Nat, u.toInt < (e : Int) → (e : Int) < z83.toInt → (I 37 e).toInt = -1) from by first | assumption | omega | exact fun _ _ => rfl | exact fun _ _ => ⟨rfl, rfl⟩ | exact fun _ _ => ⟨rfl, rfl, rfl⟩ | (intro j9 hj9; omega)), (show ((I 31 9).toInt - z83.toInt) < n63 from by omega)⟩
      have lp26 : ∀ (u : Int32), (s.toInt ≤ u.toInt) ∧ (u.toInt ≤ (I 31 9).toInt) ∧ (ptd (I 37) u.toInt) ∧ ((u.toInt < (I 31 9).toInt → (I 37 u.toInt.toNat).toInt = -1)) → f_W pP l eP (f_rm (d + 1 + 3)) sP mP aP bP hP9 cP xY 80 a cy dC dI 7 (f_K 3 (qX7_tieFrom [.ref 31, .int s, .ref 69] I L)) 26 [(3, .int u), (2, .ref 69), (1, .int s), (0, .ref 31)] [] I L := by
        intro u h9
        obtain ⟨u26_1, u26_2, u26_3, u26_4⟩ := h9
        refine f_wp_ok C f_cl flX7_ok fiX7_ok fjX7_ok (sn := none) (fun j h => by cases h) (cs := (f_cnl [(68, (1, 3, 7, pX7_isRight, qX7_isRight)), (72, (1, 3, 5, pX5_keep, qX5_keep)), (77, (4, 3, 7, pX7_leavesFlat, qX7_leavesFlat)), (81, (3, 3, 7, pX7_mayTie, qX7_mayTie)), (85, (3, 3, 7, (pX7_tieFrom d), qX7_tieFrom))])) (cz := (fun _ => none)) (f_cnl_of (P := fun j S => f_cok pP l eP (f_rm (d + 1 + 3)) sP mP aP bP hP9 cP xY 80 a cy dC dI 7 _ _ (.invokevirtual j) true S) (List.forall_mem_cons.mpr ⟨f_cokV C (mX7_isRight hinj) (ci := 7) rfl (List.forall_mem_cons.mpr ⟨(mlX7_ok _ (List.mem_of_getElem? (i := 3) rfl)), kc_X7_isRight⟩) (by decide +kernel) ⟨by simp only [f_rm]; omega, by simp only [f_rm]; omega⟩, List.forall_mem_cons.mpr ⟨f_cokV C (mX5_keep hinj) (ci := 5) rfl (List.forall_mem_cons.mpr ⟨(mlX7_ok _ (List.mem_of_getElem? (i := 4) rfl)), kc_X5_keep⟩) (by decide +kernel) ⟨by simp only [f_rm]; omega, by simp only [f_rm]; omega⟩, List.forall_mem_cons.mpr ⟨f_cokV C (mX7_leavesFlat hinj) (ci := 7) rfl (List.forall_mem_cons.mpr ⟨(mlX7_ok _ (List.mem_of_getElem? (i := 5) rfl)), kc_X7_leavesFlat⟩) (by decide +kernel) ⟨by simp only [f_rm]; omega, by simp only [f_rm]; omega⟩, List.forall_mem_cons.mpr ⟨f_cokV C (mX7_mayTie hinj) (ci := 7) rfl (List.forall_mem_cons.mpr ⟨(mlX7_ok _ (List.mem_of_getElem? (i := 6) rfl)), kc_X7_mayTie⟩) (by decide +kernel) ⟨by simp only [f_rm]; omega, by simp only [f_rm]; omega⟩, List.forall_mem_cons.mpr ⟨f_cokV C ih (ci := 7) rfl (List.forall_mem_cons.mpr ⟨(mlX7_ok _ (List.mem_of_getElem? (i := 7) rfl)), kc_X7_tieFrom⟩) (by decide +kernel) ⟨by simp only [f_rm]; omega, by simp only [f_rm]; omega⟩, fun _ h => absurd h List.not_mem_nil⟩⟩⟩⟩⟩)) (fun j S h => by cases h) tX7_tieFrom_ok (cut := (f_cnl [(63, (fun (ls' : fLs) (st' : List Value) (I' : fM) (L' : fN) => ∃ u : Int32, ∃ v : Int32, (∀ q ∈ ([(4, .int v), (3, .int u), (2, .ref 69), (1, .int s), (0, .ref 31)] : fLs), q ∈ ls') ∧ st' = [] ∧ I' = I ∧ L' = L ∧ ((s.toInt ≤ u.toInt) ∧ (u.toInt < (I 31 9).toInt) ∧ (ptd (I 37) u.toInt) ∧ ((I 37 u.toInt.toNat).toInt = -1) ∧ (u.toInt < v.toInt) ∧ (v.toInt ≤ (I 31 9).toInt) ∧ ((∀ e : Nat, u.toInt < (e : Int) → (e : Int) < v.toInt → (I 37 e).toInt = -1)) ∧ ((I 31 9).toInt - v.toInt) < 21)))])) (f_cnl_of (P := fun (tQ : Nat) (P : fLs → List Value → fM → fN → Prop) => ∀ ls' st' I' L', P ls' st' I' L' → f_W pP l eP (f_rm (d + 1 + 3)) sP mP aP bP hP9 cP xY 80 a cy dC dI 7 (f_K 3 (qX7_tieFrom [.ref 31, .int s, .ref 69] I L)) tQ ls' st' I' L') (List.forall_mem_cons.mpr ⟨(fun ls' st' I' L' h => by obtain ⟨u, v, hs, e1, e2, e3, h9⟩ := h; rw [e1, e2, e3]; exact f_W_sub hs (lp63 21 u v h9)), fun _ h => absurd h List.not_mem_nil⟩)) 18 26 (f_seek 26 0 tX7_tieFrom) (f_seek_ok 26 0 tX7_tieFrom tX7_tieFrom_ok) _ _ _ _ ?_
        skip
        have r28_1 : 0 ≤ (I 31 9).toInt ∧ (I 31 9).toInt ≤ 20 := hR 31 9
        apply And.intro
        · intro h31
          have h31 : u.toInt < (I 31 9).toInt := h31
          intro z60 q60 _ hq60 hl60 hu60
          have hq60 : z60.toInt = u.toInt + 1 + 4294967296 * q60 := hq60
          try have hz60 : z60.toInt = u.toInt + 1 := by omega
          have q60 : ∀ e : Nat, u.toInt < (e : Int) → (e : Int) < z60.toInt → (I 37 e).toInt = -1 := fun e h1 h2 => by omega
          have r63_2 : -1 ≤ (I 37 (u.toInt.toNat)).toInt ∧ (I 37 (u.toInt.toNat)).toInt ≤ 19 := hR 37 (u.toInt.toNat)
          exact ⟨u, z60, (by intro q9 h9; simp only [List.mem_cons, List.not_mem_nil, or_false] at h9; rcases h9 with h9 | h9 | h9 | h9 | h9 <;> subst h9 <;> repeat (first | exact List.mem_cons_self | apply List.mem_cons_of_mem)), rfl, rfl, rfl, (show s.toInt ≤ u.toInt from by first | assumption | omega), (show u.toInt < (I 31 9).toInt from by first | assumption | omega), (show ptd (I 37) u.toInt from by first | assumption | omega), (show (I 37 u.toInt.toNat).toInt = -1 from by first | assumption | omega | rfl), (show u.toInt < z60.toInt from by first | assumption | omega), (show z60.toInt ≤ (I 31 9).toInt from by first | assumption | omega), (show (∀ e : Nat, u.toInt < (e : Int) → (e : Int) < z60.toInt → (I 37 e).toInt = -1) from by first | assumption | omega | exact fun _ _ => rfl | exact fun _ _ => ⟨rfl, rfl⟩ | exact fun _ _ => ⟨rfl, rfl, rfl⟩ | (intro j9 hj9; omega)), (show ((I 31 9).toInt - z60.toInt) < 21 from by omega)⟩
        · intro h31
          have h31 : (I 31 9).toInt ≤ u.toInt := h31
          refine And.intro hR ?_
          intro x35 I35 L35 hq35
          have hq35 : I35 = I ∧ L35 = L ∧ ((x35.toInt = 0 ∨ x35.toInt = 1)) := hq35
          obtain ⟨eI35, eL35, c35_2⟩ := hq35
          replace eI35 := eI35.symm
          subst eI35
          replace eL35 := eL35.symm
          subst eL35
          apply And.intro
          · intro h38
            have h38 : x35.toInt = 0 := h38
            exact ⟨Or.inl rfl, hR, hF0, hG0, (by first | rfl | exact c46_1 37 rfl), (by first | exact fun _ => c46_3 | exact fun h => (p8 h).2 | (intro h; cases h)), (show ((0 : Int) = 0 ∨ (0 : Int) = 1) from by first | assumption | omega | rfl)⟩
          · intro h38
            have h38 : ¬ x35.toInt = 0 := h38
            refine And.intro ⟨hR, (p8 rfl).1, (p8 rfl).2, (ptie_of p6 u26_3 (by omega))⟩ ?_
            intro x46 I46 L46 hq46
            have hq46 : xR I46 ∧ f_fr [69] I I46 ∧ f_fr [70] L L46 ∧ xK I46 L46 ∧ ((x46.toInt = 0 ∨ x46.toInt = 1)) := hq46
            obtain ⟨c46_0, c46_1, c46_2, c46_3, c46_4⟩ := hq46
            have hF46 := f_fr_tr hF0 c46_1 rfl
            have hG46 := f_fr_tr hG0 c46_2 rfl
            apply And.intro
            · intro h49
              have h49 : x46.toInt = 0 := h49
              exact ⟨Or.inl rfl, c46_0, hF46, hG46, (by first | rfl | exact c46_1 37 rfl), (by first | exact fun _ => c46_3 | exact fun h => (p8 h).2 | (intro h; cases h)), (show ((0 : Int) = 0 ∨ (0 : Int) = 1) from by first | assumption | omega | rfl)⟩
            · intro h49
              have h49 : ¬ x46.toInt = 0 := h49
              exact ⟨Or.inr rfl, c46_0, hF46, hG46, (by first | rfl | exact c46_1 37 rfl), (by first | exact fun _ => c46_3 | exact fun h => (p8 h).2 | (intro h; cases h)), (show ((1 : Int) = 0 ∨ (1 : Int) = 1) from by first | assumption | omega | rfl)⟩
      have lp2 : ∀ (n2 : Nat), ∀ (u : Int32), (s.toInt ≤ u.toInt) ∧ (u.toInt ≤ (I 31 9).toInt) ∧ (ptd (I 37) u.toInt) ∧ ((I 31 9).toInt - u.toInt) < n2 → f_W pP l eP (f_rm (d + 1 + 3)) sP mP aP bP hP9 cP xY 80 a cy dC dI 7 (f_K 3 (qX7_tieFrom [.ref 31, .int s, .ref 69] I L)) 2 [(3, .int u), (2, .ref 69), (1, .int s), (0, .ref 31)] [] I L := by
        intro n2
        induction n2 with
        | zero =>
          intro u h9
          obtain ⟨u2_1, u2_2, u2_3, hm2⟩ := h9
          omega
        | succ n2 ih2 =>
          intro u h9
          obtain ⟨u2_1, u2_2, u2_3, hm2⟩ := h9
          refine f_wp_ok C f_cl flX7_ok fiX7_ok fjX7_ok (sn := none) (fun j h => by cases h) (cs := (f_cnl [(68, (1, 3, 7, pX7_isRight, qX7_isRight)), (72, (1, 3, 5, pX5_keep, qX5_keep)), (77, (4, 3, 7, pX7_leavesFlat, qX7_leavesFlat)), (81, (3, 3, 7, pX7_mayTie, qX7_mayTie)), (85, (3, 3, 7, (pX7_tieFrom d), qX7_tieFrom))])) (cz := (fun _ => none)) (f_cnl_of (P := fun j S => f_cok pP l eP (f_rm (d + 1 + 3)) sP mP aP bP hP9 cP xY 80 a cy dC dI 7 _ _ (.invokevirtual j) true S) (List.forall_mem_cons.mpr ⟨f_cokV C (mX7_isRight hinj) (ci := 7) rfl (List.forall_mem_cons.mpr ⟨(mlX7_ok _ (List.mem_of_getElem? (i := 3) rfl)), kc_X7_isRight⟩) (by decide +kernel) ⟨by simp only [f_rm]; omega, by simp only [f_rm]; omega⟩, List.forall_mem_cons.mpr ⟨f_cokV C (mX5_keep hinj) (ci := 5) rfl (List.forall_mem_cons.mpr ⟨(mlX7_ok _ (List.mem_of_getElem? (i := 4) rfl)), kc_X5_keep⟩) (by decide +kernel) ⟨by simp only [f_rm]; omega, by simp only [f_rm]; omega⟩, List.forall_mem_cons.mpr ⟨f_cokV C (mX7_leavesFlat hinj) (ci := 7) rfl (List.forall_mem_cons.mpr ⟨(mlX7_ok _ (List.mem_of_getElem? (i := 5) rfl)), kc_X7_leavesFlat⟩) (by decide +kernel) ⟨by simp only [f_rm]; omega, by simp only [f_rm]; omega⟩, List.forall_mem_cons.mpr ⟨f_cokV C (mX7_mayTie hinj) (ci := 7) rfl (List.forall_mem_cons.mpr ⟨(mlX7_ok _ (List.mem_of_getElem? (i := 6) rfl)), kc_X7_mayTie⟩) (by decide +kernel) ⟨by simp only [f_rm]; omega, by simp only [f_rm]; omega⟩, List.forall_mem_cons.mpr ⟨f_cokV C ih (ci := 7) rfl (List.forall_mem_cons.mpr ⟨(mlX7_ok _ (List.mem_of_getElem? (i := 7) rfl)), kc_X7_tieFrom⟩) (by decide +kernel) ⟨by simp only [f_rm]; omega, by simp only [f_rm]; omega⟩, fun _ h => absurd h List.not_mem_nil⟩⟩⟩⟩⟩)) (fun j S h => by cases h) tX7_tieFrom_ok (cut := (f_cnl [(2, (fun (ls' : fLs) (st' : List Value) (I' : fM) (L' : fN) => ∃ u : Int32, (∀ q ∈ ([(3, .int u), (2, .ref 69), (1, .int s), (0, .ref 31)] : fLs), q ∈ ls') ∧ st' = [] ∧ I' = I ∧ L' = L ∧ ((s.toInt ≤ u.toInt) ∧ (u.toInt ≤ (I 31 9).toInt) ∧ (ptd (I 37) u.toInt) ∧ ((I 31 9).toInt - u.toInt) < n2))), (26, (fun (ls' : fLs) (st' : List Value) (I' : fM) (L' : fN) => ∃ u : Int32, (∀ q ∈ ([(3, .int u), (2, .ref 69), (1, .int s), (0, .ref 31)] : fLs), q ∈ ls') ∧ st' = [] ∧ I' = I ∧ L' = L ∧ ((s.toInt ≤ u.toInt) ∧ (u.toInt ≤ (I 31 9).toInt) ∧ (ptd (I 37) u.toInt) ∧ ((u.toInt < (I 31 9).toInt → (I 37 u.toInt.toNat).toInt = -1)))))])) (f_cnl_of (P := fun (tQ : Nat) (P : fLs → List Value → fM → fN → Prop) => ∀ ls' st' I' L', P ls' st' I' L' → f_W pP l eP (f_rm (d + 1 + 3)) sP mP aP bP hP9 cP xY 80 a cy dC dI 7 (f_K 3 (qX7_tieFrom [.ref 31, .int s, .ref 69] I L)) tQ ls' st' I' L') (List.forall_mem_cons.mpr ⟨(fun ls' st' I' L' h => by obtain ⟨u, hs, e1, e2, e3, h9⟩ := h; rw [e1, e2, e3]; exact f_W_sub hs (ih2 u h9)), List.forall_mem_cons.mpr ⟨(fun ls' st' I' L' h => by obtain ⟨u, hs, e1, e2, e3, h9⟩ := h; rw [e1, e2, e3]; exact f_W_sub hs (lp26 u h9)), fun _ h => absurd h List.not_mem_nil⟩⟩)) 15 2 (f_seek 2 0 tX7_tieFrom) (f_seek_ok 2 0 tX7_tieFrom tX7_tieFrom_ok) _ _ _ _ ?_
          have r4_1 : 0 ≤ (I 31 9).toInt ∧ (I 31 9).toInt ≤ 20 := hR 31 9
          apply And.intro
          · intro h7
            have h7 : (I 31 9).toInt ≤ u.toInt := h7
            have r26_2 : -1 ≤ (I 37 (u.toInt.toNat)).toInt ∧ (I 37 (u.toInt.toNat)).toInt ≤ 19 := hR 37 (u.toInt.toNat)
            exact ⟨u, (by intro q9 h9; simp only [List.mem_cons, List.not_mem_nil, or_false] at h9; rcases h9 with h9 | h9 | h9 | h9 <;> subst h9 <;> repeat (first | exact List.mem_cons_self | apply List.mem_cons_of_mem)), rfl, rfl, rfl, (show s.toInt ≤ u.toInt from by first | assumption | omega), (show u.toInt ≤ (I 31 9).toInt from by first | assumption | omega), (show ptd (I 37) u.toInt from by first | assumption | omega), (show (u.toInt < (I 31 9).toInt → (I 37 u.toInt.toNat).toInt = -1) from by first | assumption | omega | rfl)⟩
          · intro h7
            have h7 : u.toInt < (I 31 9).toInt := h7
            refine And.intro (show f_in u 20 from ⟨show 0 ≤ u.toInt from by omega, show u.toInt < 20 from by omega⟩) ?_
            have r15_2 : -1 ≤ (I 37 (u.toInt.toNat)).toInt ∧ (I 37 (u.toInt.toNat)).toInt ≤ 19 := hR 37 (u.toInt.toNat)
            apply And.intro
            · intro h17
              have h17 : (I 37 (u.toInt.toNat)).toInt = (-1) := h17
              exact ⟨u, (by intro q9 h9; simp only [List.mem_cons, List.not_mem_nil, or_false] at h9; rcases h9 with h9 | h9 | h9 | h9 <;> subst h9 <;> repeat (first | exact List.mem_cons_self | apply List.mem_cons_of_mem)), rfl, rfl, rfl, (show s.toInt ≤ u.toInt from by first | assumption | omega), (show u.toInt ≤ (I 31 9).toInt from by first | assumption | omega), (show ptd (I 37) u.toInt from by first | assumption | omega), (show (u.toInt < (I 31 9).toInt → (I 37 u.toInt.toNat).toInt = -1) from by first | assumption | omega | rfl)⟩
            · intro h17
              have h17 : ¬ (I 37 (u.toInt.toNat)).toInt = (-1) := h17
              intro z20 q20 _ hq20 hl20 hu20
              have hq20 : z20.toInt = u.toInt + 1 + 4294967296 * q20 := hq20
              try have hz20 : z20.toInt = u.toInt + 1 := by omega
              have q20 : ptd (I 37) z20.toInt := by
                intro e he
                by_cases q : e = u.toInt.toNat
                · rw [q]; omega
                · exact u2_3 e (by omega)
              exact ⟨z20, (by intro q9 h9; simp only [List.mem_cons, List.not_mem_nil, or_false] at h9; rcases h9 with h9 | h9 | h9 | h9 <;> subst h9 <;> repeat (first | exact List.mem_cons_self | apply List.mem_cons_of_mem)), rfl, rfl, rfl, (show s.toInt ≤ z20.toInt from by first | assumption | omega), (show z20.toInt ≤ (I 31 9).toInt from by first | assumption | omega), (show ptd (I 37) z20.toInt from by first | assumption | omega), (show ((I 31 9).toInt - z20.toInt) < n2 from by omega)⟩
      refine f_wp_ok C f_cl flX7_ok fiX7_ok fjX7_ok (sn := none) (fun j h => by cases h) (cs := (f_cnl [(68, (1, 3, 7, pX7_isRight, qX7_isRight)), (72, (1, 3, 5, pX5_keep, qX5_keep)), (77, (4, 3, 7, pX7_leavesFlat, qX7_leavesFlat)), (81, (3, 3, 7, pX7_mayTie, qX7_mayTie)), (85, (3, 3, 7, (pX7_tieFrom d), qX7_tieFrom))])) (cz := (fun _ => none)) (f_cnl_of (P := fun j S => f_cok pP l eP (f_rm (d + 1 + 3)) sP mP aP bP hP9 cP xY 80 a cy dC dI 7 _ _ (.invokevirtual j) true S) (List.forall_mem_cons.mpr ⟨f_cokV C (mX7_isRight hinj) (ci := 7) rfl (List.forall_mem_cons.mpr ⟨(mlX7_ok _ (List.mem_of_getElem? (i := 3) rfl)), kc_X7_isRight⟩) (by decide +kernel) ⟨by simp only [f_rm]; omega, by simp only [f_rm]; omega⟩, List.forall_mem_cons.mpr ⟨f_cokV C (mX5_keep hinj) (ci := 5) rfl (List.forall_mem_cons.mpr ⟨(mlX7_ok _ (List.mem_of_getElem? (i := 4) rfl)), kc_X5_keep⟩) (by decide +kernel) ⟨by simp only [f_rm]; omega, by simp only [f_rm]; omega⟩, List.forall_mem_cons.mpr ⟨f_cokV C (mX7_leavesFlat hinj) (ci := 7) rfl (List.forall_mem_cons.mpr ⟨(mlX7_ok _ (List.mem_of_getElem? (i := 5) rfl)), kc_X7_leavesFlat⟩) (by decide +kernel) ⟨by simp only [f_rm]; omega, by simp only [f_rm]; omega⟩, List.forall_mem_cons.mpr ⟨f_cokV C (mX7_mayTie hinj) (ci := 7) rfl (List.forall_mem_cons.mpr ⟨(mlX7_ok _ (List.mem_of_getElem? (i := 6) rfl)), kc_X7_mayTie⟩) (by decide +kernel) ⟨by simp only [f_rm]; omega, by simp only [f_rm]; omega⟩, List.forall_mem_cons.mpr ⟨f_cokV C ih (ci := 7) rfl (List.forall_mem_cons.mpr ⟨(mlX7_ok _ (List.mem_of_getElem? (i := 7) rfl)), kc_X7_tieFrom⟩) (by decide +kernel) ⟨by simp only [f_rm]; omega, by simp only [f_rm]; omega⟩, fun _ h => absurd h List.not_mem_nil⟩⟩⟩⟩⟩)) (fun j S h => by cases h) tX7_tieFrom_ok (cut := (f_cnl [(2, (fun (ls' : fLs) (st' : List Value) (I' : fM) (L' : fN) => ∃ u : Int32, (∀ q ∈ ([(3, .int u), (2, .ref 69), (1, .int s), (0, .ref 31)] : fLs), q ∈ ls') ∧ st' = [] ∧ I' = I ∧ L' = L ∧ ((s.toInt ≤ u.toInt) ∧ (u.toInt ≤ (I 31 9).toInt) ∧ (ptd (I 37) u.toInt) ∧ ((I 31 9).toInt - u.toInt) < 21)))])) (f_cnl_of (P := fun (tQ : Nat) (P : fLs → List Value → fM → fN → Prop) => ∀ ls' st' I' L', P ls' st' I' L' → f_W pP l eP (f_rm (d + 1 + 3)) sP mP aP bP hP9 cP xY 80 a cy dC dI 7 (f_K 3 (qX7_tieFrom [.ref 31, .int s, .ref 69] I L)) tQ ls' st' I' L') (List.forall_mem_cons.mpr ⟨(fun ls' st' I' L' h => by obtain ⟨u, hs, e1, e2, e3, h9⟩ := h; rw [e1, e2, e3]; exact f_W_sub hs (lp2 21 u h9)), fun _ h => absurd h List.not_mem_nil⟩)) 5 0 tX7_tieFrom tX7_tieFrom_ok _ _ _ _ ?_
      have r2_1 : 0 ≤ (I 31 9).toInt ∧ (I 31 9).toInt ≤ 20 := hR 31 9
      exact ⟨s, (by intro q9 h9; simp only [List.mem_cons, List.not_mem_nil, or_false] at h9; rcases h9 with h9 | h9 | h9 | h9 <;> subst h9 <;> repeat (first | exact List.mem_cons_self | apply List.mem_cons_of_mem)), rfl, rfl, rfl, (show s.toInt ≤ s.toInt from by first | assumption | omega), (show s.toInt ≤ (I 31 9).toInt from by first | assumption | omega), (show ptd (I 37) s.toInt from by first | assumption | omega), (show ((I 31 9).toInt - s.toInt) < 21 from by omega)⟩
    -- pat [.ref 31, .int s, kp]
-- callers take X7_tieFrom at depth 21
