def pJ9_max_7cf53 (av : List Value) (I : fM) (L : fN) : Prop := match av with
  | [.int x, .int y] => True
  | _ => False
def qJ9_max_7cf53 (av : List Value) (I : fM) (L : fN) (r : Value) (I' : fM) (L' : fN) : Prop := match av, r with
  | [.int x, .int y], .int r => I' = I ∧ L' = L ∧ (r = x ∨ r = y) ∧ x.toInt ≤ r.toInt ∧ y.toInt ≤ r.toInt
  | _, _ => False
theorem f_cokMax {p : Program} {l : Launch} {e : Env} {R : Room} {s : State} {m : MethodId} {args : Array Value} {below : List Frame} {meth : Method} {c : Code} {Y : fY} {NC : Nat} {a : Nat → Nat} {cy : Nat → ClassId} {dC : Nat → ClassId} {dI : Nat → Nat → Nat} {nL : Nat} {K : Option Value → fM → fN → Prop} {cc : ByteArray} {own : String} {rk0 : Nat}
    {E : State → Prop} (C : f_Cx E p s m args meth c Y NC a cy dC dI nL cc own rk0) {idx ci : Nat} (hl : Cond.methodLink own idx yJ9_max_7cf53 ∈ fT) (hR : 1 ≤ R.frames ∧ 21 ≤ R.locals) : f_cok p l e R s m args below meth c Y NC a cy dC dI nL K cc (.invokestatic idx) false (2, 1, ci, pJ9_max_7cf53, qJ9_max_7cf53) := by
  obtain ⟨hx, hb, hml, hown, hts, hlocks, hr, hK, hinj, hY, hE, hEc⟩ := C
  intro pc hd ls av rest I L hlen hsum hv hpre hk
  dsimp only at hlen hpre hk
  unfold pJ9_max_7cf53 at hpre
  split at hpre
  · next x y =>
    have hs2 : ((rest.map (f_tr a)).map fun v => v.category).sum ≤ 8 := by rw [List.map_map]; simpa [Function.comp_def, f_tr_cat] using hsum
    intro H locs la hP hS hl2
    have w0 := hts _ (kc_J9_max_7cf53 _ (List.mem_of_getElem? (i := 0) rfl))
    have w1 := hts _ (kc_J9_max_7cf53 _ (List.mem_of_getElem? (i := 1) rfl))
    have w2 := hts _ (kc_J9_max_7cf53 _ (List.mem_of_getElem? (i := 2) rfl))
    refine va_mmax (rest := rest.map (f_tr a)) hx hb (hml.trans hl2.1.symm) hown (hts _ hl) w0 w1 w2 hR.1 (by omega) (Nat.zero_le _) (Nat.zero_le _) hd ?_
    refine hk (some (.int (if x < y then y else x))) I L ?_ H locs la hP hS hl2
    show I = I ∧ L = L ∧ _
    refine ⟨rfl, rfl, ?_⟩
    by_cases q : x < y
    · rw [if_pos q]
      have q := Int32.lt_iff_toInt_lt.mp q
      exact ⟨Or.inr rfl, by omega, by omega⟩
    · rw [if_neg q]
      have q := Int.not_lt.mp (fun e => q (Int32.lt_iff_toInt_lt.mpr e))
      exact ⟨Or.inl rfl, by omega, by omega⟩
  · exact hpre.elim
def pJ9_min_7cf53 (av : List Value) (I : fM) (L : fN) : Prop := match av with
  | [.int x, .int y] => True
  | _ => False
def qJ9_min_7cf53 (av : List Value) (I : fM) (L : fN) (r : Value) (I' : fM) (L' : fN) : Prop := match av, r with
  | [.int x, .int y], .int r => I' = I ∧ L' = L ∧ (r = x ∨ r = y) ∧ r.toInt ≤ x.toInt ∧ r.toInt ≤ y.toInt
  | _, _ => False
theorem f_cokMin {p : Program} {l : Launch} {e : Env} {R : Room} {s : State} {m : MethodId} {args : Array Value} {below : List Frame} {meth : Method} {c : Code} {Y : fY} {NC : Nat} {a : Nat → Nat} {cy : Nat → ClassId} {dC : Nat → ClassId} {dI : Nat → Nat → Nat} {nL : Nat} {K : Option Value → fM → fN → Prop} {cc : ByteArray} {own : String} {rk0 : Nat}
    {E : State → Prop} (C : f_Cx E p s m args meth c Y NC a cy dC dI nL cc own rk0) {idx ci : Nat} (hl : Cond.methodLink own idx yJ9_min_7cf53 ∈ fT) (hR : 1 ≤ R.frames ∧ 21 ≤ R.locals) : f_cok p l e R s m args below meth c Y NC a cy dC dI nL K cc (.invokestatic idx) false (2, 1, ci, pJ9_min_7cf53, qJ9_min_7cf53) := by
  obtain ⟨hx, hb, hml, hown, hts, hlocks, hr, hK, hinj, hY, hE, hEc⟩ := C
  intro pc hd ls av rest I L hlen hsum hv hpre hk
  dsimp only at hlen hpre hk
  unfold pJ9_min_7cf53 at hpre
  split at hpre
  · next x y =>
    have hs2 : ((rest.map (f_tr a)).map fun v => v.category).sum ≤ 8 := by rw [List.map_map]; simpa [Function.comp_def, f_tr_cat] using hsum
    intro H locs la hP hS hl2
    have w0 := hts _ (kc_J9_min_7cf53 _ (List.mem_of_getElem? (i := 0) rfl))
    have w1 := hts _ (kc_J9_min_7cf53 _ (List.mem_of_getElem? (i := 1) rfl))
    have w2 := hts _ (kc_J9_min_7cf53 _ (List.mem_of_getElem? (i := 2) rfl))
    refine va_mmin (rest := rest.map (f_tr a)) hx hb (hml.trans hl2.1.symm) hown (hts _ hl) w0 w1 w2 hR.1 (by omega) (Nat.zero_le _) (Nat.zero_le _) hd ?_
    refine hk (some (.int (if y < x then y else x))) I L ?_ H locs la hP hS hl2
    show I = I ∧ L = L ∧ _
    refine ⟨rfl, rfl, ?_⟩
    by_cases q : y < x
    · rw [if_pos q]
      have q := Int32.lt_iff_toInt_lt.mp q
      exact ⟨Or.inr rfl, by omega, by omega⟩
    · rw [if_neg q]
      have q := Int.not_lt.mp (fun e => q (Int32.lt_iff_toInt_lt.mpr e))
      exact ⟨Or.inl rfl, by omega, by omega⟩
  · exact hpre.elim
def tJ6_bitCount_0f7a4 : List (Instr × Nat) := [(.iload_n 0, 1), (.iload_n 0, 1), (.iconst 1, 1), (.iushr, 1), (.ldc_w 265, 3), (.iand, 1), (.isub, 1), (.istore_n 0, 1), (.iload_n 0, 1), (.ldc_w 266, 3), (.iand, 1), (.iload_n 0, 1), (.iconst 2, 1), (.iushr, 1), (.ldc_w 266, 3), (.iand, 1), (.iadd, 1), (.istore_n 0, 1), (.iload_n 0, 1), (.iload_n 0, 1), (.iconst 4, 1), (.iushr, 1), (.iadd, 1), (.ldc_w 267, 3), (.iand, 1), (.istore_n 0, 1), (.iload_n 0, 1), (.iload_n 0, 1), (.bipush 8, 2), (.iushr, 1), (.iadd, 1), (.istore_n 0, 1), (.iload_n 0, 1), (.iload_n 0, 1), (.bipush 16, 2), (.iushr, 1), (.iadd, 1), (.istore_n 0, 1), (.iload_n 0, 1), (.bipush 63, 2), (.iand, 1), (.ireturn, 1)]
theorem tJ6_bitCount_0f7a4_ok : f_chk cJ6_bitCount_0f7a4 0 tJ6_bitCount_0f7a4 = true := by decide +kernel
def pJ6_bitCount_0f7a4 (av : List Value) (I : fM) (L : fN) : Prop := match av with
  | [.int x] => True
  | _ => False
def qJ6_bitCount_0f7a4 (av : List Value) (I : fM) (L : fN) (r : Value) (I' : fM) (L' : fN) : Prop := match av, r with
  | [.int x], .int r => I' = I ∧ L' = L
  | _, _ => False
set_option maxHeartbeats 4000000 in
set_option maxRecDepth 100000 in
theorem mJ6_bitCount_0f7a4 {l : Launch} {a : Nat → Nat} {cy dC : Nat → ClassId} {dI : Nat → Nat → Nat} (hinj : ∀ i j, i < 80 → j < 80 → a i = a j → i = j) : f_Met (xE a) l xY 80 a cy dC dI yJ6_bitCount_0f7a4 cJ6_bitCount_0f7a4 1 1 0 pJ6_bitCount_0f7a4 qJ6_bitCount_0f7a4 := by
  refine f_met_of (xE_c a) hinj xY_hi (by decide) (fun av I L h => by unfold pJ6_bitCount_0f7a4 at h; split at h <;> first | exact Nat.le_of_ble_eq_true rfl | exact h.elim) ?_
  intro pP eP sP mP aP bP hP9 cP C av I L hp
  unfold pJ6_bitCount_0f7a4 at hp
  split at hp
  case h_2 => exact hp.elim
  case h_1 x =>
    refine f_wp_ok C f_cl flJ6_ok fiJ6_ok fjJ6_ok (sn := none) (fun j h => by cases h) (cs := (fun _ => none)) (cz := (fun _ => none)) (fun j S h => by cases h) (fun j S h => by cases h) tJ6_bitCount_0f7a4_ok (cut := (fun _ => none)) (fun t P h => by cases h) 60 0 tJ6_bitCount_0f7a4 tJ6_bitCount_0f7a4_ok _ _ _ _ ?_
    intro z1 q1 _ _ _ _ z2 q2 _ _ _ _ z3 q3 _ _ _ _ z4 q4 _ _ _ _ z5 q5 _ _ _ _
    exact ⟨rfl, rfl⟩
def tJ7_fill_53178 : List (Instr × Nat) := [(.iconst 0, 1), (.istore_n 2, 1), (.aload_n 0, 1), (.arraylength, 1), (.istore_n 3, 1), (.iload_n 2, 1), (.iload_n 3, 1), (.if_icmp .ge 13, 3), (.aload_n 0, 1), (.iload_n 2, 1), (.iload_n 1, 1), (.iastore, 1), (.iinc 2 1, 3), (.goto (-12), 3), (.return_, 1)]
theorem tJ7_fill_53178_ok : f_chk cJ7_fill_53178 0 tJ7_fill_53178 = true := by decide +kernel
def fillN (k : Nat) : Nat := match k with
  | 37 => 20
  | 75 => 144
  | _ => 24
def jJ7_fill (k : Nat) (len v : Int32) (I0 : fM) (L0 : fN) (n : Nat) (ls : fLs) (st : List Value) (I : fM) (L : fN) : Prop := ∃ (i : Int32), (ls = [(3, .int len), (2, .int i), (0, .ref k), (1, .int v)] ∨ ls = [(2, .int i), (3, .int len), (0, .ref k), (1, .int v)]) ∧ st = [] ∧ 0 ≤ i.toInt ∧ i.toInt ≤ len.toInt ∧ len.toInt - i.toInt < n ∧ xR I ∧ f_fr [k] I0 I ∧ L = L0 ∧ ∀ j : Nat, (j : Int) < i.toInt → I k j = v
def pJ7_fill_53178 (av : List Value) (I : fM) (L : fN) : Prop := match av with
  | [.ref k, .int v] => (k = 37 ∨ k = 75 ∨ k = 76) ∧ xR I ∧ (∀ j, (xB k j).1 ≤ v.toInt ∧ v.toInt ≤ (xB k j).2)
  | _ => False
def qJ7_fill_53178 (av : List Value) (I : fM) (L : fN) (r : Value) (I' : fM) (L' : fN) : Prop := match av, r with
  | [.ref k, .int v], .null => xR I' ∧ f_fr [k] I I' ∧ L' = L ∧ ∀ j : Nat, j < (fillN k) → I' k j = v
  | _, _ => False
set_option maxHeartbeats 4000000 in
set_option maxRecDepth 100000 in
theorem mJ7_fill_53178 {l : Launch} {a : Nat → Nat} {cy dC : Nat → ClassId} {dI : Nat → Nat → Nat} (hinj : ∀ i j, i < 80 → j < 80 → a i = a j → i = j) : f_Met (xE a) l xY 80 a cy dC dI yJ7_fill_53178 cJ7_fill_53178 4 0 0 pJ7_fill_53178 qJ7_fill_53178 := by
  refine f_met_of (xE_c a) hinj xY_hi (by decide) (fun av I L h => by unfold pJ7_fill_53178 at h; split at h <;> first | exact Nat.le_of_ble_eq_true rfl | exact h.elim) ?_
  intro pP eP sP mP aP bP hP9 cP C av I L hp
  unfold pJ7_fill_53178 at hp
  split at hp
  case h_2 => exact hp.elim
  case h_1 k v =>
    obtain ⟨hk, hR, hv⟩ := hp
    have lp : ∀ len : Int32, len = Int32.ofNat (fillN k) → ∀ (nn : Nat) (ls' : fLs) (st' : List Value) (I' : fM) (L' : fN), jJ7_fill k len v I L nn ls' st' I' L' → f_W pP l eP (f_rm 0) sP mP aP bP hP9 cP xY 80 a cy dC dI 4 (f_K 0 (qJ7_fill_53178 [.ref k, .int v] I L)) 5 ls' st' I' L' := by
      intro len hlen n
      induction n with
      | zero =>
        intro ls' st' I' L' h
        obtain ⟨i, -, -, h1, h2, hm, -⟩ := h
        omega
      | succ n ih =>
        intro ls' st' I' L' h
        obtain ⟨i, hls, rfl, h1, h2, hm, hR', hF, hL, hj⟩ := h
        refine f_wp_ok C f_cl flJ7_ok fiJ7_ok fjJ7_ok (sn := none) (fun j h => by cases h) (cs := (fun _ => none)) (cz := (fun _ => none)) (fun j S h => by cases h) (fun j S h => by cases h) tJ7_fill_53178_ok (cut := (f_cnl [(5, jJ7_fill k len v I L n)])) (f_cnl_of (P := fun (tQ : Nat) (P : fLs → List Value → fM → fN → Prop) => ∀ ls' st' I' L', P ls' st' I' L' → f_W pP l eP (f_rm 0) sP mP aP bP hP9 cP xY 80 a cy dC dI 4 (f_K 0 (qJ7_fill_53178 [.ref k, .int v] I L)) tQ ls' st' I' L') (List.forall_mem_cons.mpr ⟨ih, fun _ h => absurd h List.not_mem_nil⟩)) 40 5 (f_seek 5 0 tJ7_fill_53178) (f_seek_ok 5 0 tJ7_fill_53178 tJ7_fill_53178_ok) _ _ _ _ ?_
        have e : len.toInt = (fillN k : Int) := by rw [hlen]; exact nI_toInt (by rcases hk with rfl | rfl | rfl <;> decide)
        rcases hk with rfl | rfl | rfl <;> rcases hls with rfl | rfl
        all_goals
          apply And.intro
          · intro h3
            refine ⟨hR', hF, hL, fun j hjl => hj j ?_⟩
            simp only [fillN] at hjl e
            omega
          · intro h3
            simp only [fillN] at e
            apply And.intro
            · exact ⟨h1, by rw [e] at h3; exact h3⟩
            · intro z q hz hq hl hu
              refine ⟨z, Or.inr rfl, rfl, by omega, by omega, by omega, xR_a hR' (hv _), f_fr_up hF rfl, hL, fun j hjz => ?_⟩
              show upd (I' _) i.toNatClampNeg v j = v
              by_cases ej : j = i.toNatClampNeg
              · rw [ej, pk_us]
              · rw [pk_un ej]
                refine hj j ?_
                have e9 : i.toNatClampNeg = i.toInt.toNat := rfl
                omega
    refine f_wp_ok C f_cl flJ7_ok fiJ7_ok fjJ7_ok (sn := none) (fun j h => by cases h) (cs := (fun _ => none)) (cz := (fun _ => none)) (fun j S h => by cases h) (fun j S h => by cases h) tJ7_fill_53178_ok (cut := (f_cnl [(5, jJ7_fill k (Int32.ofNat (fillN k)) v I L 200)])) (f_cnl_of (P := fun (tQ : Nat) (P : fLs → List Value → fM → fN → Prop) => ∀ ls' st' I' L', P ls' st' I' L' → f_W pP l eP (f_rm 0) sP mP aP bP hP9 cP xY 80 a cy dC dI 4 (f_K 0 (qJ7_fill_53178 [.ref k, .int v] I L)) tQ ls' st' I' L') (List.forall_mem_cons.mpr ⟨lp _ rfl 200, fun _ h => absurd h List.not_mem_nil⟩)) 40 0 tJ7_fill_53178 tJ7_fill_53178_ok _ _ _ _ ?_
    rcases hk with rfl | rfl | rfl
    all_goals
      exact ⟨Int32.ofInt 0, Or.inl rfl, rfl, by decide, by decide, by decide, hR, f_fr_rf, rfl, fun j hj => absurd hj (by show ¬ ((j : Int) < 0); omega)⟩
def tJ7_rangeCheck_23922 : List (Instr × Nat) := [(.iload_n 1, 1), (.iload_n 2, 1), (.if_icmp .le 44, 3), (.new 43, 3), (.dup, 1), (.new 45, 3), (.dup, 1), (.invokespecial 47, 3), (.ldc 48, 2), (.invokevirtual 50, 3), (.iload_n 1, 1), (.invokevirtual 54, 3), (.ldc 57, 2), (.invokevirtual 50, 3), (.iload_n 2, 1), (.invokevirtual 54, 3), (.ldc 59, 2), (.invokevirtual 50, 3), (.invokevirtual 61, 3), (.invokespecial 65, 3), (.athrow, 1), (.iload_n 1, 1), (.ifCond .ge 12, 3), (.new 68, 3), (.dup, 1), (.iload_n 1, 1), (.invokespecial 70, 3), (.athrow, 1), (.iload_n 2, 1), (.iload_n 0, 1), (.if_icmp .le 12, 3), (.new 68, 3), (.dup, 1), (.iload_n 2, 1), (.invokespecial 70, 3), (.athrow, 1), (.return_, 1)]
theorem tJ7_rangeCheck_23922_ok : f_chk cJ7_rangeCheck_23922 0 tJ7_rangeCheck_23922 = true := by decide +kernel
def pJ7_rangeCheck_23922 (av : List Value) (I : fM) (L : fN) : Prop := match av with
  | [.int n, .int f, .int t] => 0 ≤ f.toInt ∧ f.toInt ≤ t.toInt ∧ t.toInt ≤ n.toInt
  | _ => False
def qJ7_rangeCheck_23922 (av : List Value) (I : fM) (L : fN) (r : Value) (I' : fM) (L' : fN) : Prop := match av, r with
  | [.int n, .int f, .int t], .null => I' = I ∧ L' = L
  | _, _ => False
set_option maxHeartbeats 4000000 in
set_option maxRecDepth 100000 in
theorem mJ7_rangeCheck_23922 {l : Launch} {a : Nat → Nat} {cy dC : Nat → ClassId} {dI : Nat → Nat → Nat} (hinj : ∀ i j, i < 80 → j < 80 → a i = a j → i = j) : f_Met (xE a) l xY 80 a cy dC dI yJ7_rangeCheck_23922 cJ7_rangeCheck_23922 3 0 0 pJ7_rangeCheck_23922 qJ7_rangeCheck_23922 := by
  refine f_met_of (xE_c a) hinj xY_hi (by decide) (fun av I L h => by unfold pJ7_rangeCheck_23922 at h; split at h <;> first | exact Nat.le_of_ble_eq_true rfl | exact h.elim) ?_
  intro pP eP sP mP aP bP hP9 cP C av I L hp
  unfold pJ7_rangeCheck_23922 at hp
  split at hp
  case h_2 => exact hp.elim
  case h_1 n f t =>
    refine f_wp_ok C f_cl flJ7_ok fiJ7_ok fjJ7_ok (sn := none) (fun j h => by cases h) (cs := (fun _ => none)) (cz := (fun _ => none)) (fun j S h => by cases h) (fun j S h => by cases h) tJ7_rangeCheck_23922_ok (cut := (fun _ => none)) (fun t P h => by cases h) 60 0 tJ7_rangeCheck_23922 tJ7_rangeCheck_23922_ok _ _ _ _ ?_
    apply And.intro
    · intro h
      apply And.intro
      · intro h
        apply And.intro
        · intro h
          exact ⟨rfl, rfl⟩
        · intro h
          exfalso
          omega
      · intro h
        exfalso
        omega
    · intro h
      exfalso
      omega
