theorem osl_0 {P C B : Nat → Int32} {b : Nat} {n : Int} (h : n ≤ 0) : osl P C B b n := ⟨fun i hi => by omega, fun _ => 0, fun i hi _ => by omega⟩
theorem osl_congr {P C B P' C' B' : Nat → Int32} {b : Nat} {n : Int} (hn : n ≤ 4) (h : osl P C B b n) (hp : ∀ i, i < 4 → P' (b + i) = P (b + i)) (hc : ∀ i, i < 4 → C' (b + i) = C (b + i)) (hb : ∀ i, i < 4 → B' (b + i) = B (b + i)) : osl P' C' B' b n := by
  refine ⟨fun i hi => ?_, ?_⟩
  · obtain ⟨h1, h2, h3, h4, h5⟩ := h.1 i hi
    rw [hp i (by omega), hc i (by omega), hb i (by omega)]
    refine ⟨h1, h2, h3, fun q => ?_, fun q => ⟨(h5 q).1, ?_⟩⟩
    · rw [hp _ (by omega)]; exact h4 q
    · rw [hp _ (by omega)]; exact (h5 q).2
  · obtain ⟨rk, hr⟩ := h.2
    refine ⟨rk, fun i hi hB => ?_⟩
    rw [hb i (by omega)] at hB ⊢
    exact hr i hi hB
/-- every slot of the opened ends hangs together, and has one that hangs on none -/
def xO (I : fM) : Prop := ∀ s : Nat, s ≤ 52 → osl (I 21) (I 22) (I 23) (4 * s) (I 16 s).toInt ∧ (0 < (I 16 s).toInt → ∃ i : Nat, (i : Int) < (I 16 s).toInt ∧ (I 21 (4 * s + i)).toInt = -1)
-- @inv xO [16, 21, 22, 23]
theorem xO_dep : ∀ I I' : fM, (∀ k, [16, 21, 22, 23].contains k = true → I' k = I k) → xO I → xO I' := by
  intro I I' h hO s hs
  rw [h 16 rfl, h 21 rfl, h 22 rfl, h 23 rfl]
  exact hO s hs
theorem xO_of {s : Nat} {I J I' : fM} (hR : xR I') (h : xO I) (hj : ∀ j, j ≠ s → J 16 j = I 16 j) (h21 : J 21 = I 21) (h22 : J 22 = I 22) (h23 : J 23 = I 23) (ho : oout s 0 J I') (h1 : osl (I' 21) (I' 22) (I' 23) (4 * s) (I' 16 s).toInt) (h2 : ∃ i : Nat, (i : Int) < (I' 16 s).toInt ∧ (I' 21 (4 * s + i)).toInt = -1) : xO I' := by
  intro t ht
  by_cases e : t = s
  · subst e
    exact ⟨h1, fun _ => h2⟩
  · obtain ⟨a1, a2⟩ := h t ht
    have e16 : I' 16 t = I 16 t := by rw [ho.1 t e, hj t e]
    have hn : (I' 16 t).toInt ≤ 4 := (hR 16 t).2
    have q : ∀ i, i < 4 → I' 21 (4 * t + i) = I 21 (4 * t + i) ∧ I' 22 (4 * t + i) = I 22 (4 * t + i) ∧ I' 23 (4 * t + i) = I 23 (4 * t + i) := by
      intro i hi
      have := ho.2 (4 * t + i) (by omega)
      rw [h21, h22, h23] at this
      exact this
    rw [e16] at hn ⊢
    refine ⟨osl_congr hn a1 (fun i hi => (q i hi).1) (fun i hi => (q i hi).2.1) (fun i hi => (q i hi).2.2), fun w => ?_⟩
    obtain ⟨i, hi, hi2⟩ := a2 w
    exact ⟨i, hi, by rw [(q i (by omega)).1]; exact hi2⟩
theorem xO_z {I : fM} (h : xO I) {j : Nat} {x : Int32} (hx : x.toInt = 0) : xO (va_up I 16 (upd (I 16) j x)) := by
  intro s hs
  obtain ⟨h1, h2⟩ := h s hs
  show osl (I 21) (I 22) (I 23) (4 * s) (upd (I 16) j x s).toInt ∧ (0 < (upd (I 16) j x s).toInt → ∃ i : Nat, (i : Int) < (upd (I 16) j x s).toInt ∧ (I 21 (4 * s + i)).toInt = -1)
  by_cases e : s = j
  · subst e
    rw [pk_us, hx]
    exact ⟨osl_0 (by omega), fun q => by omega⟩
  · rw [pk_un e]
    exact ⟨h1, h2⟩
def tX3_open : List (Instr × Nat) := [(.aload_n 0, 1), (.getfield 13, 3), (.iload_n 1, 1), (.iconst 0, 1), (.iastore, 1), (.aload_n 0, 1), (.getfield 17, 3), (.iload_n 1, 1), (.lconst 0, 1), (.lastore, 1), (.aload_n 0, 1), (.iload_n 1, 1), (.iload_n 2, 1), (.iconst 0, 1), (.iload_n 3, 1), (.invokevirtual 94, 3), (.pop, 1), (.aload_n 0, 1), (.getfield 21, 3), (.iload_n 1, 1), (.aload_n 0, 1), (.getfield 17, 3), (.iload_n 1, 1), (.laload, 1), (.lastore, 1), (.aload_n 0, 1), (.getfield 24, 3), (.iload_n 1, 1), (.aload_n 0, 1), (.getfield 17, 3), (.iload_n 1, 1), (.laload, 1), (.lastore, 1), (.aload_n 0, 1), (.getfield 17, 3), (.iload_n 1, 1), (.dup2, 1), (.laload, 1), (.aload_n 0, 1), (.getfield 13, 3), (.iload_n 1, 1), (.iaload, 1), (.i2l, 1), (.bipush 48, 2), (.lshl, 1), (.ladd, 1), (.lastore, 1), (.return_, 1)]
theorem tX3_open_ok : f_chk cX3_open 0 tX3_open = true := by decide +kernel
def pX3_open (av : List Value) (I : fM) (L : fN) : Prop := match av with
  | [.ref 15, .int s, .int t, .int w] => xR I ∧ xO I ∧ 0 ≤ s.toInt ∧ s.toInt ≤ 52 ∧ ∃ n, wfT t n
  | _ => False
def qX3_open (av : List Value) (I : fM) (L : fN) (r : Value) (I' : fM) (L' : fN) : Prop := match av, r with
  | [.ref 15, .int s, .int t, .int w], .null => xR I' ∧ xO I' ∧ f_fr [16, 20, 21, 22, 23] I I' ∧ f_fr [17, 18, 19] L L'
  | _, _ => False
set_option maxHeartbeats 4000000 in
set_option maxRecDepth 100000 in
theorem mX3_open {l : Launch} {a : Nat → Nat} {cy dC : Nat → ClassId} {dI : Nat → Nat → Nat} (hinj : ∀ i j, i < 80 → j < 80 → a i = a j → i = j) : f_Met (xE a) l xY 80 a cy dC dI yX3_open cX3_open 4 0 11 pX3_open qX3_open := by
  refine f_met_of (xE_c a) hinj xY_hi (by decide) (fun av I L h => by unfold pX3_open at h; split at h <;> first | exact Nat.le_of_ble_eq_true rfl | exact h.elim) ?_
  intro pP eP sP mP aP bP hP9 cP C av I L hp
  unfold pX3_open at hp
  split at hp
  case h_2 => exact hp.elim
  case h_1 s t w =>
    obtain ⟨hR, hxO, p2, p3, p4⟩ := hp
    obtain ⟨n, hn⟩ := p4
    have ht0 := (wfT_sub hn).1
    have hn7 := (wfT_sub hn).2.1
    have hts := (wfT_sub hn).2.2
    have hF0 : f_fr [16, 20, 21, 22, 23] I I := f_fr_rf
    have hG0 : f_fr [17, 18, 19] L L := f_fr_rf
    refine f_wp_ok C f_cl flX3_ok fiX3_ok fjX3_ok (sn := none) (fun j h => by cases h) (cs := (f_cnl [(94, (5, 1, 3, (pX3_openPart 8), qX3_openPart))])) (cz := (fun _ => none)) (f_cnl_of (P := fun j S => f_cok pP l eP (f_rm 11) sP mP aP bP hP9 cP xY 80 a cy dC dI 4 _ _ (.invokevirtual j) true S) (List.forall_mem_cons.mpr ⟨f_cokV C (mX3_openPart hinj 8) (ci := 3) rfl (List.forall_mem_cons.mpr ⟨(mlX3_ok _ (List.mem_of_getElem? (i := 10) rfl)), kc_X3_openPart⟩) (by decide +kernel) ⟨Nat.le_of_ble_eq_true rfl, Nat.le_of_ble_eq_true rfl⟩, fun _ h => absurd h List.not_mem_nil⟩)) (fun j S h => by cases h) tX3_open_ok (cut := (fun _ => none)) (fun t P h => by cases h) 51 0 tX3_open tX3_open_ok _ _ _ _ ?_
    refine And.intro (show f_in s 53 from ⟨show 0 ≤ s.toInt from by omega, show s.toInt < 53 from by omega⟩) ?_
    have hR6 := xR_a (k := 16) (j := s.toInt.toNat) (x := Int32.ofInt 0) hR (show 0 ≤ 0 ∧ 0 ≤ 4 from ⟨by omega, by omega⟩)
    have hF6 := f_fr_up (k := 16) (r := upd (I 16) (s.toInt.toNat) (Int32.ofInt 0)) hF0 rfl
    have e6 : (upd (I 16) s.toInt.toNat (Int32.ofInt 0) s.toInt.toNat).toInt = 0 := by rw [pk_us]; rfl
    refine And.intro (show f_in s 53 from ⟨show 0 ≤ s.toInt from by omega, show s.toInt < 53 from by omega⟩) ?_
    have hG13 := f_fr_up (k := 17) (r := vp_updL (L 17) (s.toInt.toNat) (Int64.ofNat 0)) hG0 rfl
    refine And.intro ⟨(dpos_of (by omega)), hR6, (show 0 ≤ s.toInt from by first | assumption | omega), (show s.toInt ≤ 52 from by first | assumption | omega), (show 0 ≤ t.toInt from by first | assumption | omega), (show 0 ≤ (0 : Int) from by first | assumption | omega), (show (∃ n : Nat, n ≤ 8 ∧ tsub (dgT t) 0 n ∧ (0 : Int) + n ≤ 7 ∧ 2 * ((upd (I 16) (s.toInt.toNat) (Int32.ofInt 0)) s.toInt.toNat).toInt + n + 1 ≤ 8) from ⟨n, by omega, hts, by omega, by omega⟩), (osl_0 (Int.le_of_eq e6))⟩ ?_
    intro x19 I19 L19 hq19
    have hq19 : xR I19 ∧ f_fr [16, 20, 21, 22, 23] (va_up I 16 (upd (I 16) (s.toInt.toNat) (Int32.ofInt 0))) I19 ∧ f_fr [17] (va_up L 17 (vp_updL (L 17) (s.toInt.toNat) (Int64.ofNat 0))) L19 ∧ ((∀ n : Nat, tsub (dgT t) 0 n → 2 * (I19 16 s.toInt.toNat).toInt = 2 * ((upd (I 16) (s.toInt.toNat) (Int32.ofInt 0)) s.toInt.toNat).toInt + n + 1)) ∧ ((upd (I 16) (s.toInt.toNat) (Int32.ofInt 0)) s.toInt.toNat).toInt ≤ x19.toInt ∧ x19.toInt < (I19 16 s.toInt.toNat).toInt ∧ osl (I19 21) (I19 22) (I19 23) (4 * s.toInt.toNat) (I19 16 s.toInt.toNat).toInt ∧ (I19 21 (4 * s.toInt.toNat + x19.toInt.toNat)).toInt = -1 ∧ oout s.toInt.toNat ((upd (I 16) (s.toInt.toNat) (Int32.ofInt 0)) s.toInt.toNat).toInt.toNat (va_up I 16 (upd (I 16) (s.toInt.toNat) (Int32.ofInt 0))) I19 := hq19
    obtain ⟨c19_0, c19_1, c19_2, c19_3, c19_4, c19_5, c19_6, c19_7, c19_8⟩ := hq19
    have hF19 := f_fr_tr hF6 c19_1 rfl
    have hG19 := f_fr_tr hG13 c19_2 rfl
    refine And.intro (show f_in s 53 from ⟨show 0 ≤ s.toInt from by omega, show s.toInt < 53 from by omega⟩) ?_
    refine And.intro (show f_in s 53 from ⟨show 0 ≤ s.toInt from by omega, show s.toInt < 53 from by omega⟩) ?_
    have hG34 := f_fr_up (k := 18) (r := vp_updL (L19 18) (s.toInt.toNat) (L19 17 (s.toInt.toNat))) hG19 rfl
    refine And.intro (show f_in s 53 from ⟨show 0 ≤ s.toInt from by omega, show s.toInt < 53 from by omega⟩) ?_
    refine And.intro (show f_in s 53 from ⟨show 0 ≤ s.toInt from by omega, show s.toInt < 53 from by omega⟩) ?_
    have hG46 := f_fr_up (k := 19) (r := vp_updL (L19 19) (s.toInt.toNat) (L19 17 (s.toInt.toNat))) hG34 rfl
    refine And.intro (show f_in s 53 from ⟨show 0 ≤ s.toInt from by omega, show s.toInt < 53 from by omega⟩) ?_
    refine And.intro (show f_in s 53 from ⟨show 0 ≤ s.toInt from by omega, show s.toInt < 53 from by omega⟩) ?_
    have r59_1 : 0 ≤ (I19 16 (s.toInt.toNat)).toInt ∧ (I19 16 (s.toInt.toNat)).toInt ≤ 4 := c19_0 16 (s.toInt.toNat)
    refine And.intro (show f_in s 53 from ⟨show 0 ≤ s.toInt from by omega, show s.toInt < 53 from by omega⟩) ?_
    have hG65 := f_fr_up (k := 17) (r := vp_updL (L19 17) (s.toInt.toNat) ((L19 17 (s.toInt.toNat)) + (((I19 16 (s.toInt.toNat)).toInt64) <<< ((Int32.ofInt 48).toInt64 &&& 63)))) hG46 rfl
    exact ⟨c19_0, (xO_of (s := s.toInt.toNat) (J := va_up I 16 (upd (I 16) s.toInt.toNat (Int32.ofInt 0))) c19_0 hxO (fun j hj => by show upd (I 16) s.toInt.toNat (Int32.ofInt 0) j = _; rw [pk_un hj]) rfl rfl rfl (by have q := c19_8; rw [e6] at q; exact q) c19_6 ⟨x19.toInt.toNat, by omega, c19_7⟩), hF19, hG65⟩
/-- a lexicon whose tags are well formed -/
def xG (k : Nat) (I : fM) : Prop := (∀ w t : Nat, (w : Int) < (I k 5).toInt → (t : Int) < (I (k + 3) w).toInt → ∃ n, wfT (I (k + 4) (3 * w + t)) n) ∧ ((I k 6).toInt = -1 ∨ ∃ n, wfT (I k 6) n)
theorem xG_fr {k : Nat} {ms : List Nat} {I I' : fM} (h : xG k I) (hf : f_fr ms I I') (h1 : ms.contains k = false) (h2 : ms.contains (k + 3) = false) (h3 : ms.contains (k + 4) = false) : xG k I' := by
  unfold xG
  rw [hf k h1, hf _ h2, hf _ h3]
  exact h
def tX3_openWord : List (Instr × Nat) := [(.iload_n 2, 1), (.invokestatic 80, 3), (.istore_n 3, 1), (.aload_n 0, 1), (.getfield 39, 3), (.iload_n 2, 1), (.aload_n 1, 1), (.getfield 83, 3), (.iload_n 2, 1), (.iaload, 1), (.iastore, 1), (.iconst 0, 1), (.istore 4, 2), (.iload 4, 2), (.aload_n 0, 1), (.getfield 39, 3), (.iload_n 2, 1), (.iaload, 1), (.if_icmp .ge 25, 3), (.aload_n 0, 1), (.iload_n 3, 1), (.iload 4, 2), (.iadd, 1), (.aload_n 1, 1), (.iload_n 2, 1), (.iload 4, 2), (.invokevirtual 84, 3), (.iconst 0, 1), (.invokevirtual 61, 3), (.iinc 4 1, 3), (.goto (-30), 3), (.lconst 0, 1), (.lstore 4, 2), (.lconst 0, 1), (.lstore 6, 2), (.iconst 0, 1), (.istore 8, 2), (.iload 8, 2), (.aload_n 0, 1), (.getfield 46, 3), (.if_icmp .ge 116, 3), (.aload_n 0, 1), (.getfield 17, 3), (.iload_n 3, 1), (.laload, 1), (.iload 8, 2), (.invokestatic 87, 3), (.istore 9, 2), (.iload 9, 2), (.istore 10, 2), (.iconst 1, 1), (.istore 11, 2), (.iload 11, 2), (.aload_n 0, 1), (.getfield 39, 3), (.iload_n 2, 1), (.iaload, 1), (.if_icmp .ge 51, 3), (.iload 9, 2), (.aload_n 0, 1), (.getfield 17, 3), (.iload_n 3, 1), (.iload 11, 2), (.iadd, 1), (.laload, 1), (.iload 8, 2), (.invokestatic 87, 3), (.invokestatic 72, 3), (.istore 9, 2), (.iload 10, 2), (.aload_n 0, 1), (.getfield 17, 3), (.iload_n 3, 1), (.iload 11, 2), (.iadd, 1), (.laload, 1), (.iload 8, 2), (.invokestatic 87, 3), (.invokestatic 91, 3), (.istore 10, 2), (.iinc 11 1, 3), (.goto (-56), 3), (.lload 4, 2), (.iload 9, 2), (.i2l, 1), (.bipush 8, 2), (.iload 8, 2), (.imul, 1), (.lshl, 1), (.ladd, 1), (.lstore 4, 2), (.lload 6, 2), (.iload 10, 2), (.i2l, 1), (.bipush 8, 2), (.iload 8, 2), (.imul, 1), (.lshl, 1), (.ladd, 1), (.lstore 6, 2), (.iinc 8 1, 3), (.goto (-119), 3), (.aload_n 0, 1), (.getfield 21, 3), (.iload_n 3, 1), (.lload 4, 2), (.lastore, 1), (.aload_n 0, 1), (.getfield 24, 3), (.iload_n 3, 1), (.lload 6, 2), (.lastore, 1), (.return_, 1)]
theorem tX3_openWord_ok : f_chk cX3_openWord 0 tX3_openWord = true := by decide +kernel
def pX3_openWord (av : List Value) (I : fM) (L : fN) : Prop := match av with
  | [.ref 15, .ref k, .int w] => (k = 5 ∨ k = 10) ∧ xR I ∧ xO I ∧ xG k I ∧ 0 ≤ w.toInt ∧ w.toInt < (I k 5).toInt
  | _ => False
def qX3_openWord (av : List Value) (I : fM) (L : fN) (r : Value) (I' : fM) (L' : fN) : Prop := match av, r with
  | [.ref 15, .ref k, .int w], .null => xR I' ∧ xO I' ∧ f_fr [16, 20, 21, 22, 23, 24] I I' ∧ f_fr [17, 18, 19] L L'
  | _, _ => False
set_option maxHeartbeats 4000000 in
set_option maxRecDepth 100000 in
theorem mX3_openWord {l : Launch} {a : Nat → Nat} {cy dC : Nat → ClassId} {dI : Nat → Nat → Nat} (hinj : ∀ i j, i < 80 → j < 80 → a i = a j → i = j) : f_Met (xE a) l xY 80 a cy dC dI yX3_openWord cX3_openWord 12 0 12 pX3_openWord qX3_openWord := by
  refine f_met_of (xE_c a) hinj xY_hi (by decide) (fun av I L h => by unfold pX3_openWord at h; split at h <;> first | exact Nat.le_of_ble_eq_true rfl | exact h.elim) ?_
  intro pP eP sP mP aP bP hP9 cP C av I L hp
  unfold pX3_openWord at hp
  split at hp
  case h_2 => exact hp.elim
  case h_1 k w =>
    obtain ⟨p0, hR, hxO, p3, p4, p5⟩ := hp
    rcases p0 with rfl | rfl
    -- pat [.ref 15, .ref 5, .int w]
    · skip
      have hR : xR I := hR
      have hxO : xO I := hxO
      have p3 : xG 5 I := p3
      have p4 : 0 ≤ w.toInt := p4
      have p5 : w.toInt < (I 5 5).toInt := p5
      have hw12 : (I 5 5).toInt ≤ 12 := (hR 5 5).2
      have hk5 : 0 ≤ (I 15 9).toInt ∧ (I 15 9).toInt ≤ 5 := hR 15 9
      have htc : 0 ≤ (I 8 w.toInt.toNat).toInt ∧ (I 8 w.toInt.toNat).toInt ≤ 3 := hR 8 _
      have hw : ∀ t : Int32, 0 ≤ t.toInt → t.toInt < (I 8 w.toInt.toNat).toInt → ∃ n, wfT (I 9 (3 * w.toInt + t.toInt).toNat) n := fun t h0 h1 => by
        have q := p3.1 w.toInt.toNat t.toInt.toNat (by omega) (by rw [Int.toNat_of_nonneg h0]; exact h1)
        rw [show (3 * w.toInt + t.toInt).toNat = 3 * w.toInt.toNat + t.toInt.toNat by omega]
        exact q
      have hF0 : f_fr [16, 20, 21, 22, 23, 24] I I := f_fr_rf
      have hG0 : f_fr [17, 18, 19] L L := f_fr_rf
      have lp62 : ∀ (n62 : Nat), ∀ (f : Int32) (lo : Int64) (hi : Int64) (i : Int32) (J62 : fM) (M62 : fN), xR J62 ∧ f_fr [16, 20, 21, 22, 23, 24] I J62 ∧ f_fr [17, 18, 19] L M62 ∧ xO J62 ∧ (f.toInt = 3 * w.toInt) ∧ (0 ≤ i.toInt) ∧ (i.toInt ≤ (I 15 9).toInt) ∧ ((I 15 9).toInt - i.toInt) < n62 → f_W pP l eP (f_rm 12) sP mP aP bP hP9 cP xY 80 a cy dC dI 12 (f_K 0 (qX3_openWord [.ref 15, .ref 5, .int w] I L)) 62 [(8, .int i), (6, .long hi), (4, .long lo), (3, .int f), (2, .int w), (1, .ref 5), (0, .ref 15)] [] J62 M62 := by
        intro n62
        induction n62 with
        | zero =>
          intro f lo hi i J62 M62 h9
          obtain ⟨hR62c, hF62c, hG62c, hxO62c, u62_1, u62_2, u62_3, hm62⟩ := h9
          omega
        | succ n62 ih62 =>
          intro f lo hi i J62 M62 h9
          obtain ⟨hR62c, hF62c, hG62c, hxO62c, u62_1, u62_2, u62_3, hm62⟩ := h9
          have lp91 : ∀ (n91 : Nat), ∀ (u9 : Int32) (v9 : Int32) (n : Int32) (J91 : fM) (M91 : fN), xR J91 ∧ f_fr [16, 20, 21, 22, 23, 24] I J91 ∧ f_fr [17, 18, 19] L M91 ∧ xO J91 ∧ (i.toInt < (I 15 9).toInt) ∧ (1 ≤ n.toInt) ∧ (n.toInt ≤ 4) ∧ (4 - n.toInt) < n91 → f_W pP l eP (f_rm 12) sP mP aP bP hP9 cP xY 80 a cy dC dI 12 (f_K 0 (qX3_openWord [.ref 15, .ref 5, .int w] I L)) 91 [(11, .int n), (10, .int v9), (9, .int u9), (8, .int i), (6, .long hi), (4, .long lo), (3, .int f), (2, .int w), (1, .ref 5), (0, .ref 15)] [] J91 M91 := by
            intro n91
            induction n91 with
            | zero =>
              intro u9 v9 n J91 M91 h9
              obtain ⟨hR91c, hF91c, hG91c, hxO91c, u91_1, u91_2, u91_3, hm91⟩ := h9
              omega
            | succ n91 ih91 =>
              intro u9 v9 n J91 M91 h9
              obtain ⟨hR91c, hF91c, hG91c, hxO91c, u91_1, u91_2, u91_3, hm91⟩ := h9
              refine f_wp_ok C f_cl flX3_ok fiX3_ok fjX3_ok (sn := none) (fun j h => by cases h) (cs := (f_cnl [(84, (3, 1, 1, pX1_tagAt, qX1_tagAt)), (61, (4, 0, 3, pX3_open, qX3_open))])) (cz := (f_cnl [(80, (1, 1, 3, pX3_firstSlot, qX3_firstSlot)), (87, (2, 1, 3, pX3_givenOf, qX3_givenOf)), (72, (2, 1, 0, pJ9_min_7cf53, qJ9_min_7cf53)), (91, (2, 1, 0, pJ9_max_7cf53, qJ9_max_7cf53))])) (f_cnl_of (P := fun j S => f_cok pP l eP (f_rm 12) sP mP aP bP hP9 cP xY 80 a cy dC dI 12 _ _ (.invokevirtual j) true S) (List.forall_mem_cons.mpr ⟨f_cokV C (mX1_tagAt hinj) (ci := 1) rfl (List.forall_mem_cons.mpr ⟨(mlX3_ok _ (List.mem_of_getElem? (i := 7) rfl)), kc_X1_tagAt⟩) (by decide +kernel) ⟨Nat.le_of_ble_eq_true rfl, Nat.le_of_ble_eq_true rfl⟩, List.forall_mem_cons.mpr ⟨f_cokV C (mX3_open hinj) (ci := 3) rfl (List.forall_mem_cons.mpr ⟨(mlX3_ok _ (List.mem_of_getElem? (i := 2) rfl)), kc_X3_open⟩) (by decide +kernel) ⟨Nat.le_of_ble_eq_true rfl, Nat.le_of_ble_eq_true rfl⟩, fun _ h => absurd h List.not_mem_nil⟩⟩)) (f_cnl_of (P := fun j S => f_cok pP l eP (f_rm 12) sP mP aP bP hP9 cP xY 80 a cy dC dI 12 _ _ (.invokestatic j) false S) (List.forall_mem_cons.mpr ⟨f_cokS C (mX3_firstSlot hinj) (List.forall_mem_cons.mpr ⟨(mlX3_ok _ (List.mem_of_getElem? (i := 6) rfl)), kc_X3_firstSlot⟩) (by decide +kernel) ⟨Nat.le_of_ble_eq_true rfl, Nat.le_of_ble_eq_true rfl⟩, List.forall_mem_cons.mpr ⟨f_cokS C (mX3_givenOf hinj) (List.forall_mem_cons.mpr ⟨(mlX3_ok _ (List.mem_of_getElem? (i := 8) rfl)), kc_X3_givenOf⟩) (by decide +kernel) ⟨Nat.le_of_ble_eq_true rfl, Nat.le_of_ble_eq_true rfl⟩, List.forall_mem_cons.mpr ⟨f_cokMin C (mlX3_ok _ (List.mem_of_getElem? (i := 4) rfl)) ⟨Nat.le_of_ble_eq_true rfl, Nat.le_of_ble_eq_true rfl⟩, List.forall_mem_cons.mpr ⟨f_cokMax C (mlX3_ok _ (List.mem_of_getElem? (i := 9) rfl)) ⟨Nat.le_of_ble_eq_true rfl, Nat.le_of_ble_eq_true rfl⟩, fun _ h => absurd h List.not_mem_nil⟩⟩⟩⟩)) tX3_openWord_ok (cut := (f_cnl [(62, (fun (ls' : fLs) (st' : List Value) (I' : fM) (L' : fN) => ∃ f : Int32, ∃ lo : Int64, ∃ hi : Int64, ∃ i : Int32, (∀ q ∈ ([(8, .int i), (6, .long hi), (4, .long lo), (3, .int f), (2, .int w), (1, .ref 5), (0, .ref 15)] : fLs), q ∈ ls') ∧ st' = [] ∧ (xR I' ∧ f_fr [16, 20, 21, 22, 23, 24] I I' ∧ f_fr [17, 18, 19] L L' ∧ xO I' ∧ (f.toInt = 3 * w.toInt) ∧ (0 ≤ i.toInt) ∧ (i.toInt ≤ (I 15 9).toInt) ∧ ((I 15 9).toInt - i.toInt) < n62))), (91, (fun (ls' : fLs) (st' : List Value) (I' : fM) (L' : fN) => ∃ u9 : Int32, ∃ v9 : Int32, ∃ n : Int32, (∀ q ∈ ([(11, .int n), (10, .int v9), (9, .int u9), (8, .int i), (6, .long hi), (4, .long lo), (3, .int f), (2, .int w), (1, .ref 5), (0, .ref 15)] : fLs), q ∈ ls') ∧ st' = [] ∧ (xR I' ∧ f_fr [16, 20, 21, 22, 23, 24] I I' ∧ f_fr [17, 18, 19] L L' ∧ xO I' ∧ (i.toInt < (I 15 9).toInt) ∧ (1 ≤ n.toInt) ∧ (n.toInt ≤ 4) ∧ (4 - n.toInt) < n91)))])) (f_cnl_of (P := fun (tQ : Nat) (P : fLs → List Value → fM → fN → Prop) => ∀ ls' st' I' L', P ls' st' I' L' → f_W pP l eP (f_rm 12) sP mP aP bP hP9 cP xY 80 a cy dC dI 12 (f_K 0 (qX3_openWord [.ref 15, .ref 5, .int w] I L)) tQ ls' st' I' L') (List.forall_mem_cons.mpr ⟨(fun ls' st' I' L' h => by obtain ⟨f, lo, hi, i, hs, e1, h9⟩ := h; rw [e1]; exact f_W_sub hs (ih62 f lo hi i I' L' h9)), List.forall_mem_cons.mpr ⟨(fun ls' st' I' L' h => by obtain ⟨u9, v9, n, hs, e1, h9⟩ := h; rw [e1]; exact f_W_sub hs (ih91 u9 v9 n I' L' h9)), fun _ h => absurd h List.not_mem_nil⟩⟩)) 33 91 (f_seek 91 0 tX3_openWord) (f_seek_ok 91 0 tX3_openWord tX3_openWord_ok) _ _ _ _ ?_
              refine And.intro (show f_in w 12 from ⟨show 0 ≤ w.toInt from by omega, show w.toInt < 12 from by omega⟩) ?_
              have r98_1 : 0 ≤ (J91 24 (w.toInt.toNat)).toInt ∧ (J91 24 (w.toInt.toNat)).toInt ≤ 3 := hR91c 24 (w.toInt.toNat)
              apply And.intro
              · intro h99
                have h99 : (J91 24 (w.toInt.toNat)).toInt ≤ n.toInt := h99
                intro z159 q159 _ hq159 hl159 hu159
                have hq159 : z159.toInt = 8 * i.toInt + 4294967296 * q159 := hq159
                try have hz159 : z159.toInt = 8 * i.toInt := by omega
                intro z173 q173 _ hq173 hl173 hu173
                have hq173 : z173.toInt = 8 * i.toInt + 4294967296 * q173 := hq173
                try have hz173 : z173.toInt = 8 * i.toInt := by omega
                intro z178 q178 _ hq178 hl178 hu178
                have hq178 : z178.toInt = i.toInt + 1 + 4294967296 * q178 := hq178
                try have hz178 : z178.toInt = i.toInt + 1 := by omega
                exact ⟨f, lo + ((u9.toInt64) <<< (z159.toInt64 &&& 63)), hi + ((v9.toInt64) <<< (z173.toInt64 &&& 63)), z178, (by intro q9 h9; simp only [List.mem_cons, List.not_mem_nil, or_false] at h9; rcases h9 with h9 | h9 | h9 | h9 | h9 | h9 | h9 <;> subst h9 <;> repeat (first | exact List.mem_cons_self | apply List.mem_cons_of_mem)), rfl, hR91c, hF91c, hG91c, hxO91c, (show f.toInt = 3 * w.toInt from by first | assumption | omega | rfl), (show 0 ≤ z178.toInt from by first | assumption | omega), (show z178.toInt ≤ (I 15 9).toInt from by first | assumption | omega), (show ((I 15 9).toInt - z178.toInt) < n62 from by omega)⟩
              · intro h99
                have h99 : n.toInt < (J91 24 (w.toInt.toNat)).toInt := h99
                intro z111 q111 _ hq111 hl111 hu111
                have hq111 : z111.toInt = f.toInt + n.toInt + 4294967296 * q111 := hq111
                try have hz111 : z111.toInt = f.toInt + n.toInt := by omega
                refine And.intro (show f_in z111 53 from ⟨show 0 ≤ z111.toInt from by omega, show z111.toInt < 53 from by omega⟩) ?_
                refine And.intro trivial ?_
                intro x115 I115 L115 hq115
                have hq115 : I115 = J91 ∧ L115 = M91 := hq115
                obtain ⟨eI115, eL115⟩ := hq115
                replace eI115 := eI115.symm
                subst eI115
                replace eL115 := eL115.symm
                subst eL115
                refine And.intro trivial ?_
                intro x118 I118 L118 hq118
                have hq118 : I118 = J91 ∧ L118 = M91 ∧ ((x118 = u9 ∨ x118 = x115)) ∧ x118.toInt ≤ u9.toInt ∧ x118.toInt ≤ x115.toInt := hq118
                obtain ⟨eI118, eL118, c118_2, c118_3, c118_4⟩ := hq118
                replace eI118 := eI118.symm
                subst eI118
                replace eL118 := eL118.symm
                subst eL118
                intro z132 q132 _ hq132 hl132 hu132
                have hq132 : z132.toInt = f.toInt + n.toInt + 4294967296 * q132 := hq132
                try have hz132 : z132.toInt = f.toInt + n.toInt := by omega
                refine And.intro (show f_in z132 53 from ⟨show 0 ≤ z132.toInt from by omega, show z132.toInt < 53 from by omega⟩) ?_
                refine And.intro trivial ?_
                intro x136 I136 L136 hq136
                have hq136 : I136 = J91 ∧ L136 = M91 := hq136
                obtain ⟨eI136, eL136⟩ := hq136
                replace eI136 := eI136.symm
                subst eI136
                replace eL136 := eL136.symm
                subst eL136
                refine And.intro trivial ?_
                intro x139 I139 L139 hq139
                have hq139 : I139 = J91 ∧ L139 = M91 ∧ ((x139 = v9 ∨ x139 = x136)) ∧ v9.toInt ≤ x139.toInt ∧ x136.toInt ≤ x139.toInt := hq139
                obtain ⟨eI139, eL139, c139_2, c139_3, c139_4⟩ := hq139
                replace eI139 := eI139.symm
                subst eI139
                replace eL139 := eL139.symm
                subst eL139
                intro z144 q144 _ hq144 hl144 hu144
                have hq144 : z144.toInt = n.toInt + 1 + 4294967296 * q144 := hq144
                try have hz144 : z144.toInt = n.toInt + 1 := by omega
                exact ⟨x118, x139, z144, (by intro q9 h9; simp only [List.mem_cons, List.not_mem_nil, or_false] at h9; rcases h9 with h9 | h9 | h9 | h9 | h9 | h9 | h9 | h9 | h9 | h9 <;> subst h9 <;> repeat (first | exact List.mem_cons_self | apply List.mem_cons_of_mem)), rfl, hR91c, hF91c, hG91c, hxO91c, (show i.toInt < (I 15 9).toInt from by first | assumption | omega), (show 1 ≤ z144.toInt from by first | assumption | omega), (show z144.toInt ≤ 4 from by first | assumption | omega), (show (4 - z144.toInt) < n91 from by omega)⟩
          refine f_wp_ok C f_cl flX3_ok fiX3_ok fjX3_ok (sn := none) (fun j h => by cases h) (cs := (f_cnl [(84, (3, 1, 1, pX1_tagAt, qX1_tagAt)), (61, (4, 0, 3, pX3_open, qX3_open))])) (cz := (f_cnl [(80, (1, 1, 3, pX3_firstSlot, qX3_firstSlot)), (87, (2, 1, 3, pX3_givenOf, qX3_givenOf)), (72, (2, 1, 0, pJ9_min_7cf53, qJ9_min_7cf53)), (91, (2, 1, 0, pJ9_max_7cf53, qJ9_max_7cf53))])) (f_cnl_of (P := fun j S => f_cok pP l eP (f_rm 12) sP mP aP bP hP9 cP xY 80 a cy dC dI 12 _ _ (.invokevirtual j) true S) (List.forall_mem_cons.mpr ⟨f_cokV C (mX1_tagAt hinj) (ci := 1) rfl (List.forall_mem_cons.mpr ⟨(mlX3_ok _ (List.mem_of_getElem? (i := 7) rfl)), kc_X1_tagAt⟩) (by decide +kernel) ⟨Nat.le_of_ble_eq_true rfl, Nat.le_of_ble_eq_true rfl⟩, List.forall_mem_cons.mpr ⟨f_cokV C (mX3_open hinj) (ci := 3) rfl (List.forall_mem_cons.mpr ⟨(mlX3_ok _ (List.mem_of_getElem? (i := 2) rfl)), kc_X3_open⟩) (by decide +kernel) ⟨Nat.le_of_ble_eq_true rfl, Nat.le_of_ble_eq_true rfl⟩, fun _ h => absurd h List.not_mem_nil⟩⟩)) (f_cnl_of (P := fun j S => f_cok pP l eP (f_rm 12) sP mP aP bP hP9 cP xY 80 a cy dC dI 12 _ _ (.invokestatic j) false S) (List.forall_mem_cons.mpr ⟨f_cokS C (mX3_firstSlot hinj) (List.forall_mem_cons.mpr ⟨(mlX3_ok _ (List.mem_of_getElem? (i := 6) rfl)), kc_X3_firstSlot⟩) (by decide +kernel) ⟨Nat.le_of_ble_eq_true rfl, Nat.le_of_ble_eq_true rfl⟩, List.forall_mem_cons.mpr ⟨f_cokS C (mX3_givenOf hinj) (List.forall_mem_cons.mpr ⟨(mlX3_ok _ (List.mem_of_getElem? (i := 8) rfl)), kc_X3_givenOf⟩) (by decide +kernel) ⟨Nat.le_of_ble_eq_true rfl, Nat.le_of_ble_eq_true rfl⟩, List.forall_mem_cons.mpr ⟨f_cokMin C (mlX3_ok _ (List.mem_of_getElem? (i := 4) rfl)) ⟨Nat.le_of_ble_eq_true rfl, Nat.le_of_ble_eq_true rfl⟩, List.forall_mem_cons.mpr ⟨f_cokMax C (mlX3_ok _ (List.mem_of_getElem? (i := 9) rfl)) ⟨Nat.le_of_ble_eq_true rfl, Nat.le_of_ble_eq_true rfl⟩, fun _ h => absurd h List.not_mem_nil⟩⟩⟩⟩)) tX3_openWord_ok (cut := (f_cnl [(91, (fun (ls' : fLs) (st' : List Value) (I' : fM) (L' : fN) => ∃ u9 : Int32, ∃ v9 : Int32, ∃ n : Int32, (∀ q ∈ ([(11, .int n), (10, .int v9), (9, .int u9), (8, .int i), (6, .long hi), (4, .long lo), (3, .int f), (2, .int w), (1, .ref 5), (0, .ref 15)] : fLs), q ∈ ls') ∧ st' = [] ∧ (xR I' ∧ f_fr [16, 20, 21, 22, 23, 24] I I' ∧ f_fr [17, 18, 19] L L' ∧ xO I' ∧ (i.toInt < (I 15 9).toInt) ∧ (1 ≤ n.toInt) ∧ (n.toInt ≤ 4) ∧ (4 - n.toInt) < 4)))])) (f_cnl_of (P := fun (tQ : Nat) (P : fLs → List Value → fM → fN → Prop) => ∀ ls' st' I' L', P ls' st' I' L' → f_W pP l eP (f_rm 12) sP mP aP bP hP9 cP xY 80 a cy dC dI 12 (f_K 0 (qX3_openWord [.ref 15, .ref 5, .int w] I L)) tQ ls' st' I' L') (List.forall_mem_cons.mpr ⟨(fun ls' st' I' L' h => by obtain ⟨u9, v9, n, hs, e1, h9⟩ := h; rw [e1]; exact f_W_sub hs (lp91 4 u9 v9 n I' L' h9)), fun _ h => absurd h List.not_mem_nil⟩)) 18 62 (f_seek 62 0 tX3_openWord) (f_seek_ok 62 0 tX3_openWord tX3_openWord_ok) _ _ _ _ ?_
          have r65_1 : 0 ≤ (J62 15 9).toInt ∧ (J62 15 9).toInt ≤ 5 := hR62c 15 9
          have e65_2 : (J62 15 9).toInt = (I 15 9).toInt := congrArg Int32.toInt (congrFun (hF62c 15 rfl) 9)
          apply And.intro
          · intro h68
            have h68 : (J62 15 9).toInt ≤ i.toInt := h68
            refine And.intro (show f_in f 53 from ⟨show 0 ≤ f.toInt from by omega, show f.toInt < 53 from by omega⟩) ?_
            have hG191 := f_fr_up (k := 18) (r := vp_updL (M62 18) (f.toInt.toNat) lo) hG62c rfl
            refine And.intro (show f_in f 53 from ⟨show 0 ≤ f.toInt from by omega, show f.toInt < 53 from by omega⟩) ?_
            have hG199 := f_fr_up (k := 19) (r := vp_updL (M62 19) (f.toInt.toNat) hi) hG191 rfl
            exact ⟨hR62c, hxO62c, hF62c, hG199⟩
          · intro h68
            have h68 : i.toInt < (J62 15 9).toInt := h68
            refine And.intro (show f_in f 53 from ⟨show 0 ≤ f.toInt from by omega, show f.toInt < 53 from by omega⟩) ?_
            refine And.intro trivial ?_
            intro x79 I79 L79 hq79
            have hq79 : I79 = J62 ∧ L79 = M62 := hq79
            obtain ⟨eI79, eL79⟩ := hq79
            replace eI79 := eI79.symm
            subst eI79
            replace eL79 := eL79.symm
            subst eL79
            exact ⟨x79, x79, Int32.ofInt 1, (by intro q9 h9; simp only [List.mem_cons, List.not_mem_nil, or_false] at h9; rcases h9 with h9 | h9 | h9 | h9 | h9 | h9 | h9 | h9 | h9 | h9 <;> subst h9 <;> repeat (first | exact List.mem_cons_self | apply List.mem_cons_of_mem)), rfl, hR62c, hF62c, hG62c, hxO62c, (show i.toInt < (I 15 9).toInt from by first | assumption | omega), (show 1 ≤ (1 : Int) from by first | assumption | omega), (show (1 : Int) ≤ 4 from by first | assumption | omega), (show (4 - (1 : Int)) < 4 from by omega)⟩
      have lp20 : ∀ (n20 : Nat), ∀ (f : Int32) (i : Int32) (J20 : fM) (M20 : fN), xR J20 ∧ f_fr [16, 20, 21, 22, 23, 24] I J20 ∧ f_fr [17, 18, 19] L M20 ∧ xO J20 ∧ (f.toInt = 3 * w.toInt) ∧ (0 ≤ i.toInt) ∧ (i.toInt ≤ (I 8 w.toInt.toNat).toInt) ∧ (J20 24 w.toInt.toNat = I 8 w.toInt.toNat) ∧ ((I 8 w.toInt.toNat).toInt - i.toInt) < n20 → f_W pP l eP (f_rm 12) sP mP aP bP hP9 cP xY 80 a cy dC dI 12 (f_K 0 (qX3_openWord [.ref 15, .ref 5, .int w] I L)) 20 [(4, .int i), (3, .int f), (2, .int w), (1, .ref 5), (0, .ref 15)] [] J20 M20 := by
        intro n20
        induction n20 with
        | zero =>
          intro f i J20 M20 h9
          obtain ⟨hR20c, hF20c, hG20c, hxO20c, u20_1, u20_2, u20_3, u20_4, hm20⟩ := h9
          omega
        | succ n20 ih20 =>
          intro f i J20 M20 h9
          obtain ⟨hR20c, hF20c, hG20c, hxO20c, u20_1, u20_2, u20_3, u20_4, hm20⟩ := h9
          refine f_wp_ok C f_cl flX3_ok fiX3_ok fjX3_ok (sn := none) (fun j h => by cases h) (cs := (f_cnl [(84, (3, 1, 1, pX1_tagAt, qX1_tagAt)), (61, (4, 0, 3, pX3_open, qX3_open))])) (cz := (f_cnl [(80, (1, 1, 3, pX3_firstSlot, qX3_firstSlot)), (87, (2, 1, 3, pX3_givenOf, qX3_givenOf)), (72, (2, 1, 0, pJ9_min_7cf53, qJ9_min_7cf53)), (91, (2, 1, 0, pJ9_max_7cf53, qJ9_max_7cf53))])) (f_cnl_of (P := fun j S => f_cok pP l eP (f_rm 12) sP mP aP bP hP9 cP xY 80 a cy dC dI 12 _ _ (.invokevirtual j) true S) (List.forall_mem_cons.mpr ⟨f_cokV C (mX1_tagAt hinj) (ci := 1) rfl (List.forall_mem_cons.mpr ⟨(mlX3_ok _ (List.mem_of_getElem? (i := 7) rfl)), kc_X1_tagAt⟩) (by decide +kernel) ⟨Nat.le_of_ble_eq_true rfl, Nat.le_of_ble_eq_true rfl⟩, List.forall_mem_cons.mpr ⟨f_cokV C (mX3_open hinj) (ci := 3) rfl (List.forall_mem_cons.mpr ⟨(mlX3_ok _ (List.mem_of_getElem? (i := 2) rfl)), kc_X3_open⟩) (by decide +kernel) ⟨Nat.le_of_ble_eq_true rfl, Nat.le_of_ble_eq_true rfl⟩, fun _ h => absurd h List.not_mem_nil⟩⟩)) (f_cnl_of (P := fun j S => f_cok pP l eP (f_rm 12) sP mP aP bP hP9 cP xY 80 a cy dC dI 12 _ _ (.invokestatic j) false S) (List.forall_mem_cons.mpr ⟨f_cokS C (mX3_firstSlot hinj) (List.forall_mem_cons.mpr ⟨(mlX3_ok _ (List.mem_of_getElem? (i := 6) rfl)), kc_X3_firstSlot⟩) (by decide +kernel) ⟨Nat.le_of_ble_eq_true rfl, Nat.le_of_ble_eq_true rfl⟩, List.forall_mem_cons.mpr ⟨f_cokS C (mX3_givenOf hinj) (List.forall_mem_cons.mpr ⟨(mlX3_ok _ (List.mem_of_getElem? (i := 8) rfl)), kc_X3_givenOf⟩) (by decide +kernel) ⟨Nat.le_of_ble_eq_true rfl, Nat.le_of_ble_eq_true rfl⟩, List.forall_mem_cons.mpr ⟨f_cokMin C (mlX3_ok _ (List.mem_of_getElem? (i := 4) rfl)) ⟨Nat.le_of_ble_eq_true rfl, Nat.le_of_ble_eq_true rfl⟩, List.forall_mem_cons.mpr ⟨f_cokMax C (mlX3_ok _ (List.mem_of_getElem? (i := 9) rfl)) ⟨Nat.le_of_ble_eq_true rfl, Nat.le_of_ble_eq_true rfl⟩, fun _ h => absurd h List.not_mem_nil⟩⟩⟩⟩)) tX3_openWord_ok (cut := (f_cnl [(20, (fun (ls' : fLs) (st' : List Value) (I' : fM) (L' : fN) => ∃ f : Int32, ∃ i : Int32, (∀ q ∈ ([(4, .int i), (3, .int f), (2, .int w), (1, .ref 5), (0, .ref 15)] : fLs), q ∈ ls') ∧ st' = [] ∧ (xR I' ∧ f_fr [16, 20, 21, 22, 23, 24] I I' ∧ f_fr [17, 18, 19] L L' ∧ xO I' ∧ (f.toInt = 3 * w.toInt) ∧ (0 ≤ i.toInt) ∧ (i.toInt ≤ (I 8 w.toInt.toNat).toInt) ∧ (I' 24 w.toInt.toNat = I 8 w.toInt.toNat) ∧ ((I 8 w.toInt.toNat).toInt - i.toInt) < n20))), (62, (fun (ls' : fLs) (st' : List Value) (I' : fM) (L' : fN) => ∃ f : Int32, ∃ lo : Int64, ∃ hi : Int64, ∃ i : Int32, (∀ q ∈ ([(8, .int i), (6, .long hi), (4, .long lo), (3, .int f), (2, .int w), (1, .ref 5), (0, .ref 15)] : fLs), q ∈ ls') ∧ st' = [] ∧ (xR I' ∧ f_fr [16, 20, 21, 22, 23, 24] I I' ∧ f_fr [17, 18, 19] L L' ∧ xO I' ∧ (f.toInt = 3 * w.toInt) ∧ (0 ≤ i.toInt) ∧ (i.toInt ≤ (I 15 9).toInt) ∧ ((I 15 9).toInt - i.toInt) < 6)))])) (f_cnl_of (P := fun (tQ : Nat) (P : fLs → List Value → fM → fN → Prop) => ∀ ls' st' I' L', P ls' st' I' L' → f_W pP l eP (f_rm 12) sP mP aP bP hP9 cP xY 80 a cy dC dI 12 (f_K 0 (qX3_openWord [.ref 15, .ref 5, .int w] I L)) tQ ls' st' I' L') (List.forall_mem_cons.mpr ⟨(fun ls' st' I' L' h => by obtain ⟨f, i, hs, e1, h9⟩ := h; rw [e1]; exact f_W_sub hs (ih20 f i I' L' h9)), List.forall_mem_cons.mpr ⟨(fun ls' st' I' L' h => by obtain ⟨f, lo, hi, i, hs, e1, h9⟩ := h; rw [e1]; exact f_W_sub hs (lp62 6 f lo hi i I' L' h9)), fun _ h => absurd h List.not_mem_nil⟩⟩)) 21 20 (f_seek 20 0 tX3_openWord) (f_seek_ok 20 0 tX3_openWord tX3_openWord_ok) _ _ _ _ ?_
          have e20 : (J20 24 w.toInt.toNat).toInt = (I 8 w.toInt.toNat).toInt := congrArg Int32.toInt u20_4
          refine And.intro (show f_in w 12 from ⟨show 0 ≤ w.toInt from by omega, show w.toInt < 12 from by omega⟩) ?_
          have r27_1 : 0 ≤ (J20 24 (w.toInt.toNat)).toInt ∧ (J20 24 (w.toInt.toNat)).toInt ≤ 3 := hR20c 24 (w.toInt.toNat)
          apply And.intro
          · intro h28
            have h28 : (J20 24 (w.toInt.toNat)).toInt ≤ i.toInt := h28
            exact ⟨f, Int64.ofNat 0, Int64.ofNat 0, Int32.ofInt 0, (by intro q9 h9; simp only [List.mem_cons, List.not_mem_nil, or_false] at h9; rcases h9 with h9 | h9 | h9 | h9 | h9 | h9 | h9 <;> subst h9 <;> repeat (first | exact List.mem_cons_self | apply List.mem_cons_of_mem)), rfl, hR20c, hF20c, hG20c, hxO20c, (show f.toInt = 3 * w.toInt from by first | assumption | omega | rfl), (show 0 ≤ (0 : Int) from by first | assumption | omega), (show (0 : Int) ≤ (I 15 9).toInt from by first | assumption | omega), (show ((I 15 9).toInt - (0 : Int)) < 6 from by omega)⟩
          · intro h28
            have h28 : i.toInt < (J20 24 (w.toInt.toNat)).toInt := h28
            intro z35 q35 _ hq35 hl35 hu35
            have hq35 : z35.toInt = f.toInt + i.toInt + 4294967296 * q35 := hq35
            try have hz35 : z35.toInt = f.toInt + i.toInt := by omega
            refine And.intro ⟨(by decide), hR20c, (show 0 ≤ w.toInt from by first | assumption | omega), (show w.toInt ≤ 11 from by first | assumption | omega), (show 0 ≤ i.toInt from by first | assumption | omega), (show i.toInt ≤ 2 from by first | assumption | omega)⟩ ?_
            intro x40 I40 L40 hq40
            have hq40 : I40 = J20 ∧ L40 = M20 ∧ x40 = J20 9 (3 * w.toInt + i.toInt).toNat := hq40
            obtain ⟨eI40, eL40, c40_2⟩ := hq40
            replace eI40 := eI40.symm
            subst eI40
            replace eL40 := eL40.symm
            subst eL40
            have w40 : ∃ n, wfT x40 n := by rw [c40_2, hF20c _ rfl]; exact hw i (by omega) (by omega)
            refine And.intro ⟨hR20c, hxO20c, (show 0 ≤ z35.toInt from by first | assumption | omega), (show z35.toInt ≤ 52 from by first | assumption | omega), w40⟩ ?_
            intro I44 L44 hq44
            have hq44 : xR I44 ∧ xO I44 ∧ f_fr [16, 20, 21, 22, 23] J20 I44 ∧ f_fr [17, 18, 19] M20 L44 := hq44
            obtain ⟨c44_0, c44_1, c44_2, c44_3⟩ := hq44
            have hF44 := f_fr_tr hF20c c44_2 rfl
            have hG44 := f_fr_tr hG20c c44_3 rfl
            have q44 : I44 24 w.toInt.toNat = I 8 w.toInt.toNat := (congrFun (c44_2 24 rfl) _).trans u20_4
            intro z47 q47 _ hq47 hl47 hu47
            have hq47 : z47.toInt = i.toInt + 1 + 4294967296 * q47 := hq47
            try have hz47 : z47.toInt = i.toInt + 1 := by omega
            exact ⟨f, z47, (by intro q9 h9; simp only [List.mem_cons, List.not_mem_nil, or_false] at h9; rcases h9 with h9 | h9 | h9 | h9 | h9 <;> subst h9 <;> repeat (first | exact List.mem_cons_self | apply List.mem_cons_of_mem)), rfl, c44_0, hF44, hG44, c44_1, (show f.toInt = 3 * w.toInt from by first | assumption | omega | rfl), (show 0 ≤ z47.toInt from by first | assumption | omega), (show z47.toInt ≤ (I 8 w.toInt.toNat).toInt from by first | assumption | omega), (show I44 24 w.toInt.toNat = I 8 w.toInt.toNat from by first | assumption | omega | rfl), (show ((I 8 w.toInt.toNat).toInt - z47.toInt) < n20 from by omega)⟩
      refine f_wp_ok C f_cl flX3_ok fiX3_ok fjX3_ok (sn := none) (fun j h => by cases h) (cs := (f_cnl [(84, (3, 1, 1, pX1_tagAt, qX1_tagAt)), (61, (4, 0, 3, pX3_open, qX3_open))])) (cz := (f_cnl [(80, (1, 1, 3, pX3_firstSlot, qX3_firstSlot)), (87, (2, 1, 3, pX3_givenOf, qX3_givenOf)), (72, (2, 1, 0, pJ9_min_7cf53, qJ9_min_7cf53)), (91, (2, 1, 0, pJ9_max_7cf53, qJ9_max_7cf53))])) (f_cnl_of (P := fun j S => f_cok pP l eP (f_rm 12) sP mP aP bP hP9 cP xY 80 a cy dC dI 12 _ _ (.invokevirtual j) true S) (List.forall_mem_cons.mpr ⟨f_cokV C (mX1_tagAt hinj) (ci := 1) rfl (List.forall_mem_cons.mpr ⟨(mlX3_ok _ (List.mem_of_getElem? (i := 7) rfl)), kc_X1_tagAt⟩) (by decide +kernel) ⟨Nat.le_of_ble_eq_true rfl, Nat.le_of_ble_eq_true rfl⟩, List.forall_mem_cons.mpr ⟨f_cokV C (mX3_open hinj) (ci := 3) rfl (List.forall_mem_cons.mpr ⟨(mlX3_ok _ (List.mem_of_getElem? (i := 2) rfl)), kc_X3_open⟩) (by decide +kernel) ⟨Nat.le_of_ble_eq_true rfl, Nat.le_of_ble_eq_true rfl⟩, fun _ h => absurd h List.not_mem_nil⟩⟩)) (f_cnl_of (P := fun j S => f_cok pP l eP (f_rm 12) sP mP aP bP hP9 cP xY 80 a cy dC dI 12 _ _ (.invokestatic j) false S) (List.forall_mem_cons.mpr ⟨f_cokS C (mX3_firstSlot hinj) (List.forall_mem_cons.mpr ⟨(mlX3_ok _ (List.mem_of_getElem? (i := 6) rfl)), kc_X3_firstSlot⟩) (by decide +kernel) ⟨Nat.le_of_ble_eq_true rfl, Nat.le_of_ble_eq_true rfl⟩, List.forall_mem_cons.mpr ⟨f_cokS C (mX3_givenOf hinj) (List.forall_mem_cons.mpr ⟨(mlX3_ok _ (List.mem_of_getElem? (i := 8) rfl)), kc_X3_givenOf⟩) (by decide +kernel) ⟨Nat.le_of_ble_eq_true rfl, Nat.le_of_ble_eq_true rfl⟩, List.forall_mem_cons.mpr ⟨f_cokMin C (mlX3_ok _ (List.mem_of_getElem? (i := 4) rfl)) ⟨Nat.le_of_ble_eq_true rfl, Nat.le_of_ble_eq_true rfl⟩, List.forall_mem_cons.mpr ⟨f_cokMax C (mlX3_ok _ (List.mem_of_getElem? (i := 9) rfl)) ⟨Nat.le_of_ble_eq_true rfl, Nat.le_of_ble_eq_true rfl⟩, fun _ h => absurd h List.not_mem_nil⟩⟩⟩⟩)) tX3_openWord_ok (cut := (f_cnl [(20, (fun (ls' : fLs) (st' : List Value) (I' : fM) (L' : fN) => ∃ f : Int32, ∃ i : Int32, (∀ q ∈ ([(4, .int i), (3, .int f), (2, .int w), (1, .ref 5), (0, .ref 15)] : fLs), q ∈ ls') ∧ st' = [] ∧ (xR I' ∧ f_fr [16, 20, 21, 22, 23, 24] I I' ∧ f_fr [17, 18, 19] L L' ∧ xO I' ∧ (f.toInt = 3 * w.toInt) ∧ (0 ≤ i.toInt) ∧ (i.toInt ≤ (I 8 w.toInt.toNat).toInt) ∧ (I' 24 w.toInt.toNat = I 8 w.toInt.toNat) ∧ ((I 8 w.toInt.toNat).toInt - i.toInt) < 4)))])) (f_cnl_of (P := fun (tQ : Nat) (P : fLs → List Value → fM → fN → Prop) => ∀ ls' st' I' L', P ls' st' I' L' → f_W pP l eP (f_rm 12) sP mP aP bP hP9 cP xY 80 a cy dC dI 12 (f_K 0 (qX3_openWord [.ref 15, .ref 5, .int w] I L)) tQ ls' st' I' L') (List.forall_mem_cons.mpr ⟨(fun ls' st' I' L' h => by obtain ⟨f, i, hs, e1, h9⟩ := h; rw [e1]; exact f_W_sub hs (lp20 4 f i I' L' h9)), fun _ h => absurd h List.not_mem_nil⟩)) 16 0 tX3_openWord tX3_openWord_ok _ _ _ _ ?_
      refine And.intro ⟨(show 0 ≤ w.toInt from by first | assumption | omega), (show w.toInt ≤ 11 from by first | assumption | omega)⟩ ?_
      intro x1 I1 L1 hq1
      have hq1 : I1 = I ∧ L1 = L ∧ x1.toInt = 3 * w.toInt := hq1
      obtain ⟨eI1, eL1, c1_2⟩ := hq1
      replace eI1 := eI1.symm
      subst eI1
      replace eL1 := eL1.symm
      subst eL1
      refine And.intro (show f_in w 12 from ⟨show 0 ≤ w.toInt from by omega, show w.toInt < 12 from by omega⟩) ?_
      have r15_1 : 0 ≤ (I 8 (w.toInt.toNat)).toInt ∧ (I 8 (w.toInt.toNat)).toInt ≤ 3 := hR 8 (w.toInt.toNat)
      refine And.intro (show f_in w 12 from ⟨show 0 ≤ w.toInt from by omega, show w.toInt < 12 from by omega⟩) ?_
      have hR16 := xR_a (k := 24) (j := w.toInt.toNat) (x := I 8 (w.toInt.toNat)) hR (show 0 ≤ (I 8 (w.toInt.toNat)).toInt ∧ (I 8 (w.toInt.toNat)).toInt ≤ 3 from ⟨by omega, by omega⟩)
      have hF16 := f_fr_up (k := 24) (r := upd (I 24) (w.toInt.toNat) (I 8 (w.toInt.toNat))) hF0 rfl
      have hxO16 := f_dep_up xO_dep (k := 24) (r := upd (I 24) (w.toInt.toNat) (I 8 (w.toInt.toNat))) hxO rfl
      have q17 : upd (I 24) w.toInt.toNat (I 8 w.toInt.toNat) w.toInt.toNat = I 8 w.toInt.toNat := by rw [pk_us]
      exact ⟨x1, Int32.ofInt 0, (by intro q9 h9; simp only [List.mem_cons, List.not_mem_nil, or_false] at h9; rcases h9 with h9 | h9 | h9 | h9 | h9 <;> subst h9 <;> repeat (first | exact List.mem_cons_self | apply List.mem_cons_of_mem)), rfl, hR16, hF16, hG0, hxO16, (show x1.toInt = 3 * w.toInt from by first | assumption | omega | rfl), (show 0 ≤ (0 : Int) from by first | assumption | omega), (show (0 : Int) ≤ (I 8 w.toInt.toNat).toInt from by first | assumption | omega), (show (upd (I 24) (w.toInt.toNat) (I 8 (w.toInt.toNat))) w.toInt.toNat = I 8 w.toInt.toNat from by first | assumption | omega | rfl), (show ((I 8 w.toInt.toNat).toInt - (0 : Int)) < 4 from by omega)⟩
    -- pat [.ref 15, .ref 10, .int w]
    · skip
      have hR : xR I := hR
      have hxO : xO I := hxO
      have p3 : xG 10 I := p3
      have p4 : 0 ≤ w.toInt := p4
      have p5 : w.toInt < (I 10 5).toInt := p5
      have hw12 : (I 10 5).toInt ≤ 12 := (hR 10 5).2
      have hk5 : 0 ≤ (I 15 9).toInt ∧ (I 15 9).toInt ≤ 5 := hR 15 9
      have htc : 0 ≤ (I 13 w.toInt.toNat).toInt ∧ (I 13 w.toInt.toNat).toInt ≤ 3 := hR 13 _
      have hw : ∀ t : Int32, 0 ≤ t.toInt → t.toInt < (I 13 w.toInt.toNat).toInt → ∃ n, wfT (I 14 (3 * w.toInt + t.toInt).toNat) n := fun t h0 h1 => by
        have q := p3.1 w.toInt.toNat t.toInt.toNat (by omega) (by rw [Int.toNat_of_nonneg h0]; exact h1)
        rw [show (3 * w.toInt + t.toInt).toNat = 3 * w.toInt.toNat + t.toInt.toNat by omega]
        exact q
      have hF0 : f_fr [16, 20, 21, 22, 23, 24] I I := f_fr_rf
      have hG0 : f_fr [17, 18, 19] L L := f_fr_rf
      have lp62 : ∀ (n62 : Nat), ∀ (f : Int32) (lo : Int64) (hi : Int64) (i : Int32) (J62 : fM) (M62 : fN), xR J62 ∧ f_fr [16, 20, 21, 22, 23, 24] I J62 ∧ f_fr [17, 18, 19] L M62 ∧ xO J62 ∧ (f.toInt = 3 * w.toInt) ∧ (0 ≤ i.toInt) ∧ (i.toInt ≤ (I 15 9).toInt) ∧ ((I 15 9).toInt - i.toInt) < n62 → f_W pP l eP (f_rm 12) sP mP aP bP hP9 cP xY 80 a cy dC dI 12 (f_K 0 (qX3_openWord [.ref 15, .ref 10, .int w] I L)) 62 [(8, .int i), (6, .long hi), (4, .long lo), (3, .int f), (2, .int w), (1, .ref 10), (0, .ref 15)] [] J62 M62 := by
        intro n62
        induction n62 with
        | zero =>
          intro f lo hi i J62 M62 h9
          obtain ⟨hR62c, hF62c, hG62c, hxO62c, u62_1, u62_2, u62_3, hm62⟩ := h9
          omega
        | succ n62 ih62 =>
          intro f lo hi i J62 M62 h9
          obtain ⟨hR62c, hF62c, hG62c, hxO62c, u62_1, u62_2, u62_3, hm62⟩ := h9
          have lp91 : ∀ (n91 : Nat), ∀ (u9 : Int32) (v9 : Int32) (n : Int32) (J91 : fM) (M91 : fN), xR J91 ∧ f_fr [16, 20, 21, 22, 23, 24] I J91 ∧ f_fr [17, 18, 19] L M91 ∧ xO J91 ∧ (i.toInt < (I 15 9).toInt) ∧ (1 ≤ n.toInt) ∧ (n.toInt ≤ 4) ∧ (4 - n.toInt) < n91 → f_W pP l eP (f_rm 12) sP mP aP bP hP9 cP xY 80 a cy dC dI 12 (f_K 0 (qX3_openWord [.ref 15, .ref 10, .int w] I L)) 91 [(11, .int n), (10, .int v9), (9, .int u9), (8, .int i), (6, .long hi), (4, .long lo), (3, .int f), (2, .int w), (1, .ref 10), (0, .ref 15)] [] J91 M91 := by
            intro n91
            induction n91 with
            | zero =>
              intro u9 v9 n J91 M91 h9
              obtain ⟨hR91c, hF91c, hG91c, hxO91c, u91_1, u91_2, u91_3, hm91⟩ := h9
              omega
            | succ n91 ih91 =>
              intro u9 v9 n J91 M91 h9
              obtain ⟨hR91c, hF91c, hG91c, hxO91c, u91_1, u91_2, u91_3, hm91⟩ := h9
              refine f_wp_ok C f_cl flX3_ok fiX3_ok fjX3_ok (sn := none) (fun j h => by cases h) (cs := (f_cnl [(84, (3, 1, 1, pX1_tagAt, qX1_tagAt)), (61, (4, 0, 3, pX3_open, qX3_open))])) (cz := (f_cnl [(80, (1, 1, 3, pX3_firstSlot, qX3_firstSlot)), (87, (2, 1, 3, pX3_givenOf, qX3_givenOf)), (72, (2, 1, 0, pJ9_min_7cf53, qJ9_min_7cf53)), (91, (2, 1, 0, pJ9_max_7cf53, qJ9_max_7cf53))])) (f_cnl_of (P := fun j S => f_cok pP l eP (f_rm 12) sP mP aP bP hP9 cP xY 80 a cy dC dI 12 _ _ (.invokevirtual j) true S) (List.forall_mem_cons.mpr ⟨f_cokV C (mX1_tagAt hinj) (ci := 1) rfl (List.forall_mem_cons.mpr ⟨(mlX3_ok _ (List.mem_of_getElem? (i := 7) rfl)), kc_X1_tagAt⟩) (by decide +kernel) ⟨Nat.le_of_ble_eq_true rfl, Nat.le_of_ble_eq_true rfl⟩, List.forall_mem_cons.mpr ⟨f_cokV C (mX3_open hinj) (ci := 3) rfl (List.forall_mem_cons.mpr ⟨(mlX3_ok _ (List.mem_of_getElem? (i := 2) rfl)), kc_X3_open⟩) (by decide +kernel) ⟨Nat.le_of_ble_eq_true rfl, Nat.le_of_ble_eq_true rfl⟩, fun _ h => absurd h List.not_mem_nil⟩⟩)) (f_cnl_of (P := fun j S => f_cok pP l eP (f_rm 12) sP mP aP bP hP9 cP xY 80 a cy dC dI 12 _ _ (.invokestatic j) false S) (List.forall_mem_cons.mpr ⟨f_cokS C (mX3_firstSlot hinj) (List.forall_mem_cons.mpr ⟨(mlX3_ok _ (List.mem_of_getElem? (i := 6) rfl)), kc_X3_firstSlot⟩) (by decide +kernel) ⟨Nat.le_of_ble_eq_true rfl, Nat.le_of_ble_eq_true rfl⟩, List.forall_mem_cons.mpr ⟨f_cokS C (mX3_givenOf hinj) (List.forall_mem_cons.mpr ⟨(mlX3_ok _ (List.mem_of_getElem? (i := 8) rfl)), kc_X3_givenOf⟩) (by decide +kernel) ⟨Nat.le_of_ble_eq_true rfl, Nat.le_of_ble_eq_true rfl⟩, List.forall_mem_cons.mpr ⟨f_cokMin C (mlX3_ok _ (List.mem_of_getElem? (i := 4) rfl)) ⟨Nat.le_of_ble_eq_true rfl, Nat.le_of_ble_eq_true rfl⟩, List.forall_mem_cons.mpr ⟨f_cokMax C (mlX3_ok _ (List.mem_of_getElem? (i := 9) rfl)) ⟨Nat.le_of_ble_eq_true rfl, Nat.le_of_ble_eq_true rfl⟩, fun _ h => absurd h List.not_mem_nil⟩⟩⟩⟩)) tX3_openWord_ok (cut := (f_cnl [(62, (fun (ls' : fLs) (st' : List Value) (I' : fM) (L' : fN) => ∃ f : Int32, ∃ lo : Int64, ∃ hi : Int64, ∃ i : Int32, (∀ q ∈ ([(8, .int i), (6, .long hi), (4, .long lo), (3, .int f), (2, .int w), (1, .ref 10), (0, .ref 15)] : fLs), q ∈ ls') ∧ st' = [] ∧ (xR I' ∧ f_fr [16, 20, 21, 22, 23, 24] I I' ∧ f_fr [17, 18, 19] L L' ∧ xO I' ∧ (f.toInt = 3 * w.toInt) ∧ (0 ≤ i.toInt) ∧ (i.toInt ≤ (I 15 9).toInt) ∧ ((I 15 9).toInt - i.toInt) < n62))), (91, (fun (ls' : fLs) (st' : List Value) (I' : fM) (L' : fN) => ∃ u9 : Int32, ∃ v9 : Int32, ∃ n : Int32, (∀ q ∈ ([(11, .int n), (10, .int v9), (9, .int u9), (8, .int i), (6, .long hi), (4, .long lo), (3, .int f), (2, .int w), (1, .ref 10), (0, .ref 15)] : fLs), q ∈ ls') ∧ st' = [] ∧ (xR I' ∧ f_fr [16, 20, 21, 22, 23, 24] I I' ∧ f_fr [17, 18, 19] L L' ∧ xO I' ∧ (i.toInt < (I 15 9).toInt) ∧ (1 ≤ n.toInt) ∧ (n.toInt ≤ 4) ∧ (4 - n.toInt) < n91)))])) (f_cnl_of (P := fun (tQ : Nat) (P : fLs → List Value → fM → fN → Prop) => ∀ ls' st' I' L', P ls' st' I' L' → f_W pP l eP (f_rm 12) sP mP aP bP hP9 cP xY 80 a cy dC dI 12 (f_K 0 (qX3_openWord [.ref 15, .ref 10, .int w] I L)) tQ ls' st' I' L') (List.forall_mem_cons.mpr ⟨(fun ls' st' I' L' h => by obtain ⟨f, lo, hi, i, hs, e1, h9⟩ := h; rw [e1]; exact f_W_sub hs (ih62 f lo hi i I' L' h9)), List.forall_mem_cons.mpr ⟨(fun ls' st' I' L' h => by obtain ⟨u9, v9, n, hs, e1, h9⟩ := h; rw [e1]; exact f_W_sub hs (ih91 u9 v9 n I' L' h9)), fun _ h => absurd h List.not_mem_nil⟩⟩)) 33 91 (f_seek 91 0 tX3_openWord) (f_seek_ok 91 0 tX3_openWord tX3_openWord_ok) _ _ _ _ ?_
              refine And.intro (show f_in w 12 from ⟨show 0 ≤ w.toInt from by omega, show w.toInt < 12 from by omega⟩) ?_
              have r98_1 : 0 ≤ (J91 24 (w.toInt.toNat)).toInt ∧ (J91 24 (w.toInt.toNat)).toInt ≤ 3 := hR91c 24 (w.toInt.toNat)
              apply And.intro
              · intro h99
                have h99 : (J91 24 (w.toInt.toNat)).toInt ≤ n.toInt := h99
                intro z159 q159 _ hq159 hl159 hu159
                have hq159 : z159.toInt = 8 * i.toInt + 4294967296 * q159 := hq159
                try have hz159 : z159.toInt = 8 * i.toInt := by omega
                intro z173 q173 _ hq173 hl173 hu173
                have hq173 : z173.toInt = 8 * i.toInt + 4294967296 * q173 := hq173
                try have hz173 : z173.toInt = 8 * i.toInt := by omega
                intro z178 q178 _ hq178 hl178 hu178
                have hq178 : z178.toInt = i.toInt + 1 + 4294967296 * q178 := hq178
                try have hz178 : z178.toInt = i.toInt + 1 := by omega
                exact ⟨f, lo + ((u9.toInt64) <<< (z159.toInt64 &&& 63)), hi + ((v9.toInt64) <<< (z173.toInt64 &&& 63)), z178, (by intro q9 h9; simp only [List.mem_cons, List.not_mem_nil, or_false] at h9; rcases h9 with h9 | h9 | h9 | h9 | h9 | h9 | h9 <;> subst h9 <;> repeat (first | exact List.mem_cons_self | apply List.mem_cons_of_mem)), rfl, hR91c, hF91c, hG91c, hxO91c, (show f.toInt = 3 * w.toInt from by first | assumption | omega | rfl), (show 0 ≤ z178.toInt from by first | assumption | omega), (show z178.toInt ≤ (I 15 9).toInt from by first | assumption | omega), (show ((I 15 9).toInt - z178.toInt) < n62 from by omega)⟩
              · intro h99
                have h99 : n.toInt < (J91 24 (w.toInt.toNat)).toInt := h99
                intro z111 q111 _ hq111 hl111 hu111
                have hq111 : z111.toInt = f.toInt + n.toInt + 4294967296 * q111 := hq111
                try have hz111 : z111.toInt = f.toInt + n.toInt := by omega
                refine And.intro (show f_in z111 53 from ⟨show 0 ≤ z111.toInt from by omega, show z111.toInt < 53 from by omega⟩) ?_
                refine And.intro trivial ?_
                intro x115 I115 L115 hq115
                have hq115 : I115 = J91 ∧ L115 = M91 := hq115
                obtain ⟨eI115, eL115⟩ := hq115
                replace eI115 := eI115.symm
                subst eI115
                replace eL115 := eL115.symm
                subst eL115
                refine And.intro trivial ?_
                intro x118 I118 L118 hq118
                have hq118 : I118 = J91 ∧ L118 = M91 ∧ ((x118 = u9 ∨ x118 = x115)) ∧ x118.toInt ≤ u9.toInt ∧ x118.toInt ≤ x115.toInt := hq118
                obtain ⟨eI118, eL118, c118_2, c118_3, c118_4⟩ := hq118
                replace eI118 := eI118.symm
                subst eI118
                replace eL118 := eL118.symm
                subst eL118
                intro z132 q132 _ hq132 hl132 hu132
                have hq132 : z132.toInt = f.toInt + n.toInt + 4294967296 * q132 := hq132
                try have hz132 : z132.toInt = f.toInt + n.toInt := by omega
                refine And.intro (show f_in z132 53 from ⟨show 0 ≤ z132.toInt from by omega, show z132.toInt < 53 from by omega⟩) ?_
                refine And.intro trivial ?_
                intro x136 I136 L136 hq136
                have hq136 : I136 = J91 ∧ L136 = M91 := hq136
                obtain ⟨eI136, eL136⟩ := hq136
                replace eI136 := eI136.symm
                subst eI136
                replace eL136 := eL136.symm
                subst eL136
                refine And.intro trivial ?_
                intro x139 I139 L139 hq139
                have hq139 : I139 = J91 ∧ L139 = M91 ∧ ((x139 = v9 ∨ x139 = x136)) ∧ v9.toInt ≤ x139.toInt ∧ x136.toInt ≤ x139.toInt := hq139
                obtain ⟨eI139, eL139, c139_2, c139_3, c139_4⟩ := hq139
                replace eI139 := eI139.symm
                subst eI139
                replace eL139 := eL139.symm
                subst eL139
                intro z144 q144 _ hq144 hl144 hu144
                have hq144 : z144.toInt = n.toInt + 1 + 4294967296 * q144 := hq144
                try have hz144 : z144.toInt = n.toInt + 1 := by omega
                exact ⟨x118, x139, z144, (by intro q9 h9; simp only [List.mem_cons, List.not_mem_nil, or_false] at h9; rcases h9 with h9 | h9 | h9 | h9 | h9 | h9 | h9 | h9 | h9 | h9 <;> subst h9 <;> repeat (first | exact List.mem_cons_self | apply List.mem_cons_of_mem)), rfl, hR91c, hF91c, hG91c, hxO91c, (show i.toInt < (I 15 9).toInt from by first | assumption | omega), (show 1 ≤ z144.toInt from by first | assumption | omega), (show z144.toInt ≤ 4 from by first | assumption | omega), (show (4 - z144.toInt) < n91 from by omega)⟩
          refine f_wp_ok C f_cl flX3_ok fiX3_ok fjX3_ok (sn := none) (fun j h => by cases h) (cs := (f_cnl [(84, (3, 1, 1, pX1_tagAt, qX1_tagAt)), (61, (4, 0, 3, pX3_open, qX3_open))])) (cz := (f_cnl [(80, (1, 1, 3, pX3_firstSlot, qX3_firstSlot)), (87, (2, 1, 3, pX3_givenOf, qX3_givenOf)), (72, (2, 1, 0, pJ9_min_7cf53, qJ9_min_7cf53)), (91, (2, 1, 0, pJ9_max_7cf53, qJ9_max_7cf53))])) (f_cnl_of (P := fun j S => f_cok pP l eP (f_rm 12) sP mP aP bP hP9 cP xY 80 a cy dC dI 12 _ _ (.invokevirtual j) true S) (List.forall_mem_cons.mpr ⟨f_cokV C (mX1_tagAt hinj) (ci := 1) rfl (List.forall_mem_cons.mpr ⟨(mlX3_ok _ (List.mem_of_getElem? (i := 7) rfl)), kc_X1_tagAt⟩) (by decide +kernel) ⟨Nat.le_of_ble_eq_true rfl, Nat.le_of_ble_eq_true rfl⟩, List.forall_mem_cons.mpr ⟨f_cokV C (mX3_open hinj) (ci := 3) rfl (List.forall_mem_cons.mpr ⟨(mlX3_ok _ (List.mem_of_getElem? (i := 2) rfl)), kc_X3_open⟩) (by decide +kernel) ⟨Nat.le_of_ble_eq_true rfl, Nat.le_of_ble_eq_true rfl⟩, fun _ h => absurd h List.not_mem_nil⟩⟩)) (f_cnl_of (P := fun j S => f_cok pP l eP (f_rm 12) sP mP aP bP hP9 cP xY 80 a cy dC dI 12 _ _ (.invokestatic j) false S) (List.forall_mem_cons.mpr ⟨f_cokS C (mX3_firstSlot hinj) (List.forall_mem_cons.mpr ⟨(mlX3_ok _ (List.mem_of_getElem? (i := 6) rfl)), kc_X3_firstSlot⟩) (by decide +kernel) ⟨Nat.le_of_ble_eq_true rfl, Nat.le_of_ble_eq_true rfl⟩, List.forall_mem_cons.mpr ⟨f_cokS C (mX3_givenOf hinj) (List.forall_mem_cons.mpr ⟨(mlX3_ok _ (List.mem_of_getElem? (i := 8) rfl)), kc_X3_givenOf⟩) (by decide +kernel) ⟨Nat.le_of_ble_eq_true rfl, Nat.le_of_ble_eq_true rfl⟩, List.forall_mem_cons.mpr ⟨f_cokMin C (mlX3_ok _ (List.mem_of_getElem? (i := 4) rfl)) ⟨Nat.le_of_ble_eq_true rfl, Nat.le_of_ble_eq_true rfl⟩, List.forall_mem_cons.mpr ⟨f_cokMax C (mlX3_ok _ (List.mem_of_getElem? (i := 9) rfl)) ⟨Nat.le_of_ble_eq_true rfl, Nat.le_of_ble_eq_true rfl⟩, fun _ h => absurd h List.not_mem_nil⟩⟩⟩⟩)) tX3_openWord_ok (cut := (f_cnl [(91, (fun (ls' : fLs) (st' : List Value) (I' : fM) (L' : fN) => ∃ u9 : Int32, ∃ v9 : Int32, ∃ n : Int32, (∀ q ∈ ([(11, .int n), (10, .int v9), (9, .int u9), (8, .int i), (6, .long hi), (4, .long lo), (3, .int f), (2, .int w), (1, .ref 10), (0, .ref 15)] : fLs), q ∈ ls') ∧ st' = [] ∧ (xR I' ∧ f_fr [16, 20, 21, 22, 23, 24] I I' ∧ f_fr [17, 18, 19] L L' ∧ xO I' ∧ (i.toInt < (I 15 9).toInt) ∧ (1 ≤ n.toInt) ∧ (n.toInt ≤ 4) ∧ (4 - n.toInt) < 4)))])) (f_cnl_of (P := fun (tQ : Nat) (P : fLs → List Value → fM → fN → Prop) => ∀ ls' st' I' L', P ls' st' I' L' → f_W pP l eP (f_rm 12) sP mP aP bP hP9 cP xY 80 a cy dC dI 12 (f_K 0 (qX3_openWord [.ref 15, .ref 10, .int w] I L)) tQ ls' st' I' L') (List.forall_mem_cons.mpr ⟨(fun ls' st' I' L' h => by obtain ⟨u9, v9, n, hs, e1, h9⟩ := h; rw [e1]; exact f_W_sub hs (lp91 4 u9 v9 n I' L' h9)), fun _ h => absurd h List.not_mem_nil⟩)) 18 62 (f_seek 62 0 tX3_openWord) (f_seek_ok 62 0 tX3_openWord tX3_openWord_ok) _ _ _ _ ?_
          have r65_1 : 0 ≤ (J62 15 9).toInt ∧ (J62 15 9).toInt ≤ 5 := hR62c 15 9
          have e65_2 : (J62 15 9).toInt = (I 15 9).toInt := congrArg Int32.toInt (congrFun (hF62c 15 rfl) 9)
          apply And.intro
          · intro h68
            have h68 : (J62 15 9).toInt ≤ i.toInt := h68
            refine And.intro (show f_in f 53 from ⟨show 0 ≤ f.toInt from by omega, show f.toInt < 53 from by omega⟩) ?_
            have hG191 := f_fr_up (k := 18) (r := vp_updL (M62 18) (f.toInt.toNat) lo) hG62c rfl
            refine And.intro (show f_in f 53 from ⟨show 0 ≤ f.toInt from by omega, show f.toInt < 53 from by omega⟩) ?_
            have hG199 := f_fr_up (k := 19) (r := vp_updL (M62 19) (f.toInt.toNat) hi) hG191 rfl
            exact ⟨hR62c, hxO62c, hF62c, hG199⟩
          · intro h68
            have h68 : i.toInt < (J62 15 9).toInt := h68
            refine And.intro (show f_in f 53 from ⟨show 0 ≤ f.toInt from by omega, show f.toInt < 53 from by omega⟩) ?_
            refine And.intro trivial ?_
            intro x79 I79 L79 hq79
            have hq79 : I79 = J62 ∧ L79 = M62 := hq79
            obtain ⟨eI79, eL79⟩ := hq79
            replace eI79 := eI79.symm
            subst eI79
            replace eL79 := eL79.symm
            subst eL79
            exact ⟨x79, x79, Int32.ofInt 1, (by intro q9 h9; simp only [List.mem_cons, List.not_mem_nil, or_false] at h9; rcases h9 with h9 | h9 | h9 | h9 | h9 | h9 | h9 | h9 | h9 | h9 <;> subst h9 <;> repeat (first | exact List.mem_cons_self | apply List.mem_cons_of_mem)), rfl, hR62c, hF62c, hG62c, hxO62c, (show i.toInt < (I 15 9).toInt from by first | assumption | omega), (show 1 ≤ (1 : Int) from by first | assumption | omega), (show (1 : Int) ≤ 4 from by first | assumption | omega), (show (4 - (1 : Int)) < 4 from by omega)⟩
      have lp20 : ∀ (n20 : Nat), ∀ (f : Int32) (i : Int32) (J20 : fM) (M20 : fN), xR J20 ∧ f_fr [16, 20, 21, 22, 23, 24] I J20 ∧ f_fr [17, 18, 19] L M20 ∧ xO J20 ∧ (f.toInt = 3 * w.toInt) ∧ (0 ≤ i.toInt) ∧ (i.toInt ≤ (I 13 w.toInt.toNat).toInt) ∧ (J20 24 w.toInt.toNat = I 13 w.toInt.toNat) ∧ ((I 13 w.toInt.toNat).toInt - i.toInt) < n20 → f_W pP l eP (f_rm 12) sP mP aP bP hP9 cP xY 80 a cy dC dI 12 (f_K 0 (qX3_openWord [.ref 15, .ref 10, .int w] I L)) 20 [(4, .int i), (3, .int f), (2, .int w), (1, .ref 10), (0, .ref 15)] [] J20 M20 := by
        intro n20
        induction n20 with
        | zero =>
          intro f i J20 M20 h9
          obtain ⟨hR20c, hF20c, hG20c, hxO20c, u20_1, u20_2, u20_3, u20_4, hm20⟩ := h9
          omega
        | succ n20 ih20 =>
          intro f i J20 M20 h9
          obtain ⟨hR20c, hF20c, hG20c, hxO20c, u20_1, u20_2, u20_3, u20_4, hm20⟩ := h9
          refine f_wp_ok C f_cl flX3_ok fiX3_ok fjX3_ok (sn := none) (fun j h => by cases h) (cs := (f_cnl [(84, (3, 1, 1, pX1_tagAt, qX1_tagAt)), (61, (4, 0, 3, pX3_open, qX3_open))])) (cz := (f_cnl [(80, (1, 1, 3, pX3_firstSlot, qX3_firstSlot)), (87, (2, 1, 3, pX3_givenOf, qX3_givenOf)), (72, (2, 1, 0, pJ9_min_7cf53, qJ9_min_7cf53)), (91, (2, 1, 0, pJ9_max_7cf53, qJ9_max_7cf53))])) (f_cnl_of (P := fun j S => f_cok pP l eP (f_rm 12) sP mP aP bP hP9 cP xY 80 a cy dC dI 12 _ _ (.invokevirtual j) true S) (List.forall_mem_cons.mpr ⟨f_cokV C (mX1_tagAt hinj) (ci := 1) rfl (List.forall_mem_cons.mpr ⟨(mlX3_ok _ (List.mem_of_getElem? (i := 7) rfl)), kc_X1_tagAt⟩) (by decide +kernel) ⟨Nat.le_of_ble_eq_true rfl, Nat.le_of_ble_eq_true rfl⟩, List.forall_mem_cons.mpr ⟨f_cokV C (mX3_open hinj) (ci := 3) rfl (List.forall_mem_cons.mpr ⟨(mlX3_ok _ (List.mem_of_getElem? (i := 2) rfl)), kc_X3_open⟩) (by decide +kernel) ⟨Nat.le_of_ble_eq_true rfl, Nat.le_of_ble_eq_true rfl⟩, fun _ h => absurd h List.not_mem_nil⟩⟩)) (f_cnl_of (P := fun j S => f_cok pP l eP (f_rm 12) sP mP aP bP hP9 cP xY 80 a cy dC dI 12 _ _ (.invokestatic j) false S) (List.forall_mem_cons.mpr ⟨f_cokS C (mX3_firstSlot hinj) (List.forall_mem_cons.mpr ⟨(mlX3_ok _ (List.mem_of_getElem? (i := 6) rfl)), kc_X3_firstSlot⟩) (by decide +kernel) ⟨Nat.le_of_ble_eq_true rfl, Nat.le_of_ble_eq_true rfl⟩, List.forall_mem_cons.mpr ⟨f_cokS C (mX3_givenOf hinj) (List.forall_mem_cons.mpr ⟨(mlX3_ok _ (List.mem_of_getElem? (i := 8) rfl)), kc_X3_givenOf⟩) (by decide +kernel) ⟨Nat.le_of_ble_eq_true rfl, Nat.le_of_ble_eq_true rfl⟩, List.forall_mem_cons.mpr ⟨f_cokMin C (mlX3_ok _ (List.mem_of_getElem? (i := 4) rfl)) ⟨Nat.le_of_ble_eq_true rfl, Nat.le_of_ble_eq_true rfl⟩, List.forall_mem_cons.mpr ⟨f_cokMax C (mlX3_ok _ (List.mem_of_getElem? (i := 9) rfl)) ⟨Nat.le_of_ble_eq_true rfl, Nat.le_of_ble_eq_true rfl⟩, fun _ h => absurd h List.not_mem_nil⟩⟩⟩⟩)) tX3_openWord_ok (cut := (f_cnl [(20, (fun (ls' : fLs) (st' : List Value) (I' : fM) (L' : fN) => ∃ f : Int32, ∃ i : Int32, (∀ q ∈ ([(4, .int i), (3, .int f), (2, .int w), (1, .ref 10), (0, .ref 15)] : fLs), q ∈ ls') ∧ st' = [] ∧ (xR I' ∧ f_fr [16, 20, 21, 22, 23, 24] I I' ∧ f_fr [17, 18, 19] L L' ∧ xO I' ∧ (f.toInt = 3 * w.toInt) ∧ (0 ≤ i.toInt) ∧ (i.toInt ≤ (I 13 w.toInt.toNat).toInt) ∧ (I' 24 w.toInt.toNat = I 13 w.toInt.toNat) ∧ ((I 13 w.toInt.toNat).toInt - i.toInt) < n20))), (62, (fun (ls' : fLs) (st' : List Value) (I' : fM) (L' : fN) => ∃ f : Int32, ∃ lo : Int64, ∃ hi : Int64, ∃ i : Int32, (∀ q ∈ ([(8, .int i), (6, .long hi), (4, .long lo), (3, .int f), (2, .int w), (1, .ref 10), (0, .ref 15)] : fLs), q ∈ ls') ∧ st' = [] ∧ (xR I' ∧ f_fr [16, 20, 21, 22, 23, 24] I I' ∧ f_fr [17, 18, 19] L L' ∧ xO I' ∧ (f.toInt = 3 * w.toInt) ∧ (0 ≤ i.toInt) ∧ (i.toInt ≤ (I 15 9).toInt) ∧ ((I 15 9).toInt - i.toInt) < 6)))])) (f_cnl_of (P := fun (tQ : Nat) (P : fLs → List Value → fM → fN → Prop) => ∀ ls' st' I' L', P ls' st' I' L' → f_W pP l eP (f_rm 12) sP mP aP bP hP9 cP xY 80 a cy dC dI 12 (f_K 0 (qX3_openWord [.ref 15, .ref 10, .int w] I L)) tQ ls' st' I' L') (List.forall_mem_cons.mpr ⟨(fun ls' st' I' L' h => by obtain ⟨f, i, hs, e1, h9⟩ := h; rw [e1]; exact f_W_sub hs (ih20 f i I' L' h9)), List.forall_mem_cons.mpr ⟨(fun ls' st' I' L' h => by obtain ⟨f, lo, hi, i, hs, e1, h9⟩ := h; rw [e1]; exact f_W_sub hs (lp62 6 f lo hi i I' L' h9)), fun _ h => absurd h List.not_mem_nil⟩⟩)) 21 20 (f_seek 20 0 tX3_openWord) (f_seek_ok 20 0 tX3_openWord tX3_openWord_ok) _ _ _ _ ?_
          have e20 : (J20 24 w.toInt.toNat).toInt = (I 13 w.toInt.toNat).toInt := congrArg Int32.toInt u20_4
          refine And.intro (show f_in w 12 from ⟨show 0 ≤ w.toInt from by omega, show w.toInt < 12 from by omega⟩) ?_
          have r27_1 : 0 ≤ (J20 24 (w.toInt.toNat)).toInt ∧ (J20 24 (w.toInt.toNat)).toInt ≤ 3 := hR20c 24 (w.toInt.toNat)
          apply And.intro
          · intro h28
            have h28 : (J20 24 (w.toInt.toNat)).toInt ≤ i.toInt := h28
            exact ⟨f, Int64.ofNat 0, Int64.ofNat 0, Int32.ofInt 0, (by intro q9 h9; simp only [List.mem_cons, List.not_mem_nil, or_false] at h9; rcases h9 with h9 | h9 | h9 | h9 | h9 | h9 | h9 <;> subst h9 <;> repeat (first | exact List.mem_cons_self | apply List.mem_cons_of_mem)), rfl, hR20c, hF20c, hG20c, hxO20c, (show f.toInt = 3 * w.toInt from by first | assumption | omega | rfl), (show 0 ≤ (0 : Int) from by first | assumption | omega), (show (0 : Int) ≤ (I 15 9).toInt from by first | assumption | omega), (show ((I 15 9).toInt - (0 : Int)) < 6 from by omega)⟩
          · intro h28
            have h28 : i.toInt < (J20 24 (w.toInt.toNat)).toInt := h28
            intro z35 q35 _ hq35 hl35 hu35
            have hq35 : z35.toInt = f.toInt + i.toInt + 4294967296 * q35 := hq35
            try have hz35 : z35.toInt = f.toInt + i.toInt := by omega
            refine And.intro ⟨(by decide), hR20c, (show 0 ≤ w.toInt from by first | assumption | omega), (show w.toInt ≤ 11 from by first | assumption | omega), (show 0 ≤ i.toInt from by first | assumption | omega), (show i.toInt ≤ 2 from by first | assumption | omega)⟩ ?_
            intro x40 I40 L40 hq40
            have hq40 : I40 = J20 ∧ L40 = M20 ∧ x40 = J20 14 (3 * w.toInt + i.toInt).toNat := hq40
            obtain ⟨eI40, eL40, c40_2⟩ := hq40
            replace eI40 := eI40.symm
            subst eI40
            replace eL40 := eL40.symm
            subst eL40
            have w40 : ∃ n, wfT x40 n := by rw [c40_2, hF20c _ rfl]; exact hw i (by omega) (by omega)
            refine And.intro ⟨hR20c, hxO20c, (show 0 ≤ z35.toInt from by first | assumption | omega), (show z35.toInt ≤ 52 from by first | assumption | omega), w40⟩ ?_
            intro I44 L44 hq44
            have hq44 : xR I44 ∧ xO I44 ∧ f_fr [16, 20, 21, 22, 23] J20 I44 ∧ f_fr [17, 18, 19] M20 L44 := hq44
            obtain ⟨c44_0, c44_1, c44_2, c44_3⟩ := hq44
            have hF44 := f_fr_tr hF20c c44_2 rfl
            have hG44 := f_fr_tr hG20c c44_3 rfl
            have q44 : I44 24 w.toInt.toNat = I 13 w.toInt.toNat := (congrFun (c44_2 24 rfl) _).trans u20_4
            intro z47 q47 _ hq47 hl47 hu47
            have hq47 : z47.toInt = i.toInt + 1 + 4294967296 * q47 := hq47
            try have hz47 : z47.toInt = i.toInt + 1 := by omega
            exact ⟨f, z47, (by intro q9 h9; simp only [List.mem_cons, List.not_mem_nil, or_false] at h9; rcases h9 with h9 | h9 | h9 | h9 | h9 <;> subst h9 <;> repeat (first | exact List.mem_cons_self | apply List.mem_cons_of_mem)), rfl, c44_0, hF44, hG44, c44_1, (show f.toInt = 3 * w.toInt from by first | assumption | omega | rfl), (show 0 ≤ z47.toInt from by first | assumption | omega), (show z47.toInt ≤ (I 13 w.toInt.toNat).toInt from by first | assumption | omega), (show I44 24 w.toInt.toNat = I 13 w.toInt.toNat from by first | assumption | omega | rfl), (show ((I 13 w.toInt.toNat).toInt - z47.toInt) < n20 from by omega)⟩
      refine f_wp_ok C f_cl flX3_ok fiX3_ok fjX3_ok (sn := none) (fun j h => by cases h) (cs := (f_cnl [(84, (3, 1, 1, pX1_tagAt, qX1_tagAt)), (61, (4, 0, 3, pX3_open, qX3_open))])) (cz := (f_cnl [(80, (1, 1, 3, pX3_firstSlot, qX3_firstSlot)), (87, (2, 1, 3, pX3_givenOf, qX3_givenOf)), (72, (2, 1, 0, pJ9_min_7cf53, qJ9_min_7cf53)), (91, (2, 1, 0, pJ9_max_7cf53, qJ9_max_7cf53))])) (f_cnl_of (P := fun j S => f_cok pP l eP (f_rm 12) sP mP aP bP hP9 cP xY 80 a cy dC dI 12 _ _ (.invokevirtual j) true S) (List.forall_mem_cons.mpr ⟨f_cokV C (mX1_tagAt hinj) (ci := 1) rfl (List.forall_mem_cons.mpr ⟨(mlX3_ok _ (List.mem_of_getElem? (i := 7) rfl)), kc_X1_tagAt⟩) (by decide +kernel) ⟨Nat.le_of_ble_eq_true rfl, Nat.le_of_ble_eq_true rfl⟩, List.forall_mem_cons.mpr ⟨f_cokV C (mX3_open hinj) (ci := 3) rfl (List.forall_mem_cons.mpr ⟨(mlX3_ok _ (List.mem_of_getElem? (i := 2) rfl)), kc_X3_open⟩) (by decide +kernel) ⟨Nat.le_of_ble_eq_true rfl, Nat.le_of_ble_eq_true rfl⟩, fun _ h => absurd h List.not_mem_nil⟩⟩)) (f_cnl_of (P := fun j S => f_cok pP l eP (f_rm 12) sP mP aP bP hP9 cP xY 80 a cy dC dI 12 _ _ (.invokestatic j) false S) (List.forall_mem_cons.mpr ⟨f_cokS C (mX3_firstSlot hinj) (List.forall_mem_cons.mpr ⟨(mlX3_ok _ (List.mem_of_getElem? (i := 6) rfl)), kc_X3_firstSlot⟩) (by decide +kernel) ⟨Nat.le_of_ble_eq_true rfl, Nat.le_of_ble_eq_true rfl⟩, List.forall_mem_cons.mpr ⟨f_cokS C (mX3_givenOf hinj) (List.forall_mem_cons.mpr ⟨(mlX3_ok _ (List.mem_of_getElem? (i := 8) rfl)), kc_X3_givenOf⟩) (by decide +kernel) ⟨Nat.le_of_ble_eq_true rfl, Nat.le_of_ble_eq_true rfl⟩, List.forall_mem_cons.mpr ⟨f_cokMin C (mlX3_ok _ (List.mem_of_getElem? (i := 4) rfl)) ⟨Nat.le_of_ble_eq_true rfl, Nat.le_of_ble_eq_true rfl⟩, List.forall_mem_cons.mpr ⟨f_cokMax C (mlX3_ok _ (List.mem_of_getElem? (i := 9) rfl)) ⟨Nat.le_of_ble_eq_true rfl, Nat.le_of_ble_eq_true rfl⟩, fun _ h => absurd h List.not_mem_nil⟩⟩⟩⟩)) tX3_openWord_ok (cut := (f_cnl [(20, (fun (ls' : fLs) (st' : List Value) (I' : fM) (L' : fN) => ∃ f : Int32, ∃ i : Int32, (∀ q ∈ ([(4, .int i), (3, .int f), (2, .int w), (1, .ref 10), (0, .ref 15)] : fLs), q ∈ ls') ∧ st' = [] ∧ (xR I' ∧ f_fr [16, 20, 21, 22, 23, 24] I I' ∧ f_fr [17, 18, 19] L L' ∧ xO I' ∧ (f.toInt = 3 * w.toInt) ∧ (0 ≤ i.toInt) ∧ (i.toInt ≤ (I 13 w.toInt.toNat).toInt) ∧ (I' 24 w.toInt.toNat = I 13 w.toInt.toNat) ∧ ((I 13 w.toInt.toNat).toInt - i.toInt) < 4)))])) (f_cnl_of (P := fun (tQ : Nat) (P : fLs → List Value → fM → fN → Prop) => ∀ ls' st' I' L', P ls' st' I' L' → f_W pP l eP (f_rm 12) sP mP aP bP hP9 cP xY 80 a cy dC dI 12 (f_K 0 (qX3_openWord [.ref 15, .ref 10, .int w] I L)) tQ ls' st' I' L') (List.forall_mem_cons.mpr ⟨(fun ls' st' I' L' h => by obtain ⟨f, i, hs, e1, h9⟩ := h; rw [e1]; exact f_W_sub hs (lp20 4 f i I' L' h9)), fun _ h => absurd h List.not_mem_nil⟩)) 16 0 tX3_openWord tX3_openWord_ok _ _ _ _ ?_
      refine And.intro ⟨(show 0 ≤ w.toInt from by first | assumption | omega), (show w.toInt ≤ 11 from by first | assumption | omega)⟩ ?_
      intro x1 I1 L1 hq1
      have hq1 : I1 = I ∧ L1 = L ∧ x1.toInt = 3 * w.toInt := hq1
      obtain ⟨eI1, eL1, c1_2⟩ := hq1
      replace eI1 := eI1.symm
      subst eI1
      replace eL1 := eL1.symm
      subst eL1
      refine And.intro (show f_in w 12 from ⟨show 0 ≤ w.toInt from by omega, show w.toInt < 12 from by omega⟩) ?_
      have r15_1 : 0 ≤ (I 13 (w.toInt.toNat)).toInt ∧ (I 13 (w.toInt.toNat)).toInt ≤ 3 := hR 13 (w.toInt.toNat)
      refine And.intro (show f_in w 12 from ⟨show 0 ≤ w.toInt from by omega, show w.toInt < 12 from by omega⟩) ?_
      have hR16 := xR_a (k := 24) (j := w.toInt.toNat) (x := I 13 (w.toInt.toNat)) hR (show 0 ≤ (I 13 (w.toInt.toNat)).toInt ∧ (I 13 (w.toInt.toNat)).toInt ≤ 3 from ⟨by omega, by omega⟩)
      have hF16 := f_fr_up (k := 24) (r := upd (I 24) (w.toInt.toNat) (I 13 (w.toInt.toNat))) hF0 rfl
      have hxO16 := f_dep_up xO_dep (k := 24) (r := upd (I 24) (w.toInt.toNat) (I 13 (w.toInt.toNat))) hxO rfl
      have q17 : upd (I 24) w.toInt.toNat (I 13 w.toInt.toNat) w.toInt.toNat = I 13 w.toInt.toNat := by rw [pk_us]
      exact ⟨x1, Int32.ofInt 0, (by intro q9 h9; simp only [List.mem_cons, List.not_mem_nil, or_false] at h9; rcases h9 with h9 | h9 | h9 | h9 | h9 <;> subst h9 <;> repeat (first | exact List.mem_cons_self | apply List.mem_cons_of_mem)), rfl, hR16, hF16, hG0, hxO16, (show x1.toInt = 3 * w.toInt from by first | assumption | omega | rfl), (show 0 ≤ (0 : Int) from by first | assumption | omega), (show (0 : Int) ≤ (I 13 w.toInt.toNat).toInt from by first | assumption | omega), (show (upd (I 24) (w.toInt.toNat) (I 13 (w.toInt.toNat))) w.toInt.toNat = I 13 w.toInt.toNat from by first | assumption | omega | rfl), (show ((I 13 w.toInt.toNat).toInt - (0 : Int)) < 4 from by omega)⟩
    -- pat [.ref 15, .ref k, .int w]
def tX3_openAll : List (Instr × Nat) := [(.aload_n 0, 1), (.aload_n 1, 1), (.getfield 42, 3), (.putfield 46, 3), (.aload_n 0, 1), (.aload_n 1, 1), (.getfield 47, 3), (.putfield 50, 3), (.iconst 0, 1), (.istore_n 2, 1), (.iload_n 2, 1), (.aload_n 0, 1), (.getfield 50, 3), (.if_icmp .ge 15, 3), (.aload_n 0, 1), (.aload_n 1, 1), (.iload_n 2, 1), (.invokevirtual 51, 3), (.iinc 2 1, 3), (.goto (-17), 3), (.iconst 0, 1), (.istore_n 2, 1), (.iload_n 2, 1), (.aload_n 0, 1), (.getfield 46, 3), (.if_icmp .ge 22, 3), (.aload_n 0, 1), (.bipush 37, 2), (.iload_n 2, 1), (.iadd, 1), (.iload_n 2, 1), (.invokestatic 55, 3), (.iconst 1, 1), (.invokevirtual 61, 3), (.iinc 2 1, 3), (.goto (-24), 3), (.aload_n 0, 1), (.getfield 13, 3), (.bipush 36, 2), (.iconst 0, 1), (.iastore, 1), (.aload_n 0, 1), (.getfield 46, 3), (.ifCond .le 29, 3), (.aload_n 0, 1), (.bipush 36, 2), (.aload_n 1, 1), (.getfield 65, 3), (.iconst (-1), 1), (.if_icmp .ne 10, 3), (.iconst 0, 1), (.invokestatic 55, 3), (.goto 7, 3), (.aload_n 1, 1), (.getfield 65, 3), (.iconst 1, 1), (.invokevirtual 61, 3), (.iconst 1, 1), (.aload_n 0, 1), (.getfield 46, 3), (.invokestatic 68, 3), (.bipush 10, 2), (.invokestatic 72, 3), (.istore_n 2, 1), (.iconst 0, 1), (.istore_n 3, 1), (.iload_n 3, 1), (.iload_n 2, 1), (.if_icmp .ge 26, 3), (.aload_n 0, 1), (.bipush 43, 2), (.iload_n 3, 1), (.iadd, 1), (.iload_n 3, 1), (.aload_n 0, 1), (.getfield 46, 3), (.invokestatic 77, 3), (.iconst 0, 1), (.invokevirtual 61, 3), (.iinc 3 1, 3), (.goto (-25), 3), (.return_, 1)]
theorem tX3_openAll_ok : f_chk cX3_openAll 0 tX3_openAll = true := by decide +kernel
def pX3_openAll (av : List Value) (I : fM) (L : fN) : Prop := match av with
  | [.ref 15, .ref k] => (k = 5 ∨ k = 10) ∧ xR I ∧ xO I ∧ xG k I
  | _ => False
def qX3_openAll (av : List Value) (I : fM) (L : fN) (r : Value) (I' : fM) (L' : fN) : Prop := match av, r with
  | [.ref 15, .ref k], .null => xR I' ∧ xO I' ∧ f_fr [15, 16, 20, 21, 22, 23, 24] I I' ∧ f_fr [17, 18, 19] L L'
  | _, _ => False
set_option maxHeartbeats 4000000 in
set_option maxRecDepth 100000 in
theorem mX3_openAll {l : Launch} {a : Nat → Nat} {cy dC : Nat → ClassId} {dI : Nat → Nat → Nat} (hinj : ∀ i j, i < 80 → j < 80 → a i = a j → i = j) : f_Met (xE a) l xY 80 a cy dC dI yX3_openAll cX3_openAll 4 0 13 pX3_openAll qX3_openAll := by
  refine f_met_of (xE_c a) hinj xY_hi (by decide) (fun av I L h => by unfold pX3_openAll at h; split at h <;> first | exact Nat.le_of_ble_eq_true rfl | exact h.elim) ?_
  intro pP eP sP mP aP bP hP9 cP C av I L hp
  unfold pX3_openAll at hp
  split at hp
  case h_2 => exact hp.elim
  case h_1 k =>
    obtain ⟨p0, hR, hxO, p3⟩ := hp
    rcases p0 with rfl | rfl
    -- pat [.ref 15, .ref 5]
    · skip
      have hR : xR I := hR
      have hxO : xO I := hxO
      have p3 : xG 5 I := p3
      have hw12 : 0 ≤ (I 5 5).toInt ∧ (I 5 5).toInt ≤ 12 := hR 5 5
      have hk5 : 0 ≤ (I 5 4).toInt ∧ (I 5 4).toInt ≤ 5 := hR 5 4
      have hkk : 0 ≤ (I 5 4).toInt * (I 5 4).toInt := Int.mul_nonneg hk5.1 hk5.1
      have hkkk : 0 ≤ (I 5 4).toInt * (I 5 4).toInt * (I 5 4).toInt := Int.mul_nonneg hkk hk5.1
      have hF0 : f_fr [15, 16, 20, 21, 22, 23, 24] I I := f_fr_rf
      have hG0 : f_fr [17, 18, 19] L L := f_fr_rf
      have lp124 : ∀ (n124 : Nat), ∀ (m : Int32) (i : Int32) (J124 : fM) (M124 : fN), xR J124 ∧ f_fr [15, 16, 20, 21, 22, 23, 24] I J124 ∧ f_fr [17, 18, 19] L M124 ∧ xO J124 ∧ (0 ≤ i.toInt) ∧ (i.toInt ≤ m.toInt) ∧ (m.toInt ≤ 10) ∧ (m.toInt ≤ 0 ∨ 1 ≤ (I 5 4).toInt) ∧ (m.toInt ≤ (I 5 4).toInt + 2 * ((I 5 4).toInt * (I 5 4).toInt)) ∧ ((J124 15 9).toInt = (I 5 4).toInt) ∧ (m.toInt - i.toInt) < n124 → f_W pP l eP (f_rm 13) sP mP aP bP hP9 cP xY 80 a cy dC dI 4 (f_K 0 (qX3_openAll [.ref 15, .ref 5] I L)) 124 [(3, .int i), (2, .int m), (1, .ref 5), (0, .ref 15)] [] J124 M124 := by
        intro n124
        induction n124 with
        | zero =>
          intro m i J124 M124 h9
          obtain ⟨hR124c, hF124c, hG124c, hxO124c, u124_1, u124_2, u124_3, u124_4, u124_5, u124_6, hm124⟩ := h9
          omega
        | succ n124 ih124 =>
          intro m i J124 M124 h9
          obtain ⟨hR124c, hF124c, hG124c, hxO124c, u124_1, u124_2, u124_3, u124_4, u124_5, u124_6, hm124⟩ := h9
          refine f_wp_ok C f_cl flX3_ok fiX3_ok fjX3_ok (sn := none) (fun j h => by cases h) (cs := (f_cnl [(51, (3, 0, 3, pX3_openWord, qX3_openWord)), (61, (4, 0, 3, pX3_open, qX3_open))])) (cz := (f_cnl [(55, (1, 1, 0, pX8_ofKind, qX8_ofKind)), (68, (2, 1, 0, pX8_howMany, qX8_howMany)), (72, (2, 1, 0, pJ9_min_7cf53, qJ9_min_7cf53)), (77, (2, 1, 0, pX8_ofNumber, qX8_ofNumber))])) (f_cnl_of (P := fun j S => f_cok pP l eP (f_rm 13) sP mP aP bP hP9 cP xY 80 a cy dC dI 4 _ _ (.invokevirtual j) true S) (List.forall_mem_cons.mpr ⟨f_cokV C (mX3_openWord hinj) (ci := 3) rfl (List.forall_mem_cons.mpr ⟨(mlX3_ok _ (List.mem_of_getElem? (i := 0) rfl)), kc_X3_openWord⟩) (by decide +kernel) ⟨Nat.le_of_ble_eq_true rfl, Nat.le_of_ble_eq_true rfl⟩, List.forall_mem_cons.mpr ⟨f_cokV C (mX3_open hinj) (ci := 3) rfl (List.forall_mem_cons.mpr ⟨(mlX3_ok _ (List.mem_of_getElem? (i := 2) rfl)), kc_X3_open⟩) (by decide +kernel) ⟨Nat.le_of_ble_eq_true rfl, Nat.le_of_ble_eq_true rfl⟩, fun _ h => absurd h List.not_mem_nil⟩⟩)) (f_cnl_of (P := fun j S => f_cok pP l eP (f_rm 13) sP mP aP bP hP9 cP xY 80 a cy dC dI 4 _ _ (.invokestatic j) false S) (List.forall_mem_cons.mpr ⟨f_cokS C (mX8_ofKind hinj) (List.forall_mem_cons.mpr ⟨(mlX3_ok _ (List.mem_of_getElem? (i := 1) rfl)), kc_X8_ofKind⟩) (by decide +kernel) ⟨Nat.le_of_ble_eq_true rfl, Nat.le_of_ble_eq_true rfl⟩, List.forall_mem_cons.mpr ⟨f_cokS C (mX8_howMany hinj) (List.forall_mem_cons.mpr ⟨(mlX3_ok _ (List.mem_of_getElem? (i := 3) rfl)), kc_X8_howMany⟩) (by decide +kernel) ⟨Nat.le_of_ble_eq_true rfl, Nat.le_of_ble_eq_true rfl⟩, List.forall_mem_cons.mpr ⟨f_cokMin C (mlX3_ok _ (List.mem_of_getElem? (i := 4) rfl)) ⟨Nat.le_of_ble_eq_true rfl, Nat.le_of_ble_eq_true rfl⟩, List.forall_mem_cons.mpr ⟨f_cokS C (mX8_ofNumber hinj) (List.forall_mem_cons.mpr ⟨(mlX3_ok _ (List.mem_of_getElem? (i := 5) rfl)), kc_X8_ofNumber⟩) (by decide +kernel) ⟨Nat.le_of_ble_eq_true rfl, Nat.le_of_ble_eq_true rfl⟩, fun _ h => absurd h List.not_mem_nil⟩⟩⟩⟩)) tX3_openAll_ok (cut := (f_cnl [(124, (fun (ls' : fLs) (st' : List Value) (I' : fM) (L' : fN) => ∃ m : Int32, ∃ i : Int32, (∀ q ∈ ([(3, .int i), (2, .int m), (1, .ref 5), (0, .ref 15)] : fLs), q ∈ ls') ∧ st' = [] ∧ (xR I' ∧ f_fr [15, 16, 20, 21, 22, 23, 24] I I' ∧ f_fr [17, 18, 19] L L' ∧ xO I' ∧ (0 ≤ i.toInt) ∧ (i.toInt ≤ m.toInt) ∧ (m.toInt ≤ 10) ∧ (m.toInt ≤ 0 ∨ 1 ≤ (I 5 4).toInt) ∧ (m.toInt ≤ (I 5 4).toInt + 2 * ((I 5 4).toInt * (I 5 4).toInt)) ∧ ((I' 15 9).toInt = (I 5 4).toInt) ∧ (m.toInt - i.toInt) < n124)))])) (f_cnl_of (P := fun (tQ : Nat) (P : fLs → List Value → fM → fN → Prop) => ∀ ls' st' I' L', P ls' st' I' L' → f_W pP l eP (f_rm 13) sP mP aP bP hP9 cP xY 80 a cy dC dI 4 (f_K 0 (qX3_openAll [.ref 15, .ref 5] I L)) tQ ls' st' I' L') (List.forall_mem_cons.mpr ⟨(fun ls' st' I' L' h => by obtain ⟨m, i, hs, e1, h9⟩ := h; rw [e1]; exact f_W_sub hs (ih124 m i I' L' h9)), fun _ h => absurd h List.not_mem_nil⟩)) 18 124 (f_seek 124 0 tX3_openAll) (f_seek_ok 124 0 tX3_openAll tX3_openAll_ok) _ _ _ _ ?_
          apply And.intro
          · intro h126
            have h126 : m.toInt ≤ i.toInt := h126
            exact ⟨hR124c, hxO124c, hF124c, hG124c⟩
          · intro h126
            have h126 : i.toInt < m.toInt := h126
            intro z133 q133 _ hq133 hl133 hu133
            have hq133 : z133.toInt = 43 + i.toInt + 4294967296 * q133 := hq133
            try have hz133 : z133.toInt = 43 + i.toInt := by omega
            have r136_1 : 0 ≤ (J124 15 9).toInt ∧ (J124 15 9).toInt ≤ 5 := hR124c 15 9
            refine And.intro ⟨(show 1 ≤ (J124 15 9).toInt from by first | assumption | omega), (show (J124 15 9).toInt ≤ 5 from by first | assumption | omega), (show 0 ≤ i.toInt from by first | assumption | omega), (show i.toInt < (J124 15 9).toInt + 2 * ((J124 15 9).toInt * (J124 15 9).toInt) + 8 * ((J124 15 9).toInt * (J124 15 9).toInt * (J124 15 9).toInt) from by rw [u124_6]; omega)⟩ ?_
            intro x139 I139 L139 hq139
            have hq139 : I139 = J124 ∧ L139 = M124 ∧ (∃ m, m ≤ 5 ∧ wfT x139 m) := hq139
            obtain ⟨eI139, eL139, c139_2⟩ := hq139
            replace eI139 := eI139.symm
            subst eI139
            replace eL139 := eL139.symm
            subst eL139
            refine And.intro ⟨hR124c, hxO124c, (show 0 ≤ z133.toInt from by first | assumption | omega), (show z133.toInt ≤ 52 from by first | assumption | omega), (c139_2.imp fun _ q => q.2)⟩ ?_
            intro I143 L143 hq143
            have hq143 : xR I143 ∧ xO I143 ∧ f_fr [16, 20, 21, 22, 23] J124 I143 ∧ f_fr [17, 18, 19] M124 L143 := hq143
            obtain ⟨c143_0, c143_1, c143_2, c143_3⟩ := hq143
            have hF143 := f_fr_tr hF124c c143_2 rfl
            have hG143 := f_fr_tr hG124c c143_3 rfl
            intro z146 q146 _ hq146 hl146 hu146
            have hq146 : z146.toInt = i.toInt + 1 + 4294967296 * q146 := hq146
            try have hz146 : z146.toInt = i.toInt + 1 := by omega
            have r124_2 : 0 ≤ (I143 15 9).toInt ∧ (I143 15 9).toInt ≤ 5 := c143_0 15 9
            have e124_3 : (I143 15 9).toInt = (J124 15 9).toInt := congrArg Int32.toInt (congrFun (c143_2 15 rfl) 9)
            exact ⟨m, z146, (by intro q9 h9; simp only [List.mem_cons, List.not_mem_nil, or_false] at h9; rcases h9 with h9 | h9 | h9 | h9 <;> subst h9 <;> repeat (first | exact List.mem_cons_self | apply List.mem_cons_of_mem)), rfl, c143_0, hF143, hG143, c143_1, (show 0 ≤ z146.toInt from by first | assumption | omega), (show z146.toInt ≤ m.toInt from by first | assumption | omega), (show m.toInt ≤ 10 from by first | assumption | omega), (show m.toInt ≤ 0 ∨ 1 ≤ (I 5 4).toInt from by first | assumption | omega), (show m.toInt ≤ (I 5 4).toInt + 2 * ((I 5 4).toInt * (I 5 4).toInt) from by first | assumption | omega), (show (I143 15 9).toInt = (I 5 4).toInt from by first | assumption | omega | rfl), (show (m.toInt - z146.toInt) < n124 from by omega)⟩
      have lp108 : ∀ (J108 : fM) (M108 : fN), xR J108 ∧ f_fr [15, 16, 20, 21, 22, 23, 24] I J108 ∧ f_fr [17, 18, 19] L M108 ∧ xO J108 ∧ ((J108 15 9).toInt = (I 5 4).toInt) → f_W pP l eP (f_rm 13) sP mP aP bP hP9 cP xY 80 a cy dC dI 4 (f_K 0 (qX3_openAll [.ref 15, .ref 5] I L)) 108 [(1, .ref 5), (0, .ref 15)] [] J108 M108 := by
        intro J108 M108 h9
        obtain ⟨hR108c, hF108c, hG108c, hxO108c, u108_1⟩ := h9
        refine f_wp_ok C f_cl flX3_ok fiX3_ok fjX3_ok (sn := none) (fun j h => by cases h) (cs := (f_cnl [(51, (3, 0, 3, pX3_openWord, qX3_openWord)), (61, (4, 0, 3, pX3_open, qX3_open))])) (cz := (f_cnl [(55, (1, 1, 0, pX8_ofKind, qX8_ofKind)), (68, (2, 1, 0, pX8_howMany, qX8_howMany)), (72, (2, 1, 0, pJ9_min_7cf53, qJ9_min_7cf53)), (77, (2, 1, 0, pX8_ofNumber, qX8_ofNumber))])) (f_cnl_of (P := fun j S => f_cok pP l eP (f_rm 13) sP mP aP bP hP9 cP xY 80 a cy dC dI 4 _ _ (.invokevirtual j) true S) (List.forall_mem_cons.mpr ⟨f_cokV C (mX3_openWord hinj) (ci := 3) rfl (List.forall_mem_cons.mpr ⟨(mlX3_ok _ (List.mem_of_getElem? (i := 0) rfl)), kc_X3_openWord⟩) (by decide +kernel) ⟨Nat.le_of_ble_eq_true rfl, Nat.le_of_ble_eq_true rfl⟩, List.forall_mem_cons.mpr ⟨f_cokV C (mX3_open hinj) (ci := 3) rfl (List.forall_mem_cons.mpr ⟨(mlX3_ok _ (List.mem_of_getElem? (i := 2) rfl)), kc_X3_open⟩) (by decide +kernel) ⟨Nat.le_of_ble_eq_true rfl, Nat.le_of_ble_eq_true rfl⟩, fun _ h => absurd h List.not_mem_nil⟩⟩)) (f_cnl_of (P := fun j S => f_cok pP l eP (f_rm 13) sP mP aP bP hP9 cP xY 80 a cy dC dI 4 _ _ (.invokestatic j) false S) (List.forall_mem_cons.mpr ⟨f_cokS C (mX8_ofKind hinj) (List.forall_mem_cons.mpr ⟨(mlX3_ok _ (List.mem_of_getElem? (i := 1) rfl)), kc_X8_ofKind⟩) (by decide +kernel) ⟨Nat.le_of_ble_eq_true rfl, Nat.le_of_ble_eq_true rfl⟩, List.forall_mem_cons.mpr ⟨f_cokS C (mX8_howMany hinj) (List.forall_mem_cons.mpr ⟨(mlX3_ok _ (List.mem_of_getElem? (i := 3) rfl)), kc_X8_howMany⟩) (by decide +kernel) ⟨Nat.le_of_ble_eq_true rfl, Nat.le_of_ble_eq_true rfl⟩, List.forall_mem_cons.mpr ⟨f_cokMin C (mlX3_ok _ (List.mem_of_getElem? (i := 4) rfl)) ⟨Nat.le_of_ble_eq_true rfl, Nat.le_of_ble_eq_true rfl⟩, List.forall_mem_cons.mpr ⟨f_cokS C (mX8_ofNumber hinj) (List.forall_mem_cons.mpr ⟨(mlX3_ok _ (List.mem_of_getElem? (i := 5) rfl)), kc_X8_ofNumber⟩) (by decide +kernel) ⟨Nat.le_of_ble_eq_true rfl, Nat.le_of_ble_eq_true rfl⟩, fun _ h => absurd h List.not_mem_nil⟩⟩⟩⟩)) tX3_openAll_ok (cut := (f_cnl [(124, (fun (ls' : fLs) (st' : List Value) (I' : fM) (L' : fN) => ∃ m : Int32, ∃ i : Int32, (∀ q ∈ ([(3, .int i), (2, .int m), (1, .ref 5), (0, .ref 15)] : fLs), q ∈ ls') ∧ st' = [] ∧ (xR I' ∧ f_fr [15, 16, 20, 21, 22, 23, 24] I I' ∧ f_fr [17, 18, 19] L L' ∧ xO I' ∧ (0 ≤ i.toInt) ∧ (i.toInt ≤ m.toInt) ∧ (m.toInt ≤ 10) ∧ (m.toInt ≤ 0 ∨ 1 ≤ (I 5 4).toInt) ∧ (m.toInt ≤ (I 5 4).toInt + 2 * ((I 5 4).toInt * (I 5 4).toInt)) ∧ ((I' 15 9).toInt = (I 5 4).toInt) ∧ (m.toInt - i.toInt) < 11)))])) (f_cnl_of (P := fun (tQ : Nat) (P : fLs → List Value → fM → fN → Prop) => ∀ ls' st' I' L', P ls' st' I' L' → f_W pP l eP (f_rm 13) sP mP aP bP hP9 cP xY 80 a cy dC dI 4 (f_K 0 (qX3_openAll [.ref 15, .ref 5] I L)) tQ ls' st' I' L') (List.forall_mem_cons.mpr ⟨(fun ls' st' I' L' h => by obtain ⟨m, i, hs, e1, h9⟩ := h; rw [e1]; exact f_W_sub hs (lp124 11 m i I' L' h9)), fun _ h => absurd h List.not_mem_nil⟩)) 12 108 (f_seek 108 0 tX3_openAll) (f_seek_ok 108 0 tX3_openAll tX3_openAll_ok) _ _ _ _ ?_
        have r110_1 : 0 ≤ (J108 15 9).toInt ∧ (J108 15 9).toInt ≤ 5 := hR108c 15 9
        refine And.intro ⟨(show 0 ≤ (J108 15 9).toInt from by first | assumption | omega), (show (J108 15 9).toInt ≤ 5 from by first | assumption | omega)⟩ ?_
        intro x113 I113 L113 hq113
        have hq113 : I113 = J108 ∧ L113 = M108 ∧ (((1 : Int) = 0 → x113.toInt = (J108 15 9).toInt)) ∧ (((1 : Int) = 1 → x113.toInt = (J108 15 9).toInt + 2 * ((J108 15 9).toInt * (J108 15 9).toInt))) ∧ ((¬ (1 : Int) = 0 → ¬ (1 : Int) = 1 → x113.toInt = (J108 15 9).toInt + 2 * ((J108 15 9).toInt * (J108 15 9).toInt) + 8 * ((J108 15 9).toInt * (J108 15 9).toInt * (J108 15 9).toInt))) := hq113
        obtain ⟨eI113, eL113, c113_2, c113_3, c113_4⟩ := hq113
        replace eI113 := eI113.symm
        subst eI113
        replace eL113 := eL113.symm
        subst eL113
        have h113 : x113.toInt = (I 5 4).toInt + 2 * ((I 5 4).toInt * (I 5 4).toInt) := by rw [c113_3 rfl, u108_1]
        refine And.intro trivial ?_
        intro x118 I118 L118 hq118
        have hq118 : I118 = J108 ∧ L118 = M108 ∧ ((x118 = x113 ∨ x118 = (Int32.ofInt 10))) ∧ x118.toInt ≤ x113.toInt ∧ x118.toInt ≤ (10 : Int) := hq118
        obtain ⟨eI118, eL118, c118_2, c118_3, c118_4⟩ := hq118
        replace eI118 := eI118.symm
        subst eI118
        replace eL118 := eL118.symm
        subst eL118
        have h118 : 0 ≤ x118.toInt := by rcases c118_2 with q | q <;> rw [q] <;> first | omega | decide
        have g118 : x118.toInt ≤ 0 ∨ 1 ≤ (I 5 4).toInt := by
          rcases Int.lt_or_le (I 5 4).toInt 1 with q | q
          · have e : (I 5 4).toInt = 0 := by omega
            rw [e] at h113
            omega
          · exact Or.inr q
        exact ⟨x118, Int32.ofInt 0, (by intro q9 h9; simp only [List.mem_cons, List.not_mem_nil, or_false] at h9; rcases h9 with h9 | h9 | h9 | h9 <;> subst h9 <;> repeat (first | exact List.mem_cons_self | apply List.mem_cons_of_mem)), rfl, hR108c, hF108c, hG108c, hxO108c, (show 0 ≤ (0 : Int) from by first | assumption | omega), (show (0 : Int) ≤ x118.toInt from by first | assumption | omega), (show x118.toInt ≤ 10 from by first | assumption | omega), (show x118.toInt ≤ 0 ∨ 1 ≤ (I 5 4).toInt from by first | assumption | omega), (show x118.toInt ≤ (I 5 4).toInt + 2 * ((I 5 4).toInt * (I 5 4).toInt) from by first | assumption | omega), (show (J108 15 9).toInt = (I 5 4).toInt from by first | assumption | omega | rfl), (show (x118.toInt - (0 : Int)) < 11 from by omega)⟩
      have lp40 : ∀ (n40 : Nat), ∀ (i : Int32) (J40 : fM) (M40 : fN), xR J40 ∧ f_fr [15, 16, 20, 21, 22, 23, 24] I J40 ∧ f_fr [17, 18, 19] L M40 ∧ xO J40 ∧ (0 ≤ i.toInt) ∧ (i.toInt ≤ (I 5 4).toInt) ∧ ((J40 15 9).toInt = (I 5 4).toInt) ∧ ((I 5 4).toInt - i.toInt) < n40 → f_W pP l eP (f_rm 13) sP mP aP bP hP9 cP xY 80 a cy dC dI 4 (f_K 0 (qX3_openAll [.ref 15, .ref 5] I L)) 40 [(2, .int i), (1, .ref 5), (0, .ref 15)] [] J40 M40 := by
        intro n40
        induction n40 with
        | zero =>
          intro i J40 M40 h9
          obtain ⟨hR40c, hF40c, hG40c, hxO40c, u40_1, u40_2, u40_3, hm40⟩ := h9
          omega
        | succ n40 ih40 =>
          intro i J40 M40 h9
          obtain ⟨hR40c, hF40c, hG40c, hxO40c, u40_1, u40_2, u40_3, hm40⟩ := h9
          refine f_wp_ok C f_cl flX3_ok fiX3_ok fjX3_ok (sn := none) (fun j h => by cases h) (cs := (f_cnl [(51, (3, 0, 3, pX3_openWord, qX3_openWord)), (61, (4, 0, 3, pX3_open, qX3_open))])) (cz := (f_cnl [(55, (1, 1, 0, pX8_ofKind, qX8_ofKind)), (68, (2, 1, 0, pX8_howMany, qX8_howMany)), (72, (2, 1, 0, pJ9_min_7cf53, qJ9_min_7cf53)), (77, (2, 1, 0, pX8_ofNumber, qX8_ofNumber))])) (f_cnl_of (P := fun j S => f_cok pP l eP (f_rm 13) sP mP aP bP hP9 cP xY 80 a cy dC dI 4 _ _ (.invokevirtual j) true S) (List.forall_mem_cons.mpr ⟨f_cokV C (mX3_openWord hinj) (ci := 3) rfl (List.forall_mem_cons.mpr ⟨(mlX3_ok _ (List.mem_of_getElem? (i := 0) rfl)), kc_X3_openWord⟩) (by decide +kernel) ⟨Nat.le_of_ble_eq_true rfl, Nat.le_of_ble_eq_true rfl⟩, List.forall_mem_cons.mpr ⟨f_cokV C (mX3_open hinj) (ci := 3) rfl (List.forall_mem_cons.mpr ⟨(mlX3_ok _ (List.mem_of_getElem? (i := 2) rfl)), kc_X3_open⟩) (by decide +kernel) ⟨Nat.le_of_ble_eq_true rfl, Nat.le_of_ble_eq_true rfl⟩, fun _ h => absurd h List.not_mem_nil⟩⟩)) (f_cnl_of (P := fun j S => f_cok pP l eP (f_rm 13) sP mP aP bP hP9 cP xY 80 a cy dC dI 4 _ _ (.invokestatic j) false S) (List.forall_mem_cons.mpr ⟨f_cokS C (mX8_ofKind hinj) (List.forall_mem_cons.mpr ⟨(mlX3_ok _ (List.mem_of_getElem? (i := 1) rfl)), kc_X8_ofKind⟩) (by decide +kernel) ⟨Nat.le_of_ble_eq_true rfl, Nat.le_of_ble_eq_true rfl⟩, List.forall_mem_cons.mpr ⟨f_cokS C (mX8_howMany hinj) (List.forall_mem_cons.mpr ⟨(mlX3_ok _ (List.mem_of_getElem? (i := 3) rfl)), kc_X8_howMany⟩) (by decide +kernel) ⟨Nat.le_of_ble_eq_true rfl, Nat.le_of_ble_eq_true rfl⟩, List.forall_mem_cons.mpr ⟨f_cokMin C (mlX3_ok _ (List.mem_of_getElem? (i := 4) rfl)) ⟨Nat.le_of_ble_eq_true rfl, Nat.le_of_ble_eq_true rfl⟩, List.forall_mem_cons.mpr ⟨f_cokS C (mX8_ofNumber hinj) (List.forall_mem_cons.mpr ⟨(mlX3_ok _ (List.mem_of_getElem? (i := 5) rfl)), kc_X8_ofNumber⟩) (by decide +kernel) ⟨Nat.le_of_ble_eq_true rfl, Nat.le_of_ble_eq_true rfl⟩, fun _ h => absurd h List.not_mem_nil⟩⟩⟩⟩)) tX3_openAll_ok (cut := (f_cnl [(40, (fun (ls' : fLs) (st' : List Value) (I' : fM) (L' : fN) => ∃ i : Int32, (∀ q ∈ ([(2, .int i), (1, .ref 5), (0, .ref 15)] : fLs), q ∈ ls') ∧ st' = [] ∧ (xR I' ∧ f_fr [15, 16, 20, 21, 22, 23, 24] I I' ∧ f_fr [17, 18, 19] L L' ∧ xO I' ∧ (0 ≤ i.toInt) ∧ (i.toInt ≤ (I 5 4).toInt) ∧ ((I' 15 9).toInt = (I 5 4).toInt) ∧ ((I 5 4).toInt - i.toInt) < n40))), (108, (fun (ls' : fLs) (st' : List Value) (I' : fM) (L' : fN) => (∀ q ∈ ([(1, .ref 5), (0, .ref 15)] : fLs), q ∈ ls') ∧ st' = [] ∧ (xR I' ∧ f_fr [15, 16, 20, 21, 22, 23, 24] I I' ∧ f_fr [17, 18, 19] L L' ∧ xO I' ∧ ((I' 15 9).toInt = (I 5 4).toInt))))])) (f_cnl_of (P := fun (tQ : Nat) (P : fLs → List Value → fM → fN → Prop) => ∀ ls' st' I' L', P ls' st' I' L' → f_W pP l eP (f_rm 13) sP mP aP bP hP9 cP xY 80 a cy dC dI 4 (f_K 0 (qX3_openAll [.ref 15, .ref 5] I L)) tQ ls' st' I' L') (List.forall_mem_cons.mpr ⟨(fun ls' st' I' L' h => by obtain ⟨i, hs, e1, h9⟩ := h; rw [e1]; exact f_W_sub hs (ih40 i I' L' h9)), List.forall_mem_cons.mpr ⟨(fun ls' st' I' L' h => by obtain ⟨hs, e1, h9⟩ := h; rw [e1]; exact f_W_sub hs (lp108  I' L' h9)), fun _ h => absurd h List.not_mem_nil⟩⟩)) 26 40 (f_seek 40 0 tX3_openAll) (f_seek_ok 40 0 tX3_openAll tX3_openAll_ok) _ _ _ _ ?_
          have r42_1 : 0 ≤ (J40 15 9).toInt ∧ (J40 15 9).toInt ≤ 5 := hR40c 15 9
          apply And.intro
          · intro h45
            have h45 : (J40 15 9).toInt ≤ i.toInt := h45
            refine And.intro (show f_in (Int32.ofInt 36) 53 from ⟨show 0 ≤ 36 from by omega, show 36 < 53 from by omega⟩) ?_
            have hR74 := xR_a (k := 16) (j := (Int32.ofInt 36).toInt.toNat) (x := Int32.ofInt 0) hR40c (show 0 ≤ 0 ∧ 0 ≤ 4 from ⟨by omega, by omega⟩)
            have hF74 := f_fr_up (k := 16) (r := upd (J40 16) ((Int32.ofInt 36).toInt.toNat) (Int32.ofInt 0)) hF40c rfl
            have hxO74 : xO (va_up J40 16 (upd (J40 16) ((Int32.ofInt 36).toInt.toNat) (Int32.ofInt 0))) := xO_z hxO40c rfl
            apply And.intro
            · intro h79
              have h79 : (J40 15 9).toInt ≤ 0 := h79
              exact ⟨(by intro q9 h9; simp only [List.mem_cons, List.not_mem_nil, or_false] at h9; rcases h9 with h9 | h9 <;> subst h9 <;> repeat (first | exact List.mem_cons_self | apply List.mem_cons_of_mem)), rfl, hR74, hF74, hG40c, hxO74, (show (J40 15 9).toInt = (I 5 4).toInt from by first | assumption | omega | rfl)⟩
            · intro h79
              have h79 : 0 < (J40 15 9).toInt := h79
              have e86_3 : (J40 5 6).toInt = (I 5 6).toInt := congrArg Int32.toInt (congrFun (hF40c 5 rfl) 6)
              apply And.intro
              · intro h90
                have h90 : ¬ (J40 5 6).toInt = (-1) := h90
                have g100 : ∃ n, wfT (J40 5 6) n := by have q := p3.2; rw [← hF40c 5 rfl] at q; exact q.resolve_left h90
                refine And.intro ⟨hR74, hxO74, (show 0 ≤ (36 : Int) from by first | assumption | omega), (show (36 : Int) ≤ 52 from by first | assumption | omega), (by first | exact ⟨1, c94_2⟩ | exact g100)⟩ ?_
                intro I105 L105 hq105
                have hq105 : xR I105 ∧ xO I105 ∧ f_fr [16, 20, 21, 22, 23] (va_up J40 16 (upd (J40 16) ((Int32.ofInt 36).toInt.toNat) (Int32.ofInt 0))) I105 ∧ f_fr [17, 18, 19] M40 L105 := hq105
                obtain ⟨c105_0, c105_1, c105_2, c105_3⟩ := hq105
                have hF105 := f_fr_tr hF74 c105_2 rfl
                have hG105 := f_fr_tr hG40c c105_3 rfl
                have r108_4 : 0 ≤ (I105 15 9).toInt ∧ (I105 15 9).toInt ≤ 5 := c105_0 15 9
                have e108_5 : (I105 15 9).toInt = (J40 15 9).toInt := congrArg Int32.toInt (congrFun (c105_2 15 rfl) 9)
                exact ⟨(by intro q9 h9; simp only [List.mem_cons, List.not_mem_nil, or_false] at h9; rcases h9 with h9 | h9 <;> subst h9 <;> repeat (first | exact List.mem_cons_self | apply List.mem_cons_of_mem)), rfl, c105_0, hF105, hG105, c105_1, (show (I105 15 9).toInt = (I 5 4).toInt from by first | assumption | omega | rfl)⟩
              · intro h90
                have h90 : (J40 5 6).toInt = (-1) := h90
                refine And.intro ⟨(show 0 ≤ (0 : Int) from by first | assumption | omega), (show (0 : Int) ≤ 4 from by first | assumption | omega)⟩ ?_
                intro x94 I94 L94 hq94
                have hq94 : I94 = (va_up J40 16 (upd (J40 16) ((Int32.ofInt 36).toInt.toNat) (Int32.ofInt 0))) ∧ L94 = M40 ∧ wfT x94 1 := hq94
                obtain ⟨eI94, eL94, c94_2⟩ := hq94
                replace eI94 := eI94.symm
                subst eI94
                replace eL94 := eL94.symm
                subst eL94
                refine And.intro ⟨hR74, hxO74, (show 0 ≤ (36 : Int) from by first | assumption | omega), (show (36 : Int) ≤ 52 from by first | assumption | omega), (by first | exact ⟨1, c94_2⟩ | exact g100)⟩ ?_
                intro I105 L105 hq105
                have hq105 : xR I105 ∧ xO I105 ∧ f_fr [16, 20, 21, 22, 23] (va_up J40 16 (upd (J40 16) ((Int32.ofInt 36).toInt.toNat) (Int32.ofInt 0))) I105 ∧ f_fr [17, 18, 19] M40 L105 := hq105
                obtain ⟨c105_0, c105_1, c105_2, c105_3⟩ := hq105
                have hF105 := f_fr_tr hF74 c105_2 rfl
                have hG105 := f_fr_tr hG40c c105_3 rfl
                have r108_4 : 0 ≤ (I105 15 9).toInt ∧ (I105 15 9).toInt ≤ 5 := c105_0 15 9
                have e108_5 : (I105 15 9).toInt = (J40 15 9).toInt := congrArg Int32.toInt (congrFun (c105_2 15 rfl) 9)
                exact ⟨(by intro q9 h9; simp only [List.mem_cons, List.not_mem_nil, or_false] at h9; rcases h9 with h9 | h9 <;> subst h9 <;> repeat (first | exact List.mem_cons_self | apply List.mem_cons_of_mem)), rfl, c105_0, hF105, hG105, c105_1, (show (I105 15 9).toInt = (I 5 4).toInt from by first | assumption | omega | rfl)⟩
          · intro h45
            have h45 : i.toInt < (J40 15 9).toInt := h45
            intro z52 q52 _ hq52 hl52 hu52
            have hq52 : z52.toInt = 37 + i.toInt + 4294967296 * q52 := hq52
            try have hz52 : z52.toInt = 37 + i.toInt := by omega
            refine And.intro ⟨(show 0 ≤ i.toInt from by first | assumption | omega), (show i.toInt ≤ 4 from by first | assumption | omega)⟩ ?_
            intro x54 I54 L54 hq54
            have hq54 : I54 = J40 ∧ L54 = M40 ∧ wfT x54 1 := hq54
            obtain ⟨eI54, eL54, c54_2⟩ := hq54
            replace eI54 := eI54.symm
            subst eI54
            replace eL54 := eL54.symm
            subst eL54
            refine And.intro ⟨hR40c, hxO40c, (show 0 ≤ z52.toInt from by first | assumption | omega), (show z52.toInt ≤ 52 from by first | assumption | omega), ⟨1, c54_2⟩⟩ ?_
            intro I58 L58 hq58
            have hq58 : xR I58 ∧ xO I58 ∧ f_fr [16, 20, 21, 22, 23] J40 I58 ∧ f_fr [17, 18, 19] M40 L58 := hq58
            obtain ⟨c58_0, c58_1, c58_2, c58_3⟩ := hq58
            have hF58 := f_fr_tr hF40c c58_2 rfl
            have hG58 := f_fr_tr hG40c c58_3 rfl
            intro z61 q61 _ hq61 hl61 hu61
            have hq61 : z61.toInt = i.toInt + 1 + 4294967296 * q61 := hq61
            try have hz61 : z61.toInt = i.toInt + 1 := by omega
            have r40_2 : 0 ≤ (I58 15 9).toInt ∧ (I58 15 9).toInt ≤ 5 := c58_0 15 9
            have e40_3 : (I58 15 9).toInt = (J40 15 9).toInt := congrArg Int32.toInt (congrFun (c58_2 15 rfl) 9)
            exact ⟨z61, (by intro q9 h9; simp only [List.mem_cons, List.not_mem_nil, or_false] at h9; rcases h9 with h9 | h9 | h9 <;> subst h9 <;> repeat (first | exact List.mem_cons_self | apply List.mem_cons_of_mem)), rfl, c58_0, hF58, hG58, c58_1, (show 0 ≤ z61.toInt from by first | assumption | omega), (show z61.toInt ≤ (I 5 4).toInt from by first | assumption | omega), (show (I58 15 9).toInt = (I 5 4).toInt from by first | assumption | omega | rfl), (show ((I 5 4).toInt - z61.toInt) < n40 from by omega)⟩
      have lp18 : ∀ (n18 : Nat), ∀ (i : Int32) (J18 : fM) (M18 : fN), xR J18 ∧ f_fr [15, 16, 20, 21, 22, 23, 24] I J18 ∧ f_fr [17, 18, 19] L M18 ∧ xO J18 ∧ (0 ≤ i.toInt) ∧ (i.toInt ≤ (I 5 5).toInt) ∧ ((J18 15 9).toInt = (I 5 4).toInt) ∧ ((J18 15 10).toInt = (I 5 5).toInt) ∧ ((I 5 5).toInt - i.toInt) < n18 → f_W pP l eP (f_rm 13) sP mP aP bP hP9 cP xY 80 a cy dC dI 4 (f_K 0 (qX3_openAll [.ref 15, .ref 5] I L)) 18 [(2, .int i), (1, .ref 5), (0, .ref 15)] [] J18 M18 := by
        intro n18
        induction n18 with
        | zero =>
          intro i J18 M18 h9
          obtain ⟨hR18c, hF18c, hG18c, hxO18c, u18_1, u18_2, u18_3, u18_4, hm18⟩ := h9
          omega
        | succ n18 ih18 =>
          intro i J18 M18 h9
          obtain ⟨hR18c, hF18c, hG18c, hxO18c, u18_1, u18_2, u18_3, u18_4, hm18⟩ := h9
          refine f_wp_ok C f_cl flX3_ok fiX3_ok fjX3_ok (sn := none) (fun j h => by cases h) (cs := (f_cnl [(51, (3, 0, 3, pX3_openWord, qX3_openWord)), (61, (4, 0, 3, pX3_open, qX3_open))])) (cz := (f_cnl [(55, (1, 1, 0, pX8_ofKind, qX8_ofKind)), (68, (2, 1, 0, pX8_howMany, qX8_howMany)), (72, (2, 1, 0, pJ9_min_7cf53, qJ9_min_7cf53)), (77, (2, 1, 0, pX8_ofNumber, qX8_ofNumber))])) (f_cnl_of (P := fun j S => f_cok pP l eP (f_rm 13) sP mP aP bP hP9 cP xY 80 a cy dC dI 4 _ _ (.invokevirtual j) true S) (List.forall_mem_cons.mpr ⟨f_cokV C (mX3_openWord hinj) (ci := 3) rfl (List.forall_mem_cons.mpr ⟨(mlX3_ok _ (List.mem_of_getElem? (i := 0) rfl)), kc_X3_openWord⟩) (by decide +kernel) ⟨Nat.le_of_ble_eq_true rfl, Nat.le_of_ble_eq_true rfl⟩, List.forall_mem_cons.mpr ⟨f_cokV C (mX3_open hinj) (ci := 3) rfl (List.forall_mem_cons.mpr ⟨(mlX3_ok _ (List.mem_of_getElem? (i := 2) rfl)), kc_X3_open⟩) (by decide +kernel) ⟨Nat.le_of_ble_eq_true rfl, Nat.le_of_ble_eq_true rfl⟩, fun _ h => absurd h List.not_mem_nil⟩⟩)) (f_cnl_of (P := fun j S => f_cok pP l eP (f_rm 13) sP mP aP bP hP9 cP xY 80 a cy dC dI 4 _ _ (.invokestatic j) false S) (List.forall_mem_cons.mpr ⟨f_cokS C (mX8_ofKind hinj) (List.forall_mem_cons.mpr ⟨(mlX3_ok _ (List.mem_of_getElem? (i := 1) rfl)), kc_X8_ofKind⟩) (by decide +kernel) ⟨Nat.le_of_ble_eq_true rfl, Nat.le_of_ble_eq_true rfl⟩, List.forall_mem_cons.mpr ⟨f_cokS C (mX8_howMany hinj) (List.forall_mem_cons.mpr ⟨(mlX3_ok _ (List.mem_of_getElem? (i := 3) rfl)), kc_X8_howMany⟩) (by decide +kernel) ⟨Nat.le_of_ble_eq_true rfl, Nat.le_of_ble_eq_true rfl⟩, List.forall_mem_cons.mpr ⟨f_cokMin C (mlX3_ok _ (List.mem_of_getElem? (i := 4) rfl)) ⟨Nat.le_of_ble_eq_true rfl, Nat.le_of_ble_eq_true rfl⟩, List.forall_mem_cons.mpr ⟨f_cokS C (mX8_ofNumber hinj) (List.forall_mem_cons.mpr ⟨(mlX3_ok _ (List.mem_of_getElem? (i := 5) rfl)), kc_X8_ofNumber⟩) (by decide +kernel) ⟨Nat.le_of_ble_eq_true rfl, Nat.le_of_ble_eq_true rfl⟩, fun _ h => absurd h List.not_mem_nil⟩⟩⟩⟩)) tX3_openAll_ok (cut := (f_cnl [(18, (fun (ls' : fLs) (st' : List Value) (I' : fM) (L' : fN) => ∃ i : Int32, (∀ q ∈ ([(2, .int i), (1, .ref 5), (0, .ref 15)] : fLs), q ∈ ls') ∧ st' = [] ∧ (xR I' ∧ f_fr [15, 16, 20, 21, 22, 23, 24] I I' ∧ f_fr [17, 18, 19] L L' ∧ xO I' ∧ (0 ≤ i.toInt) ∧ (i.toInt ≤ (I 5 5).toInt) ∧ ((I' 15 9).toInt = (I 5 4).toInt) ∧ ((I' 15 10).toInt = (I 5 5).toInt) ∧ ((I 5 5).toInt - i.toInt) < n18))), (40, (fun (ls' : fLs) (st' : List Value) (I' : fM) (L' : fN) => ∃ i : Int32, (∀ q ∈ ([(2, .int i), (1, .ref 5), (0, .ref 15)] : fLs), q ∈ ls') ∧ st' = [] ∧ (xR I' ∧ f_fr [15, 16, 20, 21, 22, 23, 24] I I' ∧ f_fr [17, 18, 19] L L' ∧ xO I' ∧ (0 ≤ i.toInt) ∧ (i.toInt ≤ (I 5 4).toInt) ∧ ((I' 15 9).toInt = (I 5 4).toInt) ∧ ((I 5 4).toInt - i.toInt) < 6)))])) (f_cnl_of (P := fun (tQ : Nat) (P : fLs → List Value → fM → fN → Prop) => ∀ ls' st' I' L', P ls' st' I' L' → f_W pP l eP (f_rm 13) sP mP aP bP hP9 cP xY 80 a cy dC dI 4 (f_K 0 (qX3_openAll [.ref 15, .ref 5] I L)) tQ ls' st' I' L') (List.forall_mem_cons.mpr ⟨(fun ls' st' I' L' h => by obtain ⟨i, hs, e1, h9⟩ := h; rw [e1]; exact f_W_sub hs (ih18 i I' L' h9)), List.forall_mem_cons.mpr ⟨(fun ls' st' I' L' h => by obtain ⟨i, hs, e1, h9⟩ := h; rw [e1]; exact f_W_sub hs (lp40 6 i I' L' h9)), fun _ h => absurd h List.not_mem_nil⟩⟩)) 13 18 (f_seek 18 0 tX3_openAll) (f_seek_ok 18 0 tX3_openAll tX3_openAll_ok) _ _ _ _ ?_
          have r20_1 : 0 ≤ (J18 15 10).toInt ∧ (J18 15 10).toInt ≤ 12 := hR18c 15 10
          apply And.intro
          · intro h23
            have h23 : (J18 15 10).toInt ≤ i.toInt := h23
            have r40_2 : 0 ≤ (J18 15 9).toInt ∧ (J18 15 9).toInt ≤ 5 := hR18c 15 9
            exact ⟨Int32.ofInt 0, (by intro q9 h9; simp only [List.mem_cons, List.not_mem_nil, or_false] at h9; rcases h9 with h9 | h9 | h9 <;> subst h9 <;> repeat (first | exact List.mem_cons_self | apply List.mem_cons_of_mem)), rfl, hR18c, hF18c, hG18c, hxO18c, (show 0 ≤ (0 : Int) from by first | assumption | omega), (show (0 : Int) ≤ (I 5 4).toInt from by first | assumption | omega), (show (J18 15 9).toInt = (I 5 4).toInt from by first | assumption | omega | rfl), (show ((I 5 4).toInt - (0 : Int)) < 6 from by omega)⟩
          · intro h23
            have h23 : i.toInt < (J18 15 10).toInt := h23
            have r29_2 : 0 ≤ (J18 5 5).toInt ∧ (J18 5 5).toInt ≤ 12 := hR18c 5 5
            have e29_3 : (J18 5 5).toInt = (I 5 5).toInt := congrArg Int32.toInt (congrFun (hF18c 5 rfl) 5)
            refine And.intro ⟨(by decide), hR18c, hxO18c, (xG_fr p3 hF18c rfl rfl rfl), (show 0 ≤ i.toInt from by first | assumption | omega), (show i.toInt < (J18 5 5).toInt from by first | assumption | omega)⟩ ?_
            intro I29 L29 hq29
            have hq29 : xR I29 ∧ xO I29 ∧ f_fr [16, 20, 21, 22, 23, 24] J18 I29 ∧ f_fr [17, 18, 19] M18 L29 := hq29
            obtain ⟨c29_0, c29_1, c29_2, c29_3⟩ := hq29
            have hF29 := f_fr_tr hF18c c29_2 rfl
            have hG29 := f_fr_tr hG18c c29_3 rfl
            intro z32 q32 _ hq32 hl32 hu32
            have hq32 : z32.toInt = i.toInt + 1 + 4294967296 * q32 := hq32
            try have hz32 : z32.toInt = i.toInt + 1 := by omega
            have r18_4 : 0 ≤ (I29 15 9).toInt ∧ (I29 15 9).toInt ≤ 5 := c29_0 15 9
            have e18_5 : (I29 15 9).toInt = (J18 15 9).toInt := congrArg Int32.toInt (congrFun (c29_2 15 rfl) 9)
            have r18_6 : 0 ≤ (I29 15 10).toInt ∧ (I29 15 10).toInt ≤ 12 := c29_0 15 10
            have e18_7 : (I29 15 10).toInt = (J18 15 10).toInt := congrArg Int32.toInt (congrFun (c29_2 15 rfl) 10)
            exact ⟨z32, (by intro q9 h9; simp only [List.mem_cons, List.not_mem_nil, or_false] at h9; rcases h9 with h9 | h9 | h9 <;> subst h9 <;> repeat (first | exact List.mem_cons_self | apply List.mem_cons_of_mem)), rfl, c29_0, hF29, hG29, c29_1, (show 0 ≤ z32.toInt from by first | assumption | omega), (show z32.toInt ≤ (I 5 5).toInt from by first | assumption | omega), (show (I29 15 9).toInt = (I 5 4).toInt from by first | assumption | omega | rfl), (show (I29 15 10).toInt = (I 5 5).toInt from by first | assumption | omega | rfl), (show ((I 5 5).toInt - z32.toInt) < n18 from by omega)⟩
      refine f_wp_ok C f_cl flX3_ok fiX3_ok fjX3_ok (sn := none) (fun j h => by cases h) (cs := (f_cnl [(51, (3, 0, 3, pX3_openWord, qX3_openWord)), (61, (4, 0, 3, pX3_open, qX3_open))])) (cz := (f_cnl [(55, (1, 1, 0, pX8_ofKind, qX8_ofKind)), (68, (2, 1, 0, pX8_howMany, qX8_howMany)), (72, (2, 1, 0, pJ9_min_7cf53, qJ9_min_7cf53)), (77, (2, 1, 0, pX8_ofNumber, qX8_ofNumber))])) (f_cnl_of (P := fun j S => f_cok pP l eP (f_rm 13) sP mP aP bP hP9 cP xY 80 a cy dC dI 4 _ _ (.invokevirtual j) true S) (List.forall_mem_cons.mpr ⟨f_cokV C (mX3_openWord hinj) (ci := 3) rfl (List.forall_mem_cons.mpr ⟨(mlX3_ok _ (List.mem_of_getElem? (i := 0) rfl)), kc_X3_openWord⟩) (by decide +kernel) ⟨Nat.le_of_ble_eq_true rfl, Nat.le_of_ble_eq_true rfl⟩, List.forall_mem_cons.mpr ⟨f_cokV C (mX3_open hinj) (ci := 3) rfl (List.forall_mem_cons.mpr ⟨(mlX3_ok _ (List.mem_of_getElem? (i := 2) rfl)), kc_X3_open⟩) (by decide +kernel) ⟨Nat.le_of_ble_eq_true rfl, Nat.le_of_ble_eq_true rfl⟩, fun _ h => absurd h List.not_mem_nil⟩⟩)) (f_cnl_of (P := fun j S => f_cok pP l eP (f_rm 13) sP mP aP bP hP9 cP xY 80 a cy dC dI 4 _ _ (.invokestatic j) false S) (List.forall_mem_cons.mpr ⟨f_cokS C (mX8_ofKind hinj) (List.forall_mem_cons.mpr ⟨(mlX3_ok _ (List.mem_of_getElem? (i := 1) rfl)), kc_X8_ofKind⟩) (by decide +kernel) ⟨Nat.le_of_ble_eq_true rfl, Nat.le_of_ble_eq_true rfl⟩, List.forall_mem_cons.mpr ⟨f_cokS C (mX8_howMany hinj) (List.forall_mem_cons.mpr ⟨(mlX3_ok _ (List.mem_of_getElem? (i := 3) rfl)), kc_X8_howMany⟩) (by decide +kernel) ⟨Nat.le_of_ble_eq_true rfl, Nat.le_of_ble_eq_true rfl⟩, List.forall_mem_cons.mpr ⟨f_cokMin C (mlX3_ok _ (List.mem_of_getElem? (i := 4) rfl)) ⟨Nat.le_of_ble_eq_true rfl, Nat.le_of_ble_eq_true rfl⟩, List.forall_mem_cons.mpr ⟨f_cokS C (mX8_ofNumber hinj) (List.forall_mem_cons.mpr ⟨(mlX3_ok _ (List.mem_of_getElem? (i := 5) rfl)), kc_X8_ofNumber⟩) (by decide +kernel) ⟨Nat.le_of_ble_eq_true rfl, Nat.le_of_ble_eq_true rfl⟩, fun _ h => absurd h List.not_mem_nil⟩⟩⟩⟩)) tX3_openAll_ok (cut := (f_cnl [(18, (fun (ls' : fLs) (st' : List Value) (I' : fM) (L' : fN) => ∃ i : Int32, (∀ q ∈ ([(2, .int i), (1, .ref 5), (0, .ref 15)] : fLs), q ∈ ls') ∧ st' = [] ∧ (xR I' ∧ f_fr [15, 16, 20, 21, 22, 23, 24] I I' ∧ f_fr [17, 18, 19] L L' ∧ xO I' ∧ (0 ≤ i.toInt) ∧ (i.toInt ≤ (I 5 5).toInt) ∧ ((I' 15 9).toInt = (I 5 4).toInt) ∧ ((I' 15 10).toInt = (I 5 5).toInt) ∧ ((I 5 5).toInt - i.toInt) < 13)))])) (f_cnl_of (P := fun (tQ : Nat) (P : fLs → List Value → fM → fN → Prop) => ∀ ls' st' I' L', P ls' st' I' L' → f_W pP l eP (f_rm 13) sP mP aP bP hP9 cP xY 80 a cy dC dI 4 (f_K 0 (qX3_openAll [.ref 15, .ref 5] I L)) tQ ls' st' I' L') (List.forall_mem_cons.mpr ⟨(fun ls' st' I' L' h => by obtain ⟨i, hs, e1, h9⟩ := h; rw [e1]; exact f_W_sub hs (lp18 13 i I' L' h9)), fun _ h => absurd h List.not_mem_nil⟩)) 13 0 tX3_openAll tX3_openAll_ok _ _ _ _ ?_
      have r2_1 : 0 ≤ (I 5 4).toInt ∧ (I 5 4).toInt ≤ 5 := hR 5 4
      have hR5 := xR_f (k := 15) (j := 9) (x := I 5 4) hR (show 0 ≤ (I 5 4).toInt ∧ (I 5 4).toInt ≤ 5 from ⟨by omega, by omega⟩)
      have hF5 := f_fr_up (k := 15) (r := va_up (I 15) 9 (I 5 4)) hF0 rfl
      have hxO5 := f_dep_up xO_dep (k := 15) (r := va_up (I 15) 9 (I 5 4)) hxO rfl
      have r10_2 : 0 ≤ (I 5 5).toInt ∧ (I 5 5).toInt ≤ 12 := hR5 5 5
      have hR13 := xR_f (k := 15) (j := 10) (x := I 5 5) hR5 (show 0 ≤ (I 5 5).toInt ∧ (I 5 5).toInt ≤ 12 from ⟨by omega, by omega⟩)
      have hF13 := f_fr_up (k := 15) (r := va_up (va_up (I 15) 9 (I 5 4)) 10 (I 5 5)) hF5 rfl
      have hxO13 := f_dep_up xO_dep (k := 15) (r := va_up (va_up (I 15) 9 (I 5 4)) 10 (I 5 5)) hxO5 rfl
      exact ⟨Int32.ofInt 0, (by intro q9 h9; simp only [List.mem_cons, List.not_mem_nil, or_false] at h9; rcases h9 with h9 | h9 | h9 <;> subst h9 <;> repeat (first | exact List.mem_cons_self | apply List.mem_cons_of_mem)), rfl, hR13, hF13, hG0, hxO13, (show 0 ≤ (0 : Int) from by first | assumption | omega), (show (0 : Int) ≤ (I 5 5).toInt from by first | assumption | omega), (show (I 5 4).toInt = (I 5 4).toInt from by first | assumption | omega | rfl), (show (I 5 5).toInt = (I 5 5).toInt from by first | assumption | omega | rfl), (show ((I 5 5).toInt - (0 : Int)) < 13 from by omega)⟩
    -- pat [.ref 15, .ref 10]
    · skip
      have hR : xR I := hR
      have hxO : xO I := hxO
      have p3 : xG 10 I := p3
      have hw12 : 0 ≤ (I 10 5).toInt ∧ (I 10 5).toInt ≤ 12 := hR 10 5
      have hk5 : 0 ≤ (I 10 4).toInt ∧ (I 10 4).toInt ≤ 5 := hR 10 4
      have hkk : 0 ≤ (I 10 4).toInt * (I 10 4).toInt := Int.mul_nonneg hk5.1 hk5.1
      have hkkk : 0 ≤ (I 10 4).toInt * (I 10 4).toInt * (I 10 4).toInt := Int.mul_nonneg hkk hk5.1
      have hF0 : f_fr [15, 16, 20, 21, 22, 23, 24] I I := f_fr_rf
      have hG0 : f_fr [17, 18, 19] L L := f_fr_rf
      have lp124 : ∀ (n124 : Nat), ∀ (m : Int32) (i : Int32) (J124 : fM) (M124 : fN), xR J124 ∧ f_fr [15, 16, 20, 21, 22, 23, 24] I J124 ∧ f_fr [17, 18, 19] L M124 ∧ xO J124 ∧ (0 ≤ i.toInt) ∧ (i.toInt ≤ m.toInt) ∧ (m.toInt ≤ 10) ∧ (m.toInt ≤ 0 ∨ 1 ≤ (I 10 4).toInt) ∧ (m.toInt ≤ (I 10 4).toInt + 2 * ((I 10 4).toInt * (I 10 4).toInt)) ∧ ((J124 15 9).toInt = (I 10 4).toInt) ∧ (m.toInt - i.toInt) < n124 → f_W pP l eP (f_rm 13) sP mP aP bP hP9 cP xY 80 a cy dC dI 4 (f_K 0 (qX3_openAll [.ref 15, .ref 10] I L)) 124 [(3, .int i), (2, .int m), (1, .ref 10), (0, .ref 15)] [] J124 M124 := by
        intro n124
        induction n124 with
        | zero =>
          intro m i J124 M124 h9
          obtain ⟨hR124c, hF124c, hG124c, hxO124c, u124_1, u124_2, u124_3, u124_4, u124_5, u124_6, hm124⟩ := h9
          omega
        | succ n124 ih124 =>
          intro m i J124 M124 h9
          obtain ⟨hR124c, hF124c, hG124c, hxO124c, u124_1, u124_2, u124_3, u124_4, u124_5, u124_6, hm124⟩ := h9
          refine f_wp_ok C f_cl flX3_ok fiX3_ok fjX3_ok (sn := none) (fun j h => by cases h) (cs := (f_cnl [(51, (3, 0, 3, pX3_openWord, qX3_openWord)), (61, (4, 0, 3, pX3_open, qX3_open))])) (cz := (f_cnl [(55, (1, 1, 0, pX8_ofKind, qX8_ofKind)), (68, (2, 1, 0, pX8_howMany, qX8_howMany)), (72, (2, 1, 0, pJ9_min_7cf53, qJ9_min_7cf53)), (77, (2, 1, 0, pX8_ofNumber, qX8_ofNumber))])) (f_cnl_of (P := fun j S => f_cok pP l eP (f_rm 13) sP mP aP bP hP9 cP xY 80 a cy dC dI 4 _ _ (.invokevirtual j) true S) (List.forall_mem_cons.mpr ⟨f_cokV C (mX3_openWord hinj) (ci := 3) rfl (List.forall_mem_cons.mpr ⟨(mlX3_ok _ (List.mem_of_getElem? (i := 0) rfl)), kc_X3_openWord⟩) (by decide +kernel) ⟨Nat.le_of_ble_eq_true rfl, Nat.le_of_ble_eq_true rfl⟩, List.forall_mem_cons.mpr ⟨f_cokV C (mX3_open hinj) (ci := 3) rfl (List.forall_mem_cons.mpr ⟨(mlX3_ok _ (List.mem_of_getElem? (i := 2) rfl)), kc_X3_open⟩) (by decide +kernel) ⟨Nat.le_of_ble_eq_true rfl, Nat.le_of_ble_eq_true rfl⟩, fun _ h => absurd h List.not_mem_nil⟩⟩)) (f_cnl_of (P := fun j S => f_cok pP l eP (f_rm 13) sP mP aP bP hP9 cP xY 80 a cy dC dI 4 _ _ (.invokestatic j) false S) (List.forall_mem_cons.mpr ⟨f_cokS C (mX8_ofKind hinj) (List.forall_mem_cons.mpr ⟨(mlX3_ok _ (List.mem_of_getElem? (i := 1) rfl)), kc_X8_ofKind⟩) (by decide +kernel) ⟨Nat.le_of_ble_eq_true rfl, Nat.le_of_ble_eq_true rfl⟩, List.forall_mem_cons.mpr ⟨f_cokS C (mX8_howMany hinj) (List.forall_mem_cons.mpr ⟨(mlX3_ok _ (List.mem_of_getElem? (i := 3) rfl)), kc_X8_howMany⟩) (by decide +kernel) ⟨Nat.le_of_ble_eq_true rfl, Nat.le_of_ble_eq_true rfl⟩, List.forall_mem_cons.mpr ⟨f_cokMin C (mlX3_ok _ (List.mem_of_getElem? (i := 4) rfl)) ⟨Nat.le_of_ble_eq_true rfl, Nat.le_of_ble_eq_true rfl⟩, List.forall_mem_cons.mpr ⟨f_cokS C (mX8_ofNumber hinj) (List.forall_mem_cons.mpr ⟨(mlX3_ok _ (List.mem_of_getElem? (i := 5) rfl)), kc_X8_ofNumber⟩) (by decide +kernel) ⟨Nat.le_of_ble_eq_true rfl, Nat.le_of_ble_eq_true rfl⟩, fun _ h => absurd h List.not_mem_nil⟩⟩⟩⟩)) tX3_openAll_ok (cut := (f_cnl [(124, (fun (ls' : fLs) (st' : List Value) (I' : fM) (L' : fN) => ∃ m : Int32, ∃ i : Int32, (∀ q ∈ ([(3, .int i), (2, .int m), (1, .ref 10), (0, .ref 15)] : fLs), q ∈ ls') ∧ st' = [] ∧ (xR I' ∧ f_fr [15, 16, 20, 21, 22, 23, 24] I I' ∧ f_fr [17, 18, 19] L L' ∧ xO I' ∧ (0 ≤ i.toInt) ∧ (i.toInt ≤ m.toInt) ∧ (m.toInt ≤ 10) ∧ (m.toInt ≤ 0 ∨ 1 ≤ (I 10 4).toInt) ∧ (m.toInt ≤ (I 10 4).toInt + 2 * ((I 10 4).toInt * (I 10 4).toInt)) ∧ ((I' 15 9).toInt = (I 10 4).toInt) ∧ (m.toInt - i.toInt) < n124)))])) (f_cnl_of (P := fun (tQ : Nat) (P : fLs → List Value → fM → fN → Prop) => ∀ ls' st' I' L', P ls' st' I' L' → f_W pP l eP (f_rm 13) sP mP aP bP hP9 cP xY 80 a cy dC dI 4 (f_K 0 (qX3_openAll [.ref 15, .ref 10] I L)) tQ ls' st' I' L') (List.forall_mem_cons.mpr ⟨(fun ls' st' I' L' h => by obtain ⟨m, i, hs, e1, h9⟩ := h; rw [e1]; exact f_W_sub hs (ih124 m i I' L' h9)), fun _ h => absurd h List.not_mem_nil⟩)) 18 124 (f_seek 124 0 tX3_openAll) (f_seek_ok 124 0 tX3_openAll tX3_openAll_ok) _ _ _ _ ?_
          apply And.intro
          · intro h126
            have h126 : m.toInt ≤ i.toInt := h126
            exact ⟨hR124c, hxO124c, hF124c, hG124c⟩
          · intro h126
            have h126 : i.toInt < m.toInt := h126
            intro z133 q133 _ hq133 hl133 hu133
            have hq133 : z133.toInt = 43 + i.toInt + 4294967296 * q133 := hq133
            try have hz133 : z133.toInt = 43 + i.toInt := by omega
            have r136_1 : 0 ≤ (J124 15 9).toInt ∧ (J124 15 9).toInt ≤ 5 := hR124c 15 9
            refine And.intro ⟨(show 1 ≤ (J124 15 9).toInt from by first | assumption | omega), (show (J124 15 9).toInt ≤ 5 from by first | assumption | omega), (show 0 ≤ i.toInt from by first | assumption | omega), (show i.toInt < (J124 15 9).toInt + 2 * ((J124 15 9).toInt * (J124 15 9).toInt) + 8 * ((J124 15 9).toInt * (J124 15 9).toInt * (J124 15 9).toInt) from by rw [u124_6]; omega)⟩ ?_
            intro x139 I139 L139 hq139
            have hq139 : I139 = J124 ∧ L139 = M124 ∧ (∃ m, m ≤ 5 ∧ wfT x139 m) := hq139
            obtain ⟨eI139, eL139, c139_2⟩ := hq139
            replace eI139 := eI139.symm
            subst eI139
            replace eL139 := eL139.symm
            subst eL139
            refine And.intro ⟨hR124c, hxO124c, (show 0 ≤ z133.toInt from by first | assumption | omega), (show z133.toInt ≤ 52 from by first | assumption | omega), (c139_2.imp fun _ q => q.2)⟩ ?_
            intro I143 L143 hq143
            have hq143 : xR I143 ∧ xO I143 ∧ f_fr [16, 20, 21, 22, 23] J124 I143 ∧ f_fr [17, 18, 19] M124 L143 := hq143
            obtain ⟨c143_0, c143_1, c143_2, c143_3⟩ := hq143
            have hF143 := f_fr_tr hF124c c143_2 rfl
            have hG143 := f_fr_tr hG124c c143_3 rfl
            intro z146 q146 _ hq146 hl146 hu146
            have hq146 : z146.toInt = i.toInt + 1 + 4294967296 * q146 := hq146
            try have hz146 : z146.toInt = i.toInt + 1 := by omega
            have r124_2 : 0 ≤ (I143 15 9).toInt ∧ (I143 15 9).toInt ≤ 5 := c143_0 15 9
            have e124_3 : (I143 15 9).toInt = (J124 15 9).toInt := congrArg Int32.toInt (congrFun (c143_2 15 rfl) 9)
            exact ⟨m, z146, (by intro q9 h9; simp only [List.mem_cons, List.not_mem_nil, or_false] at h9; rcases h9 with h9 | h9 | h9 | h9 <;> subst h9 <;> repeat (first | exact List.mem_cons_self | apply List.mem_cons_of_mem)), rfl, c143_0, hF143, hG143, c143_1, (show 0 ≤ z146.toInt from by first | assumption | omega), (show z146.toInt ≤ m.toInt from by first | assumption | omega), (show m.toInt ≤ 10 from by first | assumption | omega), (show m.toInt ≤ 0 ∨ 1 ≤ (I 10 4).toInt from by first | assumption | omega), (show m.toInt ≤ (I 10 4).toInt + 2 * ((I 10 4).toInt * (I 10 4).toInt) from by first | assumption | omega), (show (I143 15 9).toInt = (I 10 4).toInt from by first | assumption | omega | rfl), (show (m.toInt - z146.toInt) < n124 from by omega)⟩
      have lp108 : ∀ (J108 : fM) (M108 : fN), xR J108 ∧ f_fr [15, 16, 20, 21, 22, 23, 24] I J108 ∧ f_fr [17, 18, 19] L M108 ∧ xO J108 ∧ ((J108 15 9).toInt = (I 10 4).toInt) → f_W pP l eP (f_rm 13) sP mP aP bP hP9 cP xY 80 a cy dC dI 4 (f_K 0 (qX3_openAll [.ref 15, .ref 10] I L)) 108 [(1, .ref 10), (0, .ref 15)] [] J108 M108 := by
        intro J108 M108 h9
        obtain ⟨hR108c, hF108c, hG108c, hxO108c, u108_1⟩ := h9
        refine f_wp_ok C f_cl flX3_ok fiX3_ok fjX3_ok (sn := none) (fun j h => by cases h) (cs := (f_cnl [(51, (3, 0, 3, pX3_openWord, qX3_openWord)), (61, (4, 0, 3, pX3_open, qX3_open))])) (cz := (f_cnl [(55, (1, 1, 0, pX8_ofKind, qX8_ofKind)), (68, (2, 1, 0, pX8_howMany, qX8_howMany)), (72, (2, 1, 0, pJ9_min_7cf53, qJ9_min_7cf53)), (77, (2, 1, 0, pX8_ofNumber, qX8_ofNumber))])) (f_cnl_of (P := fun j S => f_cok pP l eP (f_rm 13) sP mP aP bP hP9 cP xY 80 a cy dC dI 4 _ _ (.invokevirtual j) true S) (List.forall_mem_cons.mpr ⟨f_cokV C (mX3_openWord hinj) (ci := 3) rfl (List.forall_mem_cons.mpr ⟨(mlX3_ok _ (List.mem_of_getElem? (i := 0) rfl)), kc_X3_openWord⟩) (by decide +kernel) ⟨Nat.le_of_ble_eq_true rfl, Nat.le_of_ble_eq_true rfl⟩, List.forall_mem_cons.mpr ⟨f_cokV C (mX3_open hinj) (ci := 3) rfl (List.forall_mem_cons.mpr ⟨(mlX3_ok _ (List.mem_of_getElem? (i := 2) rfl)), kc_X3_open⟩) (by decide +kernel) ⟨Nat.le_of_ble_eq_true rfl, Nat.le_of_ble_eq_true rfl⟩, fun _ h => absurd h List.not_mem_nil⟩⟩)) (f_cnl_of (P := fun j S => f_cok pP l eP (f_rm 13) sP mP aP bP hP9 cP xY 80 a cy dC dI 4 _ _ (.invokestatic j) false S) (List.forall_mem_cons.mpr ⟨f_cokS C (mX8_ofKind hinj) (List.forall_mem_cons.mpr ⟨(mlX3_ok _ (List.mem_of_getElem? (i := 1) rfl)), kc_X8_ofKind⟩) (by decide +kernel) ⟨Nat.le_of_ble_eq_true rfl, Nat.le_of_ble_eq_true rfl⟩, List.forall_mem_cons.mpr ⟨f_cokS C (mX8_howMany hinj) (List.forall_mem_cons.mpr ⟨(mlX3_ok _ (List.mem_of_getElem? (i := 3) rfl)), kc_X8_howMany⟩) (by decide +kernel) ⟨Nat.le_of_ble_eq_true rfl, Nat.le_of_ble_eq_true rfl⟩, List.forall_mem_cons.mpr ⟨f_cokMin C (mlX3_ok _ (List.mem_of_getElem? (i := 4) rfl)) ⟨Nat.le_of_ble_eq_true rfl, Nat.le_of_ble_eq_true rfl⟩, List.forall_mem_cons.mpr ⟨f_cokS C (mX8_ofNumber hinj) (List.forall_mem_cons.mpr ⟨(mlX3_ok _ (List.mem_of_getElem? (i := 5) rfl)), kc_X8_ofNumber⟩) (by decide +kernel) ⟨Nat.le_of_ble_eq_true rfl, Nat.le_of_ble_eq_true rfl⟩, fun _ h => absurd h List.not_mem_nil⟩⟩⟩⟩)) tX3_openAll_ok (cut := (f_cnl [(124, (fun (ls' : fLs) (st' : List Value) (I' : fM) (L' : fN) => ∃ m : Int32, ∃ i : Int32, (∀ q ∈ ([(3, .int i), (2, .int m), (1, .ref 10), (0, .ref 15)] : fLs), q ∈ ls') ∧ st' = [] ∧ (xR I' ∧ f_fr [15, 16, 20, 21, 22, 23, 24] I I' ∧ f_fr [17, 18, 19] L L' ∧ xO I' ∧ (0 ≤ i.toInt) ∧ (i.toInt ≤ m.toInt) ∧ (m.toInt ≤ 10) ∧ (m.toInt ≤ 0 ∨ 1 ≤ (I 10 4).toInt) ∧ (m.toInt ≤ (I 10 4).toInt + 2 * ((I 10 4).toInt * (I 10 4).toInt)) ∧ ((I' 15 9).toInt = (I 10 4).toInt) ∧ (m.toInt - i.toInt) < 11)))])) (f_cnl_of (P := fun (tQ : Nat) (P : fLs → List Value → fM → fN → Prop) => ∀ ls' st' I' L', P ls' st' I' L' → f_W pP l eP (f_rm 13) sP mP aP bP hP9 cP xY 80 a cy dC dI 4 (f_K 0 (qX3_openAll [.ref 15, .ref 10] I L)) tQ ls' st' I' L') (List.forall_mem_cons.mpr ⟨(fun ls' st' I' L' h => by obtain ⟨m, i, hs, e1, h9⟩ := h; rw [e1]; exact f_W_sub hs (lp124 11 m i I' L' h9)), fun _ h => absurd h List.not_mem_nil⟩)) 12 108 (f_seek 108 0 tX3_openAll) (f_seek_ok 108 0 tX3_openAll tX3_openAll_ok) _ _ _ _ ?_
        have r110_1 : 0 ≤ (J108 15 9).toInt ∧ (J108 15 9).toInt ≤ 5 := hR108c 15 9
        refine And.intro ⟨(show 0 ≤ (J108 15 9).toInt from by first | assumption | omega), (show (J108 15 9).toInt ≤ 5 from by first | assumption | omega)⟩ ?_
        intro x113 I113 L113 hq113
        have hq113 : I113 = J108 ∧ L113 = M108 ∧ (((1 : Int) = 0 → x113.toInt = (J108 15 9).toInt)) ∧ (((1 : Int) = 1 → x113.toInt = (J108 15 9).toInt + 2 * ((J108 15 9).toInt * (J108 15 9).toInt))) ∧ ((¬ (1 : Int) = 0 → ¬ (1 : Int) = 1 → x113.toInt = (J108 15 9).toInt + 2 * ((J108 15 9).toInt * (J108 15 9).toInt) + 8 * ((J108 15 9).toInt * (J108 15 9).toInt * (J108 15 9).toInt))) := hq113
        obtain ⟨eI113, eL113, c113_2, c113_3, c113_4⟩ := hq113
        replace eI113 := eI113.symm
        subst eI113
        replace eL113 := eL113.symm
        subst eL113
        have h113 : x113.toInt = (I 10 4).toInt + 2 * ((I 10 4).toInt * (I 10 4).toInt) := by rw [c113_3 rfl, u108_1]
        refine And.intro trivial ?_
        intro x118 I118 L118 hq118
        have hq118 : I118 = J108 ∧ L118 = M108 ∧ ((x118 = x113 ∨ x118 = (Int32.ofInt 10))) ∧ x118.toInt ≤ x113.toInt ∧ x118.toInt ≤ (10 : Int) := hq118
        obtain ⟨eI118, eL118, c118_2, c118_3, c118_4⟩ := hq118
        replace eI118 := eI118.symm
        subst eI118
        replace eL118 := eL118.symm
        subst eL118
        have h118 : 0 ≤ x118.toInt := by rcases c118_2 with q | q <;> rw [q] <;> first | omega | decide
        have g118 : x118.toInt ≤ 0 ∨ 1 ≤ (I 10 4).toInt := by
          rcases Int.lt_or_le (I 10 4).toInt 1 with q | q
          · have e : (I 10 4).toInt = 0 := by omega
            rw [e] at h113
            omega
          · exact Or.inr q
        exact ⟨x118, Int32.ofInt 0, (by intro q9 h9; simp only [List.mem_cons, List.not_mem_nil, or_false] at h9; rcases h9 with h9 | h9 | h9 | h9 <;> subst h9 <;> repeat (first | exact List.mem_cons_self | apply List.mem_cons_of_mem)), rfl, hR108c, hF108c, hG108c, hxO108c, (show 0 ≤ (0 : Int) from by first | assumption | omega), (show (0 : Int) ≤ x118.toInt from by first | assumption | omega), (show x118.toInt ≤ 10 from by first | assumption | omega), (show x118.toInt ≤ 0 ∨ 1 ≤ (I 10 4).toInt from by first | assumption | omega), (show x118.toInt ≤ (I 10 4).toInt + 2 * ((I 10 4).toInt * (I 10 4).toInt) from by first | assumption | omega), (show (J108 15 9).toInt = (I 10 4).toInt from by first | assumption | omega | rfl), (show (x118.toInt - (0 : Int)) < 11 from by omega)⟩
      have lp40 : ∀ (n40 : Nat), ∀ (i : Int32) (J40 : fM) (M40 : fN), xR J40 ∧ f_fr [15, 16, 20, 21, 22, 23, 24] I J40 ∧ f_fr [17, 18, 19] L M40 ∧ xO J40 ∧ (0 ≤ i.toInt) ∧ (i.toInt ≤ (I 10 4).toInt) ∧ ((J40 15 9).toInt = (I 10 4).toInt) ∧ ((I 10 4).toInt - i.toInt) < n40 → f_W pP l eP (f_rm 13) sP mP aP bP hP9 cP xY 80 a cy dC dI 4 (f_K 0 (qX3_openAll [.ref 15, .ref 10] I L)) 40 [(2, .int i), (1, .ref 10), (0, .ref 15)] [] J40 M40 := by
        intro n40
        induction n40 with
        | zero =>
          intro i J40 M40 h9
          obtain ⟨hR40c, hF40c, hG40c, hxO40c, u40_1, u40_2, u40_3, hm40⟩ := h9
          omega
        | succ n40 ih40 =>
          intro i J40 M40 h9
          obtain ⟨hR40c, hF40c, hG40c, hxO40c, u40_1, u40_2, u40_3, hm40⟩ := h9
          refine f_wp_ok C f_cl flX3_ok fiX3_ok fjX3_ok (sn := none) (fun j h => by cases h) (cs := (f_cnl [(51, (3, 0, 3, pX3_openWord, qX3_openWord)), (61, (4, 0, 3, pX3_open, qX3_open))])) (cz := (f_cnl [(55, (1, 1, 0, pX8_ofKind, qX8_ofKind)), (68, (2, 1, 0, pX8_howMany, qX8_howMany)), (72, (2, 1, 0, pJ9_min_7cf53, qJ9_min_7cf53)), (77, (2, 1, 0, pX8_ofNumber, qX8_ofNumber))])) (f_cnl_of (P := fun j S => f_cok pP l eP (f_rm 13) sP mP aP bP hP9 cP xY 80 a cy dC dI 4 _ _ (.invokevirtual j) true S) (List.forall_mem_cons.mpr ⟨f_cokV C (mX3_openWord hinj) (ci := 3) rfl (List.forall_mem_cons.mpr ⟨(mlX3_ok _ (List.mem_of_getElem? (i := 0) rfl)), kc_X3_openWord⟩) (by decide +kernel) ⟨Nat.le_of_ble_eq_true rfl, Nat.le_of_ble_eq_true rfl⟩, List.forall_mem_cons.mpr ⟨f_cokV C (mX3_open hinj) (ci := 3) rfl (List.forall_mem_cons.mpr ⟨(mlX3_ok _ (List.mem_of_getElem? (i := 2) rfl)), kc_X3_open⟩) (by decide +kernel) ⟨Nat.le_of_ble_eq_true rfl, Nat.le_of_ble_eq_true rfl⟩, fun _ h => absurd h List.not_mem_nil⟩⟩)) (f_cnl_of (P := fun j S => f_cok pP l eP (f_rm 13) sP mP aP bP hP9 cP xY 80 a cy dC dI 4 _ _ (.invokestatic j) false S) (List.forall_mem_cons.mpr ⟨f_cokS C (mX8_ofKind hinj) (List.forall_mem_cons.mpr ⟨(mlX3_ok _ (List.mem_of_getElem? (i := 1) rfl)), kc_X8_ofKind⟩) (by decide +kernel) ⟨Nat.le_of_ble_eq_true rfl, Nat.le_of_ble_eq_true rfl⟩, List.forall_mem_cons.mpr ⟨f_cokS C (mX8_howMany hinj) (List.forall_mem_cons.mpr ⟨(mlX3_ok _ (List.mem_of_getElem? (i := 3) rfl)), kc_X8_howMany⟩) (by decide +kernel) ⟨Nat.le_of_ble_eq_true rfl, Nat.le_of_ble_eq_true rfl⟩, List.forall_mem_cons.mpr ⟨f_cokMin C (mlX3_ok _ (List.mem_of_getElem? (i := 4) rfl)) ⟨Nat.le_of_ble_eq_true rfl, Nat.le_of_ble_eq_true rfl⟩, List.forall_mem_cons.mpr ⟨f_cokS C (mX8_ofNumber hinj) (List.forall_mem_cons.mpr ⟨(mlX3_ok _ (List.mem_of_getElem? (i := 5) rfl)), kc_X8_ofNumber⟩) (by decide +kernel) ⟨Nat.le_of_ble_eq_true rfl, Nat.le_of_ble_eq_true rfl⟩, fun _ h => absurd h List.not_mem_nil⟩⟩⟩⟩)) tX3_openAll_ok (cut := (f_cnl [(40, (fun (ls' : fLs) (st' : List Value) (I' : fM) (L' : fN) => ∃ i : Int32, (∀ q ∈ ([(2, .int i), (1, .ref 10), (0, .ref 15)] : fLs), q ∈ ls') ∧ st' = [] ∧ (xR I' ∧ f_fr [15, 16, 20, 21, 22, 23, 24] I I' ∧ f_fr [17, 18, 19] L L' ∧ xO I' ∧ (0 ≤ i.toInt) ∧ (i.toInt ≤ (I 10 4).toInt) ∧ ((I' 15 9).toInt = (I 10 4).toInt) ∧ ((I 10 4).toInt - i.toInt) < n40))), (108, (fun (ls' : fLs) (st' : List Value) (I' : fM) (L' : fN) => (∀ q ∈ ([(1, .ref 10), (0, .ref 15)] : fLs), q ∈ ls') ∧ st' = [] ∧ (xR I' ∧ f_fr [15, 16, 20, 21, 22, 23, 24] I I' ∧ f_fr [17, 18, 19] L L' ∧ xO I' ∧ ((I' 15 9).toInt = (I 10 4).toInt))))])) (f_cnl_of (P := fun (tQ : Nat) (P : fLs → List Value → fM → fN → Prop) => ∀ ls' st' I' L', P ls' st' I' L' → f_W pP l eP (f_rm 13) sP mP aP bP hP9 cP xY 80 a cy dC dI 4 (f_K 0 (qX3_openAll [.ref 15, .ref 10] I L)) tQ ls' st' I' L') (List.forall_mem_cons.mpr ⟨(fun ls' st' I' L' h => by obtain ⟨i, hs, e1, h9⟩ := h; rw [e1]; exact f_W_sub hs (ih40 i I' L' h9)), List.forall_mem_cons.mpr ⟨(fun ls' st' I' L' h => by obtain ⟨hs, e1, h9⟩ := h; rw [e1]; exact f_W_sub hs (lp108  I' L' h9)), fun _ h => absurd h List.not_mem_nil⟩⟩)) 26 40 (f_seek 40 0 tX3_openAll) (f_seek_ok 40 0 tX3_openAll tX3_openAll_ok) _ _ _ _ ?_
          have r42_1 : 0 ≤ (J40 15 9).toInt ∧ (J40 15 9).toInt ≤ 5 := hR40c 15 9
          apply And.intro
          · intro h45
            have h45 : (J40 15 9).toInt ≤ i.toInt := h45
            refine And.intro (show f_in (Int32.ofInt 36) 53 from ⟨show 0 ≤ 36 from by omega, show 36 < 53 from by omega⟩) ?_
            have hR74 := xR_a (k := 16) (j := (Int32.ofInt 36).toInt.toNat) (x := Int32.ofInt 0) hR40c (show 0 ≤ 0 ∧ 0 ≤ 4 from ⟨by omega, by omega⟩)
            have hF74 := f_fr_up (k := 16) (r := upd (J40 16) ((Int32.ofInt 36).toInt.toNat) (Int32.ofInt 0)) hF40c rfl
            have hxO74 : xO (va_up J40 16 (upd (J40 16) ((Int32.ofInt 36).toInt.toNat) (Int32.ofInt 0))) := xO_z hxO40c rfl
            apply And.intro
            · intro h79
              have h79 : (J40 15 9).toInt ≤ 0 := h79
              exact ⟨(by intro q9 h9; simp only [List.mem_cons, List.not_mem_nil, or_false] at h9; rcases h9 with h9 | h9 <;> subst h9 <;> repeat (first | exact List.mem_cons_self | apply List.mem_cons_of_mem)), rfl, hR74, hF74, hG40c, hxO74, (show (J40 15 9).toInt = (I 10 4).toInt from by first | assumption | omega | rfl)⟩
            · intro h79
              have h79 : 0 < (J40 15 9).toInt := h79
              have e86_3 : (J40 10 6).toInt = (I 10 6).toInt := congrArg Int32.toInt (congrFun (hF40c 10 rfl) 6)
              apply And.intro
              · intro h90
                have h90 : ¬ (J40 10 6).toInt = (-1) := h90
                have g100 : ∃ n, wfT (J40 10 6) n := by have q := p3.2; rw [← hF40c 10 rfl] at q; exact q.resolve_left h90
                refine And.intro ⟨hR74, hxO74, (show 0 ≤ (36 : Int) from by first | assumption | omega), (show (36 : Int) ≤ 52 from by first | assumption | omega), (by first | exact ⟨1, c94_2⟩ | exact g100)⟩ ?_
                intro I105 L105 hq105
                have hq105 : xR I105 ∧ xO I105 ∧ f_fr [16, 20, 21, 22, 23] (va_up J40 16 (upd (J40 16) ((Int32.ofInt 36).toInt.toNat) (Int32.ofInt 0))) I105 ∧ f_fr [17, 18, 19] M40 L105 := hq105
                obtain ⟨c105_0, c105_1, c105_2, c105_3⟩ := hq105
                have hF105 := f_fr_tr hF74 c105_2 rfl
                have hG105 := f_fr_tr hG40c c105_3 rfl
                have r108_4 : 0 ≤ (I105 15 9).toInt ∧ (I105 15 9).toInt ≤ 5 := c105_0 15 9
                have e108_5 : (I105 15 9).toInt = (J40 15 9).toInt := congrArg Int32.toInt (congrFun (c105_2 15 rfl) 9)
                exact ⟨(by intro q9 h9; simp only [List.mem_cons, List.not_mem_nil, or_false] at h9; rcases h9 with h9 | h9 <;> subst h9 <;> repeat (first | exact List.mem_cons_self | apply List.mem_cons_of_mem)), rfl, c105_0, hF105, hG105, c105_1, (show (I105 15 9).toInt = (I 10 4).toInt from by first | assumption | omega | rfl)⟩
              · intro h90
                have h90 : (J40 10 6).toInt = (-1) := h90
                refine And.intro ⟨(show 0 ≤ (0 : Int) from by first | assumption | omega), (show (0 : Int) ≤ 4 from by first | assumption | omega)⟩ ?_
                intro x94 I94 L94 hq94
                have hq94 : I94 = (va_up J40 16 (upd (J40 16) ((Int32.ofInt 36).toInt.toNat) (Int32.ofInt 0))) ∧ L94 = M40 ∧ wfT x94 1 := hq94
                obtain ⟨eI94, eL94, c94_2⟩ := hq94
                replace eI94 := eI94.symm
                subst eI94
                replace eL94 := eL94.symm
                subst eL94
                refine And.intro ⟨hR74, hxO74, (show 0 ≤ (36 : Int) from by first | assumption | omega), (show (36 : Int) ≤ 52 from by first | assumption | omega), (by first | exact ⟨1, c94_2⟩ | exact g100)⟩ ?_
                intro I105 L105 hq105
                have hq105 : xR I105 ∧ xO I105 ∧ f_fr [16, 20, 21, 22, 23] (va_up J40 16 (upd (J40 16) ((Int32.ofInt 36).toInt.toNat) (Int32.ofInt 0))) I105 ∧ f_fr [17, 18, 19] M40 L105 := hq105
                obtain ⟨c105_0, c105_1, c105_2, c105_3⟩ := hq105
                have hF105 := f_fr_tr hF74 c105_2 rfl
                have hG105 := f_fr_tr hG40c c105_3 rfl
                have r108_4 : 0 ≤ (I105 15 9).toInt ∧ (I105 15 9).toInt ≤ 5 := c105_0 15 9
                have e108_5 : (I105 15 9).toInt = (J40 15 9).toInt := congrArg Int32.toInt (congrFun (c105_2 15 rfl) 9)
                exact ⟨(by intro q9 h9; simp only [List.mem_cons, List.not_mem_nil, or_false] at h9; rcases h9 with h9 | h9 <;> subst h9 <;> repeat (first | exact List.mem_cons_self | apply List.mem_cons_of_mem)), rfl, c105_0, hF105, hG105, c105_1, (show (I105 15 9).toInt = (I 10 4).toInt from by first | assumption | omega | rfl)⟩
          · intro h45
            have h45 : i.toInt < (J40 15 9).toInt := h45
            intro z52 q52 _ hq52 hl52 hu52
            have hq52 : z52.toInt = 37 + i.toInt + 4294967296 * q52 := hq52
            try have hz52 : z52.toInt = 37 + i.toInt := by omega
            refine And.intro ⟨(show 0 ≤ i.toInt from by first | assumption | omega), (show i.toInt ≤ 4 from by first | assumption | omega)⟩ ?_
            intro x54 I54 L54 hq54
            have hq54 : I54 = J40 ∧ L54 = M40 ∧ wfT x54 1 := hq54
            obtain ⟨eI54, eL54, c54_2⟩ := hq54
            replace eI54 := eI54.symm
            subst eI54
            replace eL54 := eL54.symm
            subst eL54
            refine And.intro ⟨hR40c, hxO40c, (show 0 ≤ z52.toInt from by first | assumption | omega), (show z52.toInt ≤ 52 from by first | assumption | omega), ⟨1, c54_2⟩⟩ ?_
            intro I58 L58 hq58
            have hq58 : xR I58 ∧ xO I58 ∧ f_fr [16, 20, 21, 22, 23] J40 I58 ∧ f_fr [17, 18, 19] M40 L58 := hq58
            obtain ⟨c58_0, c58_1, c58_2, c58_3⟩ := hq58
            have hF58 := f_fr_tr hF40c c58_2 rfl
            have hG58 := f_fr_tr hG40c c58_3 rfl
            intro z61 q61 _ hq61 hl61 hu61
            have hq61 : z61.toInt = i.toInt + 1 + 4294967296 * q61 := hq61
            try have hz61 : z61.toInt = i.toInt + 1 := by omega
            have r40_2 : 0 ≤ (I58 15 9).toInt ∧ (I58 15 9).toInt ≤ 5 := c58_0 15 9
            have e40_3 : (I58 15 9).toInt = (J40 15 9).toInt := congrArg Int32.toInt (congrFun (c58_2 15 rfl) 9)
            exact ⟨z61, (by intro q9 h9; simp only [List.mem_cons, List.not_mem_nil, or_false] at h9; rcases h9 with h9 | h9 | h9 <;> subst h9 <;> repeat (first | exact List.mem_cons_self | apply List.mem_cons_of_mem)), rfl, c58_0, hF58, hG58, c58_1, (show 0 ≤ z61.toInt from by first | assumption | omega), (show z61.toInt ≤ (I 10 4).toInt from by first | assumption | omega), (show (I58 15 9).toInt = (I 10 4).toInt from by first | assumption | omega | rfl), (show ((I 10 4).toInt - z61.toInt) < n40 from by omega)⟩
      have lp18 : ∀ (n18 : Nat), ∀ (i : Int32) (J18 : fM) (M18 : fN), xR J18 ∧ f_fr [15, 16, 20, 21, 22, 23, 24] I J18 ∧ f_fr [17, 18, 19] L M18 ∧ xO J18 ∧ (0 ≤ i.toInt) ∧ (i.toInt ≤ (I 10 5).toInt) ∧ ((J18 15 9).toInt = (I 10 4).toInt) ∧ ((J18 15 10).toInt = (I 10 5).toInt) ∧ ((I 10 5).toInt - i.toInt) < n18 → f_W pP l eP (f_rm 13) sP mP aP bP hP9 cP xY 80 a cy dC dI 4 (f_K 0 (qX3_openAll [.ref 15, .ref 10] I L)) 18 [(2, .int i), (1, .ref 10), (0, .ref 15)] [] J18 M18 := by
        intro n18
        induction n18 with
        | zero =>
          intro i J18 M18 h9
          obtain ⟨hR18c, hF18c, hG18c, hxO18c, u18_1, u18_2, u18_3, u18_4, hm18⟩ := h9
          omega
        | succ n18 ih18 =>
          intro i J18 M18 h9
          obtain ⟨hR18c, hF18c, hG18c, hxO18c, u18_1, u18_2, u18_3, u18_4, hm18⟩ := h9
          refine f_wp_ok C f_cl flX3_ok fiX3_ok fjX3_ok (sn := none) (fun j h => by cases h) (cs := (f_cnl [(51, (3, 0, 3, pX3_openWord, qX3_openWord)), (61, (4, 0, 3, pX3_open, qX3_open))])) (cz := (f_cnl [(55, (1, 1, 0, pX8_ofKind, qX8_ofKind)), (68, (2, 1, 0, pX8_howMany, qX8_howMany)), (72, (2, 1, 0, pJ9_min_7cf53, qJ9_min_7cf53)), (77, (2, 1, 0, pX8_ofNumber, qX8_ofNumber))])) (f_cnl_of (P := fun j S => f_cok pP l eP (f_rm 13) sP mP aP bP hP9 cP xY 80 a cy dC dI 4 _ _ (.invokevirtual j) true S) (List.forall_mem_cons.mpr ⟨f_cokV C (mX3_openWord hinj) (ci := 3) rfl (List.forall_mem_cons.mpr ⟨(mlX3_ok _ (List.mem_of_getElem? (i := 0) rfl)), kc_X3_openWord⟩) (by decide +kernel) ⟨Nat.le_of_ble_eq_true rfl, Nat.le_of_ble_eq_true rfl⟩, List.forall_mem_cons.mpr ⟨f_cokV C (mX3_open hinj) (ci := 3) rfl (List.forall_mem_cons.mpr ⟨(mlX3_ok _ (List.mem_of_getElem? (i := 2) rfl)), kc_X3_open⟩) (by decide +kernel) ⟨Nat.le_of_ble_eq_true rfl, Nat.le_of_ble_eq_true rfl⟩, fun _ h => absurd h List.not_mem_nil⟩⟩)) (f_cnl_of (P := fun j S => f_cok pP l eP (f_rm 13) sP mP aP bP hP9 cP xY 80 a cy dC dI 4 _ _ (.invokestatic j) false S) (List.forall_mem_cons.mpr ⟨f_cokS C (mX8_ofKind hinj) (List.forall_mem_cons.mpr ⟨(mlX3_ok _ (List.mem_of_getElem? (i := 1) rfl)), kc_X8_ofKind⟩) (by decide +kernel) ⟨Nat.le_of_ble_eq_true rfl, Nat.le_of_ble_eq_true rfl⟩, List.forall_mem_cons.mpr ⟨f_cokS C (mX8_howMany hinj) (List.forall_mem_cons.mpr ⟨(mlX3_ok _ (List.mem_of_getElem? (i := 3) rfl)), kc_X8_howMany⟩) (by decide +kernel) ⟨Nat.le_of_ble_eq_true rfl, Nat.le_of_ble_eq_true rfl⟩, List.forall_mem_cons.mpr ⟨f_cokMin C (mlX3_ok _ (List.mem_of_getElem? (i := 4) rfl)) ⟨Nat.le_of_ble_eq_true rfl, Nat.le_of_ble_eq_true rfl⟩, List.forall_mem_cons.mpr ⟨f_cokS C (mX8_ofNumber hinj) (List.forall_mem_cons.mpr ⟨(mlX3_ok _ (List.mem_of_getElem? (i := 5) rfl)), kc_X8_ofNumber⟩) (by decide +kernel) ⟨Nat.le_of_ble_eq_true rfl, Nat.le_of_ble_eq_true rfl⟩, fun _ h => absurd h List.not_mem_nil⟩⟩⟩⟩)) tX3_openAll_ok (cut := (f_cnl [(18, (fun (ls' : fLs) (st' : List Value) (I' : fM) (L' : fN) => ∃ i : Int32, (∀ q ∈ ([(2, .int i), (1, .ref 10), (0, .ref 15)] : fLs), q ∈ ls') ∧ st' = [] ∧ (xR I' ∧ f_fr [15, 16, 20, 21, 22, 23, 24] I I' ∧ f_fr [17, 18, 19] L L' ∧ xO I' ∧ (0 ≤ i.toInt) ∧ (i.toInt ≤ (I 10 5).toInt) ∧ ((I' 15 9).toInt = (I 10 4).toInt) ∧ ((I' 15 10).toInt = (I 10 5).toInt) ∧ ((I 10 5).toInt - i.toInt) < n18))), (40, (fun (ls' : fLs) (st' : List Value) (I' : fM) (L' : fN) => ∃ i : Int32, (∀ q ∈ ([(2, .int i), (1, .ref 10), (0, .ref 15)] : fLs), q ∈ ls') ∧ st' = [] ∧ (xR I' ∧ f_fr [15, 16, 20, 21, 22, 23, 24] I I' ∧ f_fr [17, 18, 19] L L' ∧ xO I' ∧ (0 ≤ i.toInt) ∧ (i.toInt ≤ (I 10 4).toInt) ∧ ((I' 15 9).toInt = (I 10 4).toInt) ∧ ((I 10 4).toInt - i.toInt) < 6)))])) (f_cnl_of (P := fun (tQ : Nat) (P : fLs → List Value → fM → fN → Prop) => ∀ ls' st' I' L', P ls' st' I' L' → f_W pP l eP (f_rm 13) sP mP aP bP hP9 cP xY 80 a cy dC dI 4 (f_K 0 (qX3_openAll [.ref 15, .ref 10] I L)) tQ ls' st' I' L') (List.forall_mem_cons.mpr ⟨(fun ls' st' I' L' h => by obtain ⟨i, hs, e1, h9⟩ := h; rw [e1]; exact f_W_sub hs (ih18 i I' L' h9)), List.forall_mem_cons.mpr ⟨(fun ls' st' I' L' h => by obtain ⟨i, hs, e1, h9⟩ := h; rw [e1]; exact f_W_sub hs (lp40 6 i I' L' h9)), fun _ h => absurd h List.not_mem_nil⟩⟩)) 13 18 (f_seek 18 0 tX3_openAll) (f_seek_ok 18 0 tX3_openAll tX3_openAll_ok) _ _ _ _ ?_
          have r20_1 : 0 ≤ (J18 15 10).toInt ∧ (J18 15 10).toInt ≤ 12 := hR18c 15 10
          apply And.intro
          · intro h23
            have h23 : (J18 15 10).toInt ≤ i.toInt := h23
            have r40_2 : 0 ≤ (J18 15 9).toInt ∧ (J18 15 9).toInt ≤ 5 := hR18c 15 9
            exact ⟨Int32.ofInt 0, (by intro q9 h9; simp only [List.mem_cons, List.not_mem_nil, or_false] at h9; rcases h9 with h9 | h9 | h9 <;> subst h9 <;> repeat (first | exact List.mem_cons_self | apply List.mem_cons_of_mem)), rfl, hR18c, hF18c, hG18c, hxO18c, (show 0 ≤ (0 : Int) from by first | assumption | omega), (show (0 : Int) ≤ (I 10 4).toInt from by first | assumption | omega), (show (J18 15 9).toInt = (I 10 4).toInt from by first | assumption | omega | rfl), (show ((I 10 4).toInt - (0 : Int)) < 6 from by omega)⟩
          · intro h23
            have h23 : i.toInt < (J18 15 10).toInt := h23
            have r29_2 : 0 ≤ (J18 10 5).toInt ∧ (J18 10 5).toInt ≤ 12 := hR18c 10 5
            have e29_3 : (J18 10 5).toInt = (I 10 5).toInt := congrArg Int32.toInt (congrFun (hF18c 10 rfl) 5)
            refine And.intro ⟨(by decide), hR18c, hxO18c, (xG_fr p3 hF18c rfl rfl rfl), (show 0 ≤ i.toInt from by first | assumption | omega), (show i.toInt < (J18 10 5).toInt from by first | assumption | omega)⟩ ?_
            intro I29 L29 hq29
            have hq29 : xR I29 ∧ xO I29 ∧ f_fr [16, 20, 21, 22, 23, 24] J18 I29 ∧ f_fr [17, 18, 19] M18 L29 := hq29
            obtain ⟨c29_0, c29_1, c29_2, c29_3⟩ := hq29
            have hF29 := f_fr_tr hF18c c29_2 rfl
            have hG29 := f_fr_tr hG18c c29_3 rfl
            intro z32 q32 _ hq32 hl32 hu32
            have hq32 : z32.toInt = i.toInt + 1 + 4294967296 * q32 := hq32
            try have hz32 : z32.toInt = i.toInt + 1 := by omega
            have r18_4 : 0 ≤ (I29 15 9).toInt ∧ (I29 15 9).toInt ≤ 5 := c29_0 15 9
            have e18_5 : (I29 15 9).toInt = (J18 15 9).toInt := congrArg Int32.toInt (congrFun (c29_2 15 rfl) 9)
            have r18_6 : 0 ≤ (I29 15 10).toInt ∧ (I29 15 10).toInt ≤ 12 := c29_0 15 10
            have e18_7 : (I29 15 10).toInt = (J18 15 10).toInt := congrArg Int32.toInt (congrFun (c29_2 15 rfl) 10)
            exact ⟨z32, (by intro q9 h9; simp only [List.mem_cons, List.not_mem_nil, or_false] at h9; rcases h9 with h9 | h9 | h9 <;> subst h9 <;> repeat (first | exact List.mem_cons_self | apply List.mem_cons_of_mem)), rfl, c29_0, hF29, hG29, c29_1, (show 0 ≤ z32.toInt from by first | assumption | omega), (show z32.toInt ≤ (I 10 5).toInt from by first | assumption | omega), (show (I29 15 9).toInt = (I 10 4).toInt from by first | assumption | omega | rfl), (show (I29 15 10).toInt = (I 10 5).toInt from by first | assumption | omega | rfl), (show ((I 10 5).toInt - z32.toInt) < n18 from by omega)⟩
      refine f_wp_ok C f_cl flX3_ok fiX3_ok fjX3_ok (sn := none) (fun j h => by cases h) (cs := (f_cnl [(51, (3, 0, 3, pX3_openWord, qX3_openWord)), (61, (4, 0, 3, pX3_open, qX3_open))])) (cz := (f_cnl [(55, (1, 1, 0, pX8_ofKind, qX8_ofKind)), (68, (2, 1, 0, pX8_howMany, qX8_howMany)), (72, (2, 1, 0, pJ9_min_7cf53, qJ9_min_7cf53)), (77, (2, 1, 0, pX8_ofNumber, qX8_ofNumber))])) (f_cnl_of (P := fun j S => f_cok pP l eP (f_rm 13) sP mP aP bP hP9 cP xY 80 a cy dC dI 4 _ _ (.invokevirtual j) true S) (List.forall_mem_cons.mpr ⟨f_cokV C (mX3_openWord hinj) (ci := 3) rfl (List.forall_mem_cons.mpr ⟨(mlX3_ok _ (List.mem_of_getElem? (i := 0) rfl)), kc_X3_openWord⟩) (by decide +kernel) ⟨Nat.le_of_ble_eq_true rfl, Nat.le_of_ble_eq_true rfl⟩, List.forall_mem_cons.mpr ⟨f_cokV C (mX3_open hinj) (ci := 3) rfl (List.forall_mem_cons.mpr ⟨(mlX3_ok _ (List.mem_of_getElem? (i := 2) rfl)), kc_X3_open⟩) (by decide +kernel) ⟨Nat.le_of_ble_eq_true rfl, Nat.le_of_ble_eq_true rfl⟩, fun _ h => absurd h List.not_mem_nil⟩⟩)) (f_cnl_of (P := fun j S => f_cok pP l eP (f_rm 13) sP mP aP bP hP9 cP xY 80 a cy dC dI 4 _ _ (.invokestatic j) false S) (List.forall_mem_cons.mpr ⟨f_cokS C (mX8_ofKind hinj) (List.forall_mem_cons.mpr ⟨(mlX3_ok _ (List.mem_of_getElem? (i := 1) rfl)), kc_X8_ofKind⟩) (by decide +kernel) ⟨Nat.le_of_ble_eq_true rfl, Nat.le_of_ble_eq_true rfl⟩, List.forall_mem_cons.mpr ⟨f_cokS C (mX8_howMany hinj) (List.forall_mem_cons.mpr ⟨(mlX3_ok _ (List.mem_of_getElem? (i := 3) rfl)), kc_X8_howMany⟩) (by decide +kernel) ⟨Nat.le_of_ble_eq_true rfl, Nat.le_of_ble_eq_true rfl⟩, List.forall_mem_cons.mpr ⟨f_cokMin C (mlX3_ok _ (List.mem_of_getElem? (i := 4) rfl)) ⟨Nat.le_of_ble_eq_true rfl, Nat.le_of_ble_eq_true rfl⟩, List.forall_mem_cons.mpr ⟨f_cokS C (mX8_ofNumber hinj) (List.forall_mem_cons.mpr ⟨(mlX3_ok _ (List.mem_of_getElem? (i := 5) rfl)), kc_X8_ofNumber⟩) (by decide +kernel) ⟨Nat.le_of_ble_eq_true rfl, Nat.le_of_ble_eq_true rfl⟩, fun _ h => absurd h List.not_mem_nil⟩⟩⟩⟩)) tX3_openAll_ok (cut := (f_cnl [(18, (fun (ls' : fLs) (st' : List Value) (I' : fM) (L' : fN) => ∃ i : Int32, (∀ q ∈ ([(2, .int i), (1, .ref 10), (0, .ref 15)] : fLs), q ∈ ls') ∧ st' = [] ∧ (xR I' ∧ f_fr [15, 16, 20, 21, 22, 23, 24] I I' ∧ f_fr [17, 18, 19] L L' ∧ xO I' ∧ (0 ≤ i.toInt) ∧ (i.toInt ≤ (I 10 5).toInt) ∧ ((I' 15 9).toInt = (I 10 4).toInt) ∧ ((I' 15 10).toInt = (I 10 5).toInt) ∧ ((I 10 5).toInt - i.toInt) < 13)))])) (f_cnl_of (P := fun (tQ : Nat) (P : fLs → List Value → fM → fN → Prop) => ∀ ls' st' I' L', P ls' st' I' L' → f_W pP l eP (f_rm 13) sP mP aP bP hP9 cP xY 80 a cy dC dI 4 (f_K 0 (qX3_openAll [.ref 15, .ref 10] I L)) tQ ls' st' I' L') (List.forall_mem_cons.mpr ⟨(fun ls' st' I' L' h => by obtain ⟨i, hs, e1, h9⟩ := h; rw [e1]; exact f_W_sub hs (lp18 13 i I' L' h9)), fun _ h => absurd h List.not_mem_nil⟩)) 13 0 tX3_openAll tX3_openAll_ok _ _ _ _ ?_
      have r2_1 : 0 ≤ (I 10 4).toInt ∧ (I 10 4).toInt ≤ 5 := hR 10 4
      have hR5 := xR_f (k := 15) (j := 9) (x := I 10 4) hR (show 0 ≤ (I 10 4).toInt ∧ (I 10 4).toInt ≤ 5 from ⟨by omega, by omega⟩)
      have hF5 := f_fr_up (k := 15) (r := va_up (I 15) 9 (I 10 4)) hF0 rfl
      have hxO5 := f_dep_up xO_dep (k := 15) (r := va_up (I 15) 9 (I 10 4)) hxO rfl
      have r10_2 : 0 ≤ (I 10 5).toInt ∧ (I 10 5).toInt ≤ 12 := hR5 10 5
      have hR13 := xR_f (k := 15) (j := 10) (x := I 10 5) hR5 (show 0 ≤ (I 10 5).toInt ∧ (I 10 5).toInt ≤ 12 from ⟨by omega, by omega⟩)
      have hF13 := f_fr_up (k := 15) (r := va_up (va_up (I 15) 9 (I 10 4)) 10 (I 10 5)) hF5 rfl
      have hxO13 := f_dep_up xO_dep (k := 15) (r := va_up (va_up (I 15) 9 (I 10 4)) 10 (I 10 5)) hxO5 rfl
      exact ⟨Int32.ofInt 0, (by intro q9 h9; simp only [List.mem_cons, List.not_mem_nil, or_false] at h9; rcases h9 with h9 | h9 | h9 <;> subst h9 <;> repeat (first | exact List.mem_cons_self | apply List.mem_cons_of_mem)), rfl, hR13, hF13, hG0, hxO13, (show 0 ≤ (0 : Int) from by first | assumption | omega), (show (0 : Int) ≤ (I 10 5).toInt from by first | assumption | omega), (show (I 10 4).toInt = (I 10 4).toInt from by first | assumption | omega | rfl), (show (I 10 5).toInt = (I 10 5).toInt from by first | assumption | omega | rfl), (show ((I 10 5).toInt - (0 : Int)) < 13 from by omega)⟩
    -- pat [.ref 15, .ref k]
