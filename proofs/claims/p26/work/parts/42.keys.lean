def pX2_takeBackb (av : List Value) (I : fM) (L : fN) : Prop := match av with
  | [.ref 40, .int n, .int t] => xR I
  | _ => False
def qX2_takeBackb (av : List Value) (I : fM) (L : fN) (r : Value) (I' : fM) (L' : fN) : Prop := match av, r with
  | [.ref 40, .int n, .int t], .int x => I' = I ∧ f_fr [46] L L' ∧ (x.toInt = 0 ∨ x.toInt = 1)
  | _, _ => False
set_option maxHeartbeats 4000000 in
set_option maxRecDepth 100000 in
theorem mX2_takeBackb {l : Launch} {a : Nat → Nat} {cy dC : Nat → ClassId} {dI : Nat → Nat → Nat} (hinj : ∀ i j, i < 80 → j < 80 → a i = a j → i = j) : f_Met (xE a) l xY 80 a cy dC dI yX2_takeBack cX2_takeBack 3 3 0 pX2_takeBackb qX2_takeBackb := by
  refine f_met_of (xE_c a) hinj xY_hi (by decide) (fun av I L h => by unfold pX2_takeBackb at h; split at h <;> first | exact Nat.le_of_ble_eq_true rfl | exact h.elim) ?_
  intro pP eP sP mP aP bP hP9 cP C av I L hp
  unfold pX2_takeBackb at hp
  split at hp
  case h_2 => exact hp.elim
  case h_1 n t =>
    have hR := hp
    have hG0 : f_fr [46] L L := f_fr_rf
    refine f_wp_ok C f_cl flX2_ok fiX2_ok fjX2_ok (sn := none) (fun j h => by cases h) (cs := (fun _ => none)) (cz := (fun _ => none)) (fun j S h => by cases h) (fun j S h => by cases h) tX2_takeBack_ok (cut := (fun _ => none)) (fun t P h => by cases h) 24 0 tX2_takeBack tX2_takeBack_ok _ _ _ _ ?_
    apply And.intro
    · intro h1
      have h1 : n.toInt < 0 := h1
      exact ⟨Or.inl rfl, rfl, hG0, (show ((0 : Int) = 0 ∨ (0 : Int) = 1) from by first | assumption | omega | rfl)⟩
    · intro h1
      have h1 : 0 ≤ n.toInt := h1
      have r6_1 : 0 ≤ (I 40 7).toInt ∧ (I 40 7).toInt ≤ 12 := hR 40 7
      apply And.intro
      · intro h9
        have h9 : (I 40 7).toInt ≤ n.toInt := h9
        exact ⟨Or.inl rfl, rfl, hG0, (show ((0 : Int) = 0 ∨ (0 : Int) = 1) from by first | assumption | omega | rfl)⟩
      · intro h9
        have h9 : n.toInt < (I 40 7).toInt := h9
        refine And.intro (show f_in n 12 from ⟨show 0 ≤ n.toInt from by omega, show n.toInt < 12 from by omega⟩) ?_
        apply And.intro
        · intro h22
          have h22 : (lg_cmp (L 46 (n.toInt.toNat)) (1099511627776 : Int64)).toInt = 0 := h22
          refine And.intro (show f_in n 12 from ⟨show 0 ≤ n.toInt from by omega, show n.toInt < 12 from by omega⟩) ?_
          have hG34 := f_fr_up (k := 46) (r := vp_updL (L 46) (n.toInt.toNat) (t.toInt64)) hG0 rfl
          exact ⟨Or.inr rfl, rfl, hG34, (show ((1 : Int) = 0 ∨ (1 : Int) = 1) from by first | assumption | omega | rfl)⟩
        · intro h22
          have h22 : ¬ (lg_cmp (L 46 (n.toInt.toNat)) (1099511627776 : Int64)).toInt = 0 := h22
          exact ⟨Or.inl rfl, rfl, hG0, (show ((0 : Int) = 0 ∨ (0 : Int) = 1) from by first | assumption | omega | rfl)⟩
/-- which of the two lexicons is in use -/
def xL (I : fM) : Prop := (I 0 9 = Int32.ofNat 5 ∧ I 0 10 = Int32.ofNat 10) ∨ (I 0 9 = Int32.ofNat 10 ∧ I 0 10 = Int32.ofNat 5)
-- @inv xL [0]
theorem xL_dep : ∀ I I' : fM, (∀ k, [0].contains k = true → I' k = I k) → xL I → xL I' := by
  intro I I' h hL
  unfold xL
  rw [h 0 rfl]
  exact hL
theorem f_lex {I : fM} {u v : Int32} (h9 : I 0 9 = u) (h10 : I 0 10 = v) : I = va_up I 0 (va_up (va_up (I 0) 9 u) 10 v) := by
  funext k j
  by_cases e : k = 0
  · subst e
    rw [va_up_self]
    by_cases e1 : j = 10
    · rw [e1, va_up_self, h10]
    · rw [va_up_ne _ _ e1]
      by_cases e2 : j = 9
      · rw [e2, va_up_self, h9]
      · rw [va_up_ne _ _ e2]
  · rw [va_up_ne _ _ e]
def tX11_isWord : List (Instr × Nat) := [(.iload_n 1, 1), (.ifCond .lt 18, 3), (.iload_n 1, 1), (.aload_n 0, 1), (.getfield 28, 3), (.getfield 124, 3), (.if_icmp .ge 7, 3), (.iconst 1, 1), (.goto 4, 3), (.iconst 0, 1), (.ireturn, 1)]
theorem tX11_isWord_ok : f_chk cX11_isWord 0 tX11_isWord = true := by decide +kernel
def pX11_isWord (av : List Value) (I : fM) (L : fN) : Prop := match av with
  | [.ref 0, .int w] => xR I ∧ xL I
  | _ => False
def qX11_isWord (av : List Value) (I : fM) (L : fN) (r : Value) (I' : fM) (L' : fN) : Prop := match av, r with
  | [.ref 0, .int w], .int x => I' = I ∧ L' = L ∧ (x.toInt = 0 ∨ x.toInt = 1 ∧ 0 ≤ w.toInt ∧ w.toInt ≤ 11) ∧ (x.toInt = 1 → (I 0 9 = Int32.ofNat 5 → w.toInt < (I 5 5).toInt) ∧ (I 0 9 = Int32.ofNat 10 → w.toInt < (I 10 5).toInt))
  | _, _ => False
set_option maxHeartbeats 4000000 in
set_option maxRecDepth 100000 in
theorem mX11_isWord {l : Launch} {a : Nat → Nat} {cy dC : Nat → ClassId} {dI : Nat → Nat → Nat} (hinj : ∀ i j, i < 80 → j < 80 → a i = a j → i = j) : f_Met (xE a) l xY 80 a cy dC dI yX11_isWord cX11_isWord 2 3 0 pX11_isWord qX11_isWord := by
  refine f_met_of (xE_c a) hinj xY_hi (by decide) (fun av I L h => by unfold pX11_isWord at h; split at h <;> first | exact Nat.le_of_ble_eq_true rfl | exact h.elim) ?_
  intro pP eP sP mP aP bP hP9 cP C av I L hp
  unfold pX11_isWord at hp
  split at hp
  case h_2 => exact hp.elim
  case h_1 w =>
    obtain ⟨hR, hxL⟩ := hp
    rcases hxL with ⟨h9, h10⟩ | ⟨h9, h10⟩
    · obtain ⟨K, eK⟩ : ∃ K : fM, I = va_up K 0 (va_up (va_up (K 0) 9 (Int32.ofNat 5)) 10 (Int32.ofNat 10)) := ⟨I, f_lex h9 h10⟩
      subst eK
      let I : fM := va_up K 0 (va_up (va_up (K 0) 9 (Int32.ofNat 5)) 10 (Int32.ofNat 10))
      have hxL : xL I := Or.inl ⟨rfl, rfl⟩
      skip
      have hR : xR I := hR
      have hxL : xL I := hxL
      have hw5 : (I 5 5).toInt ≤ 12 := (hR 5 5).2
      have hw10 : (I 10 5).toInt ≤ 12 := (hR 10 5).2
      refine f_wp_ok C f_cl flX11_ok fiX11_ok fjX11_ok (sn := none) (fun j h => by cases h) (cs := (fun _ => none)) (cz := (fun _ => none)) (fun j S h => by cases h) (fun j S h => by cases h) tX11_isWord_ok (cut := (fun _ => none)) (fun t P h => by cases h) 13 0 tX11_isWord tX11_isWord_ok _ _ _ _ ?_
      apply And.intro
      · intro h1
        have h1 : w.toInt < 0 := h1
        exact ⟨Or.inl rfl, rfl, rfl, (show ((0 : Int) = 0 ∨ (0 : Int) = 1 ∧ 0 ≤ w.toInt ∧ w.toInt ≤ 11) from by first | assumption | omega | rfl), (show ((0 : Int) = 1 → (I 0 9 = Int32.ofNat 5 → w.toInt < (I 5 5).toInt) ∧ (I 0 9 = Int32.ofNat 10 → w.toInt < (I 10 5).toInt)) from fun h => by
          first
          | (exfalso; omega)
          | exact ⟨fun _ => by omega, fun q => absurd q (by show ¬ Int32.ofNat _ = Int32.ofNat _; decide)⟩
          | exact ⟨fun q => absurd q (by show ¬ Int32.ofNat _ = Int32.ofNat _; decide), fun _ => by omega⟩)⟩
      · intro h1
        have h1 : 0 ≤ w.toInt := h1
        have r9_1 : 0 ≤ (I 5 5).toInt ∧ (I 5 5).toInt ≤ 12 := hR 5 5
        apply And.intro
        · intro h12
          have h12 : (I 5 5).toInt ≤ w.toInt := h12
          exact ⟨Or.inl rfl, rfl, rfl, (show ((0 : Int) = 0 ∨ (0 : Int) = 1 ∧ 0 ≤ w.toInt ∧ w.toInt ≤ 11) from by first | assumption | omega | rfl), (show ((0 : Int) = 1 → (I 0 9 = Int32.ofNat 5 → w.toInt < (I 5 5).toInt) ∧ (I 0 9 = Int32.ofNat 10 → w.toInt < (I 10 5).toInt)) from fun h => by
            first
            | (exfalso; omega)
            | exact ⟨fun _ => by omega, fun q => absurd q (by show ¬ Int32.ofNat _ = Int32.ofNat _; decide)⟩
            | exact ⟨fun q => absurd q (by show ¬ Int32.ofNat _ = Int32.ofNat _; decide), fun _ => by omega⟩)⟩
        · intro h12
          have h12 : w.toInt < (I 5 5).toInt := h12
          exact ⟨Or.inr rfl, rfl, rfl, (show ((1 : Int) = 0 ∨ (1 : Int) = 1 ∧ 0 ≤ w.toInt ∧ w.toInt ≤ 11) from by first | assumption | omega | rfl), (show ((1 : Int) = 1 → (I 0 9 = Int32.ofNat 5 → w.toInt < (I 5 5).toInt) ∧ (I 0 9 = Int32.ofNat 10 → w.toInt < (I 10 5).toInt)) from fun h => by
            first
            | (exfalso; omega)
            | exact ⟨fun _ => by omega, fun q => absurd q (by show ¬ Int32.ofNat _ = Int32.ofNat _; decide)⟩
            | exact ⟨fun q => absurd q (by show ¬ Int32.ofNat _ = Int32.ofNat _; decide), fun _ => by omega⟩)⟩
    · obtain ⟨K, eK⟩ : ∃ K : fM, I = va_up K 0 (va_up (va_up (K 0) 9 (Int32.ofNat 10)) 10 (Int32.ofNat 5)) := ⟨I, f_lex h9 h10⟩
      subst eK
      let I : fM := va_up K 0 (va_up (va_up (K 0) 9 (Int32.ofNat 10)) 10 (Int32.ofNat 5))
      have hxL : xL I := Or.inr ⟨rfl, rfl⟩
      skip
      have hR : xR I := hR
      have hxL : xL I := hxL
      have hw5 : (I 5 5).toInt ≤ 12 := (hR 5 5).2
      have hw10 : (I 10 5).toInt ≤ 12 := (hR 10 5).2
      refine f_wp_ok C f_cl flX11_ok fiX11_ok fjX11_ok (sn := none) (fun j h => by cases h) (cs := (fun _ => none)) (cz := (fun _ => none)) (fun j S h => by cases h) (fun j S h => by cases h) tX11_isWord_ok (cut := (fun _ => none)) (fun t P h => by cases h) 13 0 tX11_isWord tX11_isWord_ok _ _ _ _ ?_
      apply And.intro
      · intro h1
        have h1 : w.toInt < 0 := h1
        exact ⟨Or.inl rfl, rfl, rfl, (show ((0 : Int) = 0 ∨ (0 : Int) = 1 ∧ 0 ≤ w.toInt ∧ w.toInt ≤ 11) from by first | assumption | omega | rfl), (show ((0 : Int) = 1 → (I 0 9 = Int32.ofNat 5 → w.toInt < (I 5 5).toInt) ∧ (I 0 9 = Int32.ofNat 10 → w.toInt < (I 10 5).toInt)) from fun h => by
          first
          | (exfalso; omega)
          | exact ⟨fun _ => by omega, fun q => absurd q (by show ¬ Int32.ofNat _ = Int32.ofNat _; decide)⟩
          | exact ⟨fun q => absurd q (by show ¬ Int32.ofNat _ = Int32.ofNat _; decide), fun _ => by omega⟩)⟩
      · intro h1
        have h1 : 0 ≤ w.toInt := h1
        have r9_1 : 0 ≤ (I 10 5).toInt ∧ (I 10 5).toInt ≤ 12 := hR 10 5
        apply And.intro
        · intro h12
          have h12 : (I 10 5).toInt ≤ w.toInt := h12
          exact ⟨Or.inl rfl, rfl, rfl, (show ((0 : Int) = 0 ∨ (0 : Int) = 1 ∧ 0 ≤ w.toInt ∧ w.toInt ≤ 11) from by first | assumption | omega | rfl), (show ((0 : Int) = 1 → (I 0 9 = Int32.ofNat 5 → w.toInt < (I 5 5).toInt) ∧ (I 0 9 = Int32.ofNat 10 → w.toInt < (I 10 5).toInt)) from fun h => by
            first
            | (exfalso; omega)
            | exact ⟨fun _ => by omega, fun q => absurd q (by show ¬ Int32.ofNat _ = Int32.ofNat _; decide)⟩
            | exact ⟨fun q => absurd q (by show ¬ Int32.ofNat _ = Int32.ofNat _; decide), fun _ => by omega⟩)⟩
        · intro h12
          have h12 : w.toInt < (I 10 5).toInt := h12
          exact ⟨Or.inr rfl, rfl, rfl, (show ((1 : Int) = 0 ∨ (1 : Int) = 1 ∧ 0 ≤ w.toInt ∧ w.toInt ≤ 11) from by first | assumption | omega | rfl), (show ((1 : Int) = 1 → (I 0 9 = Int32.ofNat 5 → w.toInt < (I 5 5).toInt) ∧ (I 0 9 = Int32.ofNat 10 → w.toInt < (I 10 5).toInt)) from fun h => by
            first
            | (exfalso; omega)
            | exact ⟨fun _ => by omega, fun q => absurd q (by show ¬ Int32.ofNat _ = Int32.ofNat _; decide)⟩
            | exact ⟨fun q => absurd q (by show ¬ Int32.ofNat _ = Int32.ofNat _; decide), fun _ => by omega⟩)⟩
def tX11_isPlace : List (Instr × Nat) := [(.iload_n 1, 1), (.ifCond .lt 18, 3), (.iload_n 1, 1), (.aload_n 0, 1), (.getfield 54, 3), (.getfield 131, 3), (.if_icmp .ge 7, 3), (.iconst 1, 1), (.goto 4, 3), (.iconst 0, 1), (.ireturn, 1)]
theorem tX11_isPlace_ok : f_chk cX11_isPlace 0 tX11_isPlace = true := by decide +kernel
def pX11_isPlace (av : List Value) (I : fM) (L : fN) : Prop := match av with
  | [.ref 0, .int p] => xR I
  | _ => False
def qX11_isPlace (av : List Value) (I : fM) (L : fN) (r : Value) (I' : fM) (L' : fN) : Prop := match av, r with
  | [.ref 0, .int p], .int x => I' = I ∧ L' = L ∧ (x.toInt = 0 ∨ x.toInt = 1 ∧ 0 ≤ p.toInt ∧ p.toInt < (I 40 6).toInt ∧ p.toInt ≤ 7)
  | _, _ => False
set_option maxHeartbeats 4000000 in
set_option maxRecDepth 100000 in
theorem mX11_isPlace {l : Launch} {a : Nat → Nat} {cy dC : Nat → ClassId} {dI : Nat → Nat → Nat} (hinj : ∀ i j, i < 80 → j < 80 → a i = a j → i = j) : f_Met (xE a) l xY 80 a cy dC dI yX11_isPlace cX11_isPlace 2 3 0 pX11_isPlace qX11_isPlace := by
  refine f_met_of (xE_c a) hinj xY_hi (by decide) (fun av I L h => by unfold pX11_isPlace at h; split at h <;> first | exact Nat.le_of_ble_eq_true rfl | exact h.elim) ?_
  intro pP eP sP mP aP bP hP9 cP C av I L hp
  unfold pX11_isPlace at hp
  split at hp
  case h_2 => exact hp.elim
  case h_1 p =>
    have hR := hp
    have hn : (I 40 6).toInt ≤ 8 := (hR 40 6).2
    refine f_wp_ok C f_cl flX11_ok fiX11_ok fjX11_ok (sn := none) (fun j h => by cases h) (cs := (fun _ => none)) (cz := (fun _ => none)) (fun j S h => by cases h) (fun j S h => by cases h) tX11_isPlace_ok (cut := (fun _ => none)) (fun t P h => by cases h) 13 0 tX11_isPlace tX11_isPlace_ok _ _ _ _ ?_
    apply And.intro
    · intro h1
      have h1 : p.toInt < 0 := h1
      have r20_1 : 0 ≤ (I 40 6).toInt ∧ (I 40 6).toInt ≤ 8 := hR 40 6
      exact ⟨Or.inl rfl, rfl, rfl, (show ((0 : Int) = 0 ∨ (0 : Int) = 1 ∧ 0 ≤ p.toInt ∧ p.toInt < (I 40 6).toInt ∧ p.toInt ≤ 7) from by first | assumption | omega | rfl)⟩
    · intro h1
      have h1 : 0 ≤ p.toInt := h1
      have r9_1 : 0 ≤ (I 40 6).toInt ∧ (I 40 6).toInt ≤ 8 := hR 40 6
      apply And.intro
      · intro h12
        have h12 : (I 40 6).toInt ≤ p.toInt := h12
        exact ⟨Or.inl rfl, rfl, rfl, (show ((0 : Int) = 0 ∨ (0 : Int) = 1 ∧ 0 ≤ p.toInt ∧ p.toInt < (I 40 6).toInt ∧ p.toInt ≤ 7) from by first | assumption | omega | rfl)⟩
      · intro h12
        have h12 : p.toInt < (I 40 6).toInt := h12
        exact ⟨Or.inr rfl, rfl, rfl, (show ((1 : Int) = 0 ∨ (1 : Int) = 1 ∧ 0 ≤ p.toInt ∧ p.toInt < (I 40 6).toInt ∧ p.toInt ≤ 7) from by first | assumption | omega | rfl)⟩
def tX11_unread : List (Instr × Nat) := [(.aload_n 0, 1), (.getfield 67, 3), (.getfield 168, 3), (.ifCond .eq 8, 3), (.bipush (-2), 2), (.goto 4, 3), (.iconst (-1), 1), (.ireturn, 1)]
theorem tX11_unread_ok : f_chk cX11_unread 0 tX11_unread = true := by decide +kernel
def pX11_unread (av : List Value) (I : fM) (L : fN) : Prop := match av with
  | [.ref 0] => True
  | _ => False
def qX11_unread (av : List Value) (I : fM) (L : fN) (r : Value) (I' : fM) (L' : fN) : Prop := match av, r with
  | [.ref 0], .int x => I' = I ∧ L' = L
  | _, _ => False
set_option maxHeartbeats 4000000 in
set_option maxRecDepth 100000 in
theorem mX11_unread {l : Launch} {a : Nat → Nat} {cy dC : Nat → ClassId} {dI : Nat → Nat → Nat} (hinj : ∀ i j, i < 80 → j < 80 → a i = a j → i = j) : f_Met (xE a) l xY 80 a cy dC dI yX11_unread cX11_unread 1 1 0 pX11_unread qX11_unread := by
  refine f_met_of (xE_c a) hinj xY_hi (by decide) (fun av I L h => by unfold pX11_unread at h; split at h <;> first | exact Nat.le_of_ble_eq_true rfl | exact h.elim) ?_
  intro pP eP sP mP aP bP hP9 cP C av I L hp
  unfold pX11_unread at hp
  split at hp
  case h_2 => exact hp.elim
  case h_1 =>
    have p0 := hp
    refine f_wp_ok C f_cl flX11_ok fiX11_ok fjX11_ok (sn := none) (fun j h => by cases h) (cs := (fun _ => none)) (cz := (fun _ => none)) (fun j S h => by cases h) (fun j S h => by cases h) tX11_unread_ok (cut := (fun _ => none)) (fun t P h => by cases h) 10 0 tX11_unread tX11_unread_ok _ _ _ _ ?_
    apply And.intro
    · intro h7
      have h7 : (I 69 6).toInt = 0 := h7
      exact ⟨rfl, rfl⟩
    · intro h7
      have h7 : ¬ (I 69 6).toInt = 0 := h7
      exact ⟨rfl, rfl⟩
def tX11_forgetRow : List (Instr × Nat) := [(.aload_n 0, 1), (.getfield 67, 3), (.invokevirtual 273, 3), (.aload_n 0, 1), (.getfield 76, 3), (.invokevirtual 274, 3), (.return_, 1)]
theorem tX11_forgetRow_ok : f_chk cX11_forgetRow 0 tX11_forgetRow = true := by decide +kernel
def pX11_forgetRow (av : List Value) (I : fM) (L : fN) : Prop := match av with
  | [.ref 0] => xR I
  | _ => False
def qX11_forgetRow (av : List Value) (I : fM) (L : fN) (r : Value) (I' : fM) (L' : fN) : Prop := match av, r with
  | [.ref 0], .null => xR I' ∧ f_fr [69, 72, 74, 76] I I' ∧ L' = L
  | _, _ => False
set_option maxHeartbeats 4000000 in
set_option maxRecDepth 100000 in
theorem mX11_forgetRow {l : Launch} {a : Nat → Nat} {cy dC : Nat → ClassId} {dI : Nat → Nat → Nat} (hinj : ∀ i j, i < 80 → j < 80 → a i = a j → i = j) : f_Met (xE a) l xY 80 a cy dC dI yX11_forgetRow cX11_forgetRow 1 0 2 pX11_forgetRow qX11_forgetRow := by
  refine f_met_of (xE_c a) hinj xY_hi (by decide) (fun av I L h => by unfold pX11_forgetRow at h; split at h <;> first | exact Nat.le_of_ble_eq_true rfl | exact h.elim) ?_
  intro pP eP sP mP aP bP hP9 cP C av I L hp
  unfold pX11_forgetRow at hp
  split at hp
  case h_2 => exact hp.elim
  case h_1 =>
    have hR := hp
    have hF0 : f_fr [69, 72, 74, 76] I I := f_fr_rf
    refine f_wp_ok C f_cl flX11_ok fiX11_ok fjX11_ok (sn := none) (fun j h => by cases h) (cs := (f_cnl [(273, (1, 0, 5, pX5_forget, qX5_forget)), (274, (1, 0, 6, pX6_forget, qX6_forget))])) (cz := (fun _ => none)) (f_cnl_of (P := fun j S => f_cok pP l eP (f_rm 2) sP mP aP bP hP9 cP xY 80 a cy dC dI 1 _ _ (.invokevirtual j) true S) (List.forall_mem_cons.mpr ⟨f_cokV C (mX5_forget hinj) (ci := 5) rfl (List.forall_mem_cons.mpr ⟨(mlX11_ok _ (List.mem_of_getElem? (i := 39) rfl)), kc_X5_forget⟩) (by decide +kernel) ⟨Nat.le_of_ble_eq_true rfl, Nat.le_of_ble_eq_true rfl⟩, List.forall_mem_cons.mpr ⟨f_cokV C (mX6_forget hinj) (ci := 6) rfl (List.forall_mem_cons.mpr ⟨(mlX11_ok _ (List.mem_of_getElem? (i := 40) rfl)), kc_X6_forget⟩) (by decide +kernel) ⟨Nat.le_of_ble_eq_true rfl, Nat.le_of_ble_eq_true rfl⟩, fun _ h => absurd h List.not_mem_nil⟩⟩)) (fun j S h => by cases h) tX11_forgetRow_ok (cut := (fun _ => none)) (fun t P h => by cases h) 10 0 tX11_forgetRow tX11_forgetRow_ok _ _ _ _ ?_
    refine And.intro hR ?_
    intro I4 L4 hq4
    have hq4 : xR I4 ∧ f_fr [69] I I4 ∧ L4 = L := hq4
    obtain ⟨c4_0, c4_1, eL4⟩ := hq4
    replace eL4 := eL4.symm
    subst eL4
    have hF4 := f_fr_tr hF0 c4_1 rfl
    refine And.intro c4_0 ?_
    intro I11 L11 hq11
    have hq11 : xR I11 ∧ f_fr [72, 74, 76] I4 I11 ∧ L11 = L := hq11
    obtain ⟨c11_0, c11_1, eL11⟩ := hq11
    replace eL11 := eL11.symm
    subst eL11
    have hF11 := f_fr_tr hF4 c11_1 rfl
    exact ⟨c11_0, hF11, rfl⟩
def tX11_fault : List (Instr × Nat) := [(.iload_n 1, 1), (.ifCond .ne 11, 3), (.aload_n 0, 1), (.getfield 21, 3), (.getfield 134, 3), (.ireturn, 1), (.iload_n 1, 1), (.iconst 1, 1), (.if_icmp .ne 13, 3), (.aload_n 0, 1), (.getfield 21, 3), (.getfield 137, 3), (.goto 4, 3), (.iconst (-1), 1), (.ireturn, 1)]
theorem tX11_fault_ok : f_chk cX11_fault 0 tX11_fault = true := by decide +kernel
def pX11_fault (av : List Value) (I : fM) (L : fN) : Prop := match av with
  | [.ref 0, .int w] => True
  | _ => False
def qX11_fault (av : List Value) (I : fM) (L : fN) (r : Value) (I' : fM) (L' : fN) : Prop := match av, r with
  | [.ref 0, .int w], .int x => I' = I ∧ L' = L
  | _, _ => False
set_option maxHeartbeats 4000000 in
set_option maxRecDepth 100000 in
theorem mX11_fault {l : Launch} {a : Nat → Nat} {cy dC : Nat → ClassId} {dI : Nat → Nat → Nat} (hinj : ∀ i j, i < 80 → j < 80 → a i = a j → i = j) : f_Met (xE a) l xY 80 a cy dC dI yX11_fault cX11_fault 2 1 0 pX11_fault qX11_fault := by
  refine f_met_of (xE_c a) hinj xY_hi (by decide) (fun av I L h => by unfold pX11_fault at h; split at h <;> first | exact Nat.le_of_ble_eq_true rfl | exact h.elim) ?_
  intro pP eP sP mP aP bP hP9 cP C av I L hp
  unfold pX11_fault at hp
  split at hp
  case h_2 => exact hp.elim
  case h_1 w =>
    have p0 := hp
    refine f_wp_ok C f_cl flX11_ok fiX11_ok fjX11_ok (sn := none) (fun j h => by cases h) (cs := (fun _ => none)) (cz := (fun _ => none)) (fun j S h => by cases h) (fun j S h => by cases h) tX11_fault_ok (cut := (fun _ => none)) (fun t P h => by cases h) 13 0 tX11_fault tX11_fault_ok _ _ _ _ ?_
    apply And.intro
    · intro h1
      have h1 : ¬ w.toInt = 0 := h1
      apply And.intro
      · intro h14
        have h14 : ¬ w.toInt = 1 := h14
        exact ⟨rfl, rfl⟩
      · intro h14
        have h14 : w.toInt = 1 := h14
        exact ⟨rfl, rfl⟩
    · intro h1
      have h1 : w.toInt = 0 := h1
      exact ⟨rfl, rfl⟩
def tX11_tags : List (Instr × Nat) := [(.aload_n 0, 1), (.iload_n 1, 1), (.invokevirtual 140, 3), (.ifCond .eq 15, 3), (.aload_n 0, 1), (.getfield 28, 3), (.getfield 143, 3), (.iload_n 1, 1), (.iaload, 1), (.goto 4, 3), (.iconst (-1), 1), (.ireturn, 1)]
theorem tX11_tags_ok : f_chk cX11_tags 0 tX11_tags = true := by decide +kernel
def pX11_tags (av : List Value) (I : fM) (L : fN) : Prop := match av with
  | [.ref 0, .int w] => xR I ∧ xL I
  | _ => False
def qX11_tags (av : List Value) (I : fM) (L : fN) (r : Value) (I' : fM) (L' : fN) : Prop := match av, r with
  | [.ref 0, .int w], .int x => I' = I ∧ L' = L
  | _, _ => False
set_option maxHeartbeats 4000000 in
set_option maxRecDepth 100000 in
theorem mX11_tags {l : Launch} {a : Nat → Nat} {cy dC : Nat → ClassId} {dI : Nat → Nat → Nat} (hinj : ∀ i j, i < 80 → j < 80 → a i = a j → i = j) : f_Met (xE a) l xY 80 a cy dC dI yX11_tags cX11_tags 2 1 1 pX11_tags qX11_tags := by
  refine f_met_of (xE_c a) hinj xY_hi (by decide) (fun av I L h => by unfold pX11_tags at h; split at h <;> first | exact Nat.le_of_ble_eq_true rfl | exact h.elim) ?_
  intro pP eP sP mP aP bP hP9 cP C av I L hp
  unfold pX11_tags at hp
  split at hp
  case h_2 => exact hp.elim
  case h_1 w =>
    obtain ⟨hR, hxL⟩ := hp
    rcases hxL with ⟨h9, h10⟩ | ⟨h9, h10⟩
    · obtain ⟨K, eK⟩ : ∃ K : fM, I = va_up K 0 (va_up (va_up (K 0) 9 (Int32.ofNat 5)) 10 (Int32.ofNat 10)) := ⟨I, f_lex h9 h10⟩
      subst eK
      let I : fM := va_up K 0 (va_up (va_up (K 0) 9 (Int32.ofNat 5)) 10 (Int32.ofNat 10))
      have hxL : xL I := Or.inl ⟨rfl, rfl⟩
      skip
      have hR : xR I := hR
      have hxL : xL I := hxL
      refine f_wp_ok C f_cl flX11_ok fiX11_ok fjX11_ok (sn := none) (fun j h => by cases h) (cs := (f_cnl [(140, (2, 3, 10, pX11_isWord, qX11_isWord))])) (cz := (fun _ => none)) (f_cnl_of (P := fun j S => f_cok pP l eP (f_rm 1) sP mP aP bP hP9 cP xY 80 a cy dC dI 2 _ _ (.invokevirtual j) true S) (List.forall_mem_cons.mpr ⟨f_cokV C (mX11_isWord hinj) (ci := 10) rfl (List.forall_mem_cons.mpr ⟨(mlX11_ok _ (List.mem_of_getElem? (i := 14) rfl)), kc_X11_isWord⟩) (by decide +kernel) ⟨Nat.le_of_ble_eq_true rfl, Nat.le_of_ble_eq_true rfl⟩, fun _ h => absurd h List.not_mem_nil⟩)) (fun j S h => by cases h) tX11_tags_ok (cut := (fun _ => none)) (fun t P h => by cases h) 14 0 tX11_tags tX11_tags_ok _ _ _ _ ?_
      refine And.intro ⟨hR, hxL⟩ ?_
      intro x2 I2 L2 hq2
      have hq2 : I2 = I ∧ L2 = L ∧ ((x2.toInt = 0 ∨ x2.toInt = 1 ∧ 0 ≤ w.toInt ∧ w.toInt ≤ 11)) ∧ ((x2.toInt = 1 → (I 0 9 = Int32.ofNat 5 → w.toInt < (I 5 5).toInt) ∧ (I 0 9 = Int32.ofNat 10 → w.toInt < (I 10 5).toInt))) := hq2
      obtain ⟨eI2, eL2, c2_2, c2_3⟩ := hq2
      replace eI2 := eI2.symm
      subst eI2
      replace eL2 := eL2.symm
      subst eL2
      apply And.intro
      · intro h5
        have h5 : x2.toInt = 0 := h5
        exact ⟨rfl, rfl⟩
      · intro h5
        have h5 : ¬ x2.toInt = 0 := h5
        refine And.intro (show f_in w 12 from ⟨show 0 ≤ w.toInt from by omega, show w.toInt < 12 from by omega⟩) ?_
        have r16_1 : 0 ≤ (I 8 (w.toInt.toNat)).toInt ∧ (I 8 (w.toInt.toNat)).toInt ≤ 3 := hR 8 (w.toInt.toNat)
        exact ⟨rfl, rfl⟩
    · obtain ⟨K, eK⟩ : ∃ K : fM, I = va_up K 0 (va_up (va_up (K 0) 9 (Int32.ofNat 10)) 10 (Int32.ofNat 5)) := ⟨I, f_lex h9 h10⟩
      subst eK
      let I : fM := va_up K 0 (va_up (va_up (K 0) 9 (Int32.ofNat 10)) 10 (Int32.ofNat 5))
      have hxL : xL I := Or.inr ⟨rfl, rfl⟩
      skip
      have hR : xR I := hR
      have hxL : xL I := hxL
      refine f_wp_ok C f_cl flX11_ok fiX11_ok fjX11_ok (sn := none) (fun j h => by cases h) (cs := (f_cnl [(140, (2, 3, 10, pX11_isWord, qX11_isWord))])) (cz := (fun _ => none)) (f_cnl_of (P := fun j S => f_cok pP l eP (f_rm 1) sP mP aP bP hP9 cP xY 80 a cy dC dI 2 _ _ (.invokevirtual j) true S) (List.forall_mem_cons.mpr ⟨f_cokV C (mX11_isWord hinj) (ci := 10) rfl (List.forall_mem_cons.mpr ⟨(mlX11_ok _ (List.mem_of_getElem? (i := 14) rfl)), kc_X11_isWord⟩) (by decide +kernel) ⟨Nat.le_of_ble_eq_true rfl, Nat.le_of_ble_eq_true rfl⟩, fun _ h => absurd h List.not_mem_nil⟩)) (fun j S h => by cases h) tX11_tags_ok (cut := (fun _ => none)) (fun t P h => by cases h) 14 0 tX11_tags tX11_tags_ok _ _ _ _ ?_
      refine And.intro ⟨hR, hxL⟩ ?_
      intro x2 I2 L2 hq2
      have hq2 : I2 = I ∧ L2 = L ∧ ((x2.toInt = 0 ∨ x2.toInt = 1 ∧ 0 ≤ w.toInt ∧ w.toInt ≤ 11)) ∧ ((x2.toInt = 1 → (I 0 9 = Int32.ofNat 5 → w.toInt < (I 5 5).toInt) ∧ (I 0 9 = Int32.ofNat 10 → w.toInt < (I 10 5).toInt))) := hq2
      obtain ⟨eI2, eL2, c2_2, c2_3⟩ := hq2
      replace eI2 := eI2.symm
      subst eI2
      replace eL2 := eL2.symm
      subst eL2
      apply And.intro
      · intro h5
        have h5 : x2.toInt = 0 := h5
        exact ⟨rfl, rfl⟩
      · intro h5
        have h5 : ¬ x2.toInt = 0 := h5
        refine And.intro (show f_in w 12 from ⟨show 0 ≤ w.toInt from by omega, show w.toInt < 12 from by omega⟩) ?_
        have r16_1 : 0 ≤ (I 13 (w.toInt.toNat)).toInt ∧ (I 13 (w.toInt.toNat)).toInt ≤ 3 := hR 13 (w.toInt.toNat)
        exact ⟨rfl, rfl⟩
def tX11_number : List (Instr × Nat) := [(.aload_n 0, 1), (.iload_n 1, 1), (.invokevirtual 140, 3), (.ifCond .eq 20, 3), (.iload_n 2, 1), (.ifCond .lt 16, 3), (.iload_n 2, 1), (.aload_n 0, 1), (.getfield 28, 3), (.getfield 143, 3), (.iload_n 1, 1), (.iaload, 1), (.if_icmp .lt 5, 3), (.iconst (-1), 1), (.ireturn, 1), (.aload_n 0, 1), (.getfield 28, 3), (.iload_n 1, 1), (.iload_n 2, 1), (.invokevirtual 147, 3), (.aload_n 0, 1), (.getfield 28, 3), (.getfield 151, 3), (.invokestatic 154, 3), (.ireturn, 1)]
theorem tX11_number_ok : f_chk cX11_number 0 tX11_number = true := by decide +kernel
def pX11_number (av : List Value) (I : fM) (L : fN) : Prop := match av with
  | [.ref 0, .int w, .int t] => xR I ∧ xL I
  | _ => False
def qX11_number (av : List Value) (I : fM) (L : fN) (r : Value) (I' : fM) (L' : fN) : Prop := match av, r with
  | [.ref 0, .int w, .int t], .int x => I' = I ∧ L' = L
  | _, _ => False
set_option maxHeartbeats 4000000 in
set_option maxRecDepth 100000 in
theorem mX11_number {l : Launch} {a : Nat → Nat} {cy dC : Nat → ClassId} {dI : Nat → Nat → Nat} (hinj : ∀ i j, i < 80 → j < 80 → a i = a j → i = j) : f_Met (xE a) l xY 80 a cy dC dI yX11_number cX11_number 3 1 3 pX11_number qX11_number := by
  refine f_met_of (xE_c a) hinj xY_hi (by decide) (fun av I L h => by unfold pX11_number at h; split at h <;> first | exact Nat.le_of_ble_eq_true rfl | exact h.elim) ?_
  intro pP eP sP mP aP bP hP9 cP C av I L hp
  unfold pX11_number at hp
  split at hp
  case h_2 => exact hp.elim
  case h_1 w t =>
    obtain ⟨hR, hxL⟩ := hp
    rcases hxL with ⟨h9, h10⟩ | ⟨h9, h10⟩
    · obtain ⟨K, eK⟩ : ∃ K : fM, I = va_up K 0 (va_up (va_up (K 0) 9 (Int32.ofNat 5)) 10 (Int32.ofNat 10)) := ⟨I, f_lex h9 h10⟩
      subst eK
      let I : fM := va_up K 0 (va_up (va_up (K 0) 9 (Int32.ofNat 5)) 10 (Int32.ofNat 10))
      have hxL : xL I := Or.inl ⟨rfl, rfl⟩
      skip
      have hR : xR I := hR
      have hxL : xL I := hxL
      refine f_wp_ok C f_cl flX11_ok fiX11_ok fjX11_ok (sn := none) (fun j h => by cases h) (cs := (f_cnl [(140, (2, 3, 10, pX11_isWord, qX11_isWord)), (147, (3, 1, 1, pX1_tagAt, qX1_tagAt))])) (cz := (f_cnl [(154, (2, 1, 0, pX8_numberOf, qX8_numberOf))])) (f_cnl_of (P := fun j S => f_cok pP l eP (f_rm 3) sP mP aP bP hP9 cP xY 80 a cy dC dI 3 _ _ (.invokevirtual j) true S) (List.forall_mem_cons.mpr ⟨f_cokV C (mX11_isWord hinj) (ci := 10) rfl (List.forall_mem_cons.mpr ⟨(mlX11_ok _ (List.mem_of_getElem? (i := 14) rfl)), kc_X11_isWord⟩) (by decide +kernel) ⟨Nat.le_of_ble_eq_true rfl, Nat.le_of_ble_eq_true rfl⟩, List.forall_mem_cons.mpr ⟨f_cokV C (mX1_tagAt hinj) (ci := 1) rfl (List.forall_mem_cons.mpr ⟨(mlX11_ok _ (List.mem_of_getElem? (i := 15) rfl)), kc_X1_tagAt⟩) (by decide +kernel) ⟨Nat.le_of_ble_eq_true rfl, Nat.le_of_ble_eq_true rfl⟩, fun _ h => absurd h List.not_mem_nil⟩⟩)) (f_cnl_of (P := fun j S => f_cok pP l eP (f_rm 3) sP mP aP bP hP9 cP xY 80 a cy dC dI 3 _ _ (.invokestatic j) false S) (List.forall_mem_cons.mpr ⟨f_cokS C (mX8_numberOf hinj) (List.forall_mem_cons.mpr ⟨(mlX11_ok _ (List.mem_of_getElem? (i := 16) rfl)), kc_X8_numberOf⟩) (by decide +kernel) ⟨Nat.le_of_ble_eq_true rfl, Nat.le_of_ble_eq_true rfl⟩, fun _ h => absurd h List.not_mem_nil⟩)) tX11_number_ok (cut := (fun _ => none)) (fun t P h => by cases h) 26 0 tX11_number tX11_number_ok _ _ _ _ ?_
      refine And.intro ⟨hR, hxL⟩ ?_
      intro x2 I2 L2 hq2
      have hq2 : I2 = I ∧ L2 = L ∧ ((x2.toInt = 0 ∨ x2.toInt = 1 ∧ 0 ≤ w.toInt ∧ w.toInt ≤ 11)) ∧ ((x2.toInt = 1 → (I 0 9 = Int32.ofNat 5 → w.toInt < (I 5 5).toInt) ∧ (I 0 9 = Int32.ofNat 10 → w.toInt < (I 10 5).toInt))) := hq2
      obtain ⟨eI2, eL2, c2_2, c2_3⟩ := hq2
      replace eI2 := eI2.symm
      subst eI2
      replace eL2 := eL2.symm
      subst eL2
      apply And.intro
      · intro h5
        have h5 : x2.toInt = 0 := h5
        exact ⟨rfl, rfl⟩
      · intro h5
        have h5 : ¬ x2.toInt = 0 := h5
        apply And.intro
        · intro h9
          have h9 : t.toInt < 0 := h9
          exact ⟨rfl, rfl⟩
        · intro h9
          have h9 : 0 ≤ t.toInt := h9
          refine And.intro (show f_in w 12 from ⟨show 0 ≤ w.toInt from by omega, show w.toInt < 12 from by omega⟩) ?_
          have r21_1 : 0 ≤ (I 8 (w.toInt.toNat)).toInt ∧ (I 8 (w.toInt.toNat)).toInt ≤ 3 := hR 8 (w.toInt.toNat)
          apply And.intro
          · intro h22
            have h22 : t.toInt < (I 8 (w.toInt.toNat)).toInt := h22
            refine And.intro ⟨(show (5 = 5 ∨ 5 = 10) from by decide), hR, (show 0 ≤ w.toInt from by first | assumption | omega), (show w.toInt ≤ 11 from by first | assumption | omega), (show 0 ≤ t.toInt from by first | assumption | omega), (show t.toInt ≤ 2 from by first | assumption | omega)⟩ ?_
            intro x33 I33 L33 hq33
            have hq33 : I33 = I ∧ L33 = L ∧ x33 = I 9 (3 * w.toInt + t.toInt).toNat := hq33
            obtain ⟨eI33, eL33, c33_2⟩ := hq33
            replace eI33 := eI33.symm
            subst eI33
            replace eL33 := eL33.symm
            subst eL33
            have r40_2 : 0 ≤ (I 5 4).toInt ∧ (I 5 4).toInt ≤ 5 := hR 5 4
            refine And.intro trivial ?_
            intro x43 I43 L43 hq43
            have hq43 : I43 = I ∧ L43 = L := hq43
            obtain ⟨eI43, eL43⟩ := hq43
            replace eI43 := eI43.symm
            subst eI43
            replace eL43 := eL43.symm
            subst eL43
            exact ⟨rfl, rfl⟩
          · intro h22
            have h22 : (I 8 (w.toInt.toNat)).toInt ≤ t.toInt := h22
            exact ⟨rfl, rfl⟩
    · obtain ⟨K, eK⟩ : ∃ K : fM, I = va_up K 0 (va_up (va_up (K 0) 9 (Int32.ofNat 10)) 10 (Int32.ofNat 5)) := ⟨I, f_lex h9 h10⟩
      subst eK
      let I : fM := va_up K 0 (va_up (va_up (K 0) 9 (Int32.ofNat 10)) 10 (Int32.ofNat 5))
      have hxL : xL I := Or.inr ⟨rfl, rfl⟩
      skip
      have hR : xR I := hR
      have hxL : xL I := hxL
      refine f_wp_ok C f_cl flX11_ok fiX11_ok fjX11_ok (sn := none) (fun j h => by cases h) (cs := (f_cnl [(140, (2, 3, 10, pX11_isWord, qX11_isWord)), (147, (3, 1, 1, pX1_tagAt, qX1_tagAt))])) (cz := (f_cnl [(154, (2, 1, 0, pX8_numberOf, qX8_numberOf))])) (f_cnl_of (P := fun j S => f_cok pP l eP (f_rm 3) sP mP aP bP hP9 cP xY 80 a cy dC dI 3 _ _ (.invokevirtual j) true S) (List.forall_mem_cons.mpr ⟨f_cokV C (mX11_isWord hinj) (ci := 10) rfl (List.forall_mem_cons.mpr ⟨(mlX11_ok _ (List.mem_of_getElem? (i := 14) rfl)), kc_X11_isWord⟩) (by decide +kernel) ⟨Nat.le_of_ble_eq_true rfl, Nat.le_of_ble_eq_true rfl⟩, List.forall_mem_cons.mpr ⟨f_cokV C (mX1_tagAt hinj) (ci := 1) rfl (List.forall_mem_cons.mpr ⟨(mlX11_ok _ (List.mem_of_getElem? (i := 15) rfl)), kc_X1_tagAt⟩) (by decide +kernel) ⟨Nat.le_of_ble_eq_true rfl, Nat.le_of_ble_eq_true rfl⟩, fun _ h => absurd h List.not_mem_nil⟩⟩)) (f_cnl_of (P := fun j S => f_cok pP l eP (f_rm 3) sP mP aP bP hP9 cP xY 80 a cy dC dI 3 _ _ (.invokestatic j) false S) (List.forall_mem_cons.mpr ⟨f_cokS C (mX8_numberOf hinj) (List.forall_mem_cons.mpr ⟨(mlX11_ok _ (List.mem_of_getElem? (i := 16) rfl)), kc_X8_numberOf⟩) (by decide +kernel) ⟨Nat.le_of_ble_eq_true rfl, Nat.le_of_ble_eq_true rfl⟩, fun _ h => absurd h List.not_mem_nil⟩)) tX11_number_ok (cut := (fun _ => none)) (fun t P h => by cases h) 26 0 tX11_number tX11_number_ok _ _ _ _ ?_
      refine And.intro ⟨hR, hxL⟩ ?_
      intro x2 I2 L2 hq2
      have hq2 : I2 = I ∧ L2 = L ∧ ((x2.toInt = 0 ∨ x2.toInt = 1 ∧ 0 ≤ w.toInt ∧ w.toInt ≤ 11)) ∧ ((x2.toInt = 1 → (I 0 9 = Int32.ofNat 5 → w.toInt < (I 5 5).toInt) ∧ (I 0 9 = Int32.ofNat 10 → w.toInt < (I 10 5).toInt))) := hq2
      obtain ⟨eI2, eL2, c2_2, c2_3⟩ := hq2
      replace eI2 := eI2.symm
      subst eI2
      replace eL2 := eL2.symm
      subst eL2
      apply And.intro
      · intro h5
        have h5 : x2.toInt = 0 := h5
        exact ⟨rfl, rfl⟩
      · intro h5
        have h5 : ¬ x2.toInt = 0 := h5
        apply And.intro
        · intro h9
          have h9 : t.toInt < 0 := h9
          exact ⟨rfl, rfl⟩
        · intro h9
          have h9 : 0 ≤ t.toInt := h9
          refine And.intro (show f_in w 12 from ⟨show 0 ≤ w.toInt from by omega, show w.toInt < 12 from by omega⟩) ?_
          have r21_1 : 0 ≤ (I 13 (w.toInt.toNat)).toInt ∧ (I 13 (w.toInt.toNat)).toInt ≤ 3 := hR 13 (w.toInt.toNat)
          apply And.intro
          · intro h22
            have h22 : t.toInt < (I 13 (w.toInt.toNat)).toInt := h22
            refine And.intro ⟨(show (10 = 5 ∨ 10 = 10) from by decide), hR, (show 0 ≤ w.toInt from by first | assumption | omega), (show w.toInt ≤ 11 from by first | assumption | omega), (show 0 ≤ t.toInt from by first | assumption | omega), (show t.toInt ≤ 2 from by first | assumption | omega)⟩ ?_
            intro x33 I33 L33 hq33
            have hq33 : I33 = I ∧ L33 = L ∧ x33 = I 14 (3 * w.toInt + t.toInt).toNat := hq33
            obtain ⟨eI33, eL33, c33_2⟩ := hq33
            replace eI33 := eI33.symm
            subst eI33
            replace eL33 := eL33.symm
            subst eL33
            have r40_2 : 0 ≤ (I 10 4).toInt ∧ (I 10 4).toInt ≤ 5 := hR 10 4
            refine And.intro trivial ?_
            intro x43 I43 L43 hq43
            have hq43 : I43 = I ∧ L43 = L := hq43
            obtain ⟨eI43, eL43⟩ := hq43
            replace eI43 := eI43.symm
            subst eI43
            replace eL43 := eL43.symm
            subst eL43
            exact ⟨rfl, rfl⟩
          · intro h22
            have h22 : (I 13 (w.toInt.toNat)).toInt ≤ t.toInt := h22
            exact ⟨rfl, rfl⟩
def tX11_at : List (Instr × Nat) := [(.aload_n 0, 1), (.iload_n 1, 1), (.invokevirtual 159, 3), (.ifCond .eq 15, 3), (.aload_n 0, 1), (.getfield 54, 3), (.getfield 162, 3), (.iload_n 1, 1), (.iaload, 1), (.goto 4, 3), (.iconst (-1), 1), (.ireturn, 1)]
theorem tX11_at_ok : f_chk cX11_at 0 tX11_at = true := by decide +kernel
def pX11_at (av : List Value) (I : fM) (L : fN) : Prop := match av with
  | [.ref 0, .int p] => xR I
  | _ => False
def qX11_at (av : List Value) (I : fM) (L : fN) (r : Value) (I' : fM) (L' : fN) : Prop := match av, r with
  | [.ref 0, .int p], .int x => I' = I ∧ L' = L
  | _, _ => False
set_option maxHeartbeats 4000000 in
set_option maxRecDepth 100000 in
theorem mX11_at {l : Launch} {a : Nat → Nat} {cy dC : Nat → ClassId} {dI : Nat → Nat → Nat} (hinj : ∀ i j, i < 80 → j < 80 → a i = a j → i = j) : f_Met (xE a) l xY 80 a cy dC dI yX11_at cX11_at 2 1 1 pX11_at qX11_at := by
  refine f_met_of (xE_c a) hinj xY_hi (by decide) (fun av I L h => by unfold pX11_at at h; split at h <;> first | exact Nat.le_of_ble_eq_true rfl | exact h.elim) ?_
  intro pP eP sP mP aP bP hP9 cP C av I L hp
  unfold pX11_at at hp
  split at hp
  case h_2 => exact hp.elim
  case h_1 p =>
    have hR := hp
    refine f_wp_ok C f_cl flX11_ok fiX11_ok fjX11_ok (sn := none) (fun j h => by cases h) (cs := (f_cnl [(159, (2, 3, 10, pX11_isPlace, qX11_isPlace))])) (cz := (fun _ => none)) (f_cnl_of (P := fun j S => f_cok pP l eP (f_rm 1) sP mP aP bP hP9 cP xY 80 a cy dC dI 2 _ _ (.invokevirtual j) true S) (List.forall_mem_cons.mpr ⟨f_cokV C (mX11_isPlace hinj) (ci := 10) rfl (List.forall_mem_cons.mpr ⟨(mlX11_ok _ (List.mem_of_getElem? (i := 17) rfl)), kc_X11_isPlace⟩) (by decide +kernel) ⟨Nat.le_of_ble_eq_true rfl, Nat.le_of_ble_eq_true rfl⟩, fun _ h => absurd h List.not_mem_nil⟩)) (fun j S h => by cases h) tX11_at_ok (cut := (fun _ => none)) (fun t P h => by cases h) 14 0 tX11_at tX11_at_ok _ _ _ _ ?_
    refine And.intro hR ?_
    intro x2 I2 L2 hq2
    have hq2 : I2 = I ∧ L2 = L ∧ ((x2.toInt = 0 ∨ x2.toInt = 1 ∧ 0 ≤ p.toInt ∧ p.toInt < (I 40 6).toInt ∧ p.toInt ≤ 7)) := hq2
    obtain ⟨eI2, eL2, c2_2⟩ := hq2
    replace eI2 := eI2.symm
    subst eI2
    replace eL2 := eL2.symm
    subst eL2
    apply And.intro
    · intro h5
      have h5 : x2.toInt = 0 := h5
      exact ⟨rfl, rfl⟩
    · intro h5
      have h5 : ¬ x2.toInt = 0 := h5
      refine And.intro (show f_in p 8 from ⟨show 0 ≤ p.toInt from by omega, show p.toInt < 8 from by omega⟩) ?_
      have r16_1 : 0 ≤ (I 41 (p.toInt.toNat)).toInt ∧ (I 41 (p.toInt.toNat)).toInt ≤ 11 := hR 41 (p.toInt.toNat)
      exact ⟨rfl, rfl⟩
def tX11_about : List (Instr × Nat) := [(.iload_n 1, 1), (.tableswitch 99 0 6 #[43, 51, 59, 67, 75, 80, 88], 43), (.aload_n 0, 1), (.getfield 28, 3), (.getfield 151, 3), (.ireturn, 1), (.aload_n 0, 1), (.getfield 28, 3), (.getfield 124, 3), (.ireturn, 1), (.aload_n 0, 1), (.getfield 54, 3), (.getfield 131, 3), (.ireturn, 1), (.aload_n 0, 1), (.getfield 54, 3), (.getfield 247, 3), (.ireturn, 1), (.aload_n 0, 1), (.getfield 235, 3), (.ireturn, 1), (.aload_n 0, 1), (.getfield 10, 3), (.getfield 95, 3), (.ireturn, 1), (.aload_n 0, 1), (.getfield 38, 3), (.getfield 270, 3), (.bipush 36, 2), (.iaload, 1), (.ireturn, 1), (.iconst (-1), 1), (.ireturn, 1)]
theorem tX11_about_ok : f_chk cX11_about 0 tX11_about = true := by decide +kernel
def pX11_about (av : List Value) (I : fM) (L : fN) : Prop := match av with
  | [.ref 0, .int w] => xR I ∧ xL I
  | _ => False
def qX11_about (av : List Value) (I : fM) (L : fN) (r : Value) (I' : fM) (L' : fN) : Prop := match av, r with
  | [.ref 0, .int w], .int x => I' = I ∧ L' = L
  | _, _ => False
set_option maxHeartbeats 4000000 in
set_option maxRecDepth 100000 in
theorem mX11_about {l : Launch} {a : Nat → Nat} {cy dC : Nat → ClassId} {dI : Nat → Nat → Nat} (hinj : ∀ i j, i < 80 → j < 80 → a i = a j → i = j) : f_Met (xE a) l xY 80 a cy dC dI yX11_about cX11_about 2 1 0 pX11_about qX11_about := by
  refine f_met_of (xE_c a) hinj xY_hi (by decide) (fun av I L h => by unfold pX11_about at h; split at h <;> first | exact Nat.le_of_ble_eq_true rfl | exact h.elim) ?_
  intro pP eP sP mP aP bP hP9 cP C av I L hp
  unfold pX11_about at hp
  split at hp
  case h_2 => exact hp.elim
  case h_1 w =>
    obtain ⟨hR, hxL⟩ := hp
    rcases hxL with ⟨h9, h10⟩ | ⟨h9, h10⟩
    · obtain ⟨K, eK⟩ : ∃ K : fM, I = va_up K 0 (va_up (va_up (K 0) 9 (Int32.ofNat 5)) 10 (Int32.ofNat 10)) := ⟨I, f_lex h9 h10⟩
      subst eK
      let I : fM := va_up K 0 (va_up (va_up (K 0) 9 (Int32.ofNat 5)) 10 (Int32.ofNat 10))
      have hxL : xL I := Or.inl ⟨rfl, rfl⟩
      skip
      have hR : xR I := hR
      have hxL : xL I := hxL
      refine f_wp_ok C f_cl flX11_ok fiX11_ok fjX11_ok (sn := none) (fun j h => by cases h) (cs := (fun _ => none)) (cz := (fun _ => none)) (fun j S h => by cases h) (fun j S h => by cases h) tX11_about_ok (cut := (fun _ => none)) (fun t P h => by cases h) 11 0 tX11_about tX11_about_ok _ _ _ _ ?_
      apply And.intro
      · intro h1
        have h1 : w.toInt < 0 ∨ 6 < w.toInt := h1
        exact ⟨rfl, rfl⟩
      · intro h1 g1
        have h1 : ¬ w.toInt < 0 := h1
        have g1 : ¬ 6 < w.toInt := g1
        have hc1 : w.toInt = 0 ∨ w.toInt = 1 ∨ w.toInt = 2 ∨ w.toInt = 3 ∨ w.toInt = 4 ∨ w.toInt = 5 ∨ w.toInt = 6 := by omega
        rcases hc1 with hc1 | hc1 | hc1 | hc1 | hc1 | hc1 | hc1
        · refine ⟨_, by rw [show (w.toInt - 0).toNat = 0 from by omega]; rfl, ?_⟩
          have r48_1 : 0 ≤ (I 5 4).toInt ∧ (I 5 4).toInt ≤ 5 := hR 5 4
          exact ⟨rfl, rfl⟩
        · refine ⟨_, by rw [show (w.toInt - 0).toNat = 1 from by omega]; rfl, ?_⟩
          have r56_1 : 0 ≤ (I 5 5).toInt ∧ (I 5 5).toInt ≤ 12 := hR 5 5
          exact ⟨rfl, rfl⟩
        · refine ⟨_, by rw [show (w.toInt - 0).toNat = 2 from by omega]; rfl, ?_⟩
          have r64_1 : 0 ≤ (I 40 6).toInt ∧ (I 40 6).toInt ≤ 8 := hR 40 6
          exact ⟨rfl, rfl⟩
        · refine ⟨_, by rw [show (w.toInt - 0).toNat = 3 from by omega]; rfl, ?_⟩
          have r72_1 : 0 ≤ (I 40 7).toInt ∧ (I 40 7).toInt ≤ 12 := hR 40 7
          exact ⟨rfl, rfl⟩
        · refine ⟨_, by rw [show (w.toInt - 0).toNat = 4 from by omega]; rfl, ?_⟩
          have r77_1 : 0 ≤ (I 0 11).toInt ∧ (I 0 11).toInt ≤ 100000 := hR 0 11
          exact ⟨rfl, rfl⟩
        · refine ⟨_, by rw [show (w.toInt - 0).toNat = 5 from by omega]; rfl, ?_⟩
          have r85_1 : 0 ≤ (I 1 1).toInt ∧ (I 1 1).toInt ≤ 1600 := hR 1 1
          exact ⟨rfl, rfl⟩
        · refine ⟨_, by rw [show (w.toInt - 0).toNat = 6 from by omega]; rfl, ?_⟩
          refine And.intro (show f_in (Int32.ofInt 36) 53 from ⟨show 0 ≤ 36 from by omega, show 36 < 53 from by omega⟩) ?_
          have r98_1 : 0 ≤ (I 16 ((Int32.ofInt 36).toInt.toNat)).toInt ∧ (I 16 ((Int32.ofInt 36).toInt.toNat)).toInt ≤ 4 := hR 16 ((Int32.ofInt 36).toInt.toNat)
          exact ⟨rfl, rfl⟩
    · obtain ⟨K, eK⟩ : ∃ K : fM, I = va_up K 0 (va_up (va_up (K 0) 9 (Int32.ofNat 10)) 10 (Int32.ofNat 5)) := ⟨I, f_lex h9 h10⟩
      subst eK
      let I : fM := va_up K 0 (va_up (va_up (K 0) 9 (Int32.ofNat 10)) 10 (Int32.ofNat 5))
      have hxL : xL I := Or.inr ⟨rfl, rfl⟩
      skip
      have hR : xR I := hR
      have hxL : xL I := hxL
      refine f_wp_ok C f_cl flX11_ok fiX11_ok fjX11_ok (sn := none) (fun j h => by cases h) (cs := (fun _ => none)) (cz := (fun _ => none)) (fun j S h => by cases h) (fun j S h => by cases h) tX11_about_ok (cut := (fun _ => none)) (fun t P h => by cases h) 11 0 tX11_about tX11_about_ok _ _ _ _ ?_
      apply And.intro
      · intro h1
        have h1 : w.toInt < 0 ∨ 6 < w.toInt := h1
        exact ⟨rfl, rfl⟩
      · intro h1 g1
        have h1 : ¬ w.toInt < 0 := h1
        have g1 : ¬ 6 < w.toInt := g1
        have hc1 : w.toInt = 0 ∨ w.toInt = 1 ∨ w.toInt = 2 ∨ w.toInt = 3 ∨ w.toInt = 4 ∨ w.toInt = 5 ∨ w.toInt = 6 := by omega
        rcases hc1 with hc1 | hc1 | hc1 | hc1 | hc1 | hc1 | hc1
        · refine ⟨_, by rw [show (w.toInt - 0).toNat = 0 from by omega]; rfl, ?_⟩
          have r48_1 : 0 ≤ (I 10 4).toInt ∧ (I 10 4).toInt ≤ 5 := hR 10 4
          exact ⟨rfl, rfl⟩
        · refine ⟨_, by rw [show (w.toInt - 0).toNat = 1 from by omega]; rfl, ?_⟩
          have r56_1 : 0 ≤ (I 10 5).toInt ∧ (I 10 5).toInt ≤ 12 := hR 10 5
          exact ⟨rfl, rfl⟩
        · refine ⟨_, by rw [show (w.toInt - 0).toNat = 2 from by omega]; rfl, ?_⟩
          have r64_1 : 0 ≤ (I 40 6).toInt ∧ (I 40 6).toInt ≤ 8 := hR 40 6
          exact ⟨rfl, rfl⟩
        · refine ⟨_, by rw [show (w.toInt - 0).toNat = 3 from by omega]; rfl, ?_⟩
          have r72_1 : 0 ≤ (I 40 7).toInt ∧ (I 40 7).toInt ≤ 12 := hR 40 7
          exact ⟨rfl, rfl⟩
        · refine ⟨_, by rw [show (w.toInt - 0).toNat = 4 from by omega]; rfl, ?_⟩
          have r77_1 : 0 ≤ (I 0 11).toInt ∧ (I 0 11).toInt ≤ 100000 := hR 0 11
          exact ⟨rfl, rfl⟩
        · refine ⟨_, by rw [show (w.toInt - 0).toNat = 5 from by omega]; rfl, ?_⟩
          have r85_1 : 0 ≤ (I 1 1).toInt ∧ (I 1 1).toInt ≤ 1600 := hR 1 1
          exact ⟨rfl, rfl⟩
        · refine ⟨_, by rw [show (w.toInt - 0).toNat = 6 from by omega]; rfl, ?_⟩
          refine And.intro (show f_in (Int32.ofInt 36) 53 from ⟨show 0 ≤ 36 from by omega, show 36 < 53 from by omega⟩) ?_
          have r98_1 : 0 ≤ (I 16 ((Int32.ofInt 36).toInt.toNat)).toInt ∧ (I 16 ((Int32.ofInt 36).toInt.toNat)).toInt ≤ 4 := hR 16 ((Int32.ofInt 36).toInt.toNat)
          exact ⟨rfl, rfl⟩
def tX11_lacks : List (Instr × Nat) := [(.iload_n 1, 1), (.ifCond .lt 14, 3), (.iload_n 1, 1), (.aload_n 0, 1), (.getfield 28, 3), (.getfield 151, 3), (.if_icmp .lt 7, 3), (.sipush (-1000), 3), (.ireturn, 1), (.aload_n 0, 1), (.getfield 38, 3), (.getfield 224, 3), (.bipush 36, 2), (.laload, 1), (.lstore_n 2, 1), (.iconst 0, 1), (.istore 4, 2), (.iload 4, 2), (.aload_n 0, 1), (.getfield 54, 3), (.getfield 131, 3), (.if_icmp .ge 33, 3), (.lload_n 2, 1), (.aload_n 0, 1), (.getfield 38, 3), (.getfield 224, 3), (.aload_n 0, 1), (.getfield 54, 3), (.getfield 162, 3), (.iload 4, 2), (.iaload, 1), (.invokestatic 228, 3), (.laload, 1), (.ladd, 1), (.lstore_n 2, 1), (.iinc 4 1, 3), (.goto (-39), 3), (.lload_n 2, 1), (.iload_n 1, 1), (.invokestatic 231, 3), (.ineg, 1), (.ireturn, 1)]
theorem tX11_lacks_ok : f_chk cX11_lacks 0 tX11_lacks = true := by decide +kernel
def pX11_lacks (av : List Value) (I : fM) (L : fN) : Prop := match av with
  | [.ref 0, .int k] => xR I ∧ xL I
  | _ => False
def qX11_lacks (av : List Value) (I : fM) (L : fN) (r : Value) (I' : fM) (L' : fN) : Prop := match av, r with
  | [.ref 0, .int k], .int x => I' = I ∧ L' = L
  | _, _ => False
set_option maxHeartbeats 4000000 in
set_option maxRecDepth 100000 in
theorem mX11_lacks {l : Launch} {a : Nat → Nat} {cy dC : Nat → ClassId} {dI : Nat → Nat → Nat} (hinj : ∀ i j, i < 80 → j < 80 → a i = a j → i = j) : f_Met (xE a) l xY 80 a cy dC dI yX11_lacks cX11_lacks 5 1 1 pX11_lacks qX11_lacks := by
  refine f_met_of (xE_c a) hinj xY_hi (by decide) (fun av I L h => by unfold pX11_lacks at h; split at h <;> first | exact Nat.le_of_ble_eq_true rfl | exact h.elim) ?_
  intro pP eP sP mP aP bP hP9 cP C av I L hp
  unfold pX11_lacks at hp
  split at hp
  case h_2 => exact hp.elim
  case h_1 k =>
    obtain ⟨hR, hxL⟩ := hp
    rcases hxL with ⟨h9, h10⟩ | ⟨h9, h10⟩
    · obtain ⟨K, eK⟩ : ∃ K : fM, I = va_up K 0 (va_up (va_up (K 0) 9 (Int32.ofNat 5)) 10 (Int32.ofNat 10)) := ⟨I, f_lex h9 h10⟩
      subst eK
      let I : fM := va_up K 0 (va_up (va_up (K 0) 9 (Int32.ofNat 5)) 10 (Int32.ofNat 10))
      have hxL : xL I := Or.inl ⟨rfl, rfl⟩
      skip
      have hR : xR I := hR
      have hxL : xL I := hxL
      have hn : 0 ≤ (I 40 6).toInt ∧ (I 40 6).toInt ≤ 8 := hR 40 6
      have lp33 : ∀ (n33 : Nat), ∀ (m : Int64) (i : Int32), (0 ≤ i.toInt) ∧ (i.toInt ≤ (I 40 6).toInt) ∧ ((I 40 6).toInt - i.toInt) < n33 → f_W pP l eP (f_rm 1) sP mP aP bP hP9 cP xY 80 a cy dC dI 5 (f_K 1 (qX11_lacks [.ref 0, .int k] I L)) 33 [(4, .int i), (2, .long m), (1, .int k), (0, .ref 0)] [] I L := by
        intro n33
        induction n33 with
        | zero =>
          intro m i h9
          obtain ⟨u33_1, u33_2, hm33⟩ := h9
          omega
        | succ n33 ih33 =>
          intro m i h9
          obtain ⟨u33_1, u33_2, hm33⟩ := h9
          refine f_wp_ok C f_cl flX11_ok fiX11_ok fjX11_ok (sn := none) (fun j h => by cases h) (cs := (fun _ => none)) (cz := (f_cnl [(228, (1, 1, 3, pX3_firstSlot, qX3_firstSlot)), (231, (2, 1, 3, pX3_givenOf, qX3_givenOf))])) (fun j S h => by cases h) (f_cnl_of (P := fun j S => f_cok pP l eP (f_rm 1) sP mP aP bP hP9 cP xY 80 a cy dC dI 5 _ _ (.invokestatic j) false S) (List.forall_mem_cons.mpr ⟨f_cokS C (mX3_firstSlot hinj) (List.forall_mem_cons.mpr ⟨(mlX11_ok _ (List.mem_of_getElem? (i := 31) rfl)), kc_X3_firstSlot⟩) (by decide +kernel) ⟨Nat.le_of_ble_eq_true rfl, Nat.le_of_ble_eq_true rfl⟩, List.forall_mem_cons.mpr ⟨f_cokS C (mX3_givenOf hinj) (List.forall_mem_cons.mpr ⟨(mlX11_ok _ (List.mem_of_getElem? (i := 32) rfl)), kc_X3_givenOf⟩) (by decide +kernel) ⟨Nat.le_of_ble_eq_true rfl, Nat.le_of_ble_eq_true rfl⟩, fun _ h => absurd h List.not_mem_nil⟩⟩)) tX11_lacks_ok (cut := (f_cnl [(33, (fun (ls' : fLs) (st' : List Value) (I' : fM) (L' : fN) => ∃ m : Int64, ∃ i : Int32, (∀ q ∈ ([(4, .int i), (2, .long m), (1, .int k), (0, .ref 0)] : fLs), q ∈ ls') ∧ st' = [] ∧ I' = I ∧ L' = L ∧ ((0 ≤ i.toInt) ∧ (i.toInt ≤ (I 40 6).toInt) ∧ ((I 40 6).toInt - i.toInt) < n33)))])) (f_cnl_of (P := fun (tQ : Nat) (P : fLs → List Value → fM → fN → Prop) => ∀ ls' st' I' L', P ls' st' I' L' → f_W pP l eP (f_rm 1) sP mP aP bP hP9 cP xY 80 a cy dC dI 5 (f_K 1 (qX11_lacks [.ref 0, .int k] I L)) tQ ls' st' I' L') (List.forall_mem_cons.mpr ⟨(fun ls' st' I' L' h => by obtain ⟨m, i, hs, e1, e2, e3, h9⟩ := h; rw [e1, e2, e3]; exact f_W_sub hs (ih33 m i h9)), fun _ h => absurd h List.not_mem_nil⟩)) 23 33 (f_seek 33 0 tX11_lacks) (f_seek_ok 33 0 tX11_lacks tX11_lacks_ok) _ _ _ _ ?_
          have r39_1 : 0 ≤ (I 40 6).toInt ∧ (I 40 6).toInt ≤ 8 := hR 40 6
          apply And.intro
          · intro h42
            have h42 : (I 40 6).toInt ≤ i.toInt := h42
            refine And.intro trivial ?_
            intro x77 I77 L77 hq77
            have hq77 : I77 = I ∧ L77 = L := hq77
            obtain ⟨eI77, eL77⟩ := hq77
            replace eI77 := eI77.symm
            subst eI77
            replace eL77 := eL77.symm
            subst eL77
            intro z80 q80 _ hq80 hl80 hu80
            have hq80 : z80.toInt = -x77.toInt + 4294967296 * q80 := hq80
            try have hz80 : z80.toInt = -x77.toInt := by omega
            exact ⟨rfl, rfl⟩
          · intro h42
            have h42 : i.toInt < (I 40 6).toInt := h42
            refine And.intro (show f_in i 8 from ⟨show 0 ≤ i.toInt from by omega, show i.toInt < 8 from by omega⟩) ?_
            have r62_2 : 0 ≤ (I 41 (i.toInt.toNat)).toInt ∧ (I 41 (i.toInt.toNat)).toInt ≤ 11 := hR 41 (i.toInt.toNat)
            refine And.intro ⟨(show 0 ≤ (I 41 (i.toInt.toNat)).toInt from by first | assumption | omega), (show (I 41 (i.toInt.toNat)).toInt ≤ 11 from by first | assumption | omega)⟩ ?_
            intro x63 I63 L63 hq63
            have hq63 : I63 = I ∧ L63 = L ∧ x63.toInt = 3 * (I 41 (i.toInt.toNat)).toInt := hq63
            obtain ⟨eI63, eL63, c63_2⟩ := hq63
            replace eI63 := eI63.symm
            subst eI63
            replace eL63 := eL63.symm
            subst eL63
            refine And.intro (show f_in x63 53 from ⟨show 0 ≤ x63.toInt from by omega, show x63.toInt < 53 from by omega⟩) ?_
            intro z69 q69 _ hq69 hl69 hu69
            have hq69 : z69.toInt = i.toInt + 1 + 4294967296 * q69 := hq69
            try have hz69 : z69.toInt = i.toInt + 1 := by omega
            exact ⟨m + (L 19 (x63.toInt.toNat)), z69, (by intro q9 h9; simp only [List.mem_cons, List.not_mem_nil, or_false] at h9; rcases h9 with h9 | h9 | h9 | h9 <;> subst h9 <;> repeat (first | exact List.mem_cons_self | apply List.mem_cons_of_mem)), rfl, rfl, rfl, (show 0 ≤ z69.toInt from by first | assumption | omega), (show z69.toInt ≤ (I 40 6).toInt from by first | assumption | omega), (show ((I 40 6).toInt - z69.toInt) < n33 from by omega)⟩
      refine f_wp_ok C f_cl flX11_ok fiX11_ok fjX11_ok (sn := none) (fun j h => by cases h) (cs := (fun _ => none)) (cz := (f_cnl [(228, (1, 1, 3, pX3_firstSlot, qX3_firstSlot)), (231, (2, 1, 3, pX3_givenOf, qX3_givenOf))])) (fun j S h => by cases h) (f_cnl_of (P := fun j S => f_cok pP l eP (f_rm 1) sP mP aP bP hP9 cP xY 80 a cy dC dI 5 _ _ (.invokestatic j) false S) (List.forall_mem_cons.mpr ⟨f_cokS C (mX3_firstSlot hinj) (List.forall_mem_cons.mpr ⟨(mlX11_ok _ (List.mem_of_getElem? (i := 31) rfl)), kc_X3_firstSlot⟩) (by decide +kernel) ⟨Nat.le_of_ble_eq_true rfl, Nat.le_of_ble_eq_true rfl⟩, List.forall_mem_cons.mpr ⟨f_cokS C (mX3_givenOf hinj) (List.forall_mem_cons.mpr ⟨(mlX11_ok _ (List.mem_of_getElem? (i := 32) rfl)), kc_X3_givenOf⟩) (by decide +kernel) ⟨Nat.le_of_ble_eq_true rfl, Nat.le_of_ble_eq_true rfl⟩, fun _ h => absurd h List.not_mem_nil⟩⟩)) tX11_lacks_ok (cut := (f_cnl [(33, (fun (ls' : fLs) (st' : List Value) (I' : fM) (L' : fN) => ∃ m : Int64, ∃ i : Int32, (∀ q ∈ ([(4, .int i), (2, .long m), (1, .int k), (0, .ref 0)] : fLs), q ∈ ls') ∧ st' = [] ∧ I' = I ∧ L' = L ∧ ((0 ≤ i.toInt) ∧ (i.toInt ≤ (I 40 6).toInt) ∧ ((I 40 6).toInt - i.toInt) < 9)))])) (f_cnl_of (P := fun (tQ : Nat) (P : fLs → List Value → fM → fN → Prop) => ∀ ls' st' I' L', P ls' st' I' L' → f_W pP l eP (f_rm 1) sP mP aP bP hP9 cP xY 80 a cy dC dI 5 (f_K 1 (qX11_lacks [.ref 0, .int k] I L)) tQ ls' st' I' L') (List.forall_mem_cons.mpr ⟨(fun ls' st' I' L' h => by obtain ⟨m, i, hs, e1, e2, e3, h9⟩ := h; rw [e1, e2, e3]; exact f_W_sub hs (lp33 9 m i h9)), fun _ h => absurd h List.not_mem_nil⟩)) 18 0 tX11_lacks tX11_lacks_ok _ _ _ _ ?_
      apply And.intro
      · intro h1
        have h1 : k.toInt < 0 := h1
        exact ⟨rfl, rfl⟩
      · intro h1
        have h1 : 0 ≤ k.toInt := h1
        have r9_1 : 0 ≤ (I 5 4).toInt ∧ (I 5 4).toInt ≤ 5 := hR 5 4
        apply And.intro
        · intro h12
          have h12 : k.toInt < (I 5 4).toInt := h12
          refine And.intro (show f_in (Int32.ofInt 36) 53 from ⟨show 0 ≤ 36 from by omega, show 36 < 53 from by omega⟩) ?_
          have r33_2 : 0 ≤ (I 40 6).toInt ∧ (I 40 6).toInt ≤ 8 := hR 40 6
          exact ⟨L 19 ((Int32.ofInt 36).toInt.toNat), Int32.ofInt 0, (by intro q9 h9; simp only [List.mem_cons, List.not_mem_nil, or_false] at h9; rcases h9 with h9 | h9 | h9 | h9 <;> subst h9 <;> repeat (first | exact List.mem_cons_self | apply List.mem_cons_of_mem)), rfl, rfl, rfl, (show 0 ≤ (0 : Int) from by first | assumption | omega), (show (0 : Int) ≤ (I 40 6).toInt from by first | assumption | omega), (show ((I 40 6).toInt - (0 : Int)) < 9 from by omega)⟩
        · intro h12
          have h12 : (I 5 4).toInt ≤ k.toInt := h12
          exact ⟨rfl, rfl⟩
    · obtain ⟨K, eK⟩ : ∃ K : fM, I = va_up K 0 (va_up (va_up (K 0) 9 (Int32.ofNat 10)) 10 (Int32.ofNat 5)) := ⟨I, f_lex h9 h10⟩
      subst eK
      let I : fM := va_up K 0 (va_up (va_up (K 0) 9 (Int32.ofNat 10)) 10 (Int32.ofNat 5))
      have hxL : xL I := Or.inr ⟨rfl, rfl⟩
      skip
      have hR : xR I := hR
      have hxL : xL I := hxL
      have hn : 0 ≤ (I 40 6).toInt ∧ (I 40 6).toInt ≤ 8 := hR 40 6
      have lp33 : ∀ (n33 : Nat), ∀ (m : Int64) (i : Int32), (0 ≤ i.toInt) ∧ (i.toInt ≤ (I 40 6).toInt) ∧ ((I 40 6).toInt - i.toInt) < n33 → f_W pP l eP (f_rm 1) sP mP aP bP hP9 cP xY 80 a cy dC dI 5 (f_K 1 (qX11_lacks [.ref 0, .int k] I L)) 33 [(4, .int i), (2, .long m), (1, .int k), (0, .ref 0)] [] I L := by
        intro n33
        induction n33 with
        | zero =>
          intro m i h9
          obtain ⟨u33_1, u33_2, hm33⟩ := h9
          omega
        | succ n33 ih33 =>
          intro m i h9
          obtain ⟨u33_1, u33_2, hm33⟩ := h9
          refine f_wp_ok C f_cl flX11_ok fiX11_ok fjX11_ok (sn := none) (fun j h => by cases h) (cs := (fun _ => none)) (cz := (f_cnl [(228, (1, 1, 3, pX3_firstSlot, qX3_firstSlot)), (231, (2, 1, 3, pX3_givenOf, qX3_givenOf))])) (fun j S h => by cases h) (f_cnl_of (P := fun j S => f_cok pP l eP (f_rm 1) sP mP aP bP hP9 cP xY 80 a cy dC dI 5 _ _ (.invokestatic j) false S) (List.forall_mem_cons.mpr ⟨f_cokS C (mX3_firstSlot hinj) (List.forall_mem_cons.mpr ⟨(mlX11_ok _ (List.mem_of_getElem? (i := 31) rfl)), kc_X3_firstSlot⟩) (by decide +kernel) ⟨Nat.le_of_ble_eq_true rfl, Nat.le_of_ble_eq_true rfl⟩, List.forall_mem_cons.mpr ⟨f_cokS C (mX3_givenOf hinj) (List.forall_mem_cons.mpr ⟨(mlX11_ok _ (List.mem_of_getElem? (i := 32) rfl)), kc_X3_givenOf⟩) (by decide +kernel) ⟨Nat.le_of_ble_eq_true rfl, Nat.le_of_ble_eq_true rfl⟩, fun _ h => absurd h List.not_mem_nil⟩⟩)) tX11_lacks_ok (cut := (f_cnl [(33, (fun (ls' : fLs) (st' : List Value) (I' : fM) (L' : fN) => ∃ m : Int64, ∃ i : Int32, (∀ q ∈ ([(4, .int i), (2, .long m), (1, .int k), (0, .ref 0)] : fLs), q ∈ ls') ∧ st' = [] ∧ I' = I ∧ L' = L ∧ ((0 ≤ i.toInt) ∧ (i.toInt ≤ (I 40 6).toInt) ∧ ((I 40 6).toInt - i.toInt) < n33)))])) (f_cnl_of (P := fun (tQ : Nat) (P : fLs → List Value → fM → fN → Prop) => ∀ ls' st' I' L', P ls' st' I' L' → f_W pP l eP (f_rm 1) sP mP aP bP hP9 cP xY 80 a cy dC dI 5 (f_K 1 (qX11_lacks [.ref 0, .int k] I L)) tQ ls' st' I' L') (List.forall_mem_cons.mpr ⟨(fun ls' st' I' L' h => by obtain ⟨m, i, hs, e1, e2, e3, h9⟩ := h; rw [e1, e2, e3]; exact f_W_sub hs (ih33 m i h9)), fun _ h => absurd h List.not_mem_nil⟩)) 23 33 (f_seek 33 0 tX11_lacks) (f_seek_ok 33 0 tX11_lacks tX11_lacks_ok) _ _ _ _ ?_
          have r39_1 : 0 ≤ (I 40 6).toInt ∧ (I 40 6).toInt ≤ 8 := hR 40 6
          apply And.intro
          · intro h42
            have h42 : (I 40 6).toInt ≤ i.toInt := h42
            refine And.intro trivial ?_
            intro x77 I77 L77 hq77
            have hq77 : I77 = I ∧ L77 = L := hq77
            obtain ⟨eI77, eL77⟩ := hq77
            replace eI77 := eI77.symm
            subst eI77
            replace eL77 := eL77.symm
            subst eL77
            intro z80 q80 _ hq80 hl80 hu80
            have hq80 : z80.toInt = -x77.toInt + 4294967296 * q80 := hq80
            try have hz80 : z80.toInt = -x77.toInt := by omega
            exact ⟨rfl, rfl⟩
          · intro h42
            have h42 : i.toInt < (I 40 6).toInt := h42
            refine And.intro (show f_in i 8 from ⟨show 0 ≤ i.toInt from by omega, show i.toInt < 8 from by omega⟩) ?_
            have r62_2 : 0 ≤ (I 41 (i.toInt.toNat)).toInt ∧ (I 41 (i.toInt.toNat)).toInt ≤ 11 := hR 41 (i.toInt.toNat)
            refine And.intro ⟨(show 0 ≤ (I 41 (i.toInt.toNat)).toInt from by first | assumption | omega), (show (I 41 (i.toInt.toNat)).toInt ≤ 11 from by first | assumption | omega)⟩ ?_
            intro x63 I63 L63 hq63
            have hq63 : I63 = I ∧ L63 = L ∧ x63.toInt = 3 * (I 41 (i.toInt.toNat)).toInt := hq63
            obtain ⟨eI63, eL63, c63_2⟩ := hq63
            replace eI63 := eI63.symm
            subst eI63
            replace eL63 := eL63.symm
            subst eL63
            refine And.intro (show f_in x63 53 from ⟨show 0 ≤ x63.toInt from by omega, show x63.toInt < 53 from by omega⟩) ?_
            intro z69 q69 _ hq69 hl69 hu69
            have hq69 : z69.toInt = i.toInt + 1 + 4294967296 * q69 := hq69
            try have hz69 : z69.toInt = i.toInt + 1 := by omega
            exact ⟨m + (L 19 (x63.toInt.toNat)), z69, (by intro q9 h9; simp only [List.mem_cons, List.not_mem_nil, or_false] at h9; rcases h9 with h9 | h9 | h9 | h9 <;> subst h9 <;> repeat (first | exact List.mem_cons_self | apply List.mem_cons_of_mem)), rfl, rfl, rfl, (show 0 ≤ z69.toInt from by first | assumption | omega), (show z69.toInt ≤ (I 40 6).toInt from by first | assumption | omega), (show ((I 40 6).toInt - z69.toInt) < n33 from by omega)⟩
      refine f_wp_ok C f_cl flX11_ok fiX11_ok fjX11_ok (sn := none) (fun j h => by cases h) (cs := (fun _ => none)) (cz := (f_cnl [(228, (1, 1, 3, pX3_firstSlot, qX3_firstSlot)), (231, (2, 1, 3, pX3_givenOf, qX3_givenOf))])) (fun j S h => by cases h) (f_cnl_of (P := fun j S => f_cok pP l eP (f_rm 1) sP mP aP bP hP9 cP xY 80 a cy dC dI 5 _ _ (.invokestatic j) false S) (List.forall_mem_cons.mpr ⟨f_cokS C (mX3_firstSlot hinj) (List.forall_mem_cons.mpr ⟨(mlX11_ok _ (List.mem_of_getElem? (i := 31) rfl)), kc_X3_firstSlot⟩) (by decide +kernel) ⟨Nat.le_of_ble_eq_true rfl, Nat.le_of_ble_eq_true rfl⟩, List.forall_mem_cons.mpr ⟨f_cokS C (mX3_givenOf hinj) (List.forall_mem_cons.mpr ⟨(mlX11_ok _ (List.mem_of_getElem? (i := 32) rfl)), kc_X3_givenOf⟩) (by decide +kernel) ⟨Nat.le_of_ble_eq_true rfl, Nat.le_of_ble_eq_true rfl⟩, fun _ h => absurd h List.not_mem_nil⟩⟩)) tX11_lacks_ok (cut := (f_cnl [(33, (fun (ls' : fLs) (st' : List Value) (I' : fM) (L' : fN) => ∃ m : Int64, ∃ i : Int32, (∀ q ∈ ([(4, .int i), (2, .long m), (1, .int k), (0, .ref 0)] : fLs), q ∈ ls') ∧ st' = [] ∧ I' = I ∧ L' = L ∧ ((0 ≤ i.toInt) ∧ (i.toInt ≤ (I 40 6).toInt) ∧ ((I 40 6).toInt - i.toInt) < 9)))])) (f_cnl_of (P := fun (tQ : Nat) (P : fLs → List Value → fM → fN → Prop) => ∀ ls' st' I' L', P ls' st' I' L' → f_W pP l eP (f_rm 1) sP mP aP bP hP9 cP xY 80 a cy dC dI 5 (f_K 1 (qX11_lacks [.ref 0, .int k] I L)) tQ ls' st' I' L') (List.forall_mem_cons.mpr ⟨(fun ls' st' I' L' h => by obtain ⟨m, i, hs, e1, e2, e3, h9⟩ := h; rw [e1, e2, e3]; exact f_W_sub hs (lp33 9 m i h9)), fun _ h => absurd h List.not_mem_nil⟩)) 18 0 tX11_lacks tX11_lacks_ok _ _ _ _ ?_
      apply And.intro
      · intro h1
        have h1 : k.toInt < 0 := h1
        exact ⟨rfl, rfl⟩
      · intro h1
        have h1 : 0 ≤ k.toInt := h1
        have r9_1 : 0 ≤ (I 10 4).toInt ∧ (I 10 4).toInt ≤ 5 := hR 10 4
        apply And.intro
        · intro h12
          have h12 : k.toInt < (I 10 4).toInt := h12
          refine And.intro (show f_in (Int32.ofInt 36) 53 from ⟨show 0 ≤ 36 from by omega, show 36 < 53 from by omega⟩) ?_
          have r33_2 : 0 ≤ (I 40 6).toInt ∧ (I 40 6).toInt ≤ 8 := hR 40 6
          exact ⟨L 19 ((Int32.ofInt 36).toInt.toNat), Int32.ofInt 0, (by intro q9 h9; simp only [List.mem_cons, List.not_mem_nil, or_false] at h9; rcases h9 with h9 | h9 | h9 | h9 <;> subst h9 <;> repeat (first | exact List.mem_cons_self | apply List.mem_cons_of_mem)), rfl, rfl, rfl, (show 0 ≤ (0 : Int) from by first | assumption | omega), (show (0 : Int) ≤ (I 40 6).toInt from by first | assumption | omega), (show ((I 40 6).toInt - (0 : Int)) < 9 from by omega)⟩
        · intro h12
          have h12 : (I 10 4).toInt ≤ k.toInt := h12
          exact ⟨rfl, rfl⟩
def tX11_readings : List (Instr × Nat) := [(.aload_n 0, 1), (.getfield 67, 3), (.invokevirtual 165, 3), (.aload_n 0, 1), (.getfield 67, 3), (.getfield 168, 3), (.ifCond .eq 8, 3), (.bipush (-2), 2), (.goto 10, 3), (.aload_n 0, 1), (.getfield 67, 3), (.getfield 171, 3), (.ireturn, 1)]
theorem tX11_readings_ok : f_chk cX11_readings 0 tX11_readings = true := by decide +kernel
def pX11_readings (av : List Value) (I : fM) (L : fN) : Prop := match av with
  | [.ref 0] => xR I ∧ xO I ∧ xT I ∧ xS I ∧ xL I
  | _ => False
def qX11_readings (av : List Value) (I : fM) (L : fN) (r : Value) (I' : fM) (L' : fN) : Prop := match av, r with
  | [.ref 0], .int x => xR I' ∧ xO I' ∧ xT I' ∧ xS I' ∧ xL I' ∧ f_fr [25, 26, 27, 28, 31, 32, 33, 34, 35, 36, 37, 38, 39, 69, 71] I I' ∧ f_fr [29, 30, 70] L L'
  | _, _ => False
set_option maxHeartbeats 4000000 in
set_option maxRecDepth 100000 in
theorem mX11_readings {l : Launch} {a : Nat → Nat} {cy dC : Nat → ClassId} {dI : Nat → Nat → Nat} (hinj : ∀ i j, i < 80 → j < 80 → a i = a j → i = j) : f_Met (xE a) l xY 80 a cy dC dI yX11_readings cX11_readings 1 1 37 pX11_readings qX11_readings := by
  refine f_met_of (xE_c a) hinj xY_hi (by decide) (fun av I L h => by unfold pX11_readings at h; split at h <;> first | exact Nat.le_of_ble_eq_true rfl | exact h.elim) ?_
  intro pP eP sP mP aP bP hP9 cP C av I L hp
  unfold pX11_readings at hp
  split at hp
  case h_2 => exact hp.elim
  case h_1 =>
    obtain ⟨hR, hxO, hxT, hxS, hxL⟩ := hp
    have hF0 : f_fr [25, 26, 27, 28, 31, 32, 33, 34, 35, 36, 37, 38, 39, 69, 71] I I := f_fr_rf
    have hG0 : f_fr [29, 30, 70] L L := f_fr_rf
    refine f_wp_ok C f_cl flX11_ok fiX11_ok fjX11_ok (sn := none) (fun j h => by cases h) (cs := (f_cnl [(165, (1, 0, 5, pX5_find, qX5_find))])) (cz := (fun _ => none)) (f_cnl_of (P := fun j S => f_cok pP l eP (f_rm 37) sP mP aP bP hP9 cP xY 80 a cy dC dI 1 _ _ (.invokevirtual j) true S) (List.forall_mem_cons.mpr ⟨f_cokV C (mX5_find hinj) (ci := 5) rfl (List.forall_mem_cons.mpr ⟨(mlX11_ok _ (List.mem_of_getElem? (i := 18) rfl)), kc_X5_find⟩) (by decide +kernel) ⟨Nat.le_of_ble_eq_true rfl, Nat.le_of_ble_eq_true rfl⟩, fun _ h => absurd h List.not_mem_nil⟩)) (fun j S h => by cases h) tX11_readings_ok (cut := (fun _ => none)) (fun t P h => by cases h) 14 0 tX11_readings tX11_readings_ok _ _ _ _ ?_
    refine And.intro ⟨hR, hxO, hxT, hxS⟩ ?_
    intro I4 L4 hq4
    have hq4 : xR I4 ∧ xO I4 ∧ xT I4 ∧ f_fr [25, 26, 27, 28, 31, 32, 33, 34, 35, 36, 37, 38, 39, 69, 71] I I4 ∧ f_fr [29, 30, 70] L L4 ∧ xS I4 := hq4
    obtain ⟨c4_0, c4_1, c4_2, c4_3, c4_4, c4_5⟩ := hq4
    have hxL4 := f_dep_fr xL_dep hxL c4_3 rfl
    have hF4 := f_fr_tr hF0 c4_3 rfl
    have hG4 := f_fr_tr hG0 c4_4 rfl
    apply And.intro
    · intro h14
      have h14 : (I4 69 6).toInt = 0 := h14
      have r26_2 : 0 ≤ (I4 69 5).toInt ∧ (I4 69 5).toInt ≤ 300 := c4_0 69 5
      exact ⟨c4_0, c4_1, c4_2, c4_5, hxL4, hF4, hG4⟩
    · intro h14
      have h14 : ¬ (I4 69 6).toInt = 0 := h14
      exact ⟨c4_0, c4_1, c4_2, c4_5, hxL4, hF4, hG4⟩
def tX11_chosen : List (Instr × Nat) := [(.aload_n 0, 1), (.getfield 67, 3), (.invokevirtual 165, 3), (.aload_n 0, 1), (.iload_n 2, 1), (.invokevirtual 159, 3), (.ifCond .eq 17, 3), (.aload_n 0, 1), (.getfield 67, 3), (.iload_n 1, 1), (.bipush 48, 2), (.iload_n 2, 1), (.invokevirtual 172, 3), (.goto 7, 3), (.aload_n 0, 1), (.invokevirtual 176, 3), (.ireturn, 1)]
theorem tX11_chosen_ok : f_chk cX11_chosen 0 tX11_chosen = true := by decide +kernel
def pX11_chosen (av : List Value) (I : fM) (L : fN) : Prop := match av with
  | [.ref 0, .int r, .int p] => xR I ∧ xO I ∧ xT I ∧ xS I ∧ xL I
  | _ => False
def qX11_chosen (av : List Value) (I : fM) (L : fN) (r : Value) (I' : fM) (L' : fN) : Prop := match av, r with
  | [.ref 0, .int r, .int p], .int x => xR I' ∧ xO I' ∧ xT I' ∧ xS I' ∧ xL I' ∧ f_fr [25, 26, 27, 28, 31, 32, 33, 34, 35, 36, 37, 38, 39, 69, 71] I I' ∧ f_fr [29, 30, 70] L L'
  | _, _ => False
set_option maxHeartbeats 4000000 in
set_option maxRecDepth 100000 in
theorem mX11_chosen {l : Launch} {a : Nat → Nat} {cy dC : Nat → ClassId} {dI : Nat → Nat → Nat} (hinj : ∀ i j, i < 80 → j < 80 → a i = a j → i = j) : f_Met (xE a) l xY 80 a cy dC dI yX11_chosen cX11_chosen 3 1 37 pX11_chosen qX11_chosen := by
  refine f_met_of (xE_c a) hinj xY_hi (by decide) (fun av I L h => by unfold pX11_chosen at h; split at h <;> first | exact Nat.le_of_ble_eq_true rfl | exact h.elim) ?_
  intro pP eP sP mP aP bP hP9 cP C av I L hp
  unfold pX11_chosen at hp
  split at hp
  case h_2 => exact hp.elim
  case h_1 r p =>
    obtain ⟨hR, hxO, hxT, hxS, hxL⟩ := hp
    have hF0 : f_fr [25, 26, 27, 28, 31, 32, 33, 34, 35, 36, 37, 38, 39, 69, 71] I I := f_fr_rf
    have hG0 : f_fr [29, 30, 70] L L := f_fr_rf
    refine f_wp_ok C f_cl flX11_ok fiX11_ok fjX11_ok (sn := none) (fun j h => by cases h) (cs := (f_cnl [(165, (1, 0, 5, pX5_find, qX5_find)), (159, (2, 3, 10, pX11_isPlace, qX11_isPlace)), (172, (4, 1, 5, pX5_value, qX5_value)), (176, (1, 1, 10, pX11_unread, qX11_unread))])) (cz := (fun _ => none)) (f_cnl_of (P := fun j S => f_cok pP l eP (f_rm 37) sP mP aP bP hP9 cP xY 80 a cy dC dI 3 _ _ (.invokevirtual j) true S) (List.forall_mem_cons.mpr ⟨f_cokV C (mX5_find hinj) (ci := 5) rfl (List.forall_mem_cons.mpr ⟨(mlX11_ok _ (List.mem_of_getElem? (i := 18) rfl)), kc_X5_find⟩) (by decide +kernel) ⟨Nat.le_of_ble_eq_true rfl, Nat.le_of_ble_eq_true rfl⟩, List.forall_mem_cons.mpr ⟨f_cokV C (mX11_isPlace hinj) (ci := 10) rfl (List.forall_mem_cons.mpr ⟨(mlX11_ok _ (List.mem_of_getElem? (i := 17) rfl)), kc_X11_isPlace⟩) (by decide +kernel) ⟨Nat.le_of_ble_eq_true rfl, Nat.le_of_ble_eq_true rfl⟩, List.forall_mem_cons.mpr ⟨f_cokV C (mX5_value hinj) (ci := 5) rfl (List.forall_mem_cons.mpr ⟨(mlX11_ok _ (List.mem_of_getElem? (i := 19) rfl)), kc_X5_value⟩) (by decide +kernel) ⟨Nat.le_of_ble_eq_true rfl, Nat.le_of_ble_eq_true rfl⟩, List.forall_mem_cons.mpr ⟨f_cokV C (mX11_unread hinj) (ci := 10) rfl (List.forall_mem_cons.mpr ⟨(mlX11_ok _ (List.mem_of_getElem? (i := 20) rfl)), kc_X11_unread⟩) (by decide +kernel) ⟨Nat.le_of_ble_eq_true rfl, Nat.le_of_ble_eq_true rfl⟩, fun _ h => absurd h List.not_mem_nil⟩⟩⟩⟩)) (fun j S h => by cases h) tX11_chosen_ok (cut := (fun _ => none)) (fun t P h => by cases h) 18 0 tX11_chosen tX11_chosen_ok _ _ _ _ ?_
    refine And.intro ⟨hR, hxO, hxT, hxS⟩ ?_
    intro I4 L4 hq4
    have hq4 : xR I4 ∧ xO I4 ∧ xT I4 ∧ f_fr [25, 26, 27, 28, 31, 32, 33, 34, 35, 36, 37, 38, 39, 69, 71] I I4 ∧ f_fr [29, 30, 70] L L4 ∧ xS I4 := hq4
    obtain ⟨c4_0, c4_1, c4_2, c4_3, c4_4, c4_5⟩ := hq4
    have hxL4 := f_dep_fr xL_dep hxL c4_3 rfl
    have hF4 := f_fr_tr hF0 c4_3 rfl
    have hG4 := f_fr_tr hG0 c4_4 rfl
    refine And.intro c4_0 ?_
    intro x9 I9 L9 hq9
    have hq9 : I9 = I4 ∧ L9 = L4 ∧ ((x9.toInt = 0 ∨ x9.toInt = 1 ∧ 0 ≤ p.toInt ∧ p.toInt < (I4 40 6).toInt ∧ p.toInt ≤ 7)) := hq9
    obtain ⟨eI9, eL9, c9_2⟩ := hq9
    replace eI9 := eI9.symm
    subst eI9
    replace eL9 := eL9.symm
    subst eL9
    apply And.intro
    · intro h12
      have h12 : x9.toInt = 0 := h12
      refine And.intro trivial ?_
      intro x30 I30 L30 hq30
      have hq30 : I30 = I4 ∧ L30 = L4 := hq30
      obtain ⟨eI30, eL30⟩ := hq30
      replace eI30 := eI30.symm
      subst eI30
      replace eL30 := eL30.symm
      subst eL30
      exact ⟨c4_0, c4_1, c4_2, c4_5, hxL4, hF4, hG4⟩
    · intro h12
      have h12 : ¬ x9.toInt = 0 := h12
      refine And.intro ⟨c4_0, (show 0 ≤ (48 : Int) from by first | assumption | omega), (show 0 ≤ p.toInt from by first | assumption | omega), (show (48 : Int) + p.toInt ≤ 63 from by first | assumption | omega)⟩ ?_
      intro x23 I23 L23 hq23
      have hq23 : I23 = I4 ∧ L23 = L4 ∧ (((I4 69 6).toInt = 0 → 0 ≤ r.toInt → r.toInt < (I4 69 5).toInt → kb L4 r.toInt.toNat ((48 : Int) + p.toInt).toNat < 255 → x23.toInt = kb L4 r.toInt.toNat ((48 : Int) + p.toInt).toNat)) := hq23
      obtain ⟨eI23, eL23, c23_2⟩ := hq23
      replace eI23 := eI23.symm
      subst eI23
      replace eL23 := eL23.symm
      subst eL23
      exact ⟨c4_0, c4_1, c4_2, c4_5, hxL4, hF4, hG4⟩
def tX11_tied : List (Instr × Nat) := [(.aload_n 0, 1), (.getfield 67, 3), (.invokevirtual 165, 3), (.iload_n 2, 1), (.ifCond .lt 13, 3), (.iload_n 2, 1), (.bipush 20, 2), (.if_icmp .ge 7, 3), (.iconst 1, 1), (.goto 4, 3), (.iconst 0, 1), (.istore_n 3, 1), (.iload_n 3, 1), (.ifCond .eq 16, 3), (.aload_n 0, 1), (.getfield 67, 3), (.iload_n 1, 1), (.iconst 0, 1), (.iload_n 2, 1), (.invokevirtual 172, 3), (.goto 7, 3), (.aload_n 0, 1), (.invokevirtual 176, 3), (.ireturn, 1)]
theorem tX11_tied_ok : f_chk cX11_tied 0 tX11_tied = true := by decide +kernel
def pX11_tied (av : List Value) (I : fM) (L : fN) : Prop := match av with
  | [.ref 0, .int r, .int p] => xR I ∧ xO I ∧ xT I ∧ xS I ∧ xL I
  | _ => False
def qX11_tied (av : List Value) (I : fM) (L : fN) (r : Value) (I' : fM) (L' : fN) : Prop := match av, r with
  | [.ref 0, .int r, .int p], .int x => xR I' ∧ xO I' ∧ xT I' ∧ xS I' ∧ xL I' ∧ f_fr [25, 26, 27, 28, 31, 32, 33, 34, 35, 36, 37, 38, 39, 69, 71] I I' ∧ f_fr [29, 30, 70] L L'
  | _, _ => False
set_option maxHeartbeats 4000000 in
set_option maxRecDepth 100000 in
theorem mX11_tied {l : Launch} {a : Nat → Nat} {cy dC : Nat → ClassId} {dI : Nat → Nat → Nat} (hinj : ∀ i j, i < 80 → j < 80 → a i = a j → i = j) : f_Met (xE a) l xY 80 a cy dC dI yX11_tied cX11_tied 4 1 37 pX11_tied qX11_tied := by
  refine f_met_of (xE_c a) hinj xY_hi (by decide) (fun av I L h => by unfold pX11_tied at h; split at h <;> first | exact Nat.le_of_ble_eq_true rfl | exact h.elim) ?_
  intro pP eP sP mP aP bP hP9 cP C av I L hp
  unfold pX11_tied at hp
  split at hp
  case h_2 => exact hp.elim
  case h_1 r p =>
    obtain ⟨hR, hxO, hxT, hxS, hxL⟩ := hp
    have hF0 : f_fr [25, 26, 27, 28, 31, 32, 33, 34, 35, 36, 37, 38, 39, 69, 71] I I := f_fr_rf
    have hG0 : f_fr [29, 30, 70] L L := f_fr_rf
    refine f_wp_ok C f_cl flX11_ok fiX11_ok fjX11_ok (sn := none) (fun j h => by cases h) (cs := (f_cnl [(165, (1, 0, 5, pX5_find, qX5_find)), (172, (4, 1, 5, pX5_value, qX5_value)), (176, (1, 1, 10, pX11_unread, qX11_unread))])) (cz := (fun _ => none)) (f_cnl_of (P := fun j S => f_cok pP l eP (f_rm 37) sP mP aP bP hP9 cP xY 80 a cy dC dI 4 _ _ (.invokevirtual j) true S) (List.forall_mem_cons.mpr ⟨f_cokV C (mX5_find hinj) (ci := 5) rfl (List.forall_mem_cons.mpr ⟨(mlX11_ok _ (List.mem_of_getElem? (i := 18) rfl)), kc_X5_find⟩) (by decide +kernel) ⟨Nat.le_of_ble_eq_true rfl, Nat.le_of_ble_eq_true rfl⟩, List.forall_mem_cons.mpr ⟨f_cokV C (mX5_value hinj) (ci := 5) rfl (List.forall_mem_cons.mpr ⟨(mlX11_ok _ (List.mem_of_getElem? (i := 19) rfl)), kc_X5_value⟩) (by decide +kernel) ⟨Nat.le_of_ble_eq_true rfl, Nat.le_of_ble_eq_true rfl⟩, List.forall_mem_cons.mpr ⟨f_cokV C (mX11_unread hinj) (ci := 10) rfl (List.forall_mem_cons.mpr ⟨(mlX11_ok _ (List.mem_of_getElem? (i := 20) rfl)), kc_X11_unread⟩) (by decide +kernel) ⟨Nat.le_of_ble_eq_true rfl, Nat.le_of_ble_eq_true rfl⟩, fun _ h => absurd h List.not_mem_nil⟩⟩⟩)) (fun j S h => by cases h) tX11_tied_ok (cut := (fun _ => none)) (fun t P h => by cases h) 24 0 tX11_tied tX11_tied_ok _ _ _ _ ?_
    refine And.intro ⟨hR, hxO, hxT, hxS⟩ ?_
    intro I4 L4 hq4
    have hq4 : xR I4 ∧ xO I4 ∧ xT I4 ∧ f_fr [25, 26, 27, 28, 31, 32, 33, 34, 35, 36, 37, 38, 39, 69, 71] I I4 ∧ f_fr [29, 30, 70] L L4 ∧ xS I4 := hq4
    obtain ⟨c4_0, c4_1, c4_2, c4_3, c4_4, c4_5⟩ := hq4
    have hxL4 := f_dep_fr xL_dep hxL c4_3 rfl
    have hF4 := f_fr_tr hF0 c4_3 rfl
    have hG4 := f_fr_tr hG0 c4_4 rfl
    apply And.intro
    · intro h8
      have h8 : p.toInt < 0 := h8
      apply And.intro
      · intro h24
        have h24 : (0 : Int) = 0 := h24
        refine And.intro trivial ?_
        intro x41 I41 L41 hq41
        have hq41 : I41 = I4 ∧ L41 = L4 := hq41
        obtain ⟨eI41, eL41⟩ := hq41
        replace eI41 := eI41.symm
        subst eI41
        replace eL41 := eL41.symm
        subst eL41
        exact ⟨c4_0, c4_1, c4_2, c4_5, hxL4, hF4, hG4⟩
      · intro h24
        have h24 : ¬ (0 : Int) = 0 := h24
        exfalso
        omega
    · intro h8
      have h8 : 0 ≤ p.toInt := h8
      apply And.intro
      · intro h14
        have h14 : 20 ≤ p.toInt := h14
        apply And.intro
        · intro h24
          have h24 : (0 : Int) = 0 := h24
          refine And.intro trivial ?_
          intro x41 I41 L41 hq41
          have hq41 : I41 = I4 ∧ L41 = L4 := hq41
          obtain ⟨eI41, eL41⟩ := hq41
          replace eI41 := eI41.symm
          subst eI41
          replace eL41 := eL41.symm
          subst eL41
          exact ⟨c4_0, c4_1, c4_2, c4_5, hxL4, hF4, hG4⟩
        · intro h24
          have h24 : ¬ (0 : Int) = 0 := h24
          exfalso
          omega
      · intro h14
        have h14 : p.toInt < 20 := h14
        apply And.intro
        · intro h24
          have h24 : (1 : Int) = 0 := h24
          exfalso
          omega
        · intro h24
          have h24 : ¬ (1 : Int) = 0 := h24
          refine And.intro ⟨c4_0, (show 0 ≤ (0 : Int) from by first | assumption | omega), (show 0 ≤ p.toInt from by first | assumption | omega), (show (0 : Int) + p.toInt ≤ 63 from by first | assumption | omega)⟩ ?_
          intro x34 I34 L34 hq34
          have hq34 : I34 = I4 ∧ L34 = L4 ∧ (((I4 69 6).toInt = 0 → 0 ≤ r.toInt → r.toInt < (I4 69 5).toInt → kb L4 r.toInt.toNat ((0 : Int) + p.toInt).toNat < 255 → x34.toInt = kb L4 r.toInt.toNat ((0 : Int) + p.toInt).toNat)) := hq34
          obtain ⟨eI34, eL34, c34_2⟩ := hq34
          replace eI34 := eI34.symm
          subst eI34
          replace eL34 := eL34.symm
          subst eL34
          exact ⟨c4_0, c4_1, c4_2, c4_5, hxL4, hF4, hG4⟩
def tX11_meaning : List (Instr × Nat) := [(.aload_n 0, 1), (.getfield 67, 3), (.invokevirtual 165, 3), (.iload_n 2, 1), (.ifCond .lt 13, 3), (.iload_n 2, 1), (.bipush 24, 2), (.if_icmp .ge 7, 3), (.iconst 1, 1), (.goto 4, 3), (.iconst 0, 1), (.istore_n 3, 1), (.iload_n 3, 1), (.ifCond .eq 17, 3), (.aload_n 0, 1), (.getfield 67, 3), (.iload_n 1, 1), (.bipush 24, 2), (.iload_n 2, 1), (.invokevirtual 172, 3), (.goto 7, 3), (.aload_n 0, 1), (.invokevirtual 176, 3), (.ireturn, 1)]
theorem tX11_meaning_ok : f_chk cX11_meaning 0 tX11_meaning = true := by decide +kernel
def pX11_meaning (av : List Value) (I : fM) (L : fN) : Prop := match av with
  | [.ref 0, .int r, .int p] => xR I ∧ xO I ∧ xT I ∧ xS I ∧ xL I
  | _ => False
def qX11_meaning (av : List Value) (I : fM) (L : fN) (r : Value) (I' : fM) (L' : fN) : Prop := match av, r with
  | [.ref 0, .int r, .int p], .int x => xR I' ∧ xO I' ∧ xT I' ∧ xS I' ∧ xL I' ∧ f_fr [25, 26, 27, 28, 31, 32, 33, 34, 35, 36, 37, 38, 39, 69, 71] I I' ∧ f_fr [29, 30, 70] L L'
  | _, _ => False
set_option maxHeartbeats 4000000 in
set_option maxRecDepth 100000 in
theorem mX11_meaning {l : Launch} {a : Nat → Nat} {cy dC : Nat → ClassId} {dI : Nat → Nat → Nat} (hinj : ∀ i j, i < 80 → j < 80 → a i = a j → i = j) : f_Met (xE a) l xY 80 a cy dC dI yX11_meaning cX11_meaning 4 1 37 pX11_meaning qX11_meaning := by
  refine f_met_of (xE_c a) hinj xY_hi (by decide) (fun av I L h => by unfold pX11_meaning at h; split at h <;> first | exact Nat.le_of_ble_eq_true rfl | exact h.elim) ?_
  intro pP eP sP mP aP bP hP9 cP C av I L hp
  unfold pX11_meaning at hp
  split at hp
  case h_2 => exact hp.elim
  case h_1 r p =>
    obtain ⟨hR, hxO, hxT, hxS, hxL⟩ := hp
    have hF0 : f_fr [25, 26, 27, 28, 31, 32, 33, 34, 35, 36, 37, 38, 39, 69, 71] I I := f_fr_rf
    have hG0 : f_fr [29, 30, 70] L L := f_fr_rf
    refine f_wp_ok C f_cl flX11_ok fiX11_ok fjX11_ok (sn := none) (fun j h => by cases h) (cs := (f_cnl [(165, (1, 0, 5, pX5_find, qX5_find)), (172, (4, 1, 5, pX5_value, qX5_value)), (176, (1, 1, 10, pX11_unread, qX11_unread))])) (cz := (fun _ => none)) (f_cnl_of (P := fun j S => f_cok pP l eP (f_rm 37) sP mP aP bP hP9 cP xY 80 a cy dC dI 4 _ _ (.invokevirtual j) true S) (List.forall_mem_cons.mpr ⟨f_cokV C (mX5_find hinj) (ci := 5) rfl (List.forall_mem_cons.mpr ⟨(mlX11_ok _ (List.mem_of_getElem? (i := 18) rfl)), kc_X5_find⟩) (by decide +kernel) ⟨Nat.le_of_ble_eq_true rfl, Nat.le_of_ble_eq_true rfl⟩, List.forall_mem_cons.mpr ⟨f_cokV C (mX5_value hinj) (ci := 5) rfl (List.forall_mem_cons.mpr ⟨(mlX11_ok _ (List.mem_of_getElem? (i := 19) rfl)), kc_X5_value⟩) (by decide +kernel) ⟨Nat.le_of_ble_eq_true rfl, Nat.le_of_ble_eq_true rfl⟩, List.forall_mem_cons.mpr ⟨f_cokV C (mX11_unread hinj) (ci := 10) rfl (List.forall_mem_cons.mpr ⟨(mlX11_ok _ (List.mem_of_getElem? (i := 20) rfl)), kc_X11_unread⟩) (by decide +kernel) ⟨Nat.le_of_ble_eq_true rfl, Nat.le_of_ble_eq_true rfl⟩, fun _ h => absurd h List.not_mem_nil⟩⟩⟩)) (fun j S h => by cases h) tX11_meaning_ok (cut := (fun _ => none)) (fun t P h => by cases h) 24 0 tX11_meaning tX11_meaning_ok _ _ _ _ ?_
    refine And.intro ⟨hR, hxO, hxT, hxS⟩ ?_
    intro I4 L4 hq4
    have hq4 : xR I4 ∧ xO I4 ∧ xT I4 ∧ f_fr [25, 26, 27, 28, 31, 32, 33, 34, 35, 36, 37, 38, 39, 69, 71] I I4 ∧ f_fr [29, 30, 70] L L4 ∧ xS I4 := hq4
    obtain ⟨c4_0, c4_1, c4_2, c4_3, c4_4, c4_5⟩ := hq4
    have hxL4 := f_dep_fr xL_dep hxL c4_3 rfl
    have hF4 := f_fr_tr hF0 c4_3 rfl
    have hG4 := f_fr_tr hG0 c4_4 rfl
    apply And.intro
    · intro h8
      have h8 : p.toInt < 0 := h8
      apply And.intro
      · intro h24
        have h24 : (0 : Int) = 0 := h24
        refine And.intro trivial ?_
        intro x42 I42 L42 hq42
        have hq42 : I42 = I4 ∧ L42 = L4 := hq42
        obtain ⟨eI42, eL42⟩ := hq42
        replace eI42 := eI42.symm
        subst eI42
        replace eL42 := eL42.symm
        subst eL42
        exact ⟨c4_0, c4_1, c4_2, c4_5, hxL4, hF4, hG4⟩
      · intro h24
        have h24 : ¬ (0 : Int) = 0 := h24
        exfalso
        omega
    · intro h8
      have h8 : 0 ≤ p.toInt := h8
      apply And.intro
      · intro h14
        have h14 : 24 ≤ p.toInt := h14
        apply And.intro
        · intro h24
          have h24 : (0 : Int) = 0 := h24
          refine And.intro trivial ?_
          intro x42 I42 L42 hq42
          have hq42 : I42 = I4 ∧ L42 = L4 := hq42
          obtain ⟨eI42, eL42⟩ := hq42
          replace eI42 := eI42.symm
          subst eI42
          replace eL42 := eL42.symm
          subst eL42
          exact ⟨c4_0, c4_1, c4_2, c4_5, hxL4, hF4, hG4⟩
        · intro h24
          have h24 : ¬ (0 : Int) = 0 := h24
          exfalso
          omega
      · intro h14
        have h14 : p.toInt < 24 := h14
        apply And.intro
        · intro h24
          have h24 : (1 : Int) = 0 := h24
          exfalso
          omega
        · intro h24
          have h24 : ¬ (1 : Int) = 0 := h24
          refine And.intro ⟨c4_0, (show 0 ≤ (24 : Int) from by first | assumption | omega), (show 0 ≤ p.toInt from by first | assumption | omega), (show (24 : Int) + p.toInt ≤ 63 from by first | assumption | omega)⟩ ?_
          intro x35 I35 L35 hq35
          have hq35 : I35 = I4 ∧ L35 = L4 ∧ (((I4 69 6).toInt = 0 → 0 ≤ r.toInt → r.toInt < (I4 69 5).toInt → kb L4 r.toInt.toNat ((24 : Int) + p.toInt).toNat < 255 → x35.toInt = kb L4 r.toInt.toNat ((24 : Int) + p.toInt).toNat)) := hq35
          obtain ⟨eI35, eL35, c35_2⟩ := hq35
          replace eI35 := eI35.symm
          subst eI35
          replace eL35 := eL35.symm
          subst eL35
          exact ⟨c4_0, c4_1, c4_2, c4_5, hxL4, hF4, hG4⟩
def tX11_same : List (Instr × Nat) := [(.aload_n 0, 1), (.getfield 67, 3), (.invokevirtual 165, 3), (.aload_n 0, 1), (.getfield 67, 3), (.getfield 168, 3), (.ifCond .eq 8, 3), (.bipush (-2), 2), (.goto 11, 3), (.aload_n 0, 1), (.getfield 67, 3), (.iload_n 1, 1), (.invokevirtual 182, 3), (.ireturn, 1)]
theorem tX11_same_ok : f_chk cX11_same 0 tX11_same = true := by decide +kernel
def pX11_same (av : List Value) (I : fM) (L : fN) : Prop := match av with
  | [.ref 0, .int r] => xR I ∧ xO I ∧ xT I ∧ xS I ∧ xL I
  | _ => False
def qX11_same (av : List Value) (I : fM) (L : fN) (r : Value) (I' : fM) (L' : fN) : Prop := match av, r with
  | [.ref 0, .int r], .int x => xR I' ∧ xO I' ∧ xT I' ∧ xS I' ∧ xL I' ∧ f_fr [25, 26, 27, 28, 31, 32, 33, 34, 35, 36, 37, 38, 39, 69, 71] I I' ∧ f_fr [29, 30, 70] L L'
  | _, _ => False
set_option maxHeartbeats 4000000 in
set_option maxRecDepth 100000 in
theorem mX11_same {l : Launch} {a : Nat → Nat} {cy dC : Nat → ClassId} {dI : Nat → Nat → Nat} (hinj : ∀ i j, i < 80 → j < 80 → a i = a j → i = j) : f_Met (xE a) l xY 80 a cy dC dI yX11_same cX11_same 2 1 37 pX11_same qX11_same := by
  refine f_met_of (xE_c a) hinj xY_hi (by decide) (fun av I L h => by unfold pX11_same at h; split at h <;> first | exact Nat.le_of_ble_eq_true rfl | exact h.elim) ?_
  intro pP eP sP mP aP bP hP9 cP C av I L hp
  unfold pX11_same at hp
  split at hp
  case h_2 => exact hp.elim
  case h_1 r =>
    obtain ⟨hR, hxO, hxT, hxS, hxL⟩ := hp
    have hF0 : f_fr [25, 26, 27, 28, 31, 32, 33, 34, 35, 36, 37, 38, 39, 69, 71] I I := f_fr_rf
    have hG0 : f_fr [29, 30, 70] L L := f_fr_rf
    refine f_wp_ok C f_cl flX11_ok fiX11_ok fjX11_ok (sn := none) (fun j h => by cases h) (cs := (f_cnl [(165, (1, 0, 5, pX5_find, qX5_find)), (182, (2, 1, 5, pX5_firstLike, qX5_firstLike))])) (cz := (fun _ => none)) (f_cnl_of (P := fun j S => f_cok pP l eP (f_rm 37) sP mP aP bP hP9 cP xY 80 a cy dC dI 2 _ _ (.invokevirtual j) true S) (List.forall_mem_cons.mpr ⟨f_cokV C (mX5_find hinj) (ci := 5) rfl (List.forall_mem_cons.mpr ⟨(mlX11_ok _ (List.mem_of_getElem? (i := 18) rfl)), kc_X5_find⟩) (by decide +kernel) ⟨Nat.le_of_ble_eq_true rfl, Nat.le_of_ble_eq_true rfl⟩, List.forall_mem_cons.mpr ⟨f_cokV C (mX5_firstLike hinj) (ci := 5) rfl (List.forall_mem_cons.mpr ⟨(mlX11_ok _ (List.mem_of_getElem? (i := 21) rfl)), kc_X5_firstLike⟩) (by decide +kernel) ⟨Nat.le_of_ble_eq_true rfl, Nat.le_of_ble_eq_true rfl⟩, fun _ h => absurd h List.not_mem_nil⟩⟩)) (fun j S h => by cases h) tX11_same_ok (cut := (fun _ => none)) (fun t P h => by cases h) 15 0 tX11_same tX11_same_ok _ _ _ _ ?_
    refine And.intro ⟨hR, hxO, hxT, hxS⟩ ?_
    intro I4 L4 hq4
    have hq4 : xR I4 ∧ xO I4 ∧ xT I4 ∧ f_fr [25, 26, 27, 28, 31, 32, 33, 34, 35, 36, 37, 38, 39, 69, 71] I I4 ∧ f_fr [29, 30, 70] L L4 ∧ xS I4 := hq4
    obtain ⟨c4_0, c4_1, c4_2, c4_3, c4_4, c4_5⟩ := hq4
    have hxL4 := f_dep_fr xL_dep hxL c4_3 rfl
    have hF4 := f_fr_tr hF0 c4_3 rfl
    have hG4 := f_fr_tr hG0 c4_4 rfl
    apply And.intro
    · intro h14
      have h14 : (I4 69 6).toInt = 0 := h14
      refine And.intro c4_0 ?_
      intro x27 I27 L27 hq27
      have hq27 : I27 = I4 ∧ L27 = L4 := hq27
      obtain ⟨eI27, eL27⟩ := hq27
      replace eI27 := eI27.symm
      subst eI27
      replace eL27 := eL27.symm
      subst eL27
      exact ⟨c4_0, c4_1, c4_2, c4_5, hxL4, hF4, hG4⟩
    · intro h14
      have h14 : ¬ (I4 69 6).toInt = 0 := h14
      exact ⟨c4_0, c4_1, c4_2, c4_5, hxL4, hF4, hG4⟩
def tX11_over : List (Instr × Nat) := [(.aload_n 0, 1), (.getfield 67, 3), (.invokevirtual 165, 3), (.aload_n 0, 1), (.iload_n 2, 1), (.invokevirtual 159, 3), (.ifCond .eq 17, 3), (.aload_n 0, 1), (.getfield 67, 3), (.iload_n 1, 1), (.bipush 56, 2), (.iload_n 2, 1), (.invokevirtual 172, 3), (.goto 7, 3), (.aload_n 0, 1), (.invokevirtual 176, 3), (.ireturn, 1)]
theorem tX11_over_ok : f_chk cX11_over 0 tX11_over = true := by decide +kernel
def pX11_over (av : List Value) (I : fM) (L : fN) : Prop := match av with
  | [.ref 0, .int r, .int p] => xR I ∧ xO I ∧ xT I ∧ xS I ∧ xL I
  | _ => False
def qX11_over (av : List Value) (I : fM) (L : fN) (r : Value) (I' : fM) (L' : fN) : Prop := match av, r with
  | [.ref 0, .int r, .int p], .int x => xR I' ∧ xO I' ∧ xT I' ∧ xS I' ∧ xL I' ∧ f_fr [25, 26, 27, 28, 31, 32, 33, 34, 35, 36, 37, 38, 39, 69, 71] I I' ∧ f_fr [29, 30, 70] L L'
  | _, _ => False
set_option maxHeartbeats 4000000 in
set_option maxRecDepth 100000 in
theorem mX11_over {l : Launch} {a : Nat → Nat} {cy dC : Nat → ClassId} {dI : Nat → Nat → Nat} (hinj : ∀ i j, i < 80 → j < 80 → a i = a j → i = j) : f_Met (xE a) l xY 80 a cy dC dI yX11_over cX11_over 3 1 37 pX11_over qX11_over := by
  refine f_met_of (xE_c a) hinj xY_hi (by decide) (fun av I L h => by unfold pX11_over at h; split at h <;> first | exact Nat.le_of_ble_eq_true rfl | exact h.elim) ?_
  intro pP eP sP mP aP bP hP9 cP C av I L hp
  unfold pX11_over at hp
  split at hp
  case h_2 => exact hp.elim
  case h_1 r p =>
    obtain ⟨hR, hxO, hxT, hxS, hxL⟩ := hp
    have hF0 : f_fr [25, 26, 27, 28, 31, 32, 33, 34, 35, 36, 37, 38, 39, 69, 71] I I := f_fr_rf
    have hG0 : f_fr [29, 30, 70] L L := f_fr_rf
    refine f_wp_ok C f_cl flX11_ok fiX11_ok fjX11_ok (sn := none) (fun j h => by cases h) (cs := (f_cnl [(165, (1, 0, 5, pX5_find, qX5_find)), (159, (2, 3, 10, pX11_isPlace, qX11_isPlace)), (172, (4, 1, 5, pX5_value, qX5_value)), (176, (1, 1, 10, pX11_unread, qX11_unread))])) (cz := (fun _ => none)) (f_cnl_of (P := fun j S => f_cok pP l eP (f_rm 37) sP mP aP bP hP9 cP xY 80 a cy dC dI 3 _ _ (.invokevirtual j) true S) (List.forall_mem_cons.mpr ⟨f_cokV C (mX5_find hinj) (ci := 5) rfl (List.forall_mem_cons.mpr ⟨(mlX11_ok _ (List.mem_of_getElem? (i := 18) rfl)), kc_X5_find⟩) (by decide +kernel) ⟨Nat.le_of_ble_eq_true rfl, Nat.le_of_ble_eq_true rfl⟩, List.forall_mem_cons.mpr ⟨f_cokV C (mX11_isPlace hinj) (ci := 10) rfl (List.forall_mem_cons.mpr ⟨(mlX11_ok _ (List.mem_of_getElem? (i := 17) rfl)), kc_X11_isPlace⟩) (by decide +kernel) ⟨Nat.le_of_ble_eq_true rfl, Nat.le_of_ble_eq_true rfl⟩, List.forall_mem_cons.mpr ⟨f_cokV C (mX5_value hinj) (ci := 5) rfl (List.forall_mem_cons.mpr ⟨(mlX11_ok _ (List.mem_of_getElem? (i := 19) rfl)), kc_X5_value⟩) (by decide +kernel) ⟨Nat.le_of_ble_eq_true rfl, Nat.le_of_ble_eq_true rfl⟩, List.forall_mem_cons.mpr ⟨f_cokV C (mX11_unread hinj) (ci := 10) rfl (List.forall_mem_cons.mpr ⟨(mlX11_ok _ (List.mem_of_getElem? (i := 20) rfl)), kc_X11_unread⟩) (by decide +kernel) ⟨Nat.le_of_ble_eq_true rfl, Nat.le_of_ble_eq_true rfl⟩, fun _ h => absurd h List.not_mem_nil⟩⟩⟩⟩)) (fun j S h => by cases h) tX11_over_ok (cut := (fun _ => none)) (fun t P h => by cases h) 18 0 tX11_over tX11_over_ok _ _ _ _ ?_
    refine And.intro ⟨hR, hxO, hxT, hxS⟩ ?_
    intro I4 L4 hq4
    have hq4 : xR I4 ∧ xO I4 ∧ xT I4 ∧ f_fr [25, 26, 27, 28, 31, 32, 33, 34, 35, 36, 37, 38, 39, 69, 71] I I4 ∧ f_fr [29, 30, 70] L L4 ∧ xS I4 := hq4
    obtain ⟨c4_0, c4_1, c4_2, c4_3, c4_4, c4_5⟩ := hq4
    have hxL4 := f_dep_fr xL_dep hxL c4_3 rfl
    have hF4 := f_fr_tr hF0 c4_3 rfl
    have hG4 := f_fr_tr hG0 c4_4 rfl
    refine And.intro c4_0 ?_
    intro x9 I9 L9 hq9
    have hq9 : I9 = I4 ∧ L9 = L4 ∧ ((x9.toInt = 0 ∨ x9.toInt = 1 ∧ 0 ≤ p.toInt ∧ p.toInt < (I4 40 6).toInt ∧ p.toInt ≤ 7)) := hq9
    obtain ⟨eI9, eL9, c9_2⟩ := hq9
    replace eI9 := eI9.symm
    subst eI9
    replace eL9 := eL9.symm
    subst eL9
    apply And.intro
    · intro h12
      have h12 : x9.toInt = 0 := h12
      refine And.intro trivial ?_
      intro x30 I30 L30 hq30
      have hq30 : I30 = I4 ∧ L30 = L4 := hq30
      obtain ⟨eI30, eL30⟩ := hq30
      replace eI30 := eI30.symm
      subst eI30
      replace eL30 := eL30.symm
      subst eL30
      exact ⟨c4_0, c4_1, c4_2, c4_5, hxL4, hF4, hG4⟩
    · intro h12
      have h12 : ¬ x9.toInt = 0 := h12
      refine And.intro ⟨c4_0, (show 0 ≤ (56 : Int) from by first | assumption | omega), (show 0 ≤ p.toInt from by first | assumption | omega), (show (56 : Int) + p.toInt ≤ 63 from by first | assumption | omega)⟩ ?_
      intro x23 I23 L23 hq23
      have hq23 : I23 = I4 ∧ L23 = L4 ∧ (((I4 69 6).toInt = 0 → 0 ≤ r.toInt → r.toInt < (I4 69 5).toInt → kb L4 r.toInt.toNat ((56 : Int) + p.toInt).toNat < 255 → x23.toInt = kb L4 r.toInt.toNat ((56 : Int) + p.toInt).toNat)) := hq23
      obtain ⟨eI23, eL23, c23_2⟩ := hq23
      replace eI23 := eI23.symm
      subst eI23
      replace eL23 := eL23.symm
      subst eL23
      exact ⟨c4_0, c4_1, c4_2, c4_5, hxL4, hF4, hG4⟩
def tX11_even : List (Instr × Nat) := [(.aload_n 0, 1), (.getfield 54, 3), (.getfield 131, 3), (.ifCond .ne 5, 3), (.iconst 0, 1), (.ireturn, 1), (.aload_n 0, 1), (.getfield 47, 3), (.aload_n 0, 1), (.getfield 54, 3), (.invokevirtual 186, 3), (.aload_n 0, 1), (.getfield 47, 3), (.sipush 10000, 3), (.invokevirtual 190, 3), (.ireturn, 1)]
theorem tX11_even_ok : f_chk cX11_even 0 tX11_even = true := by decide +kernel
def pX11_even (av : List Value) (I : fM) (L : fN) : Prop := match av with
  | [.ref 0] => xR I ∧ xO I ∧ xT I ∧ xS I ∧ xL I
  | _ => False
def qX11_even (av : List Value) (I : fM) (L : fN) (r : Value) (I' : fM) (L' : fN) : Prop := match av, r with
  | [.ref 0], .int x => xR I' ∧ xO I' ∧ xT I' ∧ xS I' ∧ xL I' ∧ f_fr [25, 26, 27, 28, 31, 32, 33, 34, 35, 36, 37, 38, 39, 69, 71] I I' ∧ f_fr [29, 30, 70] L L'
  | _, _ => False
set_option maxHeartbeats 4000000 in
set_option maxRecDepth 100000 in
theorem mX11_even {l : Launch} {a : Nat → Nat} {cy dC : Nat → ClassId} {dI : Nat → Nat → Nat} (hinj : ∀ i j, i < 80 → j < 80 → a i = a j → i = j) : f_Met (xE a) l xY 80 a cy dC dI yX11_even cX11_even 1 1 12 pX11_even qX11_even := by
  refine f_met_of (xE_c a) hinj xY_hi (by decide) (fun av I L h => by unfold pX11_even at h; split at h <;> first | exact Nat.le_of_ble_eq_true rfl | exact h.elim) ?_
  intro pP eP sP mP aP bP hP9 cP C av I L hp
  unfold pX11_even at hp
  split at hp
  case h_2 => exact hp.elim
  case h_1 =>
    obtain ⟨hR, hxO, hxT, hxS, hxL⟩ := hp
    have hF0 : f_fr [25, 26, 27, 28, 31, 32, 33, 34, 35, 36, 37, 38, 39, 69, 71] I I := f_fr_rf
    have hG0 : f_fr [29, 30, 70] L L := f_fr_rf
    refine f_wp_ok C f_cl flX11_ok fiX11_ok fjX11_ok (sn := none) (fun j h => by cases h) (cs := (f_cnl [(186, (2, 0, 9, pX10_beginWithRow, qX10_beginWithRow)), (190, (2, 1, 9, pX10_countEven, qX10_countEven))])) (cz := (fun _ => none)) (f_cnl_of (P := fun j S => f_cok pP l eP (f_rm 12) sP mP aP bP hP9 cP xY 80 a cy dC dI 1 _ _ (.invokevirtual j) true S) (List.forall_mem_cons.mpr ⟨f_cokV C (mX10_beginWithRow hinj) (ci := 9) rfl (List.forall_mem_cons.mpr ⟨(mlX11_ok _ (List.mem_of_getElem? (i := 22) rfl)), kc_X10_beginWithRow⟩) (by decide +kernel) ⟨Nat.le_of_ble_eq_true rfl, Nat.le_of_ble_eq_true rfl⟩, List.forall_mem_cons.mpr ⟨f_cokV C (mX10_countEven hinj) (ci := 9) rfl (List.forall_mem_cons.mpr ⟨(mlX11_ok _ (List.mem_of_getElem? (i := 23) rfl)), kc_X10_countEven⟩) (by decide +kernel) ⟨Nat.le_of_ble_eq_true rfl, Nat.le_of_ble_eq_true rfl⟩, fun _ h => absurd h List.not_mem_nil⟩⟩)) (fun j S h => by cases h) tX11_even_ok (cut := (fun _ => none)) (fun t P h => by cases h) 17 0 tX11_even tX11_even_ok _ _ _ _ ?_
    have r4_1 : 0 ≤ (I 40 6).toInt ∧ (I 40 6).toInt ≤ 8 := hR 40 6
    apply And.intro
    · intro h7
      have h7 : ¬ (I 40 6).toInt = 0 := h7
      refine And.intro ⟨hR, hxT⟩ ?_
      intro I20 L20 hq20
      have hq20 : xR I20 ∧ xT I20 ∧ f_fr [25, 26, 27] I I20 ∧ L20 = L ∧ (I20 25 8).toInt = 36 := hq20
      obtain ⟨c20_0, c20_1, c20_2, eL20, c20_4⟩ := hq20
      replace eL20 := eL20.symm
      subst eL20
      have hxO20 := f_dep_fr xO_dep hxO c20_2 rfl
      have hxS20 := f_dep_fr xS_dep hxS c20_2 rfl
      have hxL20 := f_dep_fr xL_dep hxL c20_2 rfl
      have hF20 := f_fr_tr hF0 c20_2 rfl
      refine And.intro ⟨c20_0, c20_1⟩ ?_
      intro x30 I30 L30 hq30
      have hq30 : I30 = I20 ∧ f_fr [29, 30] L L30 := hq30
      obtain ⟨eI30, c30_1⟩ := hq30
      replace eI30 := eI30.symm
      subst eI30
      have hG30 := f_fr_tr hG0 c30_1 rfl
      exact ⟨c20_0, hxO20, c20_1, hxS20, hxL20, hF20, hG30⟩
    · intro h7
      have h7 : (I 40 6).toInt = 0 := h7
      exact ⟨hR, hxO, hxT, hxS, hxL, hF0, hG0⟩
def tX11_lost : List (Instr × Nat) := [(.aload_n 0, 1), (.getfield 76, 3), (.invokevirtual 193, 3), (.ireturn, 1)]
theorem tX11_lost_ok : f_chk cX11_lost 0 tX11_lost = true := by decide +kernel
def pX11_lost (av : List Value) (I : fM) (L : fN) : Prop := match av with
  | [.ref 0] => xR I ∧ xO I ∧ xT I ∧ xS I ∧ xL I
  | _ => False
def qX11_lost (av : List Value) (I : fM) (L : fN) (r : Value) (I' : fM) (L' : fN) : Prop := match av, r with
  | [.ref 0], .int x => xR I' ∧ xO I' ∧ xT I' ∧ xS I' ∧ xL I' ∧ f_fr [25, 26, 27, 28, 31, 32, 33, 34, 35, 36, 37, 38, 39, 69, 72] I I' ∧ f_fr [29, 30, 70] L L'
  | _, _ => False
set_option maxHeartbeats 4000000 in
set_option maxRecDepth 100000 in
theorem mX11_lost {l : Launch} {a : Nat → Nat} {cy dC : Nat → ClassId} {dI : Nat → Nat → Nat} (hinj : ∀ i j, i < 80 → j < 80 → a i = a j → i = j) : f_Met (xE a) l xY 80 a cy dC dI yX11_lost cX11_lost 1 1 39 pX11_lost qX11_lost := by
  refine f_met_of (xE_c a) hinj xY_hi (by decide) (fun av I L h => by unfold pX11_lost at h; split at h <;> first | exact Nat.le_of_ble_eq_true rfl | exact h.elim) ?_
  intro pP eP sP mP aP bP hP9 cP C av I L hp
  unfold pX11_lost at hp
  split at hp
  case h_2 => exact hp.elim
  case h_1 =>
    obtain ⟨hR, hxO, hxT, hxS, hxL⟩ := hp
    have hF0 : f_fr [25, 26, 27, 28, 31, 32, 33, 34, 35, 36, 37, 38, 39, 69, 72] I I := f_fr_rf
    have hG0 : f_fr [29, 30, 70] L L := f_fr_rf
    refine f_wp_ok C f_cl flX11_ok fiX11_ok fjX11_ok (sn := none) (fun j h => by cases h) (cs := (f_cnl [(193, (1, 1, 6, pX6_leastLeftOut, qX6_leastLeftOut))])) (cz := (fun _ => none)) (f_cnl_of (P := fun j S => f_cok pP l eP (f_rm 39) sP mP aP bP hP9 cP xY 80 a cy dC dI 1 _ _ (.invokevirtual j) true S) (List.forall_mem_cons.mpr ⟨f_cokV C (mX6_leastLeftOut hinj) (ci := 6) rfl (List.forall_mem_cons.mpr ⟨(mlX11_ok _ (List.mem_of_getElem? (i := 24) rfl)), kc_X6_leastLeftOut⟩) (by decide +kernel) ⟨Nat.le_of_ble_eq_true rfl, Nat.le_of_ble_eq_true rfl⟩, fun _ h => absurd h List.not_mem_nil⟩)) (fun j S h => by cases h) tX11_lost_ok (cut := (fun _ => none)) (fun t P h => by cases h) 7 0 tX11_lost tX11_lost_ok _ _ _ _ ?_
    refine And.intro ⟨hR, hxO, hxT, hxS⟩ ?_
    intro x4 I4 L4 hq4
    have hq4 : xR I4 ∧ xO I4 ∧ xT I4 ∧ xS I4 ∧ f_fr [25, 26, 27, 28, 31, 32, 33, 34, 35, 36, 37, 38, 39, 69, 72] I I4 ∧ f_fr [29, 30, 70] L L4 := hq4
    obtain ⟨c4_0, c4_1, c4_2, c4_3, c4_4, c4_5⟩ := hq4
    have hxL4 := f_dep_fr xL_dep hxL c4_4 rfl
    have hF4 := f_fr_tr hF0 c4_4 rfl
    have hG4 := f_fr_tr hG0 c4_5 rfl
    exact ⟨c4_0, c4_1, c4_2, c4_3, hxL4, hF4, hG4⟩
def tX11_mended : List (Instr × Nat) := [(.iload_n 1, 1), (.ifCond .lt 18, 3), (.iload_n 1, 1), (.iconst 1, 1), (.if_icmp .gt 13, 3), (.aload_n 0, 1), (.getfield 54, 3), (.getfield 131, 3), (.ifCond .ne 5, 3), (.iconst (-1), 1), (.ireturn, 1), (.aload_n 0, 1), (.getfield 54, 3), (.getfield 131, 3), (.bipush 6, 2), (.if_icmp .le 6, 3), (.bipush (-2), 2), (.ireturn, 1), (.aload_n 0, 1), (.getfield 76, 3), (.invokevirtual 196, 3), (.iload_n 1, 1), (.ifCond .ne 13, 3), (.aload_n 0, 1), (.getfield 76, 3), (.getfield 199, 3), (.goto 10, 3), (.aload_n 0, 1), (.getfield 76, 3), (.getfield 202, 3), (.ireturn, 1)]
theorem tX11_mended_ok : f_chk cX11_mended 0 tX11_mended = true := by decide +kernel
def pX11_mended (av : List Value) (I : fM) (L : fN) : Prop := match av with
  | [.ref 0, .int w] => xR I ∧ xO I ∧ xT I ∧ xS I ∧ xL I
  | _ => False
def qX11_mended (av : List Value) (I : fM) (L : fN) (r : Value) (I' : fM) (L' : fN) : Prop := match av, r with
  | [.ref 0, .int w], .int x => xR I' ∧ xO I' ∧ xT I' ∧ xS I' ∧ xL I' ∧ f_fr [25, 26, 27, 28, 31, 32, 33, 34, 35, 36, 37, 38, 39, 69, 72, 73] I I' ∧ f_fr [29, 30, 70] L L'
  | _, _ => False
set_option maxHeartbeats 4000000 in
set_option maxRecDepth 100000 in
theorem mX11_mended {l : Launch} {a : Nat → Nat} {cy dC : Nat → ClassId} {dI : Nat → Nat → Nat} (hinj : ∀ i j, i < 80 → j < 80 → a i = a j → i = j) : f_Met (xE a) l xY 80 a cy dC dI yX11_mended cX11_mended 2 1 46 pX11_mended qX11_mended := by
  refine f_met_of (xE_c a) hinj xY_hi (by decide) (fun av I L h => by unfold pX11_mended at h; split at h <;> first | exact Nat.le_of_ble_eq_true rfl | exact h.elim) ?_
  intro pP eP sP mP aP bP hP9 cP C av I L hp
  unfold pX11_mended at hp
  split at hp
  case h_2 => exact hp.elim
  case h_1 w =>
    obtain ⟨hR, hxO, hxT, hxS, hxL⟩ := hp
    have hF0 : f_fr [25, 26, 27, 28, 31, 32, 33, 34, 35, 36, 37, 38, 39, 69, 72, 73] I I := f_fr_rf
    have hG0 : f_fr [29, 30, 70] L L := f_fr_rf
    refine f_wp_ok C f_cl flX11_ok fiX11_ok fjX11_ok (sn := none) (fun j h => by cases h) (cs := (f_cnl [(196, (1, 0, 6, pX6_findOrder, qX6_findOrder))])) (cz := (fun _ => none)) (f_cnl_of (P := fun j S => f_cok pP l eP (f_rm 46) sP mP aP bP hP9 cP xY 80 a cy dC dI 2 _ _ (.invokevirtual j) true S) (List.forall_mem_cons.mpr ⟨f_cokV C (mX6_findOrder hinj) (ci := 6) rfl (List.forall_mem_cons.mpr ⟨(mlX11_ok _ (List.mem_of_getElem? (i := 25) rfl)), kc_X6_findOrder⟩) (by decide +kernel) ⟨Nat.le_of_ble_eq_true rfl, Nat.le_of_ble_eq_true rfl⟩, fun _ h => absurd h List.not_mem_nil⟩)) (fun j S h => by cases h) tX11_mended_ok (cut := (fun _ => none)) (fun t P h => by cases h) 27 0 tX11_mended tX11_mended_ok _ _ _ _ ?_
    apply And.intro
    · intro h1
      have h1 : w.toInt < 0 := h1
      exact ⟨hR, hxO, hxT, hxS, hxL, hF0, hG0⟩
    · intro h1
      have h1 : 0 ≤ w.toInt := h1
      apply And.intro
      · intro h6
        have h6 : 1 < w.toInt := h6
        exact ⟨hR, hxO, hxT, hxS, hxL, hF0, hG0⟩
      · intro h6
        have h6 : w.toInt ≤ 1 := h6
        have r13_1 : 0 ≤ (I 40 6).toInt ∧ (I 40 6).toInt ≤ 8 := hR 40 6
        apply And.intro
        · intro h16
          have h16 : ¬ (I 40 6).toInt = 0 := h16
          apply And.intro
          · intro h30
            have h30 : (I 40 6).toInt ≤ 6 := h30
            refine And.intro ⟨hR, hxO, hxT, hxS⟩ ?_
            intro I40 L40 hq40
            have hq40 : xR I40 ∧ xO I40 ∧ xT I40 ∧ xS I40 ∧ f_fr [25, 26, 27, 28, 31, 32, 33, 34, 35, 36, 37, 38, 39, 69, 72, 73] I I40 ∧ f_fr [29, 30, 70] L L40 := hq40
            obtain ⟨c40_0, c40_1, c40_2, c40_3, c40_4, c40_5⟩ := hq40
            have hxL40 := f_dep_fr xL_dep hxL c40_4 rfl
            have hF40 := f_fr_tr hF0 c40_4 rfl
            have hG40 := f_fr_tr hG0 c40_5 rfl
            apply And.intro
            · intro h44
              have h44 : ¬ w.toInt = 0 := h44
              exact ⟨c40_0, c40_1, c40_2, c40_3, hxL40, hF40, hG40⟩
            · intro h44
              have h44 : w.toInt = 0 := h44
              exact ⟨c40_0, c40_1, c40_2, c40_3, hxL40, hF40, hG40⟩
          · intro h30
            have h30 : 6 < (I 40 6).toInt := h30
            exact ⟨hR, hxO, hxT, hxS, hxL, hF0, hG0⟩
        · intro h16
          have h16 : (I 40 6).toInt = 0 := h16
          exact ⟨hR, hxO, hxT, hxS, hxL, hF0, hG0⟩
def tX11_could : List (Instr × Nat) := [(.aload_n 0, 1), (.iload_n 1, 1), (.invokevirtual 159, 3), (.ifCond .eq 21, 3), (.iload_n 2, 1), (.ifCond .lt 17, 3), (.iload_n 2, 1), (.iconst 2, 1), (.if_icmp .gt 12, 3), (.iload_n 3, 1), (.ifCond .lt 8, 3), (.iload_n 3, 1), (.iconst 1, 1), (.if_icmp .le 5, 3), (.iconst (-1), 1), (.ireturn, 1), (.iload_n 3, 1), (.ifCond .ne 15, 3), (.aload_n 0, 1), (.getfield 76, 3), (.iload_n 1, 1), (.iload_n 2, 1), (.invokevirtual 205, 3), (.goto 12, 3), (.aload_n 0, 1), (.getfield 76, 3), (.iload_n 1, 1), (.iload_n 2, 1), (.invokevirtual 208, 3), (.ireturn, 1)]
theorem tX11_could_ok : f_chk cX11_could 0 tX11_could = true := by decide +kernel
def pX11_could (av : List Value) (I : fM) (L : fN) : Prop := match av with
  | [.ref 0, .int p, .int n, .int w] => xR I ∧ xO I ∧ xT I ∧ xS I ∧ xL I
  | _ => False
def qX11_could (av : List Value) (I : fM) (L : fN) (r : Value) (I' : fM) (L' : fN) : Prop := match av, r with
  | [.ref 0, .int p, .int n, .int w], .int x => xR I' ∧ xO I' ∧ xT I' ∧ xS I' ∧ xL I' ∧ f_fr [25, 26, 27, 28, 31, 32, 33, 34, 35, 36, 37, 38, 39, 69, 16, 20, 21, 22, 23, 76, 77] I I' ∧ f_fr [17, 18, 19, 29, 30, 70] L L'
  | _, _ => False
set_option maxHeartbeats 4000000 in
set_option maxRecDepth 100000 in
theorem mX11_could {l : Launch} {a : Nat → Nat} {cy dC : Nat → ClassId} {dI : Nat → Nat → Nat} (hinj : ∀ i j, i < 80 → j < 80 → a i = a j → i = j) : f_Met (xE a) l xY 80 a cy dC dI yX11_could cX11_could 4 1 39 pX11_could qX11_could := by
  refine f_met_of (xE_c a) hinj xY_hi (by decide) (fun av I L h => by unfold pX11_could at h; split at h <;> first | exact Nat.le_of_ble_eq_true rfl | exact h.elim) ?_
  intro pP eP sP mP aP bP hP9 cP C av I L hp
  unfold pX11_could at hp
  split at hp
  case h_2 => exact hp.elim
  case h_1 p n w =>
    obtain ⟨hR, hxO, hxT, hxS, hxL⟩ := hp
    have hF0 : f_fr [25, 26, 27, 28, 31, 32, 33, 34, 35, 36, 37, 38, 39, 69, 16, 20, 21, 22, 23, 76, 77] I I := f_fr_rf
    have hG0 : f_fr [17, 18, 19, 29, 30, 70] L L := f_fr_rf
    refine f_wp_ok C f_cl flX11_ok fiX11_ok fjX11_ok (sn := none) (fun j h => by cases h) (cs := (f_cnl [(159, (2, 3, 10, pX11_isPlace, qX11_isPlace)), (205, (3, 1, 6, pX6_countTags, qX6_countTags)), (208, (3, 1, 6, pX6_leastTag, qX6_leastTag))])) (cz := (fun _ => none)) (f_cnl_of (P := fun j S => f_cok pP l eP (f_rm 39) sP mP aP bP hP9 cP xY 80 a cy dC dI 4 _ _ (.invokevirtual j) true S) (List.forall_mem_cons.mpr ⟨f_cokV C (mX11_isPlace hinj) (ci := 10) rfl (List.forall_mem_cons.mpr ⟨(mlX11_ok _ (List.mem_of_getElem? (i := 17) rfl)), kc_X11_isPlace⟩) (by decide +kernel) ⟨Nat.le_of_ble_eq_true rfl, Nat.le_of_ble_eq_true rfl⟩, List.forall_mem_cons.mpr ⟨f_cokV C (mX6_countTags hinj) (ci := 6) rfl (List.forall_mem_cons.mpr ⟨(mlX11_ok _ (List.mem_of_getElem? (i := 26) rfl)), kc_X6_countTags⟩) (by decide +kernel) ⟨Nat.le_of_ble_eq_true rfl, Nat.le_of_ble_eq_true rfl⟩, List.forall_mem_cons.mpr ⟨f_cokV C (mX6_leastTag hinj) (ci := 6) rfl (List.forall_mem_cons.mpr ⟨(mlX11_ok _ (List.mem_of_getElem? (i := 27) rfl)), kc_X6_leastTag⟩) (by decide +kernel) ⟨Nat.le_of_ble_eq_true rfl, Nat.le_of_ble_eq_true rfl⟩, fun _ h => absurd h List.not_mem_nil⟩⟩⟩)) (fun j S h => by cases h) tX11_could_ok (cut := (fun _ => none)) (fun t P h => by cases h) 26 0 tX11_could tX11_could_ok _ _ _ _ ?_
    refine And.intro hR ?_
    intro x2 I2 L2 hq2
    have hq2 : I2 = I ∧ L2 = L ∧ ((x2.toInt = 0 ∨ x2.toInt = 1 ∧ 0 ≤ p.toInt ∧ p.toInt < (I 40 6).toInt ∧ p.toInt ≤ 7)) := hq2
    obtain ⟨eI2, eL2, c2_2⟩ := hq2
    replace eI2 := eI2.symm
    subst eI2
    replace eL2 := eL2.symm
    subst eL2
    apply And.intro
    · intro h5
      have h5 : x2.toInt = 0 := h5
      exact ⟨hR, hxO, hxT, hxS, hxL, hF0, hG0⟩
    · intro h5
      have h5 : ¬ x2.toInt = 0 := h5
      apply And.intro
      · intro h9
        have h9 : n.toInt < 0 := h9
        exact ⟨hR, hxO, hxT, hxS, hxL, hF0, hG0⟩
      · intro h9
        have h9 : 0 ≤ n.toInt := h9
        apply And.intro
        · intro h14
          have h14 : 2 < n.toInt := h14
          exact ⟨hR, hxO, hxT, hxS, hxL, hF0, hG0⟩
        · intro h14
          have h14 : n.toInt ≤ 2 := h14
          apply And.intro
          · intro h18
            have h18 : w.toInt < 0 := h18
            exact ⟨hR, hxO, hxT, hxS, hxL, hF0, hG0⟩
          · intro h18
            have h18 : 0 ≤ w.toInt := h18
            apply And.intro
            · intro h23
              have h23 : w.toInt ≤ 1 := h23
              apply And.intro
              · intro h29
                have h29 : ¬ w.toInt = 0 := h29
                refine And.intro ⟨hR, hxO, hxT, hxS, (show 0 ≤ p.toInt from by first | assumption | omega), (show p.toInt ≤ 7 from by first | assumption | omega), (show 0 ≤ n.toInt from by first | assumption | omega), (show n.toInt ≤ 2 from by first | assumption | omega)⟩ ?_
                intro x50 I50 L50 hq50
                have hq50 : xR I50 ∧ xO I50 ∧ xT I50 ∧ xS I50 ∧ f_fr [25, 26, 27, 28, 31, 32, 33, 34, 35, 36, 37, 38, 39, 69, 16, 20, 21, 22, 23, 76, 77] I I50 ∧ f_fr [17, 18, 19, 29, 30, 70] L L50 := hq50
                obtain ⟨c50_0, c50_1, c50_2, c50_3, c50_4, c50_5⟩ := hq50
                have hxL50 := f_dep_fr xL_dep hxL c50_4 rfl
                have hF50 := f_fr_tr hF0 c50_4 rfl
                have hG50 := f_fr_tr hG0 c50_5 rfl
                exact ⟨c50_0, c50_1, c50_2, c50_3, hxL50, hF50, hG50⟩
              · intro h29
                have h29 : w.toInt = 0 := h29
                refine And.intro ⟨hR, hxO, hxT, hxS, (show 0 ≤ p.toInt from by first | assumption | omega), (show p.toInt ≤ 7 from by first | assumption | omega), (show 0 ≤ n.toInt from by first | assumption | omega), (show n.toInt ≤ 2 from by first | assumption | omega)⟩ ?_
                intro x38 I38 L38 hq38
                have hq38 : xR I38 ∧ xO I38 ∧ xT I38 ∧ xS I38 ∧ f_fr [25, 26, 27, 28, 31, 32, 33, 34, 35, 36, 37, 38, 39, 69, 16, 20, 21, 22, 23, 76, 77] I I38 ∧ f_fr [17, 18, 19, 29, 30, 70] L L38 := hq38
                obtain ⟨c38_0, c38_1, c38_2, c38_3, c38_4, c38_5⟩ := hq38
                have hxL38 := f_dep_fr xL_dep hxL c38_4 rfl
                have hF38 := f_fr_tr hF0 c38_4 rfl
                have hG38 := f_fr_tr hG0 c38_5 rfl
                exact ⟨c38_0, c38_1, c38_2, c38_3, hxL38, hF38, hG38⟩
            · intro h23
              have h23 : 1 < w.toInt := h23
              exact ⟨hR, hxO, hxT, hxS, hxL, hF0, hG0⟩
def tX11_span : List (Instr × Nat) := [(.aload_n 0, 1), (.iload_n 1, 1), (.invokevirtual 159, 3), (.ifCond .eq 31, 3), (.aload_n 0, 1), (.iload_n 2, 1), (.invokevirtual 159, 3), (.ifCond .eq 23, 3), (.iload_n 2, 1), (.iload_n 1, 1), (.if_icmp .lt 18, 3), (.iload_n 3, 1), (.ifCond .lt 14, 3), (.iload_n 3, 1), (.aload_n 0, 1), (.getfield 28, 3), (.getfield 151, 3), (.if_icmp .lt 5, 3), (.iconst (-1), 1), (.ireturn, 1), (.aload_n 0, 1), (.getfield 76, 3), (.iload_n 1, 1), (.iload_n 2, 1), (.iload_n 3, 1), (.invokevirtual 211, 3), (.ifCond .eq 7, 3), (.iconst 1, 1), (.goto 4, 3), (.iconst 0, 1), (.ireturn, 1)]
theorem tX11_span_ok : f_chk cX11_span 0 tX11_span = true := by decide +kernel
def pX11_span (av : List Value) (I : fM) (L : fN) : Prop := match av with
  | [.ref 0, .int f, .int t, .int k] => xR I ∧ xO I ∧ xT I ∧ xS I ∧ xL I
  | _ => False
def qX11_span (av : List Value) (I : fM) (L : fN) (r : Value) (I' : fM) (L' : fN) : Prop := match av, r with
  | [.ref 0, .int f, .int t, .int k], .int x => xR I' ∧ xO I' ∧ xT I' ∧ xS I' ∧ xL I' ∧ f_fr [25, 26, 27, 28, 31, 32, 33, 34, 35, 36, 37, 38, 39, 69] I I' ∧ f_fr [29, 30, 70] L L'
  | _, _ => False
set_option maxHeartbeats 4000000 in
set_option maxRecDepth 100000 in
theorem mX11_span {l : Launch} {a : Nat → Nat} {cy dC : Nat → ClassId} {dI : Nat → Nat → Nat} (hinj : ∀ i j, i < 80 → j < 80 → a i = a j → i = j) : f_Met (xE a) l xY 80 a cy dC dI yX11_span cX11_span 4 1 37 pX11_span qX11_span := by
  refine f_met_of (xE_c a) hinj xY_hi (by decide) (fun av I L h => by unfold pX11_span at h; split at h <;> first | exact Nat.le_of_ble_eq_true rfl | exact h.elim) ?_
  intro pP eP sP mP aP bP hP9 cP C av I L hp
  unfold pX11_span at hp
  split at hp
  case h_2 => exact hp.elim
  case h_1 f t k =>
    obtain ⟨hR, hxO, hxT, hxS, hxL⟩ := hp
    rcases hxL with ⟨h9, h10⟩ | ⟨h9, h10⟩
    · obtain ⟨K, eK⟩ : ∃ K : fM, I = va_up K 0 (va_up (va_up (K 0) 9 (Int32.ofNat 5)) 10 (Int32.ofNat 10)) := ⟨I, f_lex h9 h10⟩
      subst eK
      let I : fM := va_up K 0 (va_up (va_up (K 0) 9 (Int32.ofNat 5)) 10 (Int32.ofNat 10))
      have hxL : xL I := Or.inl ⟨rfl, rfl⟩
      skip
      have hR : xR I := hR
      have hxO : xO I := hxO
      have hxT : xT I := hxT
      have hxS : xS I := hxS
      have hxL : xL I := hxL
      have hF0 : f_fr [25, 26, 27, 28, 31, 32, 33, 34, 35, 36, 37, 38, 39, 69] I I := f_fr_rf
      have hG0 : f_fr [29, 30, 70] L L := f_fr_rf
      refine f_wp_ok C f_cl flX11_ok fiX11_ok fjX11_ok (sn := none) (fun j h => by cases h) (cs := (f_cnl [(159, (2, 3, 10, pX11_isPlace, qX11_isPlace)), (211, (4, 3, 6, pX6_isSpan, qX6_isSpan))])) (cz := (fun _ => none)) (f_cnl_of (P := fun j S => f_cok pP l eP (f_rm 37) sP mP aP bP hP9 cP xY 80 a cy dC dI 4 _ _ (.invokevirtual j) true S) (List.forall_mem_cons.mpr ⟨f_cokV C (mX11_isPlace hinj) (ci := 10) rfl (List.forall_mem_cons.mpr ⟨(mlX11_ok _ (List.mem_of_getElem? (i := 17) rfl)), kc_X11_isPlace⟩) (by decide +kernel) ⟨Nat.le_of_ble_eq_true rfl, Nat.le_of_ble_eq_true rfl⟩, List.forall_mem_cons.mpr ⟨f_cokV C (mX6_isSpan hinj) (ci := 6) rfl (List.forall_mem_cons.mpr ⟨(mlX11_ok _ (List.mem_of_getElem? (i := 28) rfl)), kc_X6_isSpan⟩) (by decide +kernel) ⟨Nat.le_of_ble_eq_true rfl, Nat.le_of_ble_eq_true rfl⟩, fun _ h => absurd h List.not_mem_nil⟩⟩)) (fun j S h => by cases h) tX11_span_ok (cut := (fun _ => none)) (fun t P h => by cases h) 31 0 tX11_span tX11_span_ok _ _ _ _ ?_
      refine And.intro hR ?_
      intro x2 I2 L2 hq2
      have hq2 : I2 = I ∧ L2 = L ∧ ((x2.toInt = 0 ∨ x2.toInt = 1 ∧ 0 ≤ f.toInt ∧ f.toInt < (I 40 6).toInt ∧ f.toInt ≤ 7)) := hq2
      obtain ⟨eI2, eL2, c2_2⟩ := hq2
      replace eI2 := eI2.symm
      subst eI2
      replace eL2 := eL2.symm
      subst eL2
      apply And.intro
      · intro h5
        have h5 : x2.toInt = 0 := h5
        exact ⟨hR, hxO, hxT, hxS, hxL, hF0, hG0⟩
      · intro h5
        have h5 : ¬ x2.toInt = 0 := h5
        refine And.intro hR ?_
        intro x10 I10 L10 hq10
        have hq10 : I10 = I ∧ L10 = L ∧ ((x10.toInt = 0 ∨ x10.toInt = 1 ∧ 0 ≤ t.toInt ∧ t.toInt < (I 40 6).toInt ∧ t.toInt ≤ 7)) := hq10
        obtain ⟨eI10, eL10, c10_2⟩ := hq10
        replace eI10 := eI10.symm
        subst eI10
        replace eL10 := eL10.symm
        subst eL10
        apply And.intro
        · intro h13
          have h13 : x10.toInt = 0 := h13
          exact ⟨hR, hxO, hxT, hxS, hxL, hF0, hG0⟩
        · intro h13
          have h13 : ¬ x10.toInt = 0 := h13
          apply And.intro
          · intro h18
            have h18 : t.toInt < f.toInt := h18
            exact ⟨hR, hxO, hxT, hxS, hxL, hF0, hG0⟩
          · intro h18
            have h18 : f.toInt ≤ t.toInt := h18
            apply And.intro
            · intro h22
              have h22 : k.toInt < 0 := h22
              exact ⟨hR, hxO, hxT, hxS, hxL, hF0, hG0⟩
            · intro h22
              have h22 : 0 ≤ k.toInt := h22
              have r30_1 : 0 ≤ (I 5 4).toInt ∧ (I 5 4).toInt ≤ 5 := hR 5 4
              apply And.intro
              · intro h33
                have h33 : k.toInt < (I 5 4).toInt := h33
                refine And.intro ⟨hR, hxO, hxT, hxS, (show 0 ≤ f.toInt from by first | assumption | omega), (show f.toInt ≤ 7 from by first | assumption | omega), (show t.toInt ≤ 7 from by first | assumption | omega), (show 0 ≤ k.toInt from by first | assumption | omega), (show k.toInt ≤ 4 from by first | assumption | omega)⟩ ?_
                intro x45 I45 L45 hq45
                obtain ⟨K45, eK45⟩ : ∃ K45 : fM, I45 = va_up K45 0 (va_up (va_up (K45 0) 9 (Int32.ofNat 5)) 10 (Int32.ofNat 10)) := ⟨I45, f_lex (congrFun (hq45.2.2.2.2.1 0 rfl) 9) (congrFun (hq45.2.2.2.2.1 0 rfl) 10)⟩
                subst eK45
                let I45 : fM := va_up K45 0 (va_up (va_up (K45 0) 9 (Int32.ofNat 5)) 10 (Int32.ofNat 10))
                have hq45 : xR I45 ∧ xO I45 ∧ xT I45 ∧ xS I45 ∧ f_fr [25, 26, 27, 28, 31, 32, 33, 34, 35, 36, 37, 38, 39, 69] I I45 ∧ f_fr [29, 30, 70] L L45 ∧ ((x45.toInt = 0 ∨ x45.toInt = 1)) := hq45
                obtain ⟨c45_0, c45_1, c45_2, c45_3, c45_4, c45_5, c45_6⟩ := hq45
                have hxL45 := f_dep_fr xL_dep hxL c45_4 rfl
                have hF45 := f_fr_tr hF0 c45_4 rfl
                have hG45 := f_fr_tr hG0 c45_5 rfl
                apply And.intro
                · intro h48
                  have h48 : x45.toInt = 0 := h48
                  exact ⟨c45_0, c45_1, c45_2, c45_3, hxL45, hF45, hG45⟩
                · intro h48
                  have h48 : ¬ x45.toInt = 0 := h48
                  exact ⟨c45_0, c45_1, c45_2, c45_3, hxL45, hF45, hG45⟩
              · intro h33
                have h33 : (I 5 4).toInt ≤ k.toInt := h33
                exact ⟨hR, hxO, hxT, hxS, hxL, hF0, hG0⟩
    · obtain ⟨K, eK⟩ : ∃ K : fM, I = va_up K 0 (va_up (va_up (K 0) 9 (Int32.ofNat 10)) 10 (Int32.ofNat 5)) := ⟨I, f_lex h9 h10⟩
      subst eK
      let I : fM := va_up K 0 (va_up (va_up (K 0) 9 (Int32.ofNat 10)) 10 (Int32.ofNat 5))
      have hxL : xL I := Or.inr ⟨rfl, rfl⟩
      skip
      have hR : xR I := hR
      have hxO : xO I := hxO
      have hxT : xT I := hxT
      have hxS : xS I := hxS
      have hxL : xL I := hxL
      have hF0 : f_fr [25, 26, 27, 28, 31, 32, 33, 34, 35, 36, 37, 38, 39, 69] I I := f_fr_rf
      have hG0 : f_fr [29, 30, 70] L L := f_fr_rf
      refine f_wp_ok C f_cl flX11_ok fiX11_ok fjX11_ok (sn := none) (fun j h => by cases h) (cs := (f_cnl [(159, (2, 3, 10, pX11_isPlace, qX11_isPlace)), (211, (4, 3, 6, pX6_isSpan, qX6_isSpan))])) (cz := (fun _ => none)) (f_cnl_of (P := fun j S => f_cok pP l eP (f_rm 37) sP mP aP bP hP9 cP xY 80 a cy dC dI 4 _ _ (.invokevirtual j) true S) (List.forall_mem_cons.mpr ⟨f_cokV C (mX11_isPlace hinj) (ci := 10) rfl (List.forall_mem_cons.mpr ⟨(mlX11_ok _ (List.mem_of_getElem? (i := 17) rfl)), kc_X11_isPlace⟩) (by decide +kernel) ⟨Nat.le_of_ble_eq_true rfl, Nat.le_of_ble_eq_true rfl⟩, List.forall_mem_cons.mpr ⟨f_cokV C (mX6_isSpan hinj) (ci := 6) rfl (List.forall_mem_cons.mpr ⟨(mlX11_ok _ (List.mem_of_getElem? (i := 28) rfl)), kc_X6_isSpan⟩) (by decide +kernel) ⟨Nat.le_of_ble_eq_true rfl, Nat.le_of_ble_eq_true rfl⟩, fun _ h => absurd h List.not_mem_nil⟩⟩)) (fun j S h => by cases h) tX11_span_ok (cut := (fun _ => none)) (fun t P h => by cases h) 31 0 tX11_span tX11_span_ok _ _ _ _ ?_
      refine And.intro hR ?_
      intro x2 I2 L2 hq2
      have hq2 : I2 = I ∧ L2 = L ∧ ((x2.toInt = 0 ∨ x2.toInt = 1 ∧ 0 ≤ f.toInt ∧ f.toInt < (I 40 6).toInt ∧ f.toInt ≤ 7)) := hq2
      obtain ⟨eI2, eL2, c2_2⟩ := hq2
      replace eI2 := eI2.symm
      subst eI2
      replace eL2 := eL2.symm
      subst eL2
      apply And.intro
      · intro h5
        have h5 : x2.toInt = 0 := h5
        exact ⟨hR, hxO, hxT, hxS, hxL, hF0, hG0⟩
      · intro h5
        have h5 : ¬ x2.toInt = 0 := h5
        refine And.intro hR ?_
        intro x10 I10 L10 hq10
        have hq10 : I10 = I ∧ L10 = L ∧ ((x10.toInt = 0 ∨ x10.toInt = 1 ∧ 0 ≤ t.toInt ∧ t.toInt < (I 40 6).toInt ∧ t.toInt ≤ 7)) := hq10
        obtain ⟨eI10, eL10, c10_2⟩ := hq10
        replace eI10 := eI10.symm
        subst eI10
        replace eL10 := eL10.symm
        subst eL10
        apply And.intro
        · intro h13
          have h13 : x10.toInt = 0 := h13
          exact ⟨hR, hxO, hxT, hxS, hxL, hF0, hG0⟩
        · intro h13
          have h13 : ¬ x10.toInt = 0 := h13
          apply And.intro
          · intro h18
            have h18 : t.toInt < f.toInt := h18
            exact ⟨hR, hxO, hxT, hxS, hxL, hF0, hG0⟩
          · intro h18
            have h18 : f.toInt ≤ t.toInt := h18
            apply And.intro
            · intro h22
              have h22 : k.toInt < 0 := h22
              exact ⟨hR, hxO, hxT, hxS, hxL, hF0, hG0⟩
            · intro h22
              have h22 : 0 ≤ k.toInt := h22
              have r30_1 : 0 ≤ (I 10 4).toInt ∧ (I 10 4).toInt ≤ 5 := hR 10 4
              apply And.intro
              · intro h33
                have h33 : k.toInt < (I 10 4).toInt := h33
                refine And.intro ⟨hR, hxO, hxT, hxS, (show 0 ≤ f.toInt from by first | assumption | omega), (show f.toInt ≤ 7 from by first | assumption | omega), (show t.toInt ≤ 7 from by first | assumption | omega), (show 0 ≤ k.toInt from by first | assumption | omega), (show k.toInt ≤ 4 from by first | assumption | omega)⟩ ?_
                intro x45 I45 L45 hq45
                obtain ⟨K45, eK45⟩ : ∃ K45 : fM, I45 = va_up K45 0 (va_up (va_up (K45 0) 9 (Int32.ofNat 10)) 10 (Int32.ofNat 5)) := ⟨I45, f_lex (congrFun (hq45.2.2.2.2.1 0 rfl) 9) (congrFun (hq45.2.2.2.2.1 0 rfl) 10)⟩
                subst eK45
                let I45 : fM := va_up K45 0 (va_up (va_up (K45 0) 9 (Int32.ofNat 10)) 10 (Int32.ofNat 5))
                have hq45 : xR I45 ∧ xO I45 ∧ xT I45 ∧ xS I45 ∧ f_fr [25, 26, 27, 28, 31, 32, 33, 34, 35, 36, 37, 38, 39, 69] I I45 ∧ f_fr [29, 30, 70] L L45 ∧ ((x45.toInt = 0 ∨ x45.toInt = 1)) := hq45
                obtain ⟨c45_0, c45_1, c45_2, c45_3, c45_4, c45_5, c45_6⟩ := hq45
                have hxL45 := f_dep_fr xL_dep hxL c45_4 rfl
                have hF45 := f_fr_tr hF0 c45_4 rfl
                have hG45 := f_fr_tr hG0 c45_5 rfl
                apply And.intro
                · intro h48
                  have h48 : x45.toInt = 0 := h48
                  exact ⟨c45_0, c45_1, c45_2, c45_3, hxL45, hF45, hG45⟩
                · intro h48
                  have h48 : ¬ x45.toInt = 0 := h48
                  exact ⟨c45_0, c45_1, c45_2, c45_3, hxL45, hF45, hG45⟩
              · intro h33
                have h33 : (I 10 4).toInt ≤ k.toInt := h33
                exact ⟨hR, hxO, hxT, hxS, hxL, hF0, hG0⟩
def tX11_added : List (Instr × Nat) := [(.iload_n 1, 1), (.ifCond .lt 8, 3), (.iload_n 1, 1), (.iconst 4, 1), (.if_icmp .le 5, 3), (.iconst (-1), 1), (.ireturn, 1), (.aload_n 0, 1), (.getfield 76, 3), (.invokevirtual 215, 3), (.aload_n 0, 1), (.getfield 76, 3), (.getfield 218, 3), (.iload_n 1, 1), (.iaload, 1), (.ireturn, 1)]
theorem tX11_added_ok : f_chk cX11_added 0 tX11_added = true := by decide +kernel
def pX11_added (av : List Value) (I : fM) (L : fN) : Prop := match av with
  | [.ref 0, .int w] => xR I ∧ xO I ∧ xT I ∧ xS I ∧ xL I
  | _ => False
def qX11_added (av : List Value) (I : fM) (L : fN) (r : Value) (I' : fM) (L' : fN) : Prop := match av, r with
  | [.ref 0, .int w], .int x => xR I' ∧ xO I' ∧ xT I' ∧ xS I' ∧ xL I' ∧ f_fr [25, 26, 27, 28, 31, 32, 33, 34, 35, 36, 37, 38, 39, 69, 74, 75] I I' ∧ f_fr [29, 30, 70] L L'
  | _, _ => False
set_option maxHeartbeats 4000000 in
set_option maxRecDepth 100000 in
theorem mX11_added {l : Launch} {a : Nat → Nat} {cy dC : Nat → ClassId} {dI : Nat → Nat → Nat} (hinj : ∀ i j, i < 80 → j < 80 → a i = a j → i = j) : f_Met (xE a) l xY 80 a cy dC dI yX11_added cX11_added 2 1 39 pX11_added qX11_added := by
  refine f_met_of (xE_c a) hinj xY_hi (by decide) (fun av I L h => by unfold pX11_added at h; split at h <;> first | exact Nat.le_of_ble_eq_true rfl | exact h.elim) ?_
  intro pP eP sP mP aP bP hP9 cP C av I L hp
  unfold pX11_added at hp
  split at hp
  case h_2 => exact hp.elim
  case h_1 w =>
    obtain ⟨hR, hxO, hxT, hxS, hxL⟩ := hp
    have hF0 : f_fr [25, 26, 27, 28, 31, 32, 33, 34, 35, 36, 37, 38, 39, 69, 74, 75] I I := f_fr_rf
    have hG0 : f_fr [29, 30, 70] L L := f_fr_rf
    refine f_wp_ok C f_cl flX11_ok fiX11_ok fjX11_ok (sn := none) (fun j h => by cases h) (cs := (f_cnl [(215, (1, 0, 6, pX6_findPutIn, qX6_findPutIn))])) (cz := (fun _ => none)) (f_cnl_of (P := fun j S => f_cok pP l eP (f_rm 39) sP mP aP bP hP9 cP xY 80 a cy dC dI 2 _ _ (.invokevirtual j) true S) (List.forall_mem_cons.mpr ⟨f_cokV C (mX6_findPutIn hinj) (ci := 6) rfl (List.forall_mem_cons.mpr ⟨(mlX11_ok _ (List.mem_of_getElem? (i := 29) rfl)), kc_X6_findPutIn⟩) (by decide +kernel) ⟨Nat.le_of_ble_eq_true rfl, Nat.le_of_ble_eq_true rfl⟩, fun _ h => absurd h List.not_mem_nil⟩)) (fun j S h => by cases h) tX11_added_ok (cut := (fun _ => none)) (fun t P h => by cases h) 17 0 tX11_added tX11_added_ok _ _ _ _ ?_
    apply And.intro
    · intro h1
      have h1 : w.toInt < 0 := h1
      exact ⟨hR, hxO, hxT, hxS, hxL, hF0, hG0⟩
    · intro h1
      have h1 : 0 ≤ w.toInt := h1
      apply And.intro
      · intro h6
        have h6 : w.toInt ≤ 4 := h6
        refine And.intro ⟨hR, hxO, hxT, hxS⟩ ?_
        intro I15 L15 hq15
        have hq15 : xR I15 ∧ xO I15 ∧ xT I15 ∧ xS I15 ∧ f_fr [25, 26, 27, 28, 31, 32, 33, 34, 35, 36, 37, 38, 39, 69, 74, 75] I I15 ∧ f_fr [29, 30, 70] L L15 := hq15
        obtain ⟨c15_0, c15_1, c15_2, c15_3, c15_4, c15_5⟩ := hq15
        have hxL15 := f_dep_fr xL_dep hxL c15_4 rfl
        have hF15 := f_fr_tr hF0 c15_4 rfl
        have hG15 := f_fr_tr hG0 c15_5 rfl
        refine And.intro (show f_in w 5 from ⟨show 0 ≤ w.toInt from by omega, show w.toInt < 5 from by omega⟩) ?_
        exact ⟨c15_0, c15_1, c15_2, c15_3, hxL15, hF15, hG15⟩
      · intro h6
        have h6 : 4 < w.toInt := h6
        exact ⟨hR, hxO, hxT, hxS, hxL, hF0, hG0⟩
def tX11_inPlace : List (Instr × Nat) := [(.aload_n 0, 1), (.iload_n 1, 1), (.invokevirtual 159, 3), (.ifCond .eq 14, 3), (.aload_n 0, 1), (.getfield 76, 3), (.iload_n 1, 1), (.invokevirtual 221, 3), (.goto 4, 3), (.iconst (-1), 1), (.ireturn, 1)]
theorem tX11_inPlace_ok : f_chk cX11_inPlace 0 tX11_inPlace = true := by decide +kernel
def pX11_inPlace (av : List Value) (I : fM) (L : fN) : Prop := match av with
  | [.ref 0, .int p] => xR I ∧ xO I ∧ xT I ∧ xS I ∧ xL I
  | _ => False
def qX11_inPlace (av : List Value) (I : fM) (L : fN) (r : Value) (I' : fM) (L' : fN) : Prop := match av, r with
  | [.ref 0, .int p], .int x => xR I' ∧ xO I' ∧ xT I' ∧ xS I' ∧ xL I' ∧ f_fr [25, 26, 27, 28, 31, 32, 33, 34, 35, 36, 37, 38, 39, 69] I I' ∧ f_fr [29, 30, 70] L L'
  | _, _ => False
set_option maxHeartbeats 4000000 in
set_option maxRecDepth 100000 in
theorem mX11_inPlace {l : Launch} {a : Nat → Nat} {cy dC : Nat → ClassId} {dI : Nat → Nat → Nat} (hinj : ∀ i j, i < 80 → j < 80 → a i = a j → i = j) : f_Met (xE a) l xY 80 a cy dC dI yX11_inPlace cX11_inPlace 2 1 38 pX11_inPlace qX11_inPlace := by
  refine f_met_of (xE_c a) hinj xY_hi (by decide) (fun av I L h => by unfold pX11_inPlace at h; split at h <;> first | exact Nat.le_of_ble_eq_true rfl | exact h.elim) ?_
  intro pP eP sP mP aP bP hP9 cP C av I L hp
  unfold pX11_inPlace at hp
  split at hp
  case h_2 => exact hp.elim
  case h_1 p =>
    obtain ⟨hR, hxO, hxT, hxS, hxL⟩ := hp
    have hF0 : f_fr [25, 26, 27, 28, 31, 32, 33, 34, 35, 36, 37, 38, 39, 69] I I := f_fr_rf
    have hG0 : f_fr [29, 30, 70] L L := f_fr_rf
    refine f_wp_ok C f_cl flX11_ok fiX11_ok fjX11_ok (sn := none) (fun j h => by cases h) (cs := (f_cnl [(159, (2, 3, 10, pX11_isPlace, qX11_isPlace)), (221, (2, 1, 6, pX6_wordsFor, qX6_wordsFor))])) (cz := (fun _ => none)) (f_cnl_of (P := fun j S => f_cok pP l eP (f_rm 38) sP mP aP bP hP9 cP xY 80 a cy dC dI 2 _ _ (.invokevirtual j) true S) (List.forall_mem_cons.mpr ⟨f_cokV C (mX11_isPlace hinj) (ci := 10) rfl (List.forall_mem_cons.mpr ⟨(mlX11_ok _ (List.mem_of_getElem? (i := 17) rfl)), kc_X11_isPlace⟩) (by decide +kernel) ⟨Nat.le_of_ble_eq_true rfl, Nat.le_of_ble_eq_true rfl⟩, List.forall_mem_cons.mpr ⟨f_cokV C (mX6_wordsFor hinj) (ci := 6) rfl (List.forall_mem_cons.mpr ⟨(mlX11_ok _ (List.mem_of_getElem? (i := 30) rfl)), kc_X6_wordsFor⟩) (by decide +kernel) ⟨Nat.le_of_ble_eq_true rfl, Nat.le_of_ble_eq_true rfl⟩, fun _ h => absurd h List.not_mem_nil⟩⟩)) (fun j S h => by cases h) tX11_inPlace_ok (cut := (fun _ => none)) (fun t P h => by cases h) 13 0 tX11_inPlace tX11_inPlace_ok _ _ _ _ ?_
    refine And.intro hR ?_
    intro x2 I2 L2 hq2
    have hq2 : I2 = I ∧ L2 = L ∧ ((x2.toInt = 0 ∨ x2.toInt = 1 ∧ 0 ≤ p.toInt ∧ p.toInt < (I 40 6).toInt ∧ p.toInt ≤ 7)) := hq2
    obtain ⟨eI2, eL2, c2_2⟩ := hq2
    replace eI2 := eI2.symm
    subst eI2
    replace eL2 := eL2.symm
    subst eL2
    apply And.intro
    · intro h5
      have h5 : x2.toInt = 0 := h5
      exact ⟨hR, hxO, hxT, hxS, hxL, hF0, hG0⟩
    · intro h5
      have h5 : ¬ x2.toInt = 0 := h5
      refine And.intro ⟨hR, hxO, hxT, hxS⟩ ?_
      intro x13 I13 L13 hq13
      have hq13 : xR I13 ∧ xO I13 ∧ xT I13 ∧ xS I13 ∧ f_fr [25, 26, 27, 28, 31, 32, 33, 34, 35, 36, 37, 38, 39, 69] I I13 ∧ f_fr [29, 30, 70] L L13 := hq13
      obtain ⟨c13_0, c13_1, c13_2, c13_3, c13_4, c13_5⟩ := hq13
      have hxL13 := f_dep_fr xL_dep hxL c13_4 rfl
      have hF13 := f_fr_tr hF0 c13_4 rfl
      have hG13 := f_fr_tr hG0 c13_5 rfl
      exact ⟨c13_0, c13_1, c13_2, c13_3, hxL13, hF13, hG13⟩
