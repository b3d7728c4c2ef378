/-! the reference: what depends on some cells and on some fields of the object -/
def f_depo (P : fM → Prop) (ks js : List Nat) : Prop := ∀ I I' : fM, (∀ k, ks.contains k = true → I' k = I k) → (∀ j, js.contains j = true → I' 0 j = I 0 j) → P I → P I'
theorem f_depo_up {P : fM → Prop} {ks js : List Nat} (hd : f_depo P ks js) {I : fM} {k : Nat} {r : Nat → Int32} (h : P I) (hk : ks.contains k = false) (h0 : k ≠ 0) : P (va_up I k r) :=
  hd I _ (fun j hj => va_up_ne _ _ (fun e => by rw [e, hk] at hj; cases hj)) (fun j _ => by rw [va_up_ne _ _ h0.symm]) h
theorem f_depo_up0 {P : fM → Prop} {ks js : List Nat} (hd : f_depo P ks js) {I : fM} {j : Nat} {x : Int32} (h : P I) (hk : ks.contains 0 = false) (hj : js.contains j = false) : P (va_up I 0 (va_up (I 0) j x)) :=
  hd I _ (fun i hi => va_up_ne _ _ (fun e => by rw [e, hk] at hi; cases hi)) (fun i hi => by rw [va_up_self, va_up_ne _ _ (fun e => by rw [e, hj] at hi; cases hi)]) h
theorem f_depo_fr {P : fM → Prop} {ks js : List Nat} (hd : f_depo P ks js) {I I' : fM} {ms : List Nat} (h : P I) (hf : f_fr ms I I') (hk : ks.all (fun k => !ms.contains k) = true) (h0 : ms.contains 0 = false) : P I' :=
  hd I I' (fun j hj => hf j (by
    have q := List.all_eq_true.mp hk j (List.contains_iff_mem.mp hj)
    simpa using q)) (fun j _ => by rw [hf 0 h0]) h
theorem f_depo_fo {P : fM → Prop} {ks js : List Nat} (hd : f_depo P ks js) {I I' : fM} {ms fs : List Nat} (h : P I) (hf : f_fr ms I I') (ho : f_fo fs I I') (hk : ks.all (fun k => !ms.contains k) = true) (hj : js.all (fun k => !fs.contains k) = true) : P I' :=
  hd I I' (fun j hj => hf j (by
    have q := List.all_eq_true.mp hk j (List.contains_iff_mem.mp hj)
    simpa using q)) (fun j hj' => ho j (by
    have q := List.all_eq_true.mp hj j (List.contains_iff_mem.mp hj')
    simpa using q)) h
/-! trees of nodes -/
def tr (S A B V : Nat → Int32) (lo hi : Int) : Prop := ∀ n : Nat, lo ≤ n → (n : Int) < hi → 1 ≤ (V n).toInt ∧ (V n).toInt ≤ 4 ∧ ((S n).toInt = 0 ∧ (V n).toInt = 1 ∨ ¬ (S n).toInt = 0 ∧ lo ≤ (A n).toInt ∧ (A n).toInt < n ∧ lo ≤ (B n).toInt ∧ (B n).toInt < n ∧ (V n).toInt = (V (A n).toInt.toNat).toInt + (V (B n).toInt.toNat).toInt)
theorem tr_cong {S A B V S' A' B' V' : Nat → Int32} {lo hi : Int} (h0 : 0 ≤ lo) (h : ∀ n : Nat, lo ≤ n → (n : Int) < hi → S' n = S n ∧ A' n = A n ∧ B' n = B n ∧ V' n = V n) (ht : tr S A B V lo hi) : tr S' A' B' V' lo hi := by
  intro n h1 h2
  obtain ⟨e1, e2, e3, e4⟩ := h n h1 h2
  obtain ⟨t1, t2, t3⟩ := ht n h1 h2
  rw [e1, e2, e3, e4]
  refine ⟨t1, t2, ?_⟩
  rcases t3 with t3 | ⟨a1, a2, a3, a4, a5, a6⟩
  · exact Or.inl t3
  · refine Or.inr ⟨a1, a2, a3, a4, a5, ?_⟩
    rw [(h (A n).toInt.toNat (by omega) (by omega)).2.2.2, (h (B n).toInt.toNat (by omega) (by omega)).2.2.2]
    exact a6
/-- a new node at the end -/
theorem tr_put {S A B V : Nat → Int32} {lo hi : Int} {n : Nat} {s u v z : Int32} (h0 : 0 ≤ lo) (hlo : lo ≤ hi) (hn : (n : Int) = hi) (ht : tr S A B V lo hi) (h1 : 1 ≤ z.toInt ∧ z.toInt ≤ 4)
    (h : s.toInt = 0 ∧ z.toInt = 1 ∨ ¬ s.toInt = 0 ∧ lo ≤ u.toInt ∧ u.toInt < hi ∧ lo ≤ v.toInt ∧ v.toInt < hi ∧ z.toInt = (V u.toInt.toNat).toInt + (V v.toInt.toNat).toInt) : tr (upd S n s) (upd A n u) (upd B n v) (upd V n z) lo (hi + 1) := by
  have hc : tr (upd S n s) (upd A n u) (upd B n v) (upd V n z) lo hi := tr_cong h0 (fun m hm1 hm2 => by
    have : m ≠ n := by omega
    rw [pk_un this, pk_un this, pk_un this, pk_un this]
    exact ⟨rfl, rfl, rfl, rfl⟩) ht
  intro m hm1 hm2
  by_cases e : m = n
  · subst e
    rw [pk_us, pk_us, pk_us, pk_us]
    refine ⟨h1.1, h1.2, ?_⟩
    rcases h with h | ⟨a1, a2, a3, a4, a5, a6⟩
    · exact Or.inl h
    · refine Or.inr ⟨a1, a2, by omega, a4, by omega, ?_⟩
      rw [pk_un (by omega), pk_un (by omega)]
      exact a6
  · exact hc m hm1 (by omega)
theorem tr_away {S A B V : Nat → Int32} {lo hi : Int} {n : Nat} {s u v z : Int32} (h0 : 0 ≤ lo) (hn : (n : Int) < lo ∨ hi ≤ n) (ht : tr S A B V lo hi) : tr (upd S n s) (upd A n u) (upd B n v) (upd V n z) lo hi := tr_cong h0 (fun m hm1 hm2 => by
    have : m ≠ n := by omega
    rw [pk_un this, pk_un this, pk_un this, pk_un this]
    exact ⟨rfl, rfl, rfl, rfl⟩) ht
/-- so many tags are numbered -/
def numK (k : Int) : Int := k + 2 * k * k + 8 * k * k * k
theorem numK_le {k : Int} (h : 0 ≤ k ∧ k ≤ 5) : 0 ≤ numK k ∧ numK k ≤ 1055 ∧ k ≤ numK k ∧ k + 2 * k * k ≤ numK k ∧ 0 ≤ 2 * k * k := by
  have : k = 0 ∨ k = 1 ∨ k = 2 ∨ k = 3 ∨ k = 4 ∨ k = 5 := by omega
  rcases this with rfl | rfl | rfl | rfl | rfl | rfl <;> decide
theorem mul_k {k a q z : Int} (hk : 0 ≤ k ∧ k ≤ 5) (ha : 0 ≤ a ∧ a ≤ 2000) (h : z = a * k + 4294967296 * q) (hl : -2147483648 ≤ z) (hu : z ≤ 2147483647) : z = a * k ∧ 0 ≤ z ∧ z ≤ 5 * a := by
  have : k = 0 ∨ k = 1 ∨ k = 2 ∨ k = 3 ∨ k = 4 ∨ k = 5 := by omega
  have hq : q ≤ -1 ∨ q = 0 ∨ 1 ≤ q := by omega
  rcases hq with hq | hq | hq
  · exfalso; rcases this with rfl | rfl | rfl | rfl | rfl | rfl <;> omega
  · subst hq; rcases this with rfl | rfl | rfl | rfl | rfl | rfl <;> omega
  · exfalso; rcases this with rfl | rfl | rfl | rfl | rfl | rfl <;> omega
/-- a node that is in use: of the bank, or by its number -/
def lvn (I : fM) (n : Int) : Prop := 260 * (I 0 24).toInt ≤ n ∧ n < 260 * (I 0 24).toInt + (I 11 (I 0 24).toInt.toNat).toInt ∨ 520 ≤ n ∧ n < 520 + numK (I 8 (I 0 24).toInt.toNat).toInt
/-- the lexicon in use -/
def mL (I : fM) : Prop := tr (I 3) (I 4) (I 5) (I 6) (260 * (I 0 24).toInt) (260 * (I 0 24).toInt + (I 11 (I 0 24).toInt.toNat).toInt) ∧ tr (I 3) (I 4) (I 5) (I 6) 520 (520 + numK (I 8 (I 0 24).toInt.toNat).toInt) ∧
  (∀ k : Nat, 12 * (I 0 24).toInt ≤ k → (k : Int) < 12 * (I 0 24).toInt + (I 9 (I 0 24).toInt.toNat).toInt → 1 ≤ (I 12 k).toInt ∧ ∀ t : Nat, 3 * k ≤ t → (t : Int) < 3 * k + (I 12 k).toInt → lvn I (I 13 t).toInt) ∧
  ((I 10 (I 0 24).toInt.toNat).toInt = -1 ∨ lvn I (I 10 (I 0 24).toInt.toNat).toInt) ∧ (0 < (I 8 (I 0 24).toInt.toNat).toInt → 0 ≤ (I 10 (I 0 24).toInt.toNat).toInt) ∧ (0 < (I 9 (I 0 24).toInt.toNat).toInt → 0 < (I 8 (I 0 24).toInt.toNat).toInt)
theorem lvn_eq {I I' : fM} (h24 : I' 0 24 = I 0 24) (h8 : I' 8 = I 8) (h11 : I' 11 = I 11) (n : Int) : lvn I' n = lvn I n := by
  unfold lvn; rw [h24, h8, h11]
-- @invo mL [3, 4, 5, 6, 8, 9, 10, 11, 12, 13] [24]
theorem mL_dep : f_depo mL [3, 4, 5, 6, 8, 9, 10, 11, 12, 13] [24] := by
  intro I I' h ho hL
  have e : ∀ n, lvn I' n = lvn I n := lvn_eq (ho 24 rfl) (h 8 rfl) (h 11 rfl)
  unfold mL
  simp only [e]
  rw [h 3 rfl, h 4 rfl, h 5 rfl, h 6 rfl, h 8 rfl, h 9 rfl, h 10 rfl, h 11 rfl, h 12 rfl, h 13 rfl, ho 24 rfl]
  exact hL
theorem lvn_rng {I : fM} (hR : mR I) {n : Int} (h : lvn I n) : 0 ≤ n ∧ n ≤ 1599 := by
  have h1 : 0 ≤ (I 0 24).toInt ∧ (I 0 24).toInt ≤ 1 := hR 0 24
  have h2 : 0 ≤ (I 11 (I 0 24).toInt.toNat).toInt ∧ (I 11 (I 0 24).toInt.toNat).toInt ≤ 260 := hR 11 _
  have h3 := numK_le (k := (I 8 (I 0 24).toInt.toNat).toInt) (hR 8 _)
  unfold lvn at h
  omega
theorem lvn_ok {I : fM} (hR : mR I) (hL : mL I) {n : Int} (h : lvn I n) : 0 ≤ n ∧ n ≤ 1599 ∧ 1 ≤ (I 6 n.toNat).toInt ∧ (I 6 n.toNat).toInt ≤ 4 ∧ ((I 3 n.toNat).toInt = 0 ∧ (I 6 n.toNat).toInt = 1 ∨ ¬ (I 3 n.toNat).toInt = 0 ∧ lvn I (I 4 n.toNat).toInt ∧ lvn I (I 5 n.toNat).toInt ∧ (I 6 n.toNat).toInt = (I 6 (I 4 n.toNat).toInt.toNat).toInt + (I 6 (I 5 n.toNat).toInt.toNat).toInt) := by
  have hr := lvn_rng hR h
  have h1 : 0 ≤ (I 0 24).toInt ∧ (I 0 24).toInt ≤ 1 := hR 0 24
  refine ⟨hr.1, hr.2, ?_⟩
  rcases h with h | h
  · obtain ⟨a1, a2, a3⟩ := hL.1 n.toNat (by omega) (by omega)
    refine ⟨a1, a2, ?_⟩
    rcases a3 with a3 | ⟨b1, b2, b3, b4, b5, b6⟩
    · exact Or.inl a3
    · exact Or.inr ⟨b1, Or.inl ⟨b2, by omega⟩, Or.inl ⟨b4, by omega⟩, b6⟩
  · obtain ⟨a1, a2, a3⟩ := hL.2.1 n.toNat (by omega) (by omega)
    refine ⟨a1, a2, ?_⟩
    rcases a3 with a3 | ⟨b1, b2, b3, b4, b5, b6⟩
    · exact Or.inl a3
    · exact Or.inr ⟨b1, Or.inr ⟨b2, by omega⟩, Or.inr ⟨b4, by omega⟩, b6⟩
/-- one place of what is asked -/
def oK (I : fM) (i : Nat) : Prop := 1 ≤ (I 35 i).toInt ∧ ∀ t : Nat, 3 * i ≤ t → (t : Int) < 3 * i + (I 35 i).toInt → lvn I (I 36 t).toInt
def mO (I : fM) : Prop := (∀ i : Nat, (i : Int) < (I 0 53).toInt → oK I i) ∧ ((I 0 54).toInt = -1 ∨ lvn I (I 0 54).toInt)
-- @invo mO [8, 11, 35, 36] [24, 53, 54]
theorem mO_dep : f_depo mO [8, 11, 35, 36] [24, 53, 54] := by
  intro I I' h ho hO
  have e : ∀ n, lvn I' n = lvn I n := lvn_eq (ho 24 rfl) (h 8 rfl) (h 11 rfl)
  unfold mO oK
  simp only [e]
  rw [h 35 rfl, h 36 rfl, ho 53 rfl, ho 54 rfl]
  exact hO
/-- what is picked is there -/
def pK (I : fM) : Prop := ∀ i : Nat, (i : Int) < (I 0 53).toInt → (I 37 i).toInt < (I 35 i).toInt
-- @invo pK [35, 37] [53]
theorem pK_dep : f_depo pK [35, 37] [53] := by
  intro I I' h ho hP
  unfold pK
  rw [h 35 rfl, h 37 rfl, ho 53 rfl]
  exact hP
/-- no task is left -/
def mK (I : fM) : Prop := (I 0 48).toInt = 0
-- @invo mK [] [48]
theorem mK_dep : f_depo mK [] [48] := by
  intro I I' h ho hP
  unfold mK
  rw [ho 48 rfl]
  exact hP
/-- the words of the row, of the examples and of the images are words of the lexicon -/
def mW (I : fM) : Prop := (∀ i : Nat, (i : Int) < (I 0 30).toInt → (I 19 i).toInt < (I 9 (I 0 24).toInt.toNat).toInt) ∧ (∀ n i : Nat, (n : Int) < (I 0 83).toInt → 6 * n ≤ i → (i : Int) < 6 * n + (I 56 n).toInt → (I 57 i).toInt < (I 9 (I 0 24).toInt.toNat).toInt) ∧
  (∀ b : Nat, b < 3 → 0 ≤ (I 63 b).toInt → (∀ i : Nat, 8 * b ≤ i → (i : Int) < 8 * b + (I 64 b).toInt → (I 65 i).toInt < (I 9 (I 0 24).toInt.toNat).toInt) ∧ (∀ n i : Nat, 12 * b ≤ n → (n : Int) < 12 * b + (I 63 b).toInt → 6 * n ≤ i → (i : Int) < 6 * n + (I 66 n).toInt → (I 67 i).toInt < (I 9 (I 0 24).toInt.toNat).toInt))
-- @invo mW [9, 19, 56, 57, 63, 64, 65, 66, 67] [24, 30, 83]
theorem mW_dep : f_depo mW [9, 19, 56, 57, 63, 64, 65, 66, 67] [24, 30, 83] := by
  intro I I' h ho hW
  unfold mW
  rw [h 9 rfl, h 19 rfl, h 56 rfl, h 57 rfl, h 63 rfl, h 64 rfl, h 65 rfl, h 66 rfl, h 67 rfl, ho 24 rfl, ho 30 rfl, ho 83 rfl]
  exact hW
def tX12_numbers : List (Instr × Nat) := [(.aload_n 0, 1), (.getfield 36, 3), (.aload_n 0, 1), (.getfield 300, 3), (.iaload, 1), (.istore_n 2, 1), (.iload_n 1, 1), (.ifCond .ne 7, 3), (.iload_n 2, 1), (.goto 34, 3), (.iload_n 1, 1), (.iconst 1, 1), (.if_icmp .ne 13, 3), (.iload_n 2, 1), (.iconst 2, 1), (.iload_n 2, 1), (.imul, 1), (.iload_n 2, 1), (.imul, 1), (.iadd, 1), (.goto 19, 3), (.iload_n 2, 1), (.iconst 2, 1), (.iload_n 2, 1), (.imul, 1), (.iload_n 2, 1), (.imul, 1), (.iadd, 1), (.bipush 8, 2), (.iload_n 2, 1), (.imul, 1), (.iload_n 2, 1), (.imul, 1), (.iload_n 2, 1), (.imul, 1), (.iadd, 1), (.ireturn, 1)]
theorem tX12_numbers_ok : f_chk cX12_numbers 0 tX12_numbers = true := by decide +kernel
def pX12_numbers (av : List Value) (I : fM) (L : fN) : Prop := match av with
  | [.ref 0, .int s] => mR I ∧ 0 ≤ s.toInt ∧ s.toInt ≤ 2
  | _ => False
def qX12_numbers (av : List Value) (I : fM) (L : fN) (r : Value) (I' : fM) (L' : fN) : Prop := match av, r with
  | [.ref 0, .int s], .int x => I' = I ∧ L' = L ∧ 0 ≤ x.toInt ∧ x.toInt ≤ 1055 ∧ x.toInt ≤ numK (I 8 (I 0 24).toInt.toNat).toInt ∧ (s.toInt = 1 → x.toInt = (I 8 (I 0 24).toInt.toNat).toInt + 2 * (I 8 (I 0 24).toInt.toNat).toInt * (I 8 (I 0 24).toInt.toNat).toInt)
  | _, _ => False
set_option maxHeartbeats 4000000 in
set_option maxRecDepth 100000 in
theorem mX12_numbers {l : Launch} {a : Nat → Nat} {cy dC : Nat → ClassId} {dI : Nat → Nat → Nat} (hinj : ∀ i j, i < 71 → j < 71 → a i = a j → i = j) : f_Met (fun _ => True) l mY 71 a cy dC dI yX12_numbers cX12_numbers 3 1 0 pX12_numbers qX12_numbers := by
  refine f_met_of (f_Ec_T 71 a) hinj mY_hi (by decide) (fun av I L h => by unfold pX12_numbers at h; split at h <;> first | exact Nat.le_of_ble_eq_true rfl | exact h.elim) ?_
  intro pP eP sP mP aP bP hP9 cP C av I L hp
  unfold pX12_numbers at hp
  split at hp
  case h_2 => exact hp.elim
  case h_1 s =>
    obtain ⟨hR, p1, p2⟩ := hp
    have hk : 0 ≤ (I 8 (I 0 24).toInt.toNat).toInt ∧ (I 8 (I 0 24).toInt.toNat).toInt ≤ 5 := hR 8 _
    have hN := numK_le hk
    have hD : numK (I 8 (I 0 24).toInt.toNat).toInt = (I 8 (I 0 24).toInt.toNat).toInt + 2 * (I 8 (I 0 24).toInt.toNat).toInt * (I 8 (I 0 24).toInt.toNat).toInt + 8 * (I 8 (I 0 24).toInt.toNat).toInt * (I 8 (I 0 24).toInt.toNat).toInt * (I 8 (I 0 24).toInt.toNat).toInt := rfl
    refine f_wp_ok C f_cl flX12_ok fiX12_ok fjX12_ok (sn := none) (fun j h => by cases h) (cs := (fun _ => none)) (cz := (fun _ => none)) (fun j S h => by cases h) (fun j S h => by cases h) tX12_numbers_ok (cut := (fun _ => none)) (fun t P h => by cases h) 30 0 tX12_numbers tX12_numbers_ok _ _ _ _ ?_
    have r5_1 : 0 ≤ (I 0 24).toInt ∧ (I 0 24).toInt ≤ 1 := hR 0 24
    refine And.intro (show f_in (I 0 24) 2 from ⟨show 0 ≤ (I 0 24).toInt from by omega, show (I 0 24).toInt < 2 from by omega⟩) ?_
    have r8_2 : 0 ≤ (I 8 ((I 0 24).toInt.toNat)).toInt ∧ (I 8 ((I 0 24).toInt.toNat)).toInt ≤ 5 := hR 8 ((I 0 24).toInt.toNat)
    apply And.intro
    · intro h11
      have h11 : ¬ s.toInt = 0 := h11
      apply And.intro
      · intro h20
        have h20 : ¬ s.toInt = 1 := h20
        intro z36 q36 _ hq36 hl36 hu36
        have hq36 : z36.toInt = 2 * (I 8 ((I 0 24).toInt.toNat)).toInt + 4294967296 * q36 := hq36
        try have hz36 : z36.toInt = 2 * (I 8 ((I 0 24).toInt.toNat)).toInt := by omega
        intro z38 q38 _ hq38 hl38 hu38
        have hq38 : z38.toInt = z36.toInt * (I 8 ((I 0 24).toInt.toNat)).toInt + 4294967296 * q38 := hq38
        have g38 := mul_k hk (by omega) hq38 hl38 hu38
        have k38 : z38.toInt = 2 * (I 8 (I 0 24).toInt.toNat).toInt * (I 8 (I 0 24).toInt.toNat).toInt := by rw [g38.1, hz36]
        intro z39 q39 _ hq39 hl39 hu39
        have hq39 : z39.toInt = (I 8 ((I 0 24).toInt.toNat)).toInt + z38.toInt + 4294967296 * q39 := hq39
        try have hz39 : z39.toInt = (I 8 ((I 0 24).toInt.toNat)).toInt + z38.toInt := by omega
        intro z43 q43 _ hq43 hl43 hu43
        have hq43 : z43.toInt = 8 * (I 8 ((I 0 24).toInt.toNat)).toInt + 4294967296 * q43 := hq43
        try have hz43 : z43.toInt = 8 * (I 8 ((I 0 24).toInt.toNat)).toInt := by omega
        intro z45 q45 _ hq45 hl45 hu45
        have hq45 : z45.toInt = z43.toInt * (I 8 ((I 0 24).toInt.toNat)).toInt + 4294967296 * q45 := hq45
        have g45 := mul_k hk (by omega) hq45 hl45 hu45
        intro z47 q47 _ hq47 hl47 hu47
        have hq47 : z47.toInt = z45.toInt * (I 8 ((I 0 24).toInt.toNat)).toInt + 4294967296 * q47 := hq47
        have g47 := mul_k hk (by omega) hq47 hl47 hu47
        have k47 : z47.toInt = 8 * (I 8 (I 0 24).toInt.toNat).toInt * (I 8 (I 0 24).toInt.toNat).toInt * (I 8 (I 0 24).toInt.toNat).toInt := by rw [g47.1, g45.1, hz43]
        intro z48 q48 _ hq48 hl48 hu48
        have hq48 : z48.toInt = z39.toInt + z47.toInt + 4294967296 * q48 := hq48
        try have hz48 : z48.toInt = z39.toInt + z47.toInt := by omega
        exact ⟨rfl, rfl, (show 0 ≤ z48.toInt from by first | assumption | omega | rfl), (show z48.toInt ≤ 1055 from by first | assumption | omega | rfl), (show z48.toInt ≤ numK (I 8 (I 0 24).toInt.toNat).toInt from by first | assumption | omega | rfl), (show (s.toInt = 1 → z48.toInt = (I 8 (I 0 24).toInt.toNat).toInt + 2 * (I 8 (I 0 24).toInt.toNat).toInt * (I 8 (I 0 24).toInt.toNat).toInt) from fun h => by first | omega | (exfalso; omega))⟩
      · intro h20
        have h20 : s.toInt = 1 := h20
        intro z26 q26 _ hq26 hl26 hu26
        have hq26 : z26.toInt = 2 * (I 8 ((I 0 24).toInt.toNat)).toInt + 4294967296 * q26 := hq26
        try have hz26 : z26.toInt = 2 * (I 8 ((I 0 24).toInt.toNat)).toInt := by omega
        intro z28 q28 _ hq28 hl28 hu28
        have hq28 : z28.toInt = z26.toInt * (I 8 ((I 0 24).toInt.toNat)).toInt + 4294967296 * q28 := hq28
        have g28 := mul_k hk (by omega) hq28 hl28 hu28
        have k28 : z28.toInt = 2 * (I 8 (I 0 24).toInt.toNat).toInt * (I 8 (I 0 24).toInt.toNat).toInt := by rw [g28.1, hz26]
        intro z29 q29 _ hq29 hl29 hu29
        have hq29 : z29.toInt = (I 8 ((I 0 24).toInt.toNat)).toInt + z28.toInt + 4294967296 * q29 := hq29
        try have hz29 : z29.toInt = (I 8 ((I 0 24).toInt.toNat)).toInt + z28.toInt := by omega
        exact ⟨rfl, rfl, (show 0 ≤ z29.toInt from by first | assumption | omega | rfl), (show z29.toInt ≤ 1055 from by first | assumption | omega | rfl), (show z29.toInt ≤ numK (I 8 (I 0 24).toInt.toNat).toInt from by first | assumption | omega | rfl), (show (s.toInt = 1 → z29.toInt = (I 8 (I 0 24).toInt.toNat).toInt + 2 * (I 8 (I 0 24).toInt.toNat).toInt * (I 8 (I 0 24).toInt.toNat).toInt) from fun h => by first | omega | (exfalso; omega))⟩
    · intro h11
      have h11 : s.toInt = 0 := h11
      exact ⟨rfl, rfl, (show 0 ≤ (I 8 ((I 0 24).toInt.toNat)).toInt from by first | assumption | omega | rfl), (show (I 8 ((I 0 24).toInt.toNat)).toInt ≤ 1055 from by first | assumption | omega | rfl), (show (I 8 ((I 0 24).toInt.toNat)).toInt ≤ numK (I 8 (I 0 24).toInt.toNat).toInt from by first | assumption | omega | rfl), (show (s.toInt = 1 → (I 8 ((I 0 24).toInt.toNat)).toInt = (I 8 (I 0 24).toInt.toNat).toInt + 2 * (I 8 (I 0 24).toInt.toNat).toInt * (I 8 (I 0 24).toInt.toNat).toInt) from fun h => by first | omega | (exfalso; omega))⟩
def tX12_simple : List (Instr × Nat) := [(.aload_n 0, 1), (.getfield 36, 3), (.aload_n 0, 1), (.getfield 300, 3), (.iaload, 1), (.istore_n 2, 1), (.aload_n 0, 1), (.getfield 20, 3), (.iload_n 1, 1), (.iaload, 1), (.ifCond .ne 12, 3), (.aload_n 0, 1), (.getfield 24, 3), (.iload_n 1, 1), (.iaload, 1), (.goto 48, 3), (.iload_n 2, 1), (.aload_n 0, 1), (.getfield 20, 3), (.iload_n 1, 1), (.iaload, 1), (.iconst 2, 1), (.if_icmp .ne 9, 3), (.iload_n 2, 1), (.iload_n 2, 1), (.imul, 1), (.goto 4, 3), (.iconst 0, 1), (.iadd, 1), (.iload_n 2, 1), (.aload_n 0, 1), (.getfield 24, 3), (.aload_n 0, 1), (.getfield 24, 3), (.iload_n 1, 1), (.iaload, 1), (.iaload, 1), (.imul, 1), (.iadd, 1), (.aload_n 0, 1), (.getfield 24, 3), (.aload_n 0, 1), (.getfield 27, 3), (.iload_n 1, 1), (.iaload, 1), (.iaload, 1), (.iadd, 1), (.ireturn, 1)]
theorem tX12_simple_ok : f_chk cX12_simple 0 tX12_simple = true := by decide +kernel
def pX12_simple (av : List Value) (I : fM) (L : fN) : Prop := match av with
  | [.ref 0, .int n] => mR I ∧ 0 ≤ n.toInt ∧ n.toInt ≤ 1599 ∧ (¬ (I 3 n.toInt.toNat).toInt = 0 → 0 ≤ (I 5 n.toInt.toNat).toInt)
  | _ => False
def qX12_simple (av : List Value) (I : fM) (L : fN) (r : Value) (I' : fM) (L' : fN) : Prop := match av, r with
  | [.ref 0, .int n], .int x => I' = I ∧ L' = L
  | _, _ => False
set_option maxHeartbeats 4000000 in
set_option maxRecDepth 100000 in
theorem mX12_simple {l : Launch} {a : Nat → Nat} {cy dC : Nat → ClassId} {dI : Nat → Nat → Nat} (hinj : ∀ i j, i < 71 → j < 71 → a i = a j → i = j) : f_Met (fun _ => True) l mY 71 a cy dC dI yX12_simple cX12_simple 3 1 0 pX12_simple qX12_simple := by
  refine f_met_of (f_Ec_T 71 a) hinj mY_hi (by decide) (fun av I L h => by unfold pX12_simple at h; split at h <;> first | exact Nat.le_of_ble_eq_true rfl | exact h.elim) ?_
  intro pP eP sP mP aP bP hP9 cP C av I L hp
  unfold pX12_simple at hp
  split at hp
  case h_2 => exact hp.elim
  case h_1 n =>
    obtain ⟨hR, p1, p2, p3⟩ := hp
    refine f_wp_ok C f_cl flX12_ok fiX12_ok fjX12_ok (sn := none) (fun j h => by cases h) (cs := (fun _ => none)) (cz := (fun _ => none)) (fun j S h => by cases h) (fun j S h => by cases h) tX12_simple_ok (cut := (fun _ => none)) (fun t P h => by cases h) 45 0 tX12_simple tX12_simple_ok _ _ _ _ ?_
    have r5_1 : 0 ≤ (I 0 24).toInt ∧ (I 0 24).toInt ≤ 1 := hR 0 24
    refine And.intro (show f_in (I 0 24) 2 from ⟨show 0 ≤ (I 0 24).toInt from by omega, show (I 0 24).toInt < 2 from by omega⟩) ?_
    have r8_2 : 0 ≤ (I 8 ((I 0 24).toInt.toNat)).toInt ∧ (I 8 ((I 0 24).toInt.toNat)).toInt ≤ 5 := hR 8 ((I 0 24).toInt.toNat)
    refine And.intro (show f_in n 1600 from ⟨show 0 ≤ n.toInt from by omega, show n.toInt < 1600 from by omega⟩) ?_
    have r15_3 : 0 ≤ (I 3 (n.toInt.toNat)).toInt ∧ (I 3 (n.toInt.toNat)).toInt ≤ 2 := hR 3 (n.toInt.toNat)
    apply And.intro
    · intro h16
      have h16 : ¬ (I 3 (n.toInt.toNat)).toInt = 0 := h16
      try have g16 := p3 h16
      refine And.intro (show f_in n 1600 from ⟨show 0 ≤ n.toInt from by omega, show n.toInt < 1600 from by omega⟩) ?_
      apply And.intro
      · intro h36
        have h36 : ¬ (I 3 (n.toInt.toNat)).toInt = 2 := h36
        intro z46 q46 _ hq46 hl46 hu46
        have hq46 : z46.toInt = (I 8 ((I 0 24).toInt.toNat)).toInt + 0 + 4294967296 * q46 := hq46
        try have hz46 : z46.toInt = (I 8 ((I 0 24).toInt.toNat)).toInt + 0 := by omega
        refine And.intro (show f_in n 1600 from ⟨show 0 ≤ n.toInt from by omega, show n.toInt < 1600 from by omega⟩) ?_
        have r57_4 : 0 ≤ (I 4 (n.toInt.toNat)).toInt ∧ (I 4 (n.toInt.toNat)).toInt ≤ 1599 := hR 4 (n.toInt.toNat)
        refine And.intro (show f_in (I 4 (n.toInt.toNat)) 1600 from ⟨show 0 ≤ (I 4 (n.toInt.toNat)).toInt from by omega, show (I 4 (n.toInt.toNat)).toInt < 1600 from by omega⟩) ?_
        have r58_5 : 0 ≤ (I 4 ((I 4 (n.toInt.toNat)).toInt.toNat)).toInt ∧ (I 4 ((I 4 (n.toInt.toNat)).toInt.toNat)).toInt ≤ 1599 := hR 4 ((I 4 (n.toInt.toNat)).toInt.toNat)
        intro z59 q59 _ hq59 hl59 hu59
        have hq59 : z59.toInt = (I 8 ((I 0 24).toInt.toNat)).toInt * (I 4 ((I 4 (n.toInt.toNat)).toInt.toNat)).toInt + 4294967296 * q59 := hq59
        intro z60 q60 _ hq60 hl60 hu60
        have hq60 : z60.toInt = z46.toInt + z59.toInt + 4294967296 * q60 := hq60
        try have hz60 : z60.toInt = z46.toInt + z59.toInt := by omega
        refine And.intro (show f_in n 1600 from ⟨show 0 ≤ n.toInt from by omega, show n.toInt < 1600 from by omega⟩) ?_
        have r70_6 : -1 ≤ (I 5 (n.toInt.toNat)).toInt ∧ (I 5 (n.toInt.toNat)).toInt ≤ 1599 := hR 5 (n.toInt.toNat)
        refine And.intro (show f_in (I 5 (n.toInt.toNat)) 1600 from ⟨show 0 ≤ (I 5 (n.toInt.toNat)).toInt from by omega, show (I 5 (n.toInt.toNat)).toInt < 1600 from by omega⟩) ?_
        have r71_7 : 0 ≤ (I 4 ((I 5 (n.toInt.toNat)).toInt.toNat)).toInt ∧ (I 4 ((I 5 (n.toInt.toNat)).toInt.toNat)).toInt ≤ 1599 := hR 4 ((I 5 (n.toInt.toNat)).toInt.toNat)
        intro z72 q72 _ hq72 hl72 hu72
        have hq72 : z72.toInt = z60.toInt + (I 4 ((I 5 (n.toInt.toNat)).toInt.toNat)).toInt + 4294967296 * q72 := hq72
        try have hz72 : z72.toInt = z60.toInt + (I 4 ((I 5 (n.toInt.toNat)).toInt.toNat)).toInt := by omega
        exact ⟨rfl, rfl⟩
      · intro h36
        have h36 : (I 3 (n.toInt.toNat)).toInt = 2 := h36
        intro z41 q41 _ hq41 hl41 hu41
        have hq41 : z41.toInt = (I 8 ((I 0 24).toInt.toNat)).toInt * (I 8 ((I 0 24).toInt.toNat)).toInt + 4294967296 * q41 := hq41
        intro z46 q46 _ hq46 hl46 hu46
        have hq46 : z46.toInt = (I 8 ((I 0 24).toInt.toNat)).toInt + z41.toInt + 4294967296 * q46 := hq46
        try have hz46 : z46.toInt = (I 8 ((I 0 24).toInt.toNat)).toInt + z41.toInt := by omega
        refine And.intro (show f_in n 1600 from ⟨show 0 ≤ n.toInt from by omega, show n.toInt < 1600 from by omega⟩) ?_
        have r57_4 : 0 ≤ (I 4 (n.toInt.toNat)).toInt ∧ (I 4 (n.toInt.toNat)).toInt ≤ 1599 := hR 4 (n.toInt.toNat)
        refine And.intro (show f_in (I 4 (n.toInt.toNat)) 1600 from ⟨show 0 ≤ (I 4 (n.toInt.toNat)).toInt from by omega, show (I 4 (n.toInt.toNat)).toInt < 1600 from by omega⟩) ?_
        have r58_5 : 0 ≤ (I 4 ((I 4 (n.toInt.toNat)).toInt.toNat)).toInt ∧ (I 4 ((I 4 (n.toInt.toNat)).toInt.toNat)).toInt ≤ 1599 := hR 4 ((I 4 (n.toInt.toNat)).toInt.toNat)
        intro z59 q59 _ hq59 hl59 hu59
        have hq59 : z59.toInt = (I 8 ((I 0 24).toInt.toNat)).toInt * (I 4 ((I 4 (n.toInt.toNat)).toInt.toNat)).toInt + 4294967296 * q59 := hq59
        intro z60 q60 _ hq60 hl60 hu60
        have hq60 : z60.toInt = z46.toInt + z59.toInt + 4294967296 * q60 := hq60
        try have hz60 : z60.toInt = z46.toInt + z59.toInt := by omega
        refine And.intro (show f_in n 1600 from ⟨show 0 ≤ n.toInt from by omega, show n.toInt < 1600 from by omega⟩) ?_
        have r70_6 : -1 ≤ (I 5 (n.toInt.toNat)).toInt ∧ (I 5 (n.toInt.toNat)).toInt ≤ 1599 := hR 5 (n.toInt.toNat)
        refine And.intro (show f_in (I 5 (n.toInt.toNat)) 1600 from ⟨show 0 ≤ (I 5 (n.toInt.toNat)).toInt from by omega, show (I 5 (n.toInt.toNat)).toInt < 1600 from by omega⟩) ?_
        have r71_7 : 0 ≤ (I 4 ((I 5 (n.toInt.toNat)).toInt.toNat)).toInt ∧ (I 4 ((I 5 (n.toInt.toNat)).toInt.toNat)).toInt ≤ 1599 := hR 4 ((I 5 (n.toInt.toNat)).toInt.toNat)
        intro z72 q72 _ hq72 hl72 hu72
        have hq72 : z72.toInt = z60.toInt + (I 4 ((I 5 (n.toInt.toNat)).toInt.toNat)).toInt + 4294967296 * q72 := hq72
        try have hz72 : z72.toInt = z60.toInt + (I 4 ((I 5 (n.toInt.toNat)).toInt.toNat)).toInt := by omega
        exact ⟨rfl, rfl⟩
    · intro h16
      have h16 : (I 3 (n.toInt.toNat)).toInt = 0 := h16
      try have g16 := p3 h16
      refine And.intro (show f_in n 1600 from ⟨show 0 ≤ n.toInt from by omega, show n.toInt < 1600 from by omega⟩) ?_
      have r24_4 : 0 ≤ (I 4 (n.toInt.toNat)).toInt ∧ (I 4 (n.toInt.toNat)).toInt ≤ 1599 := hR 4 (n.toInt.toNat)
      exact ⟨rfl, rfl⟩
def tX12_numberOf : List (Instr × Nat) := [(.aload_n 0, 1), (.getfield 30, 3), (.iload_n 1, 1), (.iaload, 1), (.iconst 3, 1), (.if_icmp .le 6, 3), (.bipush (-2), 2), (.ireturn, 1), (.aload_n 0, 1), (.getfield 30, 3), (.iload_n 1, 1), (.iaload, 1), (.iconst 3, 1), (.if_icmp .ge 9, 3), (.aload_n 0, 1), (.iload_n 1, 1), (.invokevirtual 363, 3), (.ireturn, 1), (.aload_n 0, 1), (.getfield 36, 3), (.aload_n 0, 1), (.getfield 300, 3), (.iaload, 1), (.istore_n 2, 1), (.aload_n 0, 1), (.aload_n 0, 1), (.getfield 24, 3), (.iload_n 1, 1), (.iaload, 1), (.invokevirtual 363, 3), (.istore_n 3, 1), (.aload_n 0, 1), (.aload_n 0, 1), (.getfield 27, 3), (.iload_n 1, 1), (.iaload, 1), (.invokevirtual 363, 3), (.istore 4, 2), (.iload_n 2, 1), (.iconst 2, 1), (.iload_n 2, 1), (.imul, 1), (.iload_n 2, 1), (.imul, 1), (.iadd, 1), (.aload_n 0, 1), (.getfield 20, 3), (.iload_n 1, 1), (.iaload, 1), (.iconst 2, 1), (.if_icmp .ne 13, 3), (.iconst 4, 1), (.iload_n 2, 1), (.imul, 1), (.iload_n 2, 1), (.imul, 1), (.iload_n 2, 1), (.imul, 1), (.goto 4, 3), (.iconst 0, 1), (.iadd, 1), (.istore 5, 2), (.iload_n 3, 1), (.iload_n 2, 1), (.if_icmp .ge 21, 3), (.iload 5, 2), (.iconst 2, 1), (.iload_n 2, 1), (.imul, 1), (.iload_n 2, 1), (.imul, 1), (.iload_n 3, 1), (.imul, 1), (.iadd, 1), (.iload 4, 2), (.iadd, 1), (.iload_n 2, 1), (.isub, 1), (.goto 22, 3), (.iload 5, 2), (.iconst 2, 1), (.iload_n 2, 1), (.imul, 1), (.iload_n 2, 1), (.imul, 1), (.iload_n 2, 1), (.imul, 1), (.iadd, 1), (.iload_n 2, 1), (.iload_n 3, 1), (.iload_n 2, 1), (.isub, 1), (.imul, 1), (.iadd, 1), (.iload 4, 2), (.iadd, 1), (.ireturn, 1)]
theorem tX12_numberOf_ok : f_chk cX12_numberOf 0 tX12_numberOf = true := by decide +kernel
def pX12_numberOf (av : List Value) (I : fM) (L : fN) : Prop := match av with
  | [.ref 0, .int n] => mR I ∧ mL I ∧ lvn I n.toInt
  | _ => False
def qX12_numberOf (av : List Value) (I : fM) (L : fN) (r : Value) (I' : fM) (L' : fN) : Prop := match av, r with
  | [.ref 0, .int n], .int x => I' = I ∧ L' = L
  | _, _ => False
set_option maxHeartbeats 4000000 in
set_option maxRecDepth 100000 in
theorem mX12_numberOf {l : Launch} {a : Nat → Nat} {cy dC : Nat → ClassId} {dI : Nat → Nat → Nat} (hinj : ∀ i j, i < 71 → j < 71 → a i = a j → i = j) : f_Met (fun _ => True) l mY 71 a cy dC dI yX12_numberOf cX12_numberOf 6 1 1 pX12_numberOf qX12_numberOf := by
  refine f_met_of (f_Ec_T 71 a) hinj mY_hi (by decide) (fun av I L h => by unfold pX12_numberOf at h; split at h <;> first | exact Nat.le_of_ble_eq_true rfl | exact h.elim) ?_
  intro pP eP sP mP aP bP hP9 cP C av I L hp
  unfold pX12_numberOf at hp
  split at hp
  case h_2 => exact hp.elim
  case h_1 n =>
    obtain ⟨hR, hmL, p2⟩ := hp
    obtain ⟨n0, n1, n2, n3, n4⟩ := lvn_ok hR hmL p2
    refine f_wp_ok C f_cl flX12_ok fiX12_ok fjX12_ok (sn := none) (fun j h => by cases h) (cs := (f_cnl [(363, (2, 1, 11, pX12_simple, qX12_simple))])) (cz := (fun _ => none)) (f_cnl_of (P := fun j S => f_cok pP l eP (f_rm 1) sP mP aP bP hP9 cP mY 71 a cy dC dI 6 _ _ (.invokevirtual j) true S) (List.forall_mem_cons.mpr ⟨f_cokV C (mX12_simple hinj) (ci := 11) rfl (List.forall_mem_cons.mpr ⟨(mlX12_ok _ (List.mem_of_getElem? (i := 26) rfl)), kc_X12_simple⟩) (by decide +kernel) ⟨Nat.le_of_ble_eq_true rfl, Nat.le_of_ble_eq_true rfl⟩, fun _ h => absurd h List.not_mem_nil⟩)) (fun j S h => by cases h) tX12_numberOf_ok (cut := (fun _ => none)) (fun t P h => by cases h) 79 0 tX12_numberOf tX12_numberOf_ok _ _ _ _ ?_
    refine And.intro (show f_in n 1600 from ⟨show 0 ≤ n.toInt from by omega, show n.toInt < 1600 from by omega⟩) ?_
    apply And.intro
    · intro h7
      have h7 : (I 6 (n.toInt.toNat)).toInt ≤ 3 := h7
      refine And.intro (show f_in n 1600 from ⟨show 0 ≤ n.toInt from by omega, show n.toInt < 1600 from by omega⟩) ?_
      apply And.intro
      · intro h20
        have h20 : 3 ≤ (I 6 (n.toInt.toNat)).toInt := h20
        try have g20 : ¬ (I 3 n.toInt.toNat).toInt = 0 ∧ lvn I (I 4 n.toInt.toNat).toInt ∧ lvn I (I 5 n.toInt.toNat).toInt ∧ (I 6 n.toInt.toNat).toInt = (I 6 (I 4 n.toInt.toNat).toInt.toNat).toInt + (I 6 (I 5 n.toInt.toNat).toInt.toNat).toInt := by rcases n4 with n4 | n4; (exfalso; omega); exact n4
        try have k20 := lvn_ok hR hmL g20.2.1
        try have l20 := lvn_ok hR hmL g20.2.2.1
        have r34_2 : 0 ≤ (I 0 24).toInt ∧ (I 0 24).toInt ≤ 1 := hR 0 24
        refine And.intro (show f_in (I 0 24) 2 from ⟨show 0 ≤ (I 0 24).toInt from by omega, show (I 0 24).toInt < 2 from by omega⟩) ?_
        have r37_3 : 0 ≤ (I 8 ((I 0 24).toInt.toNat)).toInt ∧ (I 8 ((I 0 24).toInt.toNat)).toInt ≤ 5 := hR 8 ((I 0 24).toInt.toNat)
        refine And.intro (show f_in n 1600 from ⟨show 0 ≤ n.toInt from by omega, show n.toInt < 1600 from by omega⟩) ?_
        have r45_4 : 0 ≤ (I 4 (n.toInt.toNat)).toInt ∧ (I 4 (n.toInt.toNat)).toInt ≤ 1599 := hR 4 (n.toInt.toNat)
        refine And.intro ⟨hR, (show 0 ≤ (I 4 (n.toInt.toNat)).toInt from by first | assumption | omega), (show (I 4 (n.toInt.toNat)).toInt ≤ 1599 from by first | assumption | omega), (fun h => by rcases k20.2.2.2.2 with q | q; exact absurd q.1 h; exact (lvn_rng hR q.2.2.1).1)⟩ ?_
        intro x46 I46 L46 hq46
        have hq46 : I46 = I ∧ L46 = L := hq46
        obtain ⟨eI46, eL46⟩ := hq46
        replace eI46 := eI46.symm
        subst eI46
        replace eL46 := eL46.symm
        subst eL46
        refine And.intro (show f_in n 1600 from ⟨show 0 ≤ n.toInt from by omega, show n.toInt < 1600 from by omega⟩) ?_
        have r56_5 : -1 ≤ (I 5 (n.toInt.toNat)).toInt ∧ (I 5 (n.toInt.toNat)).toInt ≤ 1599 := hR 5 (n.toInt.toNat)
        refine And.intro ⟨hR, (show 0 ≤ (I 5 (n.toInt.toNat)).toInt from by first | assumption | omega), (show (I 5 (n.toInt.toNat)).toInt ≤ 1599 from by first | assumption | omega), (fun h => by rcases l20.2.2.2.2 with q | q; exact absurd q.1 h; exact (lvn_rng hR q.2.2.1).1)⟩ ?_
        intro x57 I57 L57 hq57
        have hq57 : I57 = I ∧ L57 = L := hq57
        obtain ⟨eI57, eL57⟩ := hq57
        replace eI57 := eI57.symm
        subst eI57
        replace eL57 := eL57.symm
        subst eL57
        intro z65 q65 _ hq65 hl65 hu65
        have hq65 : z65.toInt = 2 * (I 8 ((I 0 24).toInt.toNat)).toInt + 4294967296 * q65 := hq65
        try have hz65 : z65.toInt = 2 * (I 8 ((I 0 24).toInt.toNat)).toInt := by omega
        intro z67 q67 _ hq67 hl67 hu67
        have hq67 : z67.toInt = z65.toInt * (I 8 ((I 0 24).toInt.toNat)).toInt + 4294967296 * q67 := hq67
        intro z68 q68 _ hq68 hl68 hu68
        have hq68 : z68.toInt = (I 8 ((I 0 24).toInt.toNat)).toInt + z67.toInt + 4294967296 * q68 := hq68
        try have hz68 : z68.toInt = (I 8 ((I 0 24).toInt.toNat)).toInt + z67.toInt := by omega
        refine And.intro (show f_in n 1600 from ⟨show 0 ≤ n.toInt from by omega, show n.toInt < 1600 from by omega⟩) ?_
        have r74_6 : 0 ≤ (I 3 (n.toInt.toNat)).toInt ∧ (I 3 (n.toInt.toNat)).toInt ≤ 2 := hR 3 (n.toInt.toNat)
        apply And.intro
        · intro h76
          have h76 : ¬ (I 3 (n.toInt.toNat)).toInt = 2 := h76
          intro z90 q90 _ hq90 hl90 hu90
          have hq90 : z90.toInt = z68.toInt + 0 + 4294967296 * q90 := hq90
          try have hz90 : z90.toInt = z68.toInt + 0 := by omega
          apply And.intro
          · intro h95
            have h95 : (I 8 ((I 0 24).toInt.toNat)).toInt ≤ x46.toInt := h95
            intro z120 q120 _ hq120 hl120 hu120
            have hq120 : z120.toInt = 2 * (I 8 ((I 0 24).toInt.toNat)).toInt + 4294967296 * q120 := hq120
            try have hz120 : z120.toInt = 2 * (I 8 ((I 0 24).toInt.toNat)).toInt := by omega
            intro z122 q122 _ hq122 hl122 hu122
            have hq122 : z122.toInt = z120.toInt * (I 8 ((I 0 24).toInt.toNat)).toInt + 4294967296 * q122 := hq122
            intro z124 q124 _ hq124 hl124 hu124
            have hq124 : z124.toInt = z122.toInt * (I 8 ((I 0 24).toInt.toNat)).toInt + 4294967296 * q124 := hq124
            intro z125 q125 _ hq125 hl125 hu125
            have hq125 : z125.toInt = z90.toInt + z124.toInt + 4294967296 * q125 := hq125
            try have hz125 : z125.toInt = z90.toInt + z124.toInt := by omega
            intro z129 q129 _ hq129 hl129 hu129
            have hq129 : z129.toInt = x46.toInt - (I 8 ((I 0 24).toInt.toNat)).toInt + 4294967296 * q129 := hq129
            try have hz129 : z129.toInt = x46.toInt - (I 8 ((I 0 24).toInt.toNat)).toInt := by omega
            intro z130 q130 _ hq130 hl130 hu130
            have hq130 : z130.toInt = (I 8 ((I 0 24).toInt.toNat)).toInt * z129.toInt + 4294967296 * q130 := hq130
            intro z131 q131 _ hq131 hl131 hu131
            have hq131 : z131.toInt = z125.toInt + z130.toInt + 4294967296 * q131 := hq131
            try have hz131 : z131.toInt = z125.toInt + z130.toInt := by omega
            intro z134 q134 _ hq134 hl134 hu134
            have hq134 : z134.toInt = z131.toInt + x57.toInt + 4294967296 * q134 := hq134
            try have hz134 : z134.toInt = z131.toInt + x57.toInt := by omega
            exact ⟨rfl, rfl⟩
          · intro h95
            have h95 : x46.toInt < (I 8 ((I 0 24).toInt.toNat)).toInt := h95
            intro z102 q102 _ hq102 hl102 hu102
            have hq102 : z102.toInt = 2 * (I 8 ((I 0 24).toInt.toNat)).toInt + 4294967296 * q102 := hq102
            try have hz102 : z102.toInt = 2 * (I 8 ((I 0 24).toInt.toNat)).toInt := by omega
            intro z104 q104 _ hq104 hl104 hu104
            have hq104 : z104.toInt = z102.toInt * (I 8 ((I 0 24).toInt.toNat)).toInt + 4294967296 * q104 := hq104
            intro z106 q106 _ hq106 hl106 hu106
            have hq106 : z106.toInt = z104.toInt * x46.toInt + 4294967296 * q106 := hq106
            intro z107 q107 _ hq107 hl107 hu107
            have hq107 : z107.toInt = z90.toInt + z106.toInt + 4294967296 * q107 := hq107
            try have hz107 : z107.toInt = z90.toInt + z106.toInt := by omega
            intro z110 q110 _ hq110 hl110 hu110
            have hq110 : z110.toInt = z107.toInt + x57.toInt + 4294967296 * q110 := hq110
            try have hz110 : z110.toInt = z107.toInt + x57.toInt := by omega
            intro z112 q112 _ hq112 hl112 hu112
            have hq112 : z112.toInt = z110.toInt - (I 8 ((I 0 24).toInt.toNat)).toInt + 4294967296 * q112 := hq112
            try have hz112 : z112.toInt = z110.toInt - (I 8 ((I 0 24).toInt.toNat)).toInt := by omega
            exact ⟨rfl, rfl⟩
        · intro h76
          have h76 : (I 3 (n.toInt.toNat)).toInt = 2 := h76
          intro z81 q81 _ hq81 hl81 hu81
          have hq81 : z81.toInt = 4 * (I 8 ((I 0 24).toInt.toNat)).toInt + 4294967296 * q81 := hq81
          try have hz81 : z81.toInt = 4 * (I 8 ((I 0 24).toInt.toNat)).toInt := by omega
          intro z83 q83 _ hq83 hl83 hu83
          have hq83 : z83.toInt = z81.toInt * (I 8 ((I 0 24).toInt.toNat)).toInt + 4294967296 * q83 := hq83
          intro z85 q85 _ hq85 hl85 hu85
          have hq85 : z85.toInt = z83.toInt * (I 8 ((I 0 24).toInt.toNat)).toInt + 4294967296 * q85 := hq85
          intro z90 q90 _ hq90 hl90 hu90
          have hq90 : z90.toInt = z68.toInt + z85.toInt + 4294967296 * q90 := hq90
          try have hz90 : z90.toInt = z68.toInt + z85.toInt := by omega
          apply And.intro
          · intro h95
            have h95 : (I 8 ((I 0 24).toInt.toNat)).toInt ≤ x46.toInt := h95
            intro z120 q120 _ hq120 hl120 hu120
            have hq120 : z120.toInt = 2 * (I 8 ((I 0 24).toInt.toNat)).toInt + 4294967296 * q120 := hq120
            try have hz120 : z120.toInt = 2 * (I 8 ((I 0 24).toInt.toNat)).toInt := by omega
            intro z122 q122 _ hq122 hl122 hu122
            have hq122 : z122.toInt = z120.toInt * (I 8 ((I 0 24).toInt.toNat)).toInt + 4294967296 * q122 := hq122
            intro z124 q124 _ hq124 hl124 hu124
            have hq124 : z124.toInt = z122.toInt * (I 8 ((I 0 24).toInt.toNat)).toInt + 4294967296 * q124 := hq124
            intro z125 q125 _ hq125 hl125 hu125
            have hq125 : z125.toInt = z90.toInt + z124.toInt + 4294967296 * q125 := hq125
            try have hz125 : z125.toInt = z90.toInt + z124.toInt := by omega
            intro z129 q129 _ hq129 hl129 hu129
            have hq129 : z129.toInt = x46.toInt - (I 8 ((I 0 24).toInt.toNat)).toInt + 4294967296 * q129 := hq129
            try have hz129 : z129.toInt = x46.toInt - (I 8 ((I 0 24).toInt.toNat)).toInt := by omega
            intro z130 q130 _ hq130 hl130 hu130
            have hq130 : z130.toInt = (I 8 ((I 0 24).toInt.toNat)).toInt * z129.toInt + 4294967296 * q130 := hq130
            intro z131 q131 _ hq131 hl131 hu131
            have hq131 : z131.toInt = z125.toInt + z130.toInt + 4294967296 * q131 := hq131
            try have hz131 : z131.toInt = z125.toInt + z130.toInt := by omega
            intro z134 q134 _ hq134 hl134 hu134
            have hq134 : z134.toInt = z131.toInt + x57.toInt + 4294967296 * q134 := hq134
            try have hz134 : z134.toInt = z131.toInt + x57.toInt := by omega
            exact ⟨rfl, rfl⟩
          · intro h95
            have h95 : x46.toInt < (I 8 ((I 0 24).toInt.toNat)).toInt := h95
            intro z102 q102 _ hq102 hl102 hu102
            have hq102 : z102.toInt = 2 * (I 8 ((I 0 24).toInt.toNat)).toInt + 4294967296 * q102 := hq102
            try have hz102 : z102.toInt = 2 * (I 8 ((I 0 24).toInt.toNat)).toInt := by omega
            intro z104 q104 _ hq104 hl104 hu104
            have hq104 : z104.toInt = z102.toInt * (I 8 ((I 0 24).toInt.toNat)).toInt + 4294967296 * q104 := hq104
            intro z106 q106 _ hq106 hl106 hu106
            have hq106 : z106.toInt = z104.toInt * x46.toInt + 4294967296 * q106 := hq106
            intro z107 q107 _ hq107 hl107 hu107
            have hq107 : z107.toInt = z90.toInt + z106.toInt + 4294967296 * q107 := hq107
            try have hz107 : z107.toInt = z90.toInt + z106.toInt := by omega
            intro z110 q110 _ hq110 hl110 hu110
            have hq110 : z110.toInt = z107.toInt + x57.toInt + 4294967296 * q110 := hq110
            try have hz110 : z110.toInt = z107.toInt + x57.toInt := by omega
            intro z112 q112 _ hq112 hl112 hu112
            have hq112 : z112.toInt = z110.toInt - (I 8 ((I 0 24).toInt.toNat)).toInt + 4294967296 * q112 := hq112
            try have hz112 : z112.toInt = z110.toInt - (I 8 ((I 0 24).toInt.toNat)).toInt := by omega
            exact ⟨rfl, rfl⟩
      · intro h20
        have h20 : (I 6 (n.toInt.toNat)).toInt < 3 := h20
        try have g20 : ¬ (I 3 n.toInt.toNat).toInt = 0 ∧ lvn I (I 4 n.toInt.toNat).toInt ∧ lvn I (I 5 n.toInt.toNat).toInt ∧ (I 6 n.toInt.toNat).toInt = (I 6 (I 4 n.toInt.toNat).toInt.toNat).toInt + (I 6 (I 5 n.toInt.toNat).toInt.toNat).toInt := by rcases n4 with n4 | n4; (exfalso; omega); exact n4
        try have k20 := lvn_ok hR hmL g20.2.1
        try have l20 := lvn_ok hR hmL g20.2.2.1
        refine And.intro ⟨hR, (show 0 ≤ n.toInt from by first | assumption | omega), (show n.toInt ≤ 1599 from by first | assumption | omega), (fun h => by rcases n4 with n4 | n4; exact absurd n4.1 h; exact (lvn_rng hR n4.2.2.1).1)⟩ ?_
        intro x25 I25 L25 hq25
        have hq25 : I25 = I ∧ L25 = L := hq25
        obtain ⟨eI25, eL25⟩ := hq25
        replace eI25 := eI25.symm
        subst eI25
        replace eL25 := eL25.symm
        subst eL25
        exact ⟨rfl, rfl⟩
    · intro h7
      have h7 : 3 < (I 6 (n.toInt.toNat)).toInt := h7
      exact ⟨rfl, rfl⟩
def tX12_number : List (Instr × Nat) := [(.aload_n 0, 1), (.iload_n 1, 1), (.invokevirtual 370, 3), (.ifCond .eq 52, 3), (.iload_n 2, 1), (.iconst 0, 1), (.aload_n 0, 1), (.getfield 48, 3), (.bipush 12, 2), (.aload_n 0, 1), (.getfield 300, 3), (.imul, 1), (.iload_n 1, 1), (.iadd, 1), (.iaload, 1), (.iconst 1, 1), (.isub, 1), (.invokestatic 366, 3), (.ifCond .eq 28, 3), (.aload_n 0, 1), (.aload_n 0, 1), (.getfield 51, 3), (.iconst 3, 1), (.bipush 12, 2), (.aload_n 0, 1), (.getfield 300, 3), (.imul, 1), (.iload_n 1, 1), (.iadd, 1), (.imul, 1), (.iload_n 2, 1), (.iadd, 1), (.iaload, 1), (.invokevirtual 373, 3), (.goto 4, 3), (.iconst (-1), 1), (.ireturn, 1)]
theorem tX12_number_ok : f_chk cX12_number 0 tX12_number = true := by decide +kernel
def pX12_number (av : List Value) (I : fM) (L : fN) : Prop := match av with
  | [.ref 0, .int w, .int t] => mR I ∧ mL I
  | _ => False
def qX12_number (av : List Value) (I : fM) (L : fN) (r : Value) (I' : fM) (L' : fN) : Prop := match av, r with
  | [.ref 0, .int w, .int t], .int x => I' = I ∧ L' = L
  | _, _ => False
set_option maxHeartbeats 4000000 in
set_option maxRecDepth 100000 in
theorem mX12_number {l : Launch} {a : Nat → Nat} {cy dC : Nat → ClassId} {dI : Nat → Nat → Nat} (hinj : ∀ i j, i < 71 → j < 71 → a i = a j → i = j) : f_Met (fun _ => True) l mY 71 a cy dC dI yX12_number cX12_number 3 1 2 pX12_number qX12_number := by
  refine f_met_of (f_Ec_T 71 a) hinj mY_hi (by decide) (fun av I L h => by unfold pX12_number at h; split at h <;> first | exact Nat.le_of_ble_eq_true rfl | exact h.elim) ?_
  intro pP eP sP mP aP bP hP9 cP C av I L hp
  unfold pX12_number at hp
  split at hp
  case h_2 => exact hp.elim
  case h_1 w t =>
    obtain ⟨hR, hmL⟩ := hp
    refine f_wp_ok C f_cl flX12_ok fiX12_ok fjX12_ok (sn := none) (fun j h => by cases h) (cs := (f_cnl [(370, (2, 3, 11, pX12_isWordNumber, qX12_isWordNumber)), (373, (2, 1, 11, pX12_numberOf, qX12_numberOf))])) (cz := (f_cnl [(366, (3, 3, 11, pX12_isIn, qX12_isIn))])) (f_cnl_of (P := fun j S => f_cok pP l eP (f_rm 2) sP mP aP bP hP9 cP mY 71 a cy dC dI 3 _ _ (.invokevirtual j) true S) (List.forall_mem_cons.mpr ⟨f_cokV C (mX12_isWordNumber hinj) (ci := 11) rfl (List.forall_mem_cons.mpr ⟨(mlX12_ok _ (List.mem_of_getElem? (i := 28) rfl)), kc_X12_isWordNumber⟩) (by decide +kernel) ⟨Nat.le_of_ble_eq_true rfl, Nat.le_of_ble_eq_true rfl⟩, List.forall_mem_cons.mpr ⟨f_cokV C (mX12_numberOf hinj) (ci := 11) rfl (List.forall_mem_cons.mpr ⟨(mlX12_ok _ (List.mem_of_getElem? (i := 29) rfl)), kc_X12_numberOf⟩) (by decide +kernel) ⟨Nat.le_of_ble_eq_true rfl, Nat.le_of_ble_eq_true rfl⟩, fun _ h => absurd h List.not_mem_nil⟩⟩)) (f_cnl_of (P := fun j S => f_cok pP l eP (f_rm 2) sP mP aP bP hP9 cP mY 71 a cy dC dI 3 _ _ (.invokestatic j) false S) (List.forall_mem_cons.mpr ⟨f_cokS C (mX12_isIn hinj) (List.forall_mem_cons.mpr ⟨(mlX12_ok _ (List.mem_of_getElem? (i := 27) rfl)), kc_X12_isIn⟩) (by decide +kernel) ⟨Nat.le_of_ble_eq_true rfl, Nat.le_of_ble_eq_true rfl⟩, fun _ h => absurd h List.not_mem_nil⟩)) tX12_number_ok (cut := (fun _ => none)) (fun t P h => by cases h) 39 0 tX12_number tX12_number_ok _ _ _ _ ?_
    refine And.intro hR ?_
    intro x2 I2 L2 hq2
    have hq2 : I2 = I ∧ L2 = L ∧ ((x2.toInt = 0 ∨ x2.toInt = 1 ∧ 0 ≤ w.toInt ∧ w.toInt < (I 9 (I 0 24).toInt.toNat).toInt ∧ w.toInt ≤ 11)) := hq2
    obtain ⟨eI2, eL2, c2_2⟩ := hq2
    replace eI2 := eI2.symm
    subst eI2
    replace eL2 := eL2.symm
    subst eL2
    have r2_1 : 0 ≤ (I 9 ((I 0 24).toInt.toNat)).toInt ∧ (I 9 ((I 0 24).toInt.toNat)).toInt ≤ 12 := hR 9 ((I 0 24).toInt.toNat)
    have r2_2 : 0 ≤ (I 0 24).toInt ∧ (I 0 24).toInt ≤ 1 := hR 0 24
    apply And.intro
    · intro h5
      have h5 : x2.toInt = 0 := h5
      exact ⟨rfl, rfl⟩
    · intro h5
      have h5 : ¬ x2.toInt = 0 := h5
      intro z20 q20 _ hq20 hl20 hu20
      have hq20 : z20.toInt = 12 * (I 0 24).toInt + 4294967296 * q20 := hq20
      try have hz20 : z20.toInt = 12 * (I 0 24).toInt := by omega
      intro z22 q22 _ hq22 hl22 hu22
      have hq22 : z22.toInt = z20.toInt + w.toInt + 4294967296 * q22 := hq22
      try have hz22 : z22.toInt = z20.toInt + w.toInt := by omega
      refine And.intro (show f_in z22 24 from ⟨show 0 ≤ z22.toInt from by omega, show z22.toInt < 24 from by omega⟩) ?_
      have r23_3 : 0 ≤ (I 12 (z22.toInt.toNat)).toInt ∧ (I 12 (z22.toInt.toNat)).toInt ≤ 3 := hR 12 (z22.toInt.toNat)
      intro z25 q25 _ hq25 hl25 hu25
      have hq25 : z25.toInt = (I 12 (z22.toInt.toNat)).toInt - 1 + 4294967296 * q25 := hq25
      try have hz25 : z25.toInt = (I 12 (z22.toInt.toNat)).toInt - 1 := by omega
      refine And.intro trivial ?_
      intro x26 I26 L26 hq26
      have hq26 : I26 = I ∧ L26 = L ∧ ((x26.toInt = 1 ∧ (0 : Int) ≤ t.toInt ∧ t.toInt ≤ z25.toInt ∨ x26.toInt = 0 ∧ (t.toInt < (0 : Int) ∨ z25.toInt < t.toInt))) := hq26
      obtain ⟨eI26, eL26, c26_2⟩ := hq26
      replace eI26 := eI26.symm
      subst eI26
      replace eL26 := eL26.symm
      subst eL26
      apply And.intro
      · intro h29
        have h29 : x26.toInt = 0 := h29
        exact ⟨rfl, rfl⟩
      · intro h29
        have h29 : ¬ x26.toInt = 0 := h29
        intro z44 q44 _ hq44 hl44 hu44
        have hq44 : z44.toInt = 12 * (I 0 24).toInt + 4294967296 * q44 := hq44
        try have hz44 : z44.toInt = 12 * (I 0 24).toInt := by omega
        intro z46 q46 _ hq46 hl46 hu46
        have hq46 : z46.toInt = z44.toInt + w.toInt + 4294967296 * q46 := hq46
        try have hz46 : z46.toInt = z44.toInt + w.toInt := by omega
        intro z47 q47 _ hq47 hl47 hu47
        have hq47 : z47.toInt = 3 * z46.toInt + 4294967296 * q47 := hq47
        try have hz47 : z47.toInt = 3 * z46.toInt := by omega
        intro z49 q49 _ hq49 hl49 hu49
        have hq49 : z49.toInt = z47.toInt + t.toInt + 4294967296 * q49 := hq49
        try have hz49 : z49.toInt = z47.toInt + t.toInt := by omega
        refine And.intro (show f_in z49 72 from ⟨show 0 ≤ z49.toInt from by omega, show z49.toInt < 72 from by omega⟩) ?_
        have r50_4 : -1 ≤ (I 13 (z49.toInt.toNat)).toInt ∧ (I 13 (z49.toInt.toNat)).toInt ≤ 1599 := hR 13 (z49.toInt.toNat)
        have e51 : z46.toInt.toNat = z22.toInt.toNat := by omega
        refine And.intro ⟨hR, hmL, (show lvn I (I 13 (z49.toInt.toNat)).toInt from (hmL.2.2.1 z46.toInt.toNat (by omega) (by omega)).2 z49.toInt.toNat (by omega) (by rw [e51]; omega))⟩ ?_
        intro x51 I51 L51 hq51
        have hq51 : I51 = I ∧ L51 = L := hq51
        obtain ⟨eI51, eL51⟩ := hq51
        replace eI51 := eI51.symm
        subst eI51
        replace eL51 := eL51.symm
        subst eL51
        exact ⟨rfl, rfl⟩
def tX12_about : List (Instr × Nat) := [(.iload_n 1, 1), (.tableswitch 114 0 6 #[43, 53, 63, 68, 73, 78, 83], 43), (.aload_n 0, 1), (.getfield 36, 3), (.aload_n 0, 1), (.getfield 300, 3), (.iaload, 1), (.ireturn, 1), (.aload_n 0, 1), (.getfield 39, 3), (.aload_n 0, 1), (.getfield 300, 3), (.iaload, 1), (.ireturn, 1), (.aload_n 0, 1), (.getfield 309, 3), (.ireturn, 1), (.aload_n 0, 1), (.getfield 306, 3), (.ireturn, 1), (.aload_n 0, 1), (.getfield 522, 3), (.ireturn, 1), (.aload_n 0, 1), (.getfield 291, 3), (.ireturn, 1), (.aload_n 0, 1), (.getfield 42, 3), (.aload_n 0, 1), (.getfield 300, 3), (.iaload, 1), (.ifCond .ge 7, 3), (.iconst 0, 1), (.goto 17, 3), (.aload_n 0, 1), (.getfield 30, 3), (.aload_n 0, 1), (.getfield 42, 3), (.aload_n 0, 1), (.getfield 300, 3), (.iaload, 1), (.iaload, 1), (.ireturn, 1), (.iconst (-1), 1), (.ireturn, 1)]
theorem tX12_about_ok : f_chk cX12_about 0 tX12_about = true := by decide +kernel
def pX12_about (av : List Value) (I : fM) (L : fN) : Prop := match av with
  | [.ref 0, .int w] => mR I
  | _ => False
def qX12_about (av : List Value) (I : fM) (L : fN) (r : Value) (I' : fM) (L' : fN) : Prop := match av, r with
  | [.ref 0, .int w], .int x => I' = I ∧ L' = L
  | _, _ => False
set_option maxHeartbeats 4000000 in
set_option maxRecDepth 100000 in
theorem mX12_about {l : Launch} {a : Nat → Nat} {cy dC : Nat → ClassId} {dI : Nat → Nat → Nat} (hinj : ∀ i j, i < 71 → j < 71 → a i = a j → i = j) : f_Met (fun _ => True) l mY 71 a cy dC dI yX12_about cX12_about 2 1 0 pX12_about qX12_about := by
  refine f_met_of (f_Ec_T 71 a) hinj mY_hi (by decide) (fun av I L h => by unfold pX12_about at h; split at h <;> first | exact Nat.le_of_ble_eq_true rfl | exact h.elim) ?_
  intro pP eP sP mP aP bP hP9 cP C av I L hp
  unfold pX12_about at hp
  split at hp
  case h_2 => exact hp.elim
  case h_1 w =>
    have hR := hp
    refine f_wp_ok C f_cl flX12_ok fiX12_ok fjX12_ok (sn := none) (fun j h => by cases h) (cs := (fun _ => none)) (cz := (fun _ => none)) (fun j S h => by cases h) (fun j S h => by cases h) tX12_about_ok (cut := (fun _ => none)) (fun t P h => by cases h) 20 0 tX12_about tX12_about_ok _ _ _ _ ?_
    apply And.intro
    · intro h1
      have h1 : w.toInt < 0 ∨ 6 < w.toInt := h1
      exact ⟨rfl, rfl⟩
    · intro h1 g1
      have h1 : ¬ w.toInt < 0 := h1
      have g1 : ¬ 6 < w.toInt := g1
      have hc1 : w.toInt = 0 ∨ w.toInt = 1 ∨ w.toInt = 2 ∨ w.toInt = 3 ∨ w.toInt = 4 ∨ w.toInt = 5 ∨ w.toInt = 6 := by omega
      rcases hc1 with hc1 | hc1 | hc1 | hc1 | hc1 | hc1 | hc1
      · refine ⟨_, by rw [show (w.toInt - 0).toNat = 0 from by omega]; rfl, ?_⟩
        have r49_1 : 0 ≤ (I 0 24).toInt ∧ (I 0 24).toInt ≤ 1 := hR 0 24
        refine And.intro (show f_in (I 0 24) 2 from ⟨show 0 ≤ (I 0 24).toInt from by omega, show (I 0 24).toInt < 2 from by omega⟩) ?_
        have r52_2 : 0 ≤ (I 8 ((I 0 24).toInt.toNat)).toInt ∧ (I 8 ((I 0 24).toInt.toNat)).toInt ≤ 5 := hR 8 ((I 0 24).toInt.toNat)
        exact ⟨rfl, rfl⟩
      · refine ⟨_, by rw [show (w.toInt - 0).toNat = 1 from by omega]; rfl, ?_⟩
        have r59_1 : 0 ≤ (I 0 24).toInt ∧ (I 0 24).toInt ≤ 1 := hR 0 24
        refine And.intro (show f_in (I 0 24) 2 from ⟨show 0 ≤ (I 0 24).toInt from by omega, show (I 0 24).toInt < 2 from by omega⟩) ?_
        have r62_2 : 0 ≤ (I 9 ((I 0 24).toInt.toNat)).toInt ∧ (I 9 ((I 0 24).toInt.toNat)).toInt ≤ 12 := hR 9 ((I 0 24).toInt.toNat)
        exact ⟨rfl, rfl⟩
      · refine ⟨_, by rw [show (w.toInt - 0).toNat = 2 from by omega]; rfl, ?_⟩
        have r65_1 : 0 ≤ (I 0 30).toInt ∧ (I 0 30).toInt ≤ 8 := hR 0 30
        exact ⟨rfl, rfl⟩
      · refine ⟨_, by rw [show (w.toInt - 0).toNat = 3 from by omega]; rfl, ?_⟩
        have r70_1 : 0 ≤ (I 0 83).toInt ∧ (I 0 83).toInt ≤ 12 := hR 0 83
        exact ⟨rfl, rfl⟩
      · refine ⟨_, by rw [show (w.toInt - 0).toNat = 4 from by omega]; rfl, ?_⟩
        have r75_1 : 0 ≤ (I 0 84).toInt ∧ (I 0 84).toInt ≤ 100000 := hR 0 84
        exact ⟨rfl, rfl⟩
      · refine ⟨_, by rw [show (w.toInt - 0).toNat = 5 from by omega]; rfl, ?_⟩
        have r80_1 : 0 ≤ (I 0 2).toInt ∧ (I 0 2).toInt ≤ 1600 := hR 0 2
        exact ⟨rfl, rfl⟩
      · refine ⟨_, by rw [show (w.toInt - 0).toNat = 6 from by omega]; rfl, ?_⟩
        have r89_1 : 0 ≤ (I 0 24).toInt ∧ (I 0 24).toInt ≤ 1 := hR 0 24
        refine And.intro (show f_in (I 0 24) 2 from ⟨show 0 ≤ (I 0 24).toInt from by omega, show (I 0 24).toInt < 2 from by omega⟩) ?_
        have r92_2 : -1 ≤ (I 10 ((I 0 24).toInt.toNat)).toInt ∧ (I 10 ((I 0 24).toInt.toNat)).toInt ≤ 1599 := hR 10 ((I 0 24).toInt.toNat)
        apply And.intro
        · intro h93
          have h93 : 0 ≤ (I 10 ((I 0 24).toInt.toNat)).toInt := h93
          refine And.intro (show f_in (I 0 24) 2 from ⟨show 0 ≤ (I 0 24).toInt from by omega, show (I 0 24).toInt < 2 from by omega⟩) ?_
          refine And.intro (show f_in (I 10 ((I 0 24).toInt.toNat)) 1600 from ⟨show 0 ≤ (I 10 ((I 0 24).toInt.toNat)).toInt from by omega, show (I 10 ((I 0 24).toInt.toNat)).toInt < 1600 from by omega⟩) ?_
          exact ⟨rfl, rfl⟩
        · intro h93
          have h93 : (I 10 ((I 0 24).toInt.toNat)).toInt < 0 := h93
          exact ⟨rfl, rfl⟩
def tX12_layWord : List (Instr × Nat) := [(.bipush 12, 2), (.aload_n 0, 1), (.getfield 300, 3), (.imul, 1), (.iload_n 2, 1), (.iadd, 1), (.istore_n 3, 1), (.aload_n 0, 1), (.getfield 119, 3), (.iload_n 1, 1), (.aload_n 0, 1), (.getfield 48, 3), (.iload_n 3, 1), (.iaload, 1), (.iastore, 1), (.iconst 0, 1), (.istore 4, 2), (.iload 4, 2), (.aload_n 0, 1), (.getfield 48, 3), (.iload_n 3, 1), (.iaload, 1), (.if_icmp .ge 31, 3), (.aload_n 0, 1), (.getfield 122, 3), (.iconst 3, 1), (.iload_n 1, 1), (.imul, 1), (.iload 4, 2), (.iadd, 1), (.aload_n 0, 1), (.getfield 51, 3), (.iconst 3, 1), (.iload_n 3, 1), (.imul, 1), (.iload 4, 2), (.iadd, 1), (.iaload, 1), (.iastore, 1), (.iinc 4 1, 3), (.goto (-36), 3), (.return_, 1)]
theorem tX12_layWord_ok : f_chk cX12_layWord 0 tX12_layWord = true := by decide +kernel
def pX12_layWord (av : List Value) (I : fM) (L : fN) : Prop := match av with
  | [.ref 0, .int i, .int w] => mR I ∧ mL I ∧ 0 ≤ i.toInt ∧ i.toInt ≤ 9 ∧ 0 ≤ w.toInt ∧ w.toInt < (I 9 (I 0 24).toInt.toNat).toInt
  | _ => False
def qX12_layWord (av : List Value) (I : fM) (L : fN) (r : Value) (I' : fM) (L' : fN) : Prop := match av, r with
  | [.ref 0, .int i, .int w], .null => mR I' ∧ f_fr [35, 36] I I' ∧ L' = L ∧ oK I' i.toInt.toNat ∧ (∀ j : Nat, ¬ j = i.toInt.toNat → oK I j → oK I' j)
  | _, _ => False
set_option maxHeartbeats 4000000 in
set_option maxRecDepth 100000 in
theorem mX12_layWord {l : Launch} {a : Nat → Nat} {cy dC : Nat → ClassId} {dI : Nat → Nat → Nat} (hinj : ∀ i j, i < 71 → j < 71 → a i = a j → i = j) : f_Met (fun _ => True) l mY 71 a cy dC dI yX12_layWord cX12_layWord 5 0 0 pX12_layWord qX12_layWord := by
  refine f_met_of (f_Ec_T 71 a) hinj mY_hi (by decide) (fun av I L h => by unfold pX12_layWord at h; split at h <;> first | exact Nat.le_of_ble_eq_true rfl | exact h.elim) ?_
  intro pP eP sP mP aP bP hP9 cP C av I L hp
  unfold pX12_layWord at hp
  split at hp
  case h_2 => exact hp.elim
  case h_1 i w =>
    obtain ⟨hR, hmL, p2, p3, p4, p5⟩ := hp
    have hw : (I 9 (I 0 24).toInt.toNat).toInt ≤ 12 := (hR 9 _).2
    have hb : 0 ≤ (I 0 24).toInt ∧ (I 0 24).toInt ≤ 1 := hR 0 24
    have hF0 : f_fr [35, 36] I I := f_fr_rf
    have lp25 : ∀ (n25 : Nat), ∀ (k : Int32) (t : Int32) (J25 : fM), mR J25 ∧ f_fr [35, 36] I J25 ∧ (k.toInt = 12 * (I 0 24).toInt + w.toInt) ∧ (0 ≤ t.toInt) ∧ (t.toInt ≤ 3) ∧ (J25 35 = upd (I 35) i.toInt.toNat (I 12 k.toInt.toNat)) ∧ ((∀ s : Nat, ¬ (3 * i.toInt ≤ s ∧ (s : Int) < 3 * i.toInt + 3) → J25 36 s = I 36 s)) ∧ ((∀ s : Nat, 3 * i.toInt ≤ s → (s : Int) < 3 * i.toInt + t.toInt → lvn I (J25 36 s).toInt)) ∧ (4 - t.toInt) < n25 → f_W pP l eP (f_rm 0) sP mP aP bP hP9 cP mY 71 a cy dC dI 5 (f_K 0 (qX12_layWord [.ref 0, .int i, .int w] I L)) 25 [(4, .int t), (3, .int k), (2, .int w), (1, .int i), (0, .ref 0)] [] J25 L := by
      intro n25
      induction n25 with
      | zero =>
        intro k t J25 h9
        obtain ⟨hR25c, hF25c, u25_1, u25_2, u25_3, u25_4, u25_5, u25_6, hm25⟩ := h9
        omega
      | succ n25 ih25 =>
        intro k t J25 h9
        obtain ⟨hR25c, hF25c, u25_1, u25_2, u25_3, u25_4, u25_5, u25_6, hm25⟩ := h9
        have hm25 : 0 ≤ (I 12 k.toInt.toNat).toInt ∧ (I 12 k.toInt.toNat).toInt ≤ 3 := hR 12 _
        have hk25 := hmL.2.2.1 k.toInt.toNat (by omega) (by omega)
        refine f_wp_ok C f_cl flX12_ok fiX12_ok fjX12_ok (sn := none) (fun j h => by cases h) (cs := (fun _ => none)) (cz := (fun _ => none)) (fun j S h => by cases h) (fun j S h => by cases h) tX12_layWord_ok (cut := (f_cnl [(25, (fun (ls' : fLs) (st' : List Value) (I' : fM) (L' : fN) => ∃ k : Int32, ∃ t : Int32, (∀ q ∈ ([(4, .int t), (3, .int k), (2, .int w), (1, .int i), (0, .ref 0)] : fLs), q ∈ ls') ∧ st' = [] ∧ L' = L ∧ (mR I' ∧ f_fr [35, 36] I I' ∧ (k.toInt = 12 * (I 0 24).toInt + w.toInt) ∧ (0 ≤ t.toInt) ∧ (t.toInt ≤ 3) ∧ (I' 35 = upd (I 35) i.toInt.toNat (I 12 k.toInt.toNat)) ∧ ((∀ s : Nat, ¬ (3 * i.toInt ≤ s ∧ (s : Int) < 3 * i.toInt + 3) → I' 36 s = I 36 s)) ∧ ((∀ s : Nat, 3 * i.toInt ≤ s → (s : Int) < 3 * i.toInt + t.toInt → lvn I (I' 36 s).toInt)) ∧ (4 - t.toInt) < n25)))])) (f_cnl_of (P := fun (tQ : Nat) (P : fLs → List Value → fM → fN → Prop) => ∀ ls' st' I' L', P ls' st' I' L' → f_W pP l eP (f_rm 0) sP mP aP bP hP9 cP mY 71 a cy dC dI 5 (f_K 0 (qX12_layWord [.ref 0, .int i, .int w] I L)) tQ ls' st' I' L') (List.forall_mem_cons.mpr ⟨(fun ls' st' I' L' h => by obtain ⟨k, t, hs, e1, e3, h9⟩ := h; rw [e1, e3]; exact f_W_sub hs (ih25 k t I' h9)), fun _ h => absurd h List.not_mem_nil⟩)) 27 25 (f_seek 25 0 tX12_layWord) (f_seek_ok 25 0 tX12_layWord tX12_layWord_ok) _ _ _ _ ?_
        refine And.intro (show f_in k 24 from ⟨show 0 ≤ k.toInt from by omega, show k.toInt < 24 from by omega⟩) ?_
        have r32_1 : 0 ≤ (J25 12 (k.toInt.toNat)).toInt ∧ (J25 12 (k.toInt.toNat)).toInt ≤ 3 := hR25c 12 (k.toInt.toNat)
        have e32_2 : (J25 12 (k.toInt.toNat)).toInt = (I 12 (k.toInt.toNat)).toInt := congrArg Int32.toInt (congrFun (hF25c 12 rfl) (k.toInt.toNat))
        apply And.intro
        · intro h33
          have h33 : (J25 12 (k.toInt.toNat)).toInt ≤ t.toInt := h33
          exact ⟨hR25c, hF25c, rfl, (by
            have e : ∀ n, lvn J25 n = lvn I n := lvn_eq (congrFun (hF25c 0 rfl) 24) (hF25c 8 rfl) (hF25c 11 rfl)
            refine ⟨by rw [u25_4, pk_us]; omega, fun s h1 h2 => ?_⟩
            rw [u25_4, pk_us] at h2
            rw [e]
            exact u25_6 s (by omega) (by omega)), (fun j hj h => by
            have e : ∀ n, lvn J25 n = lvn I n := lvn_eq (congrFun (hF25c 0 rfl) 24) (hF25c 8 rfl) (hF25c 11 rfl)
            have hj3 := (hR 35 j).2
            have hj4 : (I 35 j).toInt ≤ 3 := hj3
            unfold oK
            rw [u25_4, pk_un hj]
            refine ⟨h.1, fun s h1 h2 => ?_⟩
            rw [e, u25_5 s (by omega)]
            exact h.2 s h1 h2)⟩
        · intro h33
          have h33 : t.toInt < (J25 12 (k.toInt.toNat)).toInt := h33
          intro z42 q42 _ hq42 hl42 hu42
          have hq42 : z42.toInt = 3 * i.toInt + 4294967296 * q42 := hq42
          try have hz42 : z42.toInt = 3 * i.toInt := by omega
          intro z45 q45 _ hq45 hl45 hu45
          have hq45 : z45.toInt = z42.toInt + t.toInt + 4294967296 * q45 := hq45
          try have hz45 : z45.toInt = z42.toInt + t.toInt := by omega
          intro z52 q52 _ hq52 hl52 hu52
          have hq52 : z52.toInt = 3 * k.toInt + 4294967296 * q52 := hq52
          try have hz52 : z52.toInt = 3 * k.toInt := by omega
          intro z55 q55 _ hq55 hl55 hu55
          have hq55 : z55.toInt = z52.toInt + t.toInt + 4294967296 * q55 := hq55
          try have hz55 : z55.toInt = z52.toInt + t.toInt := by omega
          refine And.intro (show f_in z55 72 from ⟨show 0 ≤ z55.toInt from by omega, show z55.toInt < 72 from by omega⟩) ?_
          have r56_3 : -1 ≤ (J25 13 (z55.toInt.toNat)).toInt ∧ (J25 13 (z55.toInt.toNat)).toInt ≤ 1599 := hR25c 13 (z55.toInt.toNat)
          have e56_4 : (J25 13 (z55.toInt.toNat)).toInt = (I 13 (z55.toInt.toNat)).toInt := congrArg Int32.toInt (congrFun (hF25c 13 rfl) (z55.toInt.toNat))
          refine And.intro (show f_in z45 30 from ⟨show 0 ≤ z45.toInt from by omega, show z45.toInt < 30 from by omega⟩) ?_
          have hR57 := mR_a (k := 36) (j := z45.toInt.toNat) (x := J25 13 (z55.toInt.toNat)) hR25c (show -1 ≤ (J25 13 (z55.toInt.toNat)).toInt ∧ (J25 13 (z55.toInt.toNat)).toInt ≤ 1599 from ⟨by omega, by omega⟩)
          have hF57 := f_fr_up (k := 36) (r := upd (J25 36) (z45.toInt.toNat) (J25 13 (z55.toInt.toNat))) hF25c rfl
          have v57 : lvn I (J25 13 z55.toInt.toNat).toInt := by rw [hF25c 13 rfl]; exact hk25.2 _ (by omega) (by omega)
          intro z58 q58 _ hq58 hl58 hu58
          have hq58 : z58.toInt = t.toInt + 1 + 4294967296 * q58 := hq58
          try have hz58 : z58.toInt = t.toInt + 1 := by omega
          have q58 : ∀ s : Nat, ¬ (3 * i.toInt ≤ s ∧ (s : Int) < 3 * i.toInt + 3) → (upd (J25 36) z45.toInt.toNat (J25 13 z55.toInt.toNat)) s = I 36 s := fun s hs => by rw [pk_un (by omega)]; exact u25_5 s hs
          have r58 : ∀ s : Nat, 3 * i.toInt ≤ s → (s : Int) < 3 * i.toInt + z58.toInt → lvn I ((upd (J25 36) z45.toInt.toNat (J25 13 z55.toInt.toNat)) s).toInt := fun s h1 h2 => by
            by_cases q : s = z45.toInt.toNat
            · rw [q, pk_us]; exact v57
            · rw [pk_un q]; exact u25_6 s h1 (by omega)
          exact ⟨k, z58, (by intro q9 h9; simp only [List.mem_cons, List.not_mem_nil, or_false] at h9; rcases h9 with h9 | h9 | h9 | h9 | h9 <;> subst h9 <;> repeat (first | exact List.mem_cons_self | apply List.mem_cons_of_mem)), rfl, rfl, hR57, hF57, (show k.toInt = 12 * (I 0 24).toInt + w.toInt from by first | assumption | omega | rfl), (show 0 ≤ z58.toInt from by first | assumption | omega), (show z58.toInt ≤ 3 from by first | assumption | omega), (show J25 35 = upd (I 35) i.toInt.toNat (I 12 k.toInt.toNat) from by first | assumption | omega | rfl), (show (∀ s : Nat, ¬ (3 * i.toInt ≤ s ∧ (s : Int) < 3 * i.toInt + 3) → (upd (J25 36) (z45.toInt.toNat) (J25 13 (z55.toInt.toNat))) s = I 36 s) from by first | assumption | omega | exact fun _ _ => rfl | exact fun _ _ => ⟨rfl, rfl⟩ | exact fun _ _ => ⟨rfl, rfl, rfl⟩ | (intro j9 hj9; omega)), (show (∀ s : Nat, 3 * i.toInt ≤ s → (s : Int) < 3 * i.toInt + z58.toInt → lvn I ((upd (J25 36) (z45.toInt.toNat) (J25 13 (z55.toInt.toNat))) s).toInt) from by first | assumption | omega | exact fun _ _ => rfl | exact fun _ _ => ⟨rfl, rfl⟩ | exact fun _ _ => ⟨rfl, rfl, rfl⟩ | (intro j9 hj9; omega)), (show (4 - z58.toInt) < n25 from by omega)⟩
    refine f_wp_ok C f_cl flX12_ok fiX12_ok fjX12_ok (sn := none) (fun j h => by cases h) (cs := (fun _ => none)) (cz := (fun _ => none)) (fun j S h => by cases h) (fun j S h => by cases h) tX12_layWord_ok (cut := (f_cnl [(25, (fun (ls' : fLs) (st' : List Value) (I' : fM) (L' : fN) => ∃ k : Int32, ∃ t : Int32, (∀ q ∈ ([(4, .int t), (3, .int k), (2, .int w), (1, .int i), (0, .ref 0)] : fLs), q ∈ ls') ∧ st' = [] ∧ L' = L ∧ (mR I' ∧ f_fr [35, 36] I I' ∧ (k.toInt = 12 * (I 0 24).toInt + w.toInt) ∧ (0 ≤ t.toInt) ∧ (t.toInt ≤ 3) ∧ (I' 35 = upd (I 35) i.toInt.toNat (I 12 k.toInt.toNat)) ∧ ((∀ s : Nat, ¬ (3 * i.toInt ≤ s ∧ (s : Int) < 3 * i.toInt + 3) → I' 36 s = I 36 s)) ∧ ((∀ s : Nat, 3 * i.toInt ≤ s → (s : Int) < 3 * i.toInt + t.toInt → lvn I (I' 36 s).toInt)) ∧ (4 - t.toInt) < 5)))])) (f_cnl_of (P := fun (tQ : Nat) (P : fLs → List Value → fM → fN → Prop) => ∀ ls' st' I' L', P ls' st' I' L' → f_W pP l eP (f_rm 0) sP mP aP bP hP9 cP mY 71 a cy dC dI 5 (f_K 0 (qX12_layWord [.ref 0, .int i, .int w] I L)) tQ ls' st' I' L') (List.forall_mem_cons.mpr ⟨(fun ls' st' I' L' h => by obtain ⟨k, t, hs, e1, e3, h9⟩ := h; rw [e1, e3]; exact f_W_sub hs (lp25 5 k t I' h9)), fun _ h => absurd h List.not_mem_nil⟩)) 20 0 tX12_layWord tX12_layWord_ok _ _ _ _ ?_
    have r3_1 : 0 ≤ (I 0 24).toInt ∧ (I 0 24).toInt ≤ 1 := hR 0 24
    intro z6 q6 _ hq6 hl6 hu6
    have hq6 : z6.toInt = 12 * (I 0 24).toInt + 4294967296 * q6 := hq6
    try have hz6 : z6.toInt = 12 * (I 0 24).toInt := by omega
    intro z8 q8 _ hq8 hl8 hu8
    have hq8 : z8.toInt = z6.toInt + w.toInt + 4294967296 * q8 := hq8
    try have hz8 : z8.toInt = z6.toInt + w.toInt := by omega
    refine And.intro (show f_in z8 24 from ⟨show 0 ≤ z8.toInt from by omega, show z8.toInt < 24 from by omega⟩) ?_
    have r20_2 : 0 ≤ (I 12 (z8.toInt.toNat)).toInt ∧ (I 12 (z8.toInt.toNat)).toInt ≤ 3 := hR 12 (z8.toInt.toNat)
    refine And.intro (show f_in i 10 from ⟨show 0 ≤ i.toInt from by omega, show i.toInt < 10 from by omega⟩) ?_
    have hR21 := mR_a (k := 35) (j := i.toInt.toNat) (x := I 12 (z8.toInt.toNat)) hR (show 0 ≤ (I 12 (z8.toInt.toNat)).toInt ∧ (I 12 (z8.toInt.toNat)).toInt ≤ 3 from ⟨by omega, by omega⟩)
    have hF21 := f_fr_up (k := 35) (r := upd (I 35) (i.toInt.toNat) (I 12 (z8.toInt.toNat))) hF0 rfl
    have hmL21 := f_depo_up mL_dep (k := 35) (r := upd (I 35) (i.toInt.toNat) (I 12 (z8.toInt.toNat))) hmL rfl (by decide)
    exact ⟨z8, Int32.ofInt 0, (by intro q9 h9; simp only [List.mem_cons, List.not_mem_nil, or_false] at h9; rcases h9 with h9 | h9 | h9 | h9 | h9 <;> subst h9 <;> repeat (first | exact List.mem_cons_self | apply List.mem_cons_of_mem)), rfl, rfl, hR21, hF21, (show z8.toInt = 12 * (I 0 24).toInt + w.toInt from by first | assumption | omega | rfl), (show 0 ≤ (0 : Int) from by first | assumption | omega), (show (0 : Int) ≤ 3 from by first | assumption | omega), (show (upd (I 35) (i.toInt.toNat) (I 12 (z8.toInt.toNat))) = upd (I 35) i.toInt.toNat (I 12 z8.toInt.toNat) from by first | assumption | omega | rfl), (show (∀ s : Nat, ¬ (3 * i.toInt ≤ s ∧ (s : Int) < 3 * i.toInt + 3) → I 36 s = I 36 s) from by first | assumption | omega | exact fun _ _ => rfl | exact fun _ _ => ⟨rfl, rfl⟩ | exact fun _ _ => ⟨rfl, rfl, rfl⟩ | (intro j9 hj9; omega)), (show (∀ s : Nat, 3 * i.toInt ≤ s → (s : Int) < 3 * i.toInt + (0 : Int) → lvn I (I 36 s).toInt) from by first | assumption | omega | exact fun _ _ => rfl | exact fun _ _ => ⟨rfl, rfl⟩ | exact fun _ _ => ⟨rfl, rfl, rfl⟩ | (intro j9 hj9; omega)), (show (4 - (0 : Int)) < 5 from by omega)⟩
def tX12_layRow : List (Instr × Nat) := [(.aload_n 0, 1), (.aload_n 0, 1), (.getfield 309, 3), (.putfield 407, 3), (.aload_n 0, 1), (.aload_n 0, 1), (.getfield 42, 3), (.aload_n 0, 1), (.getfield 300, 3), (.iaload, 1), (.putfield 416, 3), (.iconst 0, 1), (.istore_n 1, 1), (.iload_n 1, 1), (.aload_n 0, 1), (.getfield 309, 3), (.if_icmp .ge 20, 3), (.aload_n 0, 1), (.iload_n 1, 1), (.aload_n 0, 1), (.getfield 71, 3), (.iload_n 1, 1), (.iaload, 1), (.invokevirtual 419, 3), (.iinc 1 1, 3), (.goto (-22), 3), (.return_, 1)]
theorem tX12_layRow_ok : f_chk cX12_layRow 0 tX12_layRow = true := by decide +kernel
def pX12_layRow (av : List Value) (I : fM) (L : fN) : Prop := match av with
  | [.ref 0] => mR I ∧ mL I ∧ mW I
  | _ => False
def qX12_layRow (av : List Value) (I : fM) (L : fN) (r : Value) (I' : fM) (L' : fN) : Prop := match av, r with
  | [.ref 0], .null => mR I' ∧ mL I' ∧ mW I' ∧ f_fo [53, 54] I I' ∧ f_fr [0, 35, 36] I I' ∧ L' = L ∧ mO I' ∧ (I' 0 53).toInt = (I 0 30).toInt ∧ (I' 0 54).toInt = (I 10 (I 0 24).toInt.toNat).toInt
  | _, _ => False
set_option maxHeartbeats 4000000 in
set_option maxRecDepth 100000 in
theorem mX12_layRow {l : Launch} {a : Nat → Nat} {cy dC : Nat → ClassId} {dI : Nat → Nat → Nat} (hinj : ∀ i j, i < 71 → j < 71 → a i = a j → i = j) : f_Met (fun _ => True) l mY 71 a cy dC dI yX12_layRow cX12_layRow 2 0 1 pX12_layRow qX12_layRow := by
  refine f_met_of (f_Ec_T 71 a) hinj mY_hi (by decide) (fun av I L h => by unfold pX12_layRow at h; split at h <;> first | exact Nat.le_of_ble_eq_true rfl | exact h.elim) ?_
  intro pP eP sP mP aP bP hP9 cP C av I L hp
  unfold pX12_layRow at hp
  split at hp
  case h_2 => exact hp.elim
  case h_1 =>
    obtain ⟨hR, hmL, hmW⟩ := hp
    have hb : 0 ≤ (I 0 24).toInt ∧ (I 0 24).toInt ≤ 1 := hR 0 24
    have hm : 0 ≤ (I 0 30).toInt ∧ (I 0 30).toInt ≤ 8 := hR 0 30
    have hF0 : f_fr [0, 35, 36] I I := f_fr_rf
    have hO0 : f_fo [53, 54] I I := f_fo_rf
    have lp23 : ∀ (n23 : Nat), ∀ (i : Int32) (J23 : fM), mR J23 ∧ f_fr [0, 35, 36] I J23 ∧ f_fo [53, 54] I J23 ∧ mL J23 ∧ mW J23 ∧ (0 ≤ i.toInt) ∧ (i.toInt ≤ (I 0 30).toInt) ∧ ((J23 0 53).toInt = (I 0 30).toInt) ∧ ((J23 0 54).toInt = (I 10 (I 0 24).toInt.toNat).toInt) ∧ ((∀ j : Nat, (j : Int) < i.toInt → oK J23 j)) ∧ ((I 0 30).toInt - i.toInt) < n23 → f_W pP l eP (f_rm 1) sP mP aP bP hP9 cP mY 71 a cy dC dI 2 (f_K 0 (qX12_layRow [.ref 0] I L)) 23 [(1, .int i), (0, .ref 0)] [] J23 L := by
      intro n23
      induction n23 with
      | zero =>
        intro i J23 h9
        obtain ⟨hR23c, hF23c, hO23c, hmL23c, hmW23c, u23_1, u23_2, u23_3, u23_4, u23_5, hm23⟩ := h9
        omega
      | succ n23 ih23 =>
        intro i J23 h9
        obtain ⟨hR23c, hF23c, hO23c, hmL23c, hmW23c, u23_1, u23_2, u23_3, u23_4, u23_5, hm23⟩ := h9
        refine f_wp_ok C f_cl flX12_ok fiX12_ok fjX12_ok (sn := none) (fun j h => by cases h) (cs := (f_cnl [(419, (3, 0, 11, pX12_layWord, qX12_layWord))])) (cz := (fun _ => none)) (f_cnl_of (P := fun j S => f_cok pP l eP (f_rm 1) sP mP aP bP hP9 cP mY 71 a cy dC dI 2 _ _ (.invokevirtual j) true S) (List.forall_mem_cons.mpr ⟨f_cokV C (mX12_layWord hinj) (ci := 11) rfl (List.forall_mem_cons.mpr ⟨(mlX12_ok _ (List.mem_of_getElem? (i := 37) rfl)), kc_X12_layWord⟩) (by decide +kernel) ⟨Nat.le_of_ble_eq_true rfl, Nat.le_of_ble_eq_true rfl⟩, fun _ h => absurd h List.not_mem_nil⟩)) (fun j S h => by cases h) tX12_layRow_ok (cut := (f_cnl [(23, (fun (ls' : fLs) (st' : List Value) (I' : fM) (L' : fN) => ∃ i : Int32, (∀ q ∈ ([(1, .int i), (0, .ref 0)] : fLs), q ∈ ls') ∧ st' = [] ∧ L' = L ∧ (mR I' ∧ f_fr [0, 35, 36] I I' ∧ f_fo [53, 54] I I' ∧ mL I' ∧ mW I' ∧ (0 ≤ i.toInt) ∧ (i.toInt ≤ (I 0 30).toInt) ∧ ((I' 0 53).toInt = (I 0 30).toInt) ∧ ((I' 0 54).toInt = (I 10 (I 0 24).toInt.toNat).toInt) ∧ ((∀ j : Nat, (j : Int) < i.toInt → oK I' j)) ∧ ((I 0 30).toInt - i.toInt) < n23)))])) (f_cnl_of (P := fun (tQ : Nat) (P : fLs → List Value → fM → fN → Prop) => ∀ ls' st' I' L', P ls' st' I' L' → f_W pP l eP (f_rm 1) sP mP aP bP hP9 cP mY 71 a cy dC dI 2 (f_K 0 (qX12_layRow [.ref 0] I L)) tQ ls' st' I' L') (List.forall_mem_cons.mpr ⟨(fun ls' st' I' L' h => by obtain ⟨i, hs, e1, e3, h9⟩ := h; rw [e1, e3]; exact f_W_sub hs (ih23 i I' h9)), fun _ h => absurd h List.not_mem_nil⟩)) 16 23 (f_seek 23 0 tX12_layRow) (f_seek_ok 23 0 tX12_layRow tX12_layRow_ok) _ _ _ _ ?_
        have e23 : (J23 0 30).toInt = (I 0 30).toInt := congrArg Int32.toInt (hO23c 30 rfl)
        have r25_1 : 0 ≤ (J23 0 30).toInt ∧ (J23 0 30).toInt ≤ 8 := hR23c 0 30
        have e25_2 : (J23 0 30).toInt = (I 0 30).toInt := congrArg Int32.toInt (hO23c 30 rfl)
        apply And.intro
        · intro h28
          have h28 : (J23 0 30).toInt ≤ i.toInt := h28
          have r48_3 : 0 ≤ (J23 0 53).toInt ∧ (J23 0 53).toInt ≤ 10 := hR23c 0 53
          have r48_4 : -1 ≤ (J23 0 54).toInt ∧ (J23 0 54).toInt ≤ 1599 := hR23c 0 54
          exact ⟨hR23c, hmL23c, hmW23c, hO23c, hF23c, rfl, (by
            have e : ∀ n, lvn J23 n = lvn I n := lvn_eq (hO23c 24 rfl) (hF23c 8 rfl) (hF23c 11 rfl)
            refine ⟨fun j hj => u23_5 j (by omega), ?_⟩
            rw [e, u23_4]
            exact hmL.2.2.2.1), (show (J23 0 53).toInt = (I 0 30).toInt from by first | assumption | omega | rfl), (show (J23 0 54).toInt = (I 10 (I 0 24).toInt.toNat).toInt from by first | assumption | omega | rfl)⟩
        · intro h28
          have h28 : i.toInt < (J23 0 30).toInt := h28
          refine And.intro (show f_in i 8 from ⟨show 0 ≤ i.toInt from by omega, show i.toInt < 8 from by omega⟩) ?_
          have r38_3 : 0 ≤ (J23 19 (i.toInt.toNat)).toInt ∧ (J23 19 (i.toInt.toNat)).toInt ≤ 11 := hR23c 19 (i.toInt.toNat)
          have e38_4 : (J23 19 (i.toInt.toNat)).toInt = (I 19 (i.toInt.toNat)).toInt := congrArg Int32.toInt (congrFun (hF23c 19 rfl) (i.toInt.toNat))
          have w39 : (J23 19 i.toInt.toNat).toInt < (J23 9 (J23 0 24).toInt.toNat).toInt := hmW23c.1 i.toInt.toNat (by omega)
          have r39_5 : 0 ≤ (J23 9 ((J23 0 24).toInt.toNat)).toInt ∧ (J23 9 ((J23 0 24).toInt.toNat)).toInt ≤ 12 := hR23c 9 ((J23 0 24).toInt.toNat)
          have e39_6 : (J23 9 ((J23 0 24).toInt.toNat)).toInt = (J23 9 ((I 0 24).toInt.toNat)).toInt := by rw [(hO23c 24 rfl)]
          have e39_7 : (J23 9 ((I 0 24).toInt.toNat)).toInt = (I 9 ((I 0 24).toInt.toNat)).toInt := congrArg Int32.toInt (congrFun (hF23c 9 rfl) ((I 0 24).toInt.toNat))
          have r39_8 : 0 ≤ (J23 0 24).toInt ∧ (J23 0 24).toInt ≤ 1 := hR23c 0 24
          have e39_9 : (J23 0 24).toInt = (I 0 24).toInt := congrArg Int32.toInt (hO23c 24 rfl)
          refine And.intro ⟨hR23c, hmL23c, (show 0 ≤ i.toInt from by first | assumption | omega), (show i.toInt ≤ 9 from by first | assumption | omega), (show 0 ≤ (J23 19 (i.toInt.toNat)).toInt from by first | assumption | omega), (show (J23 19 (i.toInt.toNat)).toInt < (J23 9 (J23 0 24).toInt.toNat).toInt from by first | assumption | omega)⟩ ?_
          intro I39 L39 hq39
          have hq39 : mR I39 ∧ f_fr [35, 36] J23 I39 ∧ L39 = L ∧ oK I39 i.toInt.toNat ∧ ((∀ j : Nat, ¬ j = i.toInt.toNat → oK J23 j → oK I39 j)) := hq39
          obtain ⟨c39_0, c39_1, eL39, c39_3, c39_4⟩ := hq39
          replace eL39 := eL39.symm
          subst eL39
          have hO39 := f_fo_fr hO23c c39_1 rfl
          have hmL39 := f_depo_fr mL_dep hmL23c c39_1 rfl rfl
          have hmW39 := f_depo_fr mW_dep hmW23c c39_1 rfl rfl
          have hF39 := f_fr_tr hF23c c39_1 rfl
          intro z42 q42 _ hq42 hl42 hu42
          have hq42 : z42.toInt = i.toInt + 1 + 4294967296 * q42 := hq42
          try have hz42 : z42.toInt = i.toInt + 1 := by omega
          have q42 : ∀ j : Nat, (j : Int) < z42.toInt → oK I39 j := fun j hj => by
            by_cases q : j = i.toInt.toNat
            · rw [q]; exact c39_3
            · exact c39_4 j q (u23_5 j (by omega))
          have r23_10 : 0 ≤ (I39 0 53).toInt ∧ (I39 0 53).toInt ≤ 10 := c39_0 0 53
          have e23_11 : (I39 0 53).toInt = (J23 0 53).toInt := congrArg Int32.toInt (congrFun (c39_1 0 rfl) 53)
          have r23_12 : -1 ≤ (I39 0 54).toInt ∧ (I39 0 54).toInt ≤ 1599 := c39_0 0 54
          have e23_13 : (I39 0 54).toInt = (J23 0 54).toInt := congrArg Int32.toInt (congrFun (c39_1 0 rfl) 54)
          exact ⟨z42, (by intro q9 h9; simp only [List.mem_cons, List.not_mem_nil, or_false] at h9; rcases h9 with h9 | h9 <;> subst h9 <;> repeat (first | exact List.mem_cons_self | apply List.mem_cons_of_mem)), rfl, rfl, c39_0, hF39, hO39, hmL39, hmW39, (show 0 ≤ z42.toInt from by first | assumption | omega), (show z42.toInt ≤ (I 0 30).toInt from by first | assumption | omega), (show (I39 0 53).toInt = (I 0 30).toInt from by first | assumption | omega | rfl), (show (I39 0 54).toInt = (I 10 (I 0 24).toInt.toNat).toInt from by first | assumption | omega | rfl), (show (∀ j : Nat, (j : Int) < z42.toInt → oK I39 j) from by first | assumption | omega | exact fun _ _ => rfl | exact fun _ _ => ⟨rfl, rfl⟩ | exact fun _ _ => ⟨rfl, rfl, rfl⟩ | (intro j9 hj9; omega)), (show ((I 0 30).toInt - z42.toInt) < n23 from by omega)⟩
    refine f_wp_ok C f_cl flX12_ok fiX12_ok fjX12_ok (sn := none) (fun j h => by cases h) (cs := (f_cnl [(419, (3, 0, 11, pX12_layWord, qX12_layWord))])) (cz := (fun _ => none)) (f_cnl_of (P := fun j S => f_cok pP l eP (f_rm 1) sP mP aP bP hP9 cP mY 71 a cy dC dI 2 _ _ (.invokevirtual j) true S) (List.forall_mem_cons.mpr ⟨f_cokV C (mX12_layWord hinj) (ci := 11) rfl (List.forall_mem_cons.mpr ⟨(mlX12_ok _ (List.mem_of_getElem? (i := 37) rfl)), kc_X12_layWord⟩) (by decide +kernel) ⟨Nat.le_of_ble_eq_true rfl, Nat.le_of_ble_eq_true rfl⟩, fun _ h => absurd h List.not_mem_nil⟩)) (fun j S h => by cases h) tX12_layRow_ok (cut := (f_cnl [(23, (fun (ls' : fLs) (st' : List Value) (I' : fM) (L' : fN) => ∃ i : Int32, (∀ q ∈ ([(1, .int i), (0, .ref 0)] : fLs), q ∈ ls') ∧ st' = [] ∧ L' = L ∧ (mR I' ∧ f_fr [0, 35, 36] I I' ∧ f_fo [53, 54] I I' ∧ mL I' ∧ mW I' ∧ (0 ≤ i.toInt) ∧ (i.toInt ≤ (I 0 30).toInt) ∧ ((I' 0 53).toInt = (I 0 30).toInt) ∧ ((I' 0 54).toInt = (I 10 (I 0 24).toInt.toNat).toInt) ∧ ((∀ j : Nat, (j : Int) < i.toInt → oK I' j)) ∧ ((I 0 30).toInt - i.toInt) < 9)))])) (f_cnl_of (P := fun (tQ : Nat) (P : fLs → List Value → fM → fN → Prop) => ∀ ls' st' I' L', P ls' st' I' L' → f_W pP l eP (f_rm 1) sP mP aP bP hP9 cP mY 71 a cy dC dI 2 (f_K 0 (qX12_layRow [.ref 0] I L)) tQ ls' st' I' L') (List.forall_mem_cons.mpr ⟨(fun ls' st' I' L' h => by obtain ⟨i, hs, e1, e3, h9⟩ := h; rw [e1, e3]; exact f_W_sub hs (lp23 9 i I' h9)), fun _ h => absurd h List.not_mem_nil⟩)) 16 0 tX12_layRow tX12_layRow_ok _ _ _ _ ?_
    have r2_1 : 0 ≤ (I 0 30).toInt ∧ (I 0 30).toInt ≤ 8 := hR 0 30
    have hR5 := mR_f (k := 0) (j := 53) (x := I 0 30) hR (show 0 ≤ (I 0 30).toInt ∧ (I 0 30).toInt ≤ 10 from ⟨by omega, by omega⟩)
    have hF5 := f_fr_up (k := 0) (r := va_up (I 0) 53 (I 0 30)) hF0 rfl
    have hO5 := f_fo_up (j := 53) (x := I 0 30) hO0 rfl
    have hmL5 := f_depo_up0 mL_dep (j := 53) (x := I 0 30) hmL rfl rfl
    have hmW5 := f_depo_up0 mW_dep (j := 53) (x := I 0 30) hmW rfl rfl
    have r14_2 : 0 ≤ (I 0 24).toInt ∧ (I 0 24).toInt ≤ 1 := hR5 0 24
    refine And.intro (show f_in (I 0 24) 2 from ⟨show 0 ≤ (I 0 24).toInt from by omega, show (I 0 24).toInt < 2 from by omega⟩) ?_
    have r17_3 : -1 ≤ (I 10 ((I 0 24).toInt.toNat)).toInt ∧ (I 10 ((I 0 24).toInt.toNat)).toInt ≤ 1599 := hR5 10 ((I 0 24).toInt.toNat)
    have hR18 := mR_f (k := 0) (j := 54) (x := I 10 ((I 0 24).toInt.toNat)) hR5 (show -1 ≤ (I 10 ((I 0 24).toInt.toNat)).toInt ∧ (I 10 ((I 0 24).toInt.toNat)).toInt ≤ 1599 from ⟨by omega, by omega⟩)
    have hF18 := f_fr_up (k := 0) (r := va_up (va_up (I 0) 53 (I 0 30)) 54 (I 10 ((I 0 24).toInt.toNat))) hF5 rfl
    have hO18 := f_fo_up (j := 54) (x := I 10 ((I 0 24).toInt.toNat)) hO5 rfl
    have hmL18 := f_depo_up0 mL_dep (j := 54) (x := I 10 ((I 0 24).toInt.toNat)) hmL5 rfl rfl
    have hmW18 := f_depo_up0 mW_dep (j := 54) (x := I 10 ((I 0 24).toInt.toNat)) hmW5 rfl rfl
    exact ⟨Int32.ofInt 0, (by intro q9 h9; simp only [List.mem_cons, List.not_mem_nil, or_false] at h9; rcases h9 with h9 | h9 <;> subst h9 <;> repeat (first | exact List.mem_cons_self | apply List.mem_cons_of_mem)), rfl, rfl, hR18, hF18, hO18, hmL18, hmW18, (show 0 ≤ (0 : Int) from by first | assumption | omega), (show (0 : Int) ≤ (I 0 30).toInt from by first | assumption | omega), (show (I 0 30).toInt = (I 0 30).toInt from by first | assumption | omega | rfl), (show (I 10 ((I 0 24).toInt.toNat)).toInt = (I 10 (I 0 24).toInt.toNat).toInt from by first | assumption | omega | rfl), (show (∀ j : Nat, (j : Int) < (0 : Int) → oK (va_up (va_up I 0 (va_up (I 0) 53 (I 0 30))) 0 (va_up (va_up (I 0) 53 (I 0 30)) 54 (I 10 ((I 0 24).toInt.toNat)))) j) from by first | assumption | omega | exact fun _ _ => rfl | exact fun _ _ => ⟨rfl, rfl⟩ | exact fun _ _ => ⟨rfl, rfl, rfl⟩ | (intro j9 hj9; omega)), (show ((I 0 30).toInt - (0 : Int)) < 9 from by omega)⟩
def tX12_laySums : List (Instr × Nat) := [(.iconst 0, 1), (.istore_n 2, 1), (.iload_n 2, 1), (.iconst 5, 1), (.if_icmp .ge 44, 3), (.iload_n 1, 1), (.ifCond .ne 40, 3), (.aload_n 0, 1), (.getfield 128, 3), (.iload_n 2, 1), (.aload_n 0, 1), (.getfield 416, 3), (.ifCond .ge 7, 3), (.iconst 0, 1), (.goto 17, 3), (.aload_n 0, 1), (.getfield 33, 3), (.iconst 5, 1), (.aload_n 0, 1), (.getfield 416, 3), (.imul, 1), (.iload_n 2, 1), (.iadd, 1), (.iaload, 1), (.ineg, 1), (.iastore, 1), (.iinc 2 1, 3), (.goto (-43), 3), (.iload_n 1, 1), (.istore_n 2, 1), (.iload_n 2, 1), (.aload_n 0, 1), (.getfield 407, 3), (.if_icmp .ge 76, 3), (.aload_n 0, 1), (.getfield 122, 3), (.iconst 3, 1), (.iload_n 2, 1), (.imul, 1), (.aload_n 0, 1), (.getfield 125, 3), (.iload_n 2, 1), (.iaload, 1), (.iadd, 1), (.iaload, 1), (.istore_n 3, 1), (.iconst 0, 1), (.istore 4, 2), (.iload 4, 2), (.iconst 5, 1), (.if_icmp .ge 45, 3), (.aload_n 0, 1), (.getfield 128, 3), (.iconst 5, 1), (.iload_n 2, 1), (.iconst 1, 1), (.iadd, 1), (.imul, 1), (.iload 4, 2), (.iadd, 1), (.aload_n 0, 1), (.getfield 128, 3), (.iconst 5, 1), (.iload_n 2, 1), (.imul, 1), (.iload 4, 2), (.iadd, 1), (.iaload, 1), (.aload_n 0, 1), (.getfield 33, 3), (.iconst 5, 1), (.iload_n 3, 1), (.imul, 1), (.iload 4, 2), (.iadd, 1), (.iaload, 1), (.iadd, 1), (.iastore, 1), (.iinc 4 1, 3), (.goto (-45), 3), (.iinc 2 1, 3), (.goto (-78), 3), (.return_, 1)]
theorem tX12_laySums_ok : f_chk cX12_laySums 0 tX12_laySums = true := by decide +kernel
def pX12_laySums (av : List Value) (I : fM) (L : fN) : Prop := match av with
  | [.ref 0, .int f] => mR I ∧ mO I ∧ pK I ∧ 0 ≤ f.toInt ∧ f.toInt ≤ 10
  | _ => False
def qX12_laySums (av : List Value) (I : fM) (L : fN) (r : Value) (I' : fM) (L' : fN) : Prop := match av, r with
  | [.ref 0, .int f], .null => mR I' ∧ mO I' ∧ pK I' ∧ f_fr [38] I I' ∧ L' = L
  | _, _ => False
set_option maxHeartbeats 4000000 in
set_option maxRecDepth 100000 in
theorem mX12_laySums {l : Launch} {a : Nat → Nat} {cy dC : Nat → ClassId} {dI : Nat → Nat → Nat} (hinj : ∀ i j, i < 71 → j < 71 → a i = a j → i = j) : f_Met (fun _ => True) l mY 71 a cy dC dI yX12_laySums cX12_laySums 5 0 0 pX12_laySums qX12_laySums := by
  refine f_met_of (f_Ec_T 71 a) hinj mY_hi (by decide) (fun av I L h => by unfold pX12_laySums at h; split at h <;> first | exact Nat.le_of_ble_eq_true rfl | exact h.elim) ?_
  intro pP eP sP mP aP bP hP9 cP C av I L hp
  unfold pX12_laySums at hp
  split at hp
  case h_2 => exact hp.elim
  case h_1 f =>
    obtain ⟨hR, hmO, hpK, p3, p4⟩ := hp
    have hn : 0 ≤ (I 0 53).toInt ∧ (I 0 53).toInt ≤ 10 := hR 0 53
    have hF0 : f_fr [38] I I := f_fr_rf
    have lp50 : ∀ (n50 : Nat), ∀ (i : Int32) (J50 : fM), mR J50 ∧ f_fr [38] I J50 ∧ mO J50 ∧ pK J50 ∧ (0 ≤ i.toInt) ∧ (i.toInt ≤ 10) ∧ (10 - i.toInt) < n50 → f_W pP l eP (f_rm 0) sP mP aP bP hP9 cP mY 71 a cy dC dI 5 (f_K 0 (qX12_laySums [.ref 0, .int f] I L)) 50 [(2, .int i), (1, .int f), (0, .ref 0)] [] J50 L := by
      intro n50
      induction n50 with
      | zero =>
        intro i J50 h9
        obtain ⟨hR50c, hF50c, hmO50c, hpK50c, u50_1, u50_2, hm50⟩ := h9
        omega
      | succ n50 ih50 =>
        intro i J50 h9
        obtain ⟨hR50c, hF50c, hmO50c, hpK50c, u50_1, u50_2, hm50⟩ := h9
        have lp77 : ∀ (n77 : Nat), ∀ (r : Int32) (k : Int32) (J77 : fM), mR J77 ∧ f_fr [38] I J77 ∧ mO J77 ∧ pK J77 ∧ (i.toInt < (I 0 53).toInt) ∧ (0 ≤ r.toInt) ∧ (r.toInt ≤ 1599) ∧ (0 ≤ k.toInt) ∧ (k.toInt ≤ 5) ∧ (5 - k.toInt) < n77 → f_W pP l eP (f_rm 0) sP mP aP bP hP9 cP mY 71 a cy dC dI 5 (f_K 0 (qX12_laySums [.ref 0, .int f] I L)) 77 [(4, .int k), (3, .int r), (2, .int i), (1, .int f), (0, .ref 0)] [] J77 L := by
          intro n77
          induction n77 with
          | zero =>
            intro r k J77 h9
            obtain ⟨hR77c, hF77c, hmO77c, hpK77c, u77_1, u77_2, u77_3, u77_4, u77_5, hm77⟩ := h9
            omega
          | succ n77 ih77 =>
            intro r k J77 h9
            obtain ⟨hR77c, hF77c, hmO77c, hpK77c, u77_1, u77_2, u77_3, u77_4, u77_5, hm77⟩ := h9
            refine f_wp_ok C f_cl flX12_ok fiX12_ok fjX12_ok (sn := none) (fun j h => by cases h) (cs := (fun _ => none)) (cz := (fun _ => none)) (fun j S h => by cases h) (fun j S h => by cases h) tX12_laySums_ok (cut := (f_cnl [(50, (fun (ls' : fLs) (st' : List Value) (I' : fM) (L' : fN) => ∃ i : Int32, (∀ q ∈ ([(2, .int i), (1, .int f), (0, .ref 0)] : fLs), q ∈ ls') ∧ st' = [] ∧ L' = L ∧ (mR I' ∧ f_fr [38] I I' ∧ mO I' ∧ pK I' ∧ (0 ≤ i.toInt) ∧ (i.toInt ≤ 10) ∧ (10 - i.toInt) < n50))), (77, (fun (ls' : fLs) (st' : List Value) (I' : fM) (L' : fN) => ∃ r : Int32, ∃ k : Int32, (∀ q ∈ ([(4, .int k), (3, .int r), (2, .int i), (1, .int f), (0, .ref 0)] : fLs), q ∈ ls') ∧ st' = [] ∧ L' = L ∧ (mR I' ∧ f_fr [38] I I' ∧ mO I' ∧ pK I' ∧ (i.toInt < (I 0 53).toInt) ∧ (0 ≤ r.toInt) ∧ (r.toInt ≤ 1599) ∧ (0 ≤ k.toInt) ∧ (k.toInt ≤ 5) ∧ (5 - k.toInt) < n77)))])) (f_cnl_of (P := fun (tQ : Nat) (P : fLs → List Value → fM → fN → Prop) => ∀ ls' st' I' L', P ls' st' I' L' → f_W pP l eP (f_rm 0) sP mP aP bP hP9 cP mY 71 a cy dC dI 5 (f_K 0 (qX12_laySums [.ref 0, .int f] I L)) tQ ls' st' I' L') (List.forall_mem_cons.mpr ⟨(fun ls' st' I' L' h => by obtain ⟨i, hs, e1, e3, h9⟩ := h; rw [e1, e3]; exact f_W_sub hs (ih50 i I' h9)), List.forall_mem_cons.mpr ⟨(fun ls' st' I' L' h => by obtain ⟨r, k, hs, e1, e3, h9⟩ := h; rw [e1, e3]; exact f_W_sub hs (ih77 r k I' h9)), fun _ h => absurd h List.not_mem_nil⟩⟩)) 35 77 (f_seek 77 0 tX12_laySums) (f_seek_ok 77 0 tX12_laySums tX12_laySums_ok) _ _ _ _ ?_
            apply And.intro
            · intro h80
              have h80 : 5 ≤ k.toInt := h80
              intro z125 q125 _ hq125 hl125 hu125
              have hq125 : z125.toInt = i.toInt + 1 + 4294967296 * q125 := hq125
              try have hz125 : z125.toInt = i.toInt + 1 := by omega
              exact ⟨z125, (by intro q9 h9; simp only [List.mem_cons, List.not_mem_nil, or_false] at h9; rcases h9 with h9 | h9 | h9 <;> subst h9 <;> repeat (first | exact List.mem_cons_self | apply List.mem_cons_of_mem)), rfl, rfl, hR77c, hF77c, hmO77c, hpK77c, (show 0 ≤ z125.toInt from by first | assumption | omega), (show z125.toInt ≤ 10 from by first | assumption | omega), (show (10 - z125.toInt) < n50 from by omega)⟩
            · intro h80
              have h80 : k.toInt < 5 := h80
              intro z90 q90 _ hq90 hl90 hu90
              have hq90 : z90.toInt = i.toInt + 1 + 4294967296 * q90 := hq90
              try have hz90 : z90.toInt = i.toInt + 1 := by omega
              intro z91 q91 _ hq91 hl91 hu91
              have hq91 : z91.toInt = 5 * z90.toInt + 4294967296 * q91 := hq91
              try have hz91 : z91.toInt = 5 * z90.toInt := by omega
              intro z94 q94 _ hq94 hl94 hu94
              have hq94 : z94.toInt = z91.toInt + k.toInt + 4294967296 * q94 := hq94
              try have hz94 : z94.toInt = z91.toInt + k.toInt := by omega
              intro z101 q101 _ hq101 hl101 hu101
              have hq101 : z101.toInt = 5 * i.toInt + 4294967296 * q101 := hq101
              try have hz101 : z101.toInt = 5 * i.toInt := by omega
              intro z104 q104 _ hq104 hl104 hu104
              have hq104 : z104.toInt = z101.toInt + k.toInt + 4294967296 * q104 := hq104
              try have hz104 : z104.toInt = z101.toInt + k.toInt := by omega
              refine And.intro (show f_in z104 55 from ⟨show 0 ≤ z104.toInt from by omega, show z104.toInt < 55 from by omega⟩) ?_
              intro z112 q112 _ hq112 hl112 hu112
              have hq112 : z112.toInt = 5 * r.toInt + 4294967296 * q112 := hq112
              try have hz112 : z112.toInt = 5 * r.toInt := by omega
              intro z115 q115 _ hq115 hl115 hu115
              have hq115 : z115.toInt = z112.toInt + k.toInt + 4294967296 * q115 := hq115
              try have hz115 : z115.toInt = z112.toInt + k.toInt := by omega
              refine And.intro (show f_in z115 8000 from ⟨show 0 ≤ z115.toInt from by omega, show z115.toInt < 8000 from by omega⟩) ?_
              have e116_3 : (J77 7 (z115.toInt.toNat)).toInt = (I 7 (z115.toInt.toNat)).toInt := congrArg Int32.toInt (congrFun (hF77c 7 rfl) (z115.toInt.toNat))
              intro z117 q117 _ hq117 hl117 hu117
              have hq117 : z117.toInt = (J77 38 (z104.toInt.toNat)).toInt + (J77 7 (z115.toInt.toNat)).toInt + 4294967296 * q117 := hq117
              try have hz117 : z117.toInt = (J77 38 (z104.toInt.toNat)).toInt + (J77 7 (z115.toInt.toNat)).toInt := by omega
              refine And.intro (show f_in z94 55 from ⟨show 0 ≤ z94.toInt from by omega, show z94.toInt < 55 from by omega⟩) ?_
              have hR118 := mR_a (k := 38) (j := z94.toInt.toNat) (x := z117) hR77c (by exact f_rng _)
              have hF118 := f_fr_up (k := 38) (r := upd (J77 38) (z94.toInt.toNat) z117) hF77c rfl
              have hmO118 := f_depo_up mO_dep (k := 38) (r := upd (J77 38) (z94.toInt.toNat) z117) hmO77c rfl (by decide)
              have hpK118 := f_depo_up pK_dep (k := 38) (r := upd (J77 38) (z94.toInt.toNat) z117) hpK77c rfl (by decide)
              intro z119 q119 _ hq119 hl119 hu119
              have hq119 : z119.toInt = k.toInt + 1 + 4294967296 * q119 := hq119
              try have hz119 : z119.toInt = k.toInt + 1 := by omega
              exact ⟨r, z119, (by intro q9 h9; simp only [List.mem_cons, List.not_mem_nil, or_false] at h9; rcases h9 with h9 | h9 | h9 | h9 | h9 <;> subst h9 <;> repeat (first | exact List.mem_cons_self | apply List.mem_cons_of_mem)), rfl, rfl, hR118, hF118, hmO118, hpK118, (show i.toInt < (I 0 53).toInt from by first | assumption | omega), (show 0 ≤ r.toInt from by first | assumption | omega), (show r.toInt ≤ 1599 from by first | assumption | omega), (show 0 ≤ z119.toInt from by first | assumption | omega), (show z119.toInt ≤ 5 from by first | assumption | omega), (show (5 - z119.toInt) < n77 from by omega)⟩
        refine f_wp_ok C f_cl flX12_ok fiX12_ok fjX12_ok (sn := none) (fun j h => by cases h) (cs := (fun _ => none)) (cz := (fun _ => none)) (fun j S h => by cases h) (fun j S h => by cases h) tX12_laySums_ok (cut := (f_cnl [(77, (fun (ls' : fLs) (st' : List Value) (I' : fM) (L' : fN) => ∃ r : Int32, ∃ k : Int32, (∀ q ∈ ([(4, .int k), (3, .int r), (2, .int i), (1, .int f), (0, .ref 0)] : fLs), q ∈ ls') ∧ st' = [] ∧ L' = L ∧ (mR I' ∧ f_fr [38] I I' ∧ mO I' ∧ pK I' ∧ (i.toInt < (I 0 53).toInt) ∧ (0 ≤ r.toInt) ∧ (r.toInt ≤ 1599) ∧ (0 ≤ k.toInt) ∧ (k.toInt ≤ 5) ∧ (5 - k.toInt) < 6)))])) (f_cnl_of (P := fun (tQ : Nat) (P : fLs → List Value → fM → fN → Prop) => ∀ ls' st' I' L', P ls' st' I' L' → f_W pP l eP (f_rm 0) sP mP aP bP hP9 cP mY 71 a cy dC dI 5 (f_K 0 (qX12_laySums [.ref 0, .int f] I L)) tQ ls' st' I' L') (List.forall_mem_cons.mpr ⟨(fun ls' st' I' L' h => by obtain ⟨r, k, hs, e1, e3, h9⟩ := h; rw [e1, e3]; exact f_W_sub hs (lp77 6 r k I' h9)), fun _ h => absurd h List.not_mem_nil⟩)) 21 50 (f_seek 50 0 tX12_laySums) (f_seek_ok 50 0 tX12_laySums tX12_laySums_ok) _ _ _ _ ?_
        have r52_1 : 0 ≤ (J50 0 53).toInt ∧ (J50 0 53).toInt ≤ 10 := hR50c 0 53
        have e52_2 : (J50 0 53).toInt = (I 0 53).toInt := congrArg Int32.toInt (congrFun (hF50c 0 rfl) 53)
        apply And.intro
        · intro h55
          have h55 : (J50 0 53).toInt ≤ i.toInt := h55
          exact ⟨hR50c, hmO50c, hpK50c, hF50c, rfl⟩
        · intro h55
          have h55 : i.toInt < (J50 0 53).toInt := h55
          intro z64 q64 _ hq64 hl64 hu64
          have hq64 : z64.toInt = 3 * i.toInt + 4294967296 * q64 := hq64
          try have hz64 : z64.toInt = 3 * i.toInt := by omega
          refine And.intro (show f_in i 10 from ⟨show 0 ≤ i.toInt from by omega, show i.toInt < 10 from by omega⟩) ?_
          have r70_3 : 0 ≤ (J50 37 (i.toInt.toNat)).toInt ∧ (J50 37 (i.toInt.toNat)).toInt ≤ 2 := hR50c 37 (i.toInt.toNat)
          have e70_4 : (J50 37 (i.toInt.toNat)).toInt = (I 37 (i.toInt.toNat)).toInt := congrArg Int32.toInt (congrFun (hF50c 37 rfl) (i.toInt.toNat))
          intro z71 q71 _ hq71 hl71 hu71
          have hq71 : z71.toInt = z64.toInt + (J50 37 (i.toInt.toNat)).toInt + 4294967296 * q71 := hq71
          try have hz71 : z71.toInt = z64.toInt + (J50 37 (i.toInt.toNat)).toInt := by omega
          have o72 : (J50 37 i.toInt.toNat).toInt < (J50 35 i.toInt.toNat).toInt ∧ (J50 35 i.toInt.toNat).toInt ≤ 3 := ⟨hpK50c i.toInt.toNat (by omega), (hR50c 35 _).2⟩
          refine And.intro (show f_in z71 30 from ⟨show 0 ≤ z71.toInt from by omega, show z71.toInt < 30 from by omega⟩) ?_
          have r72_5 : -1 ≤ (J50 36 (z71.toInt.toNat)).toInt ∧ (J50 36 (z71.toInt.toNat)).toInt ≤ 1599 := hR50c 36 (z71.toInt.toNat)
          have e72_6 : (J50 36 (z71.toInt.toNat)).toInt = (I 36 (z71.toInt.toNat)).toInt := congrArg Int32.toInt (congrFun (hF50c 36 rfl) (z71.toInt.toNat))
          have k72 := lvn_rng hR50c ((hmO50c.1 i.toInt.toNat (by omega)).2 z71.toInt.toNat (by omega) (by omega))
          exact ⟨J50 36 (z71.toInt.toNat), Int32.ofInt 0, (by intro q9 h9; simp only [List.mem_cons, List.not_mem_nil, or_false] at h9; rcases h9 with h9 | h9 | h9 | h9 | h9 <;> subst h9 <;> repeat (first | exact List.mem_cons_self | apply List.mem_cons_of_mem)), rfl, rfl, hR50c, hF50c, hmO50c, hpK50c, (show i.toInt < (I 0 53).toInt from by first | assumption | omega), (show 0 ≤ (J50 36 (z71.toInt.toNat)).toInt from by first | assumption | omega), (show (J50 36 (z71.toInt.toNat)).toInt ≤ 1599 from by first | assumption | omega), (show 0 ≤ (0 : Int) from by first | assumption | omega), (show (0 : Int) ≤ 5 from by first | assumption | omega), (show (5 - (0 : Int)) < 6 from by omega)⟩
    have lp2 : ∀ (n2 : Nat), ∀ (k : Int32) (J2 : fM), mR J2 ∧ f_fr [38] I J2 ∧ mO J2 ∧ pK J2 ∧ (0 ≤ k.toInt) ∧ (k.toInt ≤ 5) ∧ (5 - k.toInt) < n2 → f_W pP l eP (f_rm 0) sP mP aP bP hP9 cP mY 71 a cy dC dI 5 (f_K 0 (qX12_laySums [.ref 0, .int f] I L)) 2 [(2, .int k), (1, .int f), (0, .ref 0)] [] J2 L := by
      intro n2
      induction n2 with
      | zero =>
        intro k J2 h9
        obtain ⟨hR2c, hF2c, hmO2c, hpK2c, u2_1, u2_2, hm2⟩ := h9
        omega
      | succ n2 ih2 =>
        intro k J2 h9
        obtain ⟨hR2c, hF2c, hmO2c, hpK2c, u2_1, u2_2, hm2⟩ := h9
        refine f_wp_ok C f_cl flX12_ok fiX12_ok fjX12_ok (sn := none) (fun j h => by cases h) (cs := (fun _ => none)) (cz := (fun _ => none)) (fun j S h => by cases h) (fun j S h => by cases h) tX12_laySums_ok (cut := (f_cnl [(2, (fun (ls' : fLs) (st' : List Value) (I' : fM) (L' : fN) => ∃ k : Int32, (∀ q ∈ ([(2, .int k), (1, .int f), (0, .ref 0)] : fLs), q ∈ ls') ∧ st' = [] ∧ L' = L ∧ (mR I' ∧ f_fr [38] I I' ∧ mO I' ∧ pK I' ∧ (0 ≤ k.toInt) ∧ (k.toInt ≤ 5) ∧ (5 - k.toInt) < n2))), (50, (fun (ls' : fLs) (st' : List Value) (I' : fM) (L' : fN) => ∃ i : Int32, (∀ q ∈ ([(2, .int i), (1, .int f), (0, .ref 0)] : fLs), q ∈ ls') ∧ st' = [] ∧ L' = L ∧ (mR I' ∧ f_fr [38] I I' ∧ mO I' ∧ pK I' ∧ (0 ≤ i.toInt) ∧ (i.toInt ≤ 10) ∧ (10 - i.toInt) < 11)))])) (f_cnl_of (P := fun (tQ : Nat) (P : fLs → List Value → fM → fN → Prop) => ∀ ls' st' I' L', P ls' st' I' L' → f_W pP l eP (f_rm 0) sP mP aP bP hP9 cP mY 71 a cy dC dI 5 (f_K 0 (qX12_laySums [.ref 0, .int f] I L)) tQ ls' st' I' L') (List.forall_mem_cons.mpr ⟨(fun ls' st' I' L' h => by obtain ⟨k, hs, e1, e3, h9⟩ := h; rw [e1, e3]; exact f_W_sub hs (ih2 k I' h9)), List.forall_mem_cons.mpr ⟨(fun ls' st' I' L' h => by obtain ⟨i, hs, e1, e3, h9⟩ := h; rw [e1, e3]; exact f_W_sub hs (lp50 11 i I' h9)), fun _ h => absurd h List.not_mem_nil⟩⟩)) 27 2 (f_seek 2 0 tX12_laySums) (f_seek_ok 2 0 tX12_laySums tX12_laySums_ok) _ _ _ _ ?_
        apply And.intro
        · intro h4
          have h4 : 5 ≤ k.toInt := h4
          exact ⟨f, (by intro q9 h9; simp only [List.mem_cons, List.not_mem_nil, or_false] at h9; rcases h9 with h9 | h9 | h9 <;> subst h9 <;> repeat (first | exact List.mem_cons_self | apply List.mem_cons_of_mem)), rfl, rfl, hR2c, hF2c, hmO2c, hpK2c, (show 0 ≤ f.toInt from by first | assumption | omega), (show f.toInt ≤ 10 from by first | assumption | omega), (show (10 - f.toInt) < 11 from by omega)⟩
        · intro h4
          have h4 : k.toInt < 5 := h4
          apply And.intro
          · intro h8
            have h8 : ¬ f.toInt = 0 := h8
            exact ⟨f, (by intro q9 h9; simp only [List.mem_cons, List.not_mem_nil, or_false] at h9; rcases h9 with h9 | h9 | h9 <;> subst h9 <;> repeat (first | exact List.mem_cons_self | apply List.mem_cons_of_mem)), rfl, rfl, hR2c, hF2c, hmO2c, hpK2c, (show 0 ≤ f.toInt from by first | assumption | omega), (show f.toInt ≤ 10 from by first | assumption | omega), (show (10 - f.toInt) < 11 from by omega)⟩
          · intro h8
            have h8 : f.toInt = 0 := h8
            have r17_1 : -1 ≤ (J2 0 54).toInt ∧ (J2 0 54).toInt ≤ 1599 := hR2c 0 54
            have e17_2 : (J2 0 54).toInt = (I 0 54).toInt := congrArg Int32.toInt (congrFun (hF2c 0 rfl) 54)
            apply And.intro
            · intro h20
              have h20 : 0 ≤ (J2 0 54).toInt := h20
              intro z36 q36 _ hq36 hl36 hu36
              have hq36 : z36.toInt = 5 * (J2 0 54).toInt + 4294967296 * q36 := hq36
              try have hz36 : z36.toInt = 5 * (J2 0 54).toInt := by omega
              intro z38 q38 _ hq38 hl38 hu38
              have hq38 : z38.toInt = z36.toInt + k.toInt + 4294967296 * q38 := hq38
              try have hz38 : z38.toInt = z36.toInt + k.toInt := by omega
              refine And.intro (show f_in z38 8000 from ⟨show 0 ≤ z38.toInt from by omega, show z38.toInt < 8000 from by omega⟩) ?_
              have e39_4 : (J2 7 (z38.toInt.toNat)).toInt = (I 7 (z38.toInt.toNat)).toInt := congrArg Int32.toInt (congrFun (hF2c 7 rfl) (z38.toInt.toNat))
              intro z40 q40 _ hq40 hl40 hu40
              have hq40 : z40.toInt = -(J2 7 (z38.toInt.toNat)).toInt + 4294967296 * q40 := hq40
              try have hz40 : z40.toInt = -(J2 7 (z38.toInt.toNat)).toInt := by omega
              refine And.intro (show f_in k 55 from ⟨show 0 ≤ k.toInt from by omega, show k.toInt < 55 from by omega⟩) ?_
              have hR41 := mR_a (k := 38) (j := k.toInt.toNat) (x := z40) hR2c (by exact f_rng _)
              have hF41 := f_fr_up (k := 38) (r := upd (J2 38) (k.toInt.toNat) z40) hF2c rfl
              have hmO41 := f_depo_up mO_dep (k := 38) (r := upd (J2 38) (k.toInt.toNat) z40) hmO2c rfl (by decide)
              have hpK41 := f_depo_up pK_dep (k := 38) (r := upd (J2 38) (k.toInt.toNat) z40) hpK2c rfl (by decide)
              intro z42 q42 _ hq42 hl42 hu42
              have hq42 : z42.toInt = k.toInt + 1 + 4294967296 * q42 := hq42
              try have hz42 : z42.toInt = k.toInt + 1 := by omega
              exact ⟨z42, (by intro q9 h9; simp only [List.mem_cons, List.not_mem_nil, or_false] at h9; rcases h9 with h9 | h9 | h9 <;> subst h9 <;> repeat (first | exact List.mem_cons_self | apply List.mem_cons_of_mem)), rfl, rfl, hR41, hF41, hmO41, hpK41, (show 0 ≤ z42.toInt from by first | assumption | omega), (show z42.toInt ≤ 5 from by first | assumption | omega), (show (5 - z42.toInt) < n2 from by omega)⟩
            · intro h20
              have h20 : (J2 0 54).toInt < 0 := h20
              refine And.intro (show f_in k 55 from ⟨show 0 ≤ k.toInt from by omega, show k.toInt < 55 from by omega⟩) ?_
              have hR41 := mR_a (k := 38) (j := k.toInt.toNat) (x := Int32.ofInt 0) hR2c (by exact f_rng _)
              have hF41 := f_fr_up (k := 38) (r := upd (J2 38) (k.toInt.toNat) (Int32.ofInt 0)) hF2c rfl
              have hmO41 := f_depo_up mO_dep (k := 38) (r := upd (J2 38) (k.toInt.toNat) (Int32.ofInt 0)) hmO2c rfl (by decide)
              have hpK41 := f_depo_up pK_dep (k := 38) (r := upd (J2 38) (k.toInt.toNat) (Int32.ofInt 0)) hpK2c rfl (by decide)
              intro z42 q42 _ hq42 hl42 hu42
              have hq42 : z42.toInt = k.toInt + 1 + 4294967296 * q42 := hq42
              try have hz42 : z42.toInt = k.toInt + 1 := by omega
              exact ⟨z42, (by intro q9 h9; simp only [List.mem_cons, List.not_mem_nil, or_false] at h9; rcases h9 with h9 | h9 | h9 <;> subst h9 <;> repeat (first | exact List.mem_cons_self | apply List.mem_cons_of_mem)), rfl, rfl, hR41, hF41, hmO41, hpK41, (show 0 ≤ z42.toInt from by first | assumption | omega), (show z42.toInt ≤ 5 from by first | assumption | omega), (show (5 - z42.toInt) < n2 from by omega)⟩
    refine f_wp_ok C f_cl flX12_ok fiX12_ok fjX12_ok (sn := none) (fun j h => by cases h) (cs := (fun _ => none)) (cz := (fun _ => none)) (fun j S h => by cases h) (fun j S h => by cases h) tX12_laySums_ok (cut := (f_cnl [(2, (fun (ls' : fLs) (st' : List Value) (I' : fM) (L' : fN) => ∃ k : Int32, (∀ q ∈ ([(2, .int k), (1, .int f), (0, .ref 0)] : fLs), q ∈ ls') ∧ st' = [] ∧ L' = L ∧ (mR I' ∧ f_fr [38] I I' ∧ mO I' ∧ pK I' ∧ (0 ≤ k.toInt) ∧ (k.toInt ≤ 5) ∧ (5 - k.toInt) < 6)))])) (f_cnl_of (P := fun (tQ : Nat) (P : fLs → List Value → fM → fN → Prop) => ∀ ls' st' I' L', P ls' st' I' L' → f_W pP l eP (f_rm 0) sP mP aP bP hP9 cP mY 71 a cy dC dI 5 (f_K 0 (qX12_laySums [.ref 0, .int f] I L)) tQ ls' st' I' L') (List.forall_mem_cons.mpr ⟨(fun ls' st' I' L' h => by obtain ⟨k, hs, e1, e3, h9⟩ := h; rw [e1, e3]; exact f_W_sub hs (lp2 6 k I' h9)), fun _ h => absurd h List.not_mem_nil⟩)) 5 0 tX12_laySums tX12_laySums_ok _ _ _ _ ?_
    exact ⟨Int32.ofInt 0, (by intro q9 h9; simp only [List.mem_cons, List.not_mem_nil, or_false] at h9; rcases h9 with h9 | h9 | h9 <;> subst h9 <;> repeat (first | exact List.mem_cons_self | apply List.mem_cons_of_mem)), rfl, rfl, hR, hF0, hmO, hpK, (show 0 ≤ (0 : Int) from by first | assumption | omega), (show (0 : Int) ≤ 5 from by first | assumption | omega), (show (5 - (0 : Int)) < 6 from by omega)⟩
def tX12_firstPick : List (Instr × Nat) := [(.iconst 0, 1), (.istore_n 1, 1), (.iload_n 1, 1), (.aload_n 0, 1), (.getfield 407, 3), (.if_icmp .ge 16, 3), (.aload_n 0, 1), (.getfield 125, 3), (.iload_n 1, 1), (.iconst 0, 1), (.iastore, 1), (.iinc 1 1, 3), (.goto (-18), 3), (.aload_n 0, 1), (.iconst 0, 1), (.invokevirtual 422, 3), (.return_, 1)]
theorem tX12_firstPick_ok : f_chk cX12_firstPick 0 tX12_firstPick = true := by decide +kernel
def pX12_firstPick (av : List Value) (I : fM) (L : fN) : Prop := match av with
  | [.ref 0] => mR I ∧ mO I
  | _ => False
def qX12_firstPick (av : List Value) (I : fM) (L : fN) (r : Value) (I' : fM) (L' : fN) : Prop := match av, r with
  | [.ref 0], .null => mR I' ∧ mO I' ∧ f_fr [37, 38] I I' ∧ L' = L ∧ pK I'
  | _, _ => False
set_option maxHeartbeats 4000000 in
set_option maxRecDepth 100000 in
theorem mX12_firstPick {l : Launch} {a : Nat → Nat} {cy dC : Nat → ClassId} {dI : Nat → Nat → Nat} (hinj : ∀ i j, i < 71 → j < 71 → a i = a j → i = j) : f_Met (fun _ => True) l mY 71 a cy dC dI yX12_firstPick cX12_firstPick 2 0 1 pX12_firstPick qX12_firstPick := by
  refine f_met_of (f_Ec_T 71 a) hinj mY_hi (by decide) (fun av I L h => by unfold pX12_firstPick at h; split at h <;> first | exact Nat.le_of_ble_eq_true rfl | exact h.elim) ?_
  intro pP eP sP mP aP bP hP9 cP C av I L hp
  unfold pX12_firstPick at hp
  split at hp
  case h_2 => exact hp.elim
  case h_1 =>
    obtain ⟨hR, hmO⟩ := hp
    have hn : 0 ≤ (I 0 53).toInt ∧ (I 0 53).toInt ≤ 10 := hR 0 53
    have hF0 : f_fr [37, 38] I I := f_fr_rf
    have lp2 : ∀ (n2 : Nat), ∀ (i : Int32) (J2 : fM), mR J2 ∧ f_fr [37, 38] I J2 ∧ mO J2 ∧ (0 ≤ i.toInt) ∧ (i.toInt ≤ (I 0 53).toInt) ∧ ((∀ j : Nat, (j : Int) < i.toInt → (J2 37 j).toInt = 0)) ∧ ((I 0 53).toInt - i.toInt) < n2 → f_W pP l eP (f_rm 1) sP mP aP bP hP9 cP mY 71 a cy dC dI 2 (f_K 0 (qX12_firstPick [.ref 0] I L)) 2 [(1, .int i), (0, .ref 0)] [] J2 L := by
      intro n2
      induction n2 with
      | zero =>
        intro i J2 h9
        obtain ⟨hR2c, hF2c, hmO2c, u2_1, u2_2, u2_3, hm2⟩ := h9
        omega
      | succ n2 ih2 =>
        intro i J2 h9
        obtain ⟨hR2c, hF2c, hmO2c, u2_1, u2_2, u2_3, hm2⟩ := h9
        refine f_wp_ok C f_cl flX12_ok fiX12_ok fjX12_ok (sn := none) (fun j h => by cases h) (cs := (f_cnl [(422, (2, 0, 11, pX12_laySums, qX12_laySums))])) (cz := (fun _ => none)) (f_cnl_of (P := fun j S => f_cok pP l eP (f_rm 1) sP mP aP bP hP9 cP mY 71 a cy dC dI 2 _ _ (.invokevirtual j) true S) (List.forall_mem_cons.mpr ⟨f_cokV C (mX12_laySums hinj) (ci := 11) rfl (List.forall_mem_cons.mpr ⟨(mlX12_ok _ (List.mem_of_getElem? (i := 38) rfl)), kc_X12_laySums⟩) (by decide +kernel) ⟨Nat.le_of_ble_eq_true rfl, Nat.le_of_ble_eq_true rfl⟩, fun _ h => absurd h List.not_mem_nil⟩)) (fun j S h => by cases h) tX12_firstPick_ok (cut := (f_cnl [(2, (fun (ls' : fLs) (st' : List Value) (I' : fM) (L' : fN) => ∃ i : Int32, (∀ q ∈ ([(1, .int i), (0, .ref 0)] : fLs), q ∈ ls') ∧ st' = [] ∧ L' = L ∧ (mR I' ∧ f_fr [37, 38] I I' ∧ mO I' ∧ (0 ≤ i.toInt) ∧ (i.toInt ≤ (I 0 53).toInt) ∧ ((∀ j : Nat, (j : Int) < i.toInt → (I' 37 j).toInt = 0)) ∧ ((I 0 53).toInt - i.toInt) < n2)))])) (f_cnl_of (P := fun (tQ : Nat) (P : fLs → List Value → fM → fN → Prop) => ∀ ls' st' I' L', P ls' st' I' L' → f_W pP l eP (f_rm 1) sP mP aP bP hP9 cP mY 71 a cy dC dI 2 (f_K 0 (qX12_firstPick [.ref 0] I L)) tQ ls' st' I' L') (List.forall_mem_cons.mpr ⟨(fun ls' st' I' L' h => by obtain ⟨i, hs, e1, e3, h9⟩ := h; rw [e1, e3]; exact f_W_sub hs (ih2 i I' h9)), fun _ h => absurd h List.not_mem_nil⟩)) 14 2 (f_seek 2 0 tX12_firstPick) (f_seek_ok 2 0 tX12_firstPick tX12_firstPick_ok) _ _ _ _ ?_
        have r4_1 : 0 ≤ (J2 0 53).toInt ∧ (J2 0 53).toInt ≤ 10 := hR2c 0 53
        have e4_2 : (J2 0 53).toInt = (I 0 53).toInt := congrArg Int32.toInt (congrFun (hF2c 0 rfl) 53)
        apply And.intro
        · intro h7
          have h7 : (J2 0 53).toInt ≤ i.toInt := h7
          refine And.intro ⟨hR2c, hmO2c, (fun j hj => by
            have a1 := u2_3 j (by omega)
            have a2 := (hmO2c.1 j (by omega)).1
            omega), (show 0 ≤ (0 : Int) from by first | assumption | omega), (show (0 : Int) ≤ 10 from by first | assumption | omega)⟩ ?_
          intro I25 L25 hq25
          have hq25 : mR I25 ∧ mO I25 ∧ pK I25 ∧ f_fr [38] J2 I25 ∧ L25 = L := hq25
          obtain ⟨c25_0, c25_1, c25_2, c25_3, eL25⟩ := hq25
          replace eL25 := eL25.symm
          subst eL25
          have hF25 := f_fr_tr hF2c c25_3 rfl
          exact ⟨c25_0, c25_1, hF25, rfl, c25_2⟩
        · intro h7
          have h7 : i.toInt < (J2 0 53).toInt := h7
          refine And.intro (show f_in i 10 from ⟨show 0 ≤ i.toInt from by omega, show i.toInt < 10 from by omega⟩) ?_
          have hR16 := mR_a (k := 37) (j := i.toInt.toNat) (x := Int32.ofInt 0) hR2c (show 0 ≤ 0 ∧ 0 ≤ 2 from ⟨by omega, by omega⟩)
          have hF16 := f_fr_up (k := 37) (r := upd (J2 37) (i.toInt.toNat) (Int32.ofInt 0)) hF2c rfl
          have hmO16 := f_depo_up mO_dep (k := 37) (r := upd (J2 37) (i.toInt.toNat) (Int32.ofInt 0)) hmO2c rfl (by decide)
          intro z17 q17 _ hq17 hl17 hu17
          have hq17 : z17.toInt = i.toInt + 1 + 4294967296 * q17 := hq17
          try have hz17 : z17.toInt = i.toInt + 1 := by omega
          have q17 : ∀ j : Nat, (j : Int) < z17.toInt → ((upd (J2 37) i.toInt.toNat (Int32.ofInt 0)) j).toInt = 0 := fun j hj => by
            by_cases q : j = i.toInt.toNat
            · rw [q, pk_us]; rfl
            · rw [pk_un q]; exact u2_3 j (by omega)
          exact ⟨z17, (by intro q9 h9; simp only [List.mem_cons, List.not_mem_nil, or_false] at h9; rcases h9 with h9 | h9 <;> subst h9 <;> repeat (first | exact List.mem_cons_self | apply List.mem_cons_of_mem)), rfl, rfl, hR16, hF16, hmO16, (show 0 ≤ z17.toInt from by first | assumption | omega), (show z17.toInt ≤ (I 0 53).toInt from by first | assumption | omega), (show (∀ j : Nat, (j : Int) < z17.toInt → ((upd (J2 37) (i.toInt.toNat) (Int32.ofInt 0)) j).toInt = 0) from by first | assumption | omega | exact fun _ _ => rfl | exact fun _ _ => ⟨rfl, rfl⟩ | exact fun _ _ => ⟨rfl, rfl, rfl⟩ | (intro j9 hj9; omega)), (show ((I 0 53).toInt - z17.toInt) < n2 from by omega)⟩
    refine f_wp_ok C f_cl flX12_ok fiX12_ok fjX12_ok (sn := none) (fun j h => by cases h) (cs := (f_cnl [(422, (2, 0, 11, pX12_laySums, qX12_laySums))])) (cz := (fun _ => none)) (f_cnl_of (P := fun j S => f_cok pP l eP (f_rm 1) sP mP aP bP hP9 cP mY 71 a cy dC dI 2 _ _ (.invokevirtual j) true S) (List.forall_mem_cons.mpr ⟨f_cokV C (mX12_laySums hinj) (ci := 11) rfl (List.forall_mem_cons.mpr ⟨(mlX12_ok _ (List.mem_of_getElem? (i := 38) rfl)), kc_X12_laySums⟩) (by decide +kernel) ⟨Nat.le_of_ble_eq_true rfl, Nat.le_of_ble_eq_true rfl⟩, fun _ h => absurd h List.not_mem_nil⟩)) (fun j S h => by cases h) tX12_firstPick_ok (cut := (f_cnl [(2, (fun (ls' : fLs) (st' : List Value) (I' : fM) (L' : fN) => ∃ i : Int32, (∀ q ∈ ([(1, .int i), (0, .ref 0)] : fLs), q ∈ ls') ∧ st' = [] ∧ L' = L ∧ (mR I' ∧ f_fr [37, 38] I I' ∧ mO I' ∧ (0 ≤ i.toInt) ∧ (i.toInt ≤ (I 0 53).toInt) ∧ ((∀ j : Nat, (j : Int) < i.toInt → (I' 37 j).toInt = 0)) ∧ ((I 0 53).toInt - i.toInt) < 11)))])) (f_cnl_of (P := fun (tQ : Nat) (P : fLs → List Value → fM → fN → Prop) => ∀ ls' st' I' L', P ls' st' I' L' → f_W pP l eP (f_rm 1) sP mP aP bP hP9 cP mY 71 a cy dC dI 2 (f_K 0 (qX12_firstPick [.ref 0] I L)) tQ ls' st' I' L') (List.forall_mem_cons.mpr ⟨(fun ls' st' I' L' h => by obtain ⟨i, hs, e1, e3, h9⟩ := h; rw [e1, e3]; exact f_W_sub hs (lp2 11 i I' h9)), fun _ h => absurd h List.not_mem_nil⟩)) 5 0 tX12_firstPick tX12_firstPick_ok _ _ _ _ ?_
    have r2_1 : 0 ≤ (I 0 53).toInt ∧ (I 0 53).toInt ≤ 10 := hR 0 53
    exact ⟨Int32.ofInt 0, (by intro q9 h9; simp only [List.mem_cons, List.not_mem_nil, or_false] at h9; rcases h9 with h9 | h9 <;> subst h9 <;> repeat (first | exact List.mem_cons_self | apply List.mem_cons_of_mem)), rfl, rfl, hR, hF0, hmO, (show 0 ≤ (0 : Int) from by first | assumption | omega), (show (0 : Int) ≤ (I 0 53).toInt from by first | assumption | omega), (show (∀ j : Nat, (j : Int) < (0 : Int) → (I 37 j).toInt = 0) from by first | assumption | omega | exact fun _ _ => rfl | exact fun _ _ => ⟨rfl, rfl⟩ | exact fun _ _ => ⟨rfl, rfl, rfl⟩ | (intro j9 hj9; omega)), (show ((I 0 53).toInt - (0 : Int)) < 11 from by omega)⟩
/-- the picks as one number -/
def pvl (P : Nat → Int32) : Nat → Int
  | 0 => 0
  | n + 1 => 3 * pvl P n + (P n).toInt
theorem pvl_rng {P : Nat → Int32} (h : ∀ j, 0 ≤ (P j).toInt ∧ (P j).toInt ≤ 2) : ∀ n : Nat, 0 ≤ pvl P n ∧ pvl P n < 3 ^ n
  | 0 => ⟨by simp [pvl], by simp [pvl]⟩
  | n + 1 => by
    have q := pvl_rng h n
    have w := h n
    have e : (3 : Int) ^ (n + 1) = 3 * 3 ^ n := by rw [Int.pow_succ, Int.mul_comm]
    simp only [pvl]
    omega
theorem pvl_10 {P : Nat → Int32} (h : ∀ j, 0 ≤ (P j).toInt ∧ (P j).toInt ≤ 2) {n : Nat} (hn : n ≤ 10) : 0 ≤ pvl P n ∧ pvl P n < 59049 := by
  have q := pvl_rng h n
  have w : (3 : Int) ^ n ≤ 3 ^ 10 := by
    have := Nat.pow_le_pow_right (n := 3) (by decide) hn
    exact_mod_cast this
  have e : (3 : Int) ^ 10 = 59049 := by decide
  omega
theorem pvl_same {P P' : Nat → Int32} : ∀ {n : Nat}, (∀ j, j < n → P' j = P j) → pvl P' n = pvl P n
  | 0, _ => rfl
  | n + 1, h => by
    simp only [pvl]
    rw [pvl_same (fun j hj => h j (by omega)), h n (by omega)]
theorem pvl_lt {P P' : Nat → Int32} (h2 : ∀ j, 0 ≤ (P j).toInt ∧ (P j).toInt ≤ 2) (h2' : ∀ j, 0 ≤ (P' j).toInt ∧ (P' j).toInt ≤ 2) {i : Nat} (hb : ∀ j, j < i → P' j = P j) (hi : (P' i).toInt = (P i).toInt + 1) : ∀ {n : Nat}, i < n → pvl P n < pvl P' n
  | 0, h => by omega
  | n + 1, h => by
    simp only [pvl]
    by_cases e : i = n
    · subst e
      rw [pvl_same hb]
      omega
    · have q := pvl_lt h2 h2' hb hi (n := n) (by omega)
      have w := h2 n
      have w' := h2' n
      omega
def tX12_nextPick : List (Instr × Nat) := [(.aload_n 0, 1), (.getfield 407, 3), (.iconst 1, 1), (.isub, 1), (.istore_n 1, 1), (.iload_n 1, 1), (.ifCond .lt 33, 3), (.aload_n 0, 1), (.getfield 125, 3), (.iload_n 1, 1), (.iaload, 1), (.iconst 1, 1), (.iadd, 1), (.aload_n 0, 1), (.getfield 119, 3), (.iload_n 1, 1), (.iaload, 1), (.if_icmp .ne 16, 3), (.aload_n 0, 1), (.getfield 125, 3), (.iload_n 1, 1), (.iconst 0, 1), (.iastore, 1), (.iinc 1 (-1), 3), (.goto (-31), 3), (.iload_n 1, 1), (.ifCond .ge 5, 3), (.iconst 0, 1), (.ireturn, 1), (.aload_n 0, 1), (.getfield 125, 3), (.iload_n 1, 1), (.dup2, 1), (.iaload, 1), (.iconst 1, 1), (.iadd, 1), (.iastore, 1), (.aload_n 0, 1), (.iload_n 1, 1), (.invokevirtual 422, 3), (.iconst 1, 1), (.ireturn, 1)]
theorem tX12_nextPick_ok : f_chk cX12_nextPick 0 tX12_nextPick = true := by decide +kernel
def pX12_nextPick (av : List Value) (I : fM) (L : fN) : Prop := match av with
  | [.ref 0] => mR I ∧ mO I ∧ pK I
  | _ => False
def qX12_nextPick (av : List Value) (I : fM) (L : fN) (r : Value) (I' : fM) (L' : fN) : Prop := match av, r with
  | [.ref 0], .int x => mR I' ∧ mO I' ∧ pK I' ∧ f_fr [37, 38] I I' ∧ L' = L ∧ (x.toInt = 0 ∨ x.toInt = 1) ∧ (x.toInt = 1 → pvl (I 37) (I 0 53).toInt.toNat < pvl (I' 37) (I 0 53).toInt.toNat)
  | _, _ => False
set_option maxHeartbeats 4000000 in
set_option maxRecDepth 100000 in
theorem mX12_nextPick {l : Launch} {a : Nat → Nat} {cy dC : Nat → ClassId} {dI : Nat → Nat → Nat} (hinj : ∀ i j, i < 71 → j < 71 → a i = a j → i = j) : f_Met (fun _ => True) l mY 71 a cy dC dI yX12_nextPick cX12_nextPick 2 3 1 pX12_nextPick qX12_nextPick := by
  refine f_met_of (f_Ec_T 71 a) hinj mY_hi (by decide) (fun av I L h => by unfold pX12_nextPick at h; split at h <;> first | exact Nat.le_of_ble_eq_true rfl | exact h.elim) ?_
  intro pP eP sP mP aP bP hP9 cP C av I L hp
  unfold pX12_nextPick at hp
  split at hp
  case h_2 => exact hp.elim
  case h_1 =>
    obtain ⟨hR, hmO, hpK⟩ := hp
    have hn : 0 ≤ (I 0 53).toInt ∧ (I 0 53).toInt ≤ 10 := hR 0 53
    have hF0 : f_fr [37, 38] I I := f_fr_rf
    have lp7 : ∀ (n7 : Nat), ∀ (i : Int32) (J7 : fM), mR J7 ∧ f_fr [37, 38] I J7 ∧ mO J7 ∧ pK J7 ∧ (-1 ≤ i.toInt) ∧ (i.toInt < (I 0 53).toInt) ∧ ((∀ j : Nat, (j : Int) ≤ i.toInt → J7 37 j = I 37 j)) ∧ ((∀ j : Nat, i.toInt < j → (j : Int) < (I 0 53).toInt → (J7 37 j).toInt = 0)) ∧ (1 + i.toInt) < n7 → f_W pP l eP (f_rm 1) sP mP aP bP hP9 cP mY 71 a cy dC dI 2 (f_K 3 (qX12_nextPick [.ref 0] I L)) 7 [(1, .int i), (0, .ref 0)] [] J7 L := by
      intro n7
      induction n7 with
      | zero =>
        intro i J7 h9
        obtain ⟨hR7c, hF7c, hmO7c, hpK7c, u7_1, u7_2, u7_3, u7_4, hm7⟩ := h9
        omega
      | succ n7 ih7 =>
        intro i J7 h9
        obtain ⟨hR7c, hF7c, hmO7c, hpK7c, u7_1, u7_2, u7_3, u7_4, hm7⟩ := h9
        refine f_wp_ok C f_cl flX12_ok fiX12_ok fjX12_ok (sn := none) (fun j h => by cases h) (cs := (f_cnl [(422, (2, 0, 11, pX12_laySums, qX12_laySums))])) (cz := (fun _ => none)) (f_cnl_of (P := fun j S => f_cok pP l eP (f_rm 1) sP mP aP bP hP9 cP mY 71 a cy dC dI 2 _ _ (.invokevirtual j) true S) (List.forall_mem_cons.mpr ⟨f_cokV C (mX12_laySums hinj) (ci := 11) rfl (List.forall_mem_cons.mpr ⟨(mlX12_ok _ (List.mem_of_getElem? (i := 38) rfl)), kc_X12_laySums⟩) (by decide +kernel) ⟨Nat.le_of_ble_eq_true rfl, Nat.le_of_ble_eq_true rfl⟩, fun _ h => absurd h List.not_mem_nil⟩)) (fun j S h => by cases h) tX12_nextPick_ok (cut := (f_cnl [(7, (fun (ls' : fLs) (st' : List Value) (I' : fM) (L' : fN) => ∃ i : Int32, (∀ q ∈ ([(1, .int i), (0, .ref 0)] : fLs), q ∈ ls') ∧ st' = [] ∧ L' = L ∧ (mR I' ∧ f_fr [37, 38] I I' ∧ mO I' ∧ pK I' ∧ (-1 ≤ i.toInt) ∧ (i.toInt < (I 0 53).toInt) ∧ ((∀ j : Nat, (j : Int) ≤ i.toInt → I' 37 j = I 37 j)) ∧ ((∀ j : Nat, i.toInt < j → (j : Int) < (I 0 53).toInt → (I' 37 j).toInt = 0)) ∧ (1 + i.toInt) < n7)))])) (f_cnl_of (P := fun (tQ : Nat) (P : fLs → List Value → fM → fN → Prop) => ∀ ls' st' I' L', P ls' st' I' L' → f_W pP l eP (f_rm 1) sP mP aP bP hP9 cP mY 71 a cy dC dI 2 (f_K 3 (qX12_nextPick [.ref 0] I L)) tQ ls' st' I' L') (List.forall_mem_cons.mpr ⟨(fun ls' st' I' L' h => by obtain ⟨i, hs, e1, e3, h9⟩ := h; rw [e1, e3]; exact f_W_sub hs (ih7 i I' h9)), fun _ h => absurd h List.not_mem_nil⟩)) 31 7 (f_seek 7 0 tX12_nextPick) (f_seek_ok 7 0 tX12_nextPick tX12_nextPick_ok) _ _ _ _ ?_
        have e7 : (J7 0 53).toInt = (I 0 53).toInt := congrArg Int32.toInt (congrFun (hF7c 0 rfl) 53)
        apply And.intro
        · intro h8
          have h8 : i.toInt < 0 := h8
          apply And.intro
          · intro h42
            have h42 : 0 ≤ i.toInt := h42
            exfalso
            omega
          · intro h42
            have h42 : i.toInt < 0 := h42
            exact ⟨Or.inl rfl, hR7c, hmO7c, hpK7c, hF7c, rfl, (show ((0 : Int) = 0 ∨ (0 : Int) = 1) from by first | assumption | omega | rfl), (show ((0 : Int) = 1 → pvl (I 37) (I 0 53).toInt.toNat < pvl (J7 37) (I 0 53).toInt.toNat) from fun h => absurd h (by decide))⟩
        · intro h8
          have h8 : 0 ≤ i.toInt := h8
          have o11 : (J7 37 i.toInt.toNat).toInt < (J7 35 i.toInt.toNat).toInt := by rw [u7_3 i.toInt.toNat (by omega), hF7c 35 rfl]; exact hpK i.toInt.toNat (by omega)
          have p11 : (J7 35 i.toInt.toNat).toInt ≤ 3 := (hR7c 35 _).2
          refine And.intro (show f_in i 10 from ⟨show 0 ≤ i.toInt from by omega, show i.toInt < 10 from by omega⟩) ?_
          have r16_1 : 0 ≤ (J7 37 (i.toInt.toNat)).toInt ∧ (J7 37 (i.toInt.toNat)).toInt ≤ 2 := hR7c 37 (i.toInt.toNat)
          intro z18 q18 _ hq18 hl18 hu18
          have hq18 : z18.toInt = (J7 37 (i.toInt.toNat)).toInt + 1 + 4294967296 * q18 := hq18
          try have hz18 : z18.toInt = (J7 37 (i.toInt.toNat)).toInt + 1 := by omega
          refine And.intro (show f_in i 10 from ⟨show 0 ≤ i.toInt from by omega, show i.toInt < 10 from by omega⟩) ?_
          have r24_2 : 0 ≤ (J7 35 (i.toInt.toNat)).toInt ∧ (J7 35 (i.toInt.toNat)).toInt ≤ 3 := hR7c 35 (i.toInt.toNat)
          have e24_3 : (J7 35 (i.toInt.toNat)).toInt = (I 35 (i.toInt.toNat)).toInt := congrArg Int32.toInt (congrFun (hF7c 35 rfl) (i.toInt.toNat))
          apply And.intro
          · intro h25
            have h25 : ¬ z18.toInt = (J7 35 (i.toInt.toNat)).toInt := h25
            apply And.intro
            · intro h42
              have h42 : 0 ≤ i.toInt := h42
              have o47 : (J7 37 i.toInt.toNat).toInt < (J7 35 i.toInt.toNat).toInt ∧ (J7 35 i.toInt.toNat).toInt ≤ 3 := ⟨by rw [u7_3 i.toInt.toNat (by omega), hF7c 35 rfl]; exact hpK i.toInt.toNat (by omega), (hR7c 35 _).2⟩
              refine And.intro (show f_in i 10 from ⟨show 0 ≤ i.toInt from by omega, show i.toInt < 10 from by omega⟩) ?_
              intro z55 q55 _ hq55 hl55 hu55
              have hq55 : z55.toInt = (J7 37 (i.toInt.toNat)).toInt + 1 + 4294967296 * q55 := hq55
              try have hz55 : z55.toInt = (J7 37 (i.toInt.toNat)).toInt + 1 := by omega
              refine And.intro (show f_in i 10 from ⟨show 0 ≤ i.toInt from by omega, show i.toInt < 10 from by omega⟩) ?_
              have hR56 := mR_a (k := 37) (j := i.toInt.toNat) (x := z55) hR7c (show 0 ≤ z55.toInt ∧ z55.toInt ≤ 2 from ⟨by omega, by omega⟩)
              have hF56 := f_fr_up (k := 37) (r := upd (J7 37) (i.toInt.toNat) z55) hF7c rfl
              have hmO56 := f_depo_up mO_dep (k := 37) (r := upd (J7 37) (i.toInt.toNat) z55) hmO7c rfl (by decide)
              have hpK56 : pK (va_up J7 37 (upd (J7 37) (i.toInt.toNat) z55)) := fun j hj => by
                have hj : (j : Int) < (J7 0 53).toInt := hj
                show ((upd (J7 37) i.toInt.toNat z55) j).toInt < (J7 35 j).toInt
                by_cases q : j = i.toInt.toNat
                · rw [q, pk_us]; omega
                · rw [pk_un q]; exact hpK7c j hj
              refine And.intro ⟨hR56, hmO56, hpK56, (show 0 ≤ i.toInt from by first | assumption | omega), (show i.toInt ≤ 10 from by first | assumption | omega)⟩ ?_
              intro I59 L59 hq59
              have hq59 : mR I59 ∧ mO I59 ∧ pK I59 ∧ f_fr [38] (va_up J7 37 (upd (J7 37) (i.toInt.toNat) z55)) I59 ∧ L59 = L := hq59
              obtain ⟨c59_0, c59_1, c59_2, c59_3, eL59⟩ := hq59
              replace eL59 := eL59.symm
              subst eL59
              have hF59 := f_fr_tr hF56 c59_3 rfl
              exact ⟨Or.inr rfl, c59_0, c59_1, c59_2, hF59, rfl, (show ((1 : Int) = 0 ∨ (1 : Int) = 1) from by first | assumption | omega | rfl), (show ((1 : Int) = 1 → pvl (I 37) (I 0 53).toInt.toNat < pvl (I59 37) (I 0 53).toInt.toNat) from fun _ => by
                rw [c59_3 37 rfl]
                show pvl (I 37) _ < pvl (upd (J7 37) i.toInt.toNat z55) _
                refine pvl_lt (i := i.toInt.toNat) (fun j => hR 37 j) (fun j => hR56 37 j) (fun j hj => ?_) ?_ (by omega)
                · show (upd (J7 37) i.toInt.toNat z55) j = _
                  rw [pk_un (by omega)]; exact u7_3 j (by omega)
                · show ((upd (J7 37) i.toInt.toNat z55) i.toInt.toNat).toInt = _
                  rw [pk_us, ← u7_3 i.toInt.toNat (by omega)]; omega)⟩
            · intro h42
              have h42 : i.toInt < 0 := h42
              exfalso
              omega
          · intro h25
            have h25 : z18.toInt = (J7 35 (i.toInt.toNat)).toInt := h25
            refine And.intro (show f_in i 10 from ⟨show 0 ≤ i.toInt from by omega, show i.toInt < 10 from by omega⟩) ?_
            have hR34 := mR_a (k := 37) (j := i.toInt.toNat) (x := Int32.ofInt 0) hR7c (show 0 ≤ 0 ∧ 0 ≤ 2 from ⟨by omega, by omega⟩)
            have hF34 := f_fr_up (k := 37) (r := upd (J7 37) (i.toInt.toNat) (Int32.ofInt 0)) hF7c rfl
            have hmO34 := f_depo_up mO_dep (k := 37) (r := upd (J7 37) (i.toInt.toNat) (Int32.ofInt 0)) hmO7c rfl (by decide)
            have hpK34 : pK (va_up J7 37 (upd (J7 37) (i.toInt.toNat) (Int32.ofInt 0))) := fun j hj => by
              have hj : (j : Int) < (J7 0 53).toInt := hj
              show ((upd (J7 37) i.toInt.toNat (Int32.ofInt 0)) j).toInt < (J7 35 j).toInt
              by_cases q : j = i.toInt.toNat
              · rw [q, pk_us]
                have := (hmO7c.1 i.toInt.toNat (by omega)).1
                show (0 : Int) < _
                omega
              · rw [pk_un q]; exact hpK7c j hj
            intro z35 q35 _ hq35 hl35 hu35
            have hq35 : z35.toInt = i.toInt + (-1) + 4294967296 * q35 := hq35
            try have hz35 : z35.toInt = i.toInt + (-1) := by omega
            have q35 : ∀ j : Nat, (j : Int) ≤ z35.toInt → (upd (J7 37) i.toInt.toNat (Int32.ofInt 0)) j = I 37 j := fun j hj => by rw [pk_un (by omega)]; exact u7_3 j (by omega)
            have r35 : ∀ j : Nat, z35.toInt < j → (j : Int) < (I 0 53).toInt → ((upd (J7 37) i.toInt.toNat (Int32.ofInt 0)) j).toInt = 0 := fun j h1 h2 => by
              by_cases q : j = i.toInt.toNat
              · rw [q, pk_us]; rfl
              · rw [pk_un q]; exact u7_4 j (by omega) h2
            exact ⟨z35, (by intro q9 h9; simp only [List.mem_cons, List.not_mem_nil, or_false] at h9; rcases h9 with h9 | h9 <;> subst h9 <;> repeat (first | exact List.mem_cons_self | apply List.mem_cons_of_mem)), rfl, rfl, hR34, hF34, hmO34, hpK34, (show -1 ≤ z35.toInt from by first | assumption | omega), (show z35.toInt < (I 0 53).toInt from by first | assumption | omega), (show (∀ j : Nat, (j : Int) ≤ z35.toInt → (upd (J7 37) (i.toInt.toNat) (Int32.ofInt 0)) j = I 37 j) from by first | assumption | omega | exact fun _ _ => rfl | exact fun _ _ => ⟨rfl, rfl⟩ | exact fun _ _ => ⟨rfl, rfl, rfl⟩ | (intro j9 hj9; omega)), (show (∀ j : Nat, z35.toInt < j → (j : Int) < (I 0 53).toInt → ((upd (J7 37) (i.toInt.toNat) (Int32.ofInt 0)) j).toInt = 0) from by first | assumption | omega | exact fun _ _ => rfl | exact fun _ _ => ⟨rfl, rfl⟩ | exact fun _ _ => ⟨rfl, rfl, rfl⟩ | (intro j9 hj9; omega)), (show (1 + z35.toInt) < n7 from by omega)⟩
    refine f_wp_ok C f_cl flX12_ok fiX12_ok fjX12_ok (sn := none) (fun j h => by cases h) (cs := (f_cnl [(422, (2, 0, 11, pX12_laySums, qX12_laySums))])) (cz := (fun _ => none)) (f_cnl_of (P := fun j S => f_cok pP l eP (f_rm 1) sP mP aP bP hP9 cP mY 71 a cy dC dI 2 _ _ (.invokevirtual j) true S) (List.forall_mem_cons.mpr ⟨f_cokV C (mX12_laySums hinj) (ci := 11) rfl (List.forall_mem_cons.mpr ⟨(mlX12_ok _ (List.mem_of_getElem? (i := 38) rfl)), kc_X12_laySums⟩) (by decide +kernel) ⟨Nat.le_of_ble_eq_true rfl, Nat.le_of_ble_eq_true rfl⟩, fun _ h => absurd h List.not_mem_nil⟩)) (fun j S h => by cases h) tX12_nextPick_ok (cut := (f_cnl [(7, (fun (ls' : fLs) (st' : List Value) (I' : fM) (L' : fN) => ∃ i : Int32, (∀ q ∈ ([(1, .int i), (0, .ref 0)] : fLs), q ∈ ls') ∧ st' = [] ∧ L' = L ∧ (mR I' ∧ f_fr [37, 38] I I' ∧ mO I' ∧ pK I' ∧ (-1 ≤ i.toInt) ∧ (i.toInt < (I 0 53).toInt) ∧ ((∀ j : Nat, (j : Int) ≤ i.toInt → I' 37 j = I 37 j)) ∧ ((∀ j : Nat, i.toInt < j → (j : Int) < (I 0 53).toInt → (I' 37 j).toInt = 0)) ∧ (1 + i.toInt) < 12)))])) (f_cnl_of (P := fun (tQ : Nat) (P : fLs → List Value → fM → fN → Prop) => ∀ ls' st' I' L', P ls' st' I' L' → f_W pP l eP (f_rm 1) sP mP aP bP hP9 cP mY 71 a cy dC dI 2 (f_K 3 (qX12_nextPick [.ref 0] I L)) tQ ls' st' I' L') (List.forall_mem_cons.mpr ⟨(fun ls' st' I' L' h => by obtain ⟨i, hs, e1, e3, h9⟩ := h; rw [e1, e3]; exact f_W_sub hs (lp7 12 i I' h9)), fun _ h => absurd h List.not_mem_nil⟩)) 8 0 tX12_nextPick tX12_nextPick_ok _ _ _ _ ?_
    have r1_1 : 0 ≤ (I 0 53).toInt ∧ (I 0 53).toInt ≤ 10 := hR 0 53
    intro z5 q5 _ hq5 hl5 hu5
    have hq5 : z5.toInt = (I 0 53).toInt - 1 + 4294967296 * q5 := hq5
    try have hz5 : z5.toInt = (I 0 53).toInt - 1 := by omega
    exact ⟨z5, (by intro q9 h9; simp only [List.mem_cons, List.not_mem_nil, or_false] at h9; rcases h9 with h9 | h9 <;> subst h9 <;> repeat (first | exact List.mem_cons_self | apply List.mem_cons_of_mem)), rfl, rfl, hR, hF0, hmO, hpK, (show -1 ≤ z5.toInt from by first | assumption | omega), (show z5.toInt < (I 0 53).toInt from by first | assumption | omega), (show (∀ j : Nat, (j : Int) ≤ z5.toInt → I 37 j = I 37 j) from by first | assumption | omega | exact fun _ _ => rfl | exact fun _ _ => ⟨rfl, rfl⟩ | exact fun _ _ => ⟨rfl, rfl, rfl⟩ | (intro j9 hj9; omega)), (show (∀ j : Nat, z5.toInt < j → (j : Int) < (I 0 53).toInt → (I 37 j).toInt = 0) from by first | assumption | omega | exact fun _ _ => rfl | exact fun _ _ => ⟨rfl, rfl⟩ | exact fun _ _ => ⟨rfl, rfl, rfl⟩ | (intro j9 hj9; omega)), (show (1 + z5.toInt) < 12 from by omega)⟩
/-- the leaves of the goal and of what is picked -/
def eS (I : fM) : Nat → Int
  | 0 => (I 6 (I 0 54).toInt.toNat).toInt
  | n + 1 => eS I n + (I 6 (I 36 (3 * n + (I 37 n).toInt.toNat)).toInt.toNat).toInt
def tX12_endsOf : List (Instr × Nat) := [(.aload_n 0, 1), (.getfield 30, 3), (.aload_n 0, 1), (.getfield 416, 3), (.iaload, 1), (.istore_n 1, 1), (.iconst 0, 1), (.istore_n 2, 1), (.iload_n 2, 1), (.aload_n 0, 1), (.getfield 407, 3), (.if_icmp .ge 32, 3), (.iload_n 1, 1), (.aload_n 0, 1), (.getfield 30, 3), (.aload_n 0, 1), (.getfield 122, 3), (.iconst 3, 1), (.iload_n 2, 1), (.imul, 1), (.aload_n 0, 1), (.getfield 125, 3), (.iload_n 2, 1), (.iaload, 1), (.iadd, 1), (.iaload, 1), (.iaload, 1), (.iadd, 1), (.istore_n 1, 1), (.iinc 2 1, 3), (.goto (-34), 3), (.iload_n 1, 1), (.ireturn, 1)]
theorem tX12_endsOf_ok : f_chk cX12_endsOf 0 tX12_endsOf = true := by decide +kernel
def pX12_endsOf (av : List Value) (I : fM) (L : fN) : Prop := match av with
  | [.ref 0] => mR I ∧ mL I ∧ mO I ∧ pK I ∧ 0 ≤ (I 0 54).toInt
  | _ => False
def qX12_endsOf (av : List Value) (I : fM) (L : fN) (r : Value) (I' : fM) (L' : fN) : Prop := match av, r with
  | [.ref 0], .int x => I' = I ∧ L' = L ∧ x.toInt = eS I (I 0 53).toInt.toNat
  | _, _ => False
set_option maxHeartbeats 4000000 in
set_option maxRecDepth 100000 in
theorem mX12_endsOf {l : Launch} {a : Nat → Nat} {cy dC : Nat → ClassId} {dI : Nat → Nat → Nat} (hinj : ∀ i j, i < 71 → j < 71 → a i = a j → i = j) : f_Met (fun _ => True) l mY 71 a cy dC dI yX12_endsOf cX12_endsOf 3 1 0 pX12_endsOf qX12_endsOf := by
  refine f_met_of (f_Ec_T 71 a) hinj mY_hi (by decide) (fun av I L h => by unfold pX12_endsOf at h; split at h <;> first | exact Nat.le_of_ble_eq_true rfl | exact h.elim) ?_
  intro pP eP sP mP aP bP hP9 cP C av I L hp
  unfold pX12_endsOf at hp
  split at hp
  case h_2 => exact hp.elim
  case h_1 =>
    obtain ⟨hR, hmL, hmO, hpK, p4⟩ := hp
    have hn : 0 ≤ (I 0 53).toInt ∧ (I 0 53).toInt ≤ 10 := hR 0 53
    have hg : lvn I (I 0 54).toInt := by rcases hmO.2 with h | h; (exfalso; omega); exact h
    have hg2 := lvn_ok hR hmL hg
    have lp12 : ∀ (n12 : Nat), ∀ (n : Int32) (i : Int32), (0 ≤ i.toInt) ∧ (i.toInt ≤ (I 0 53).toInt) ∧ (n.toInt = eS I i.toInt.toNat) ∧ (0 ≤ n.toInt) ∧ (n.toInt ≤ 4 + 4 * i.toInt) ∧ ((I 0 53).toInt - i.toInt) < n12 → f_W pP l eP (f_rm 0) sP mP aP bP hP9 cP mY 71 a cy dC dI 3 (f_K 1 (qX12_endsOf [.ref 0] I L)) 12 [(2, .int i), (1, .int n), (0, .ref 0)] [] I L := by
      intro n12
      induction n12 with
      | zero =>
        intro n i h9
        obtain ⟨u12_1, u12_2, u12_3, u12_4, u12_5, hm12⟩ := h9
        omega
      | succ n12 ih12 =>
        intro n i h9
        obtain ⟨u12_1, u12_2, u12_3, u12_4, u12_5, hm12⟩ := h9
        refine f_wp_ok C f_cl flX12_ok fiX12_ok fjX12_ok (sn := none) (fun j h => by cases h) (cs := (fun _ => none)) (cz := (fun _ => none)) (fun j S h => by cases h) (fun j S h => by cases h) tX12_endsOf_ok (cut := (f_cnl [(12, (fun (ls' : fLs) (st' : List Value) (I' : fM) (L' : fN) => ∃ n : Int32, ∃ i : Int32, (∀ q ∈ ([(2, .int i), (1, .int n), (0, .ref 0)] : fLs), q ∈ ls') ∧ st' = [] ∧ I' = I ∧ L' = L ∧ ((0 ≤ i.toInt) ∧ (i.toInt ≤ (I 0 53).toInt) ∧ (n.toInt = eS I i.toInt.toNat) ∧ (0 ≤ n.toInt) ∧ (n.toInt ≤ 4 + 4 * i.toInt) ∧ ((I 0 53).toInt - i.toInt) < n12)))])) (f_cnl_of (P := fun (tQ : Nat) (P : fLs → List Value → fM → fN → Prop) => ∀ ls' st' I' L', P ls' st' I' L' → f_W pP l eP (f_rm 0) sP mP aP bP hP9 cP mY 71 a cy dC dI 3 (f_K 1 (qX12_endsOf [.ref 0] I L)) tQ ls' st' I' L') (List.forall_mem_cons.mpr ⟨(fun ls' st' I' L' h => by obtain ⟨n, i, hs, e1, e2, e3, h9⟩ := h; rw [e1, e2, e3]; exact f_W_sub hs (ih12 n i h9)), fun _ h => absurd h List.not_mem_nil⟩)) 26 12 (f_seek 12 0 tX12_endsOf) (f_seek_ok 12 0 tX12_endsOf tX12_endsOf_ok) _ _ _ _ ?_
        have r14_1 : 0 ≤ (I 0 53).toInt ∧ (I 0 53).toInt ≤ 10 := hR 0 53
        apply And.intro
        · intro h17
          have h17 : (I 0 53).toInt ≤ i.toInt := h17
          exact ⟨rfl, rfl, (by rw [u12_3]; congr 1; omega)⟩
        · intro h17
          have h17 : i.toInt < (I 0 53).toInt := h17
          have o20 : (I 37 i.toInt.toNat).toInt < (I 35 i.toInt.toNat).toInt ∧ (I 35 i.toInt.toNat).toInt ≤ 3 := ⟨hpK i.toInt.toNat (by omega), (hR 35 _).2⟩
          have o20b : 0 ≤ (I 37 i.toInt.toNat).toInt := (hR 37 _).1
          intro z31 q31 _ hq31 hl31 hu31
          have hq31 : z31.toInt = 3 * i.toInt + 4294967296 * q31 := hq31
          try have hz31 : z31.toInt = 3 * i.toInt := by omega
          refine And.intro (show f_in i 10 from ⟨show 0 ≤ i.toInt from by omega, show i.toInt < 10 from by omega⟩) ?_
          have r37_2 : 0 ≤ (I 37 (i.toInt.toNat)).toInt ∧ (I 37 (i.toInt.toNat)).toInt ≤ 2 := hR 37 (i.toInt.toNat)
          intro z38 q38 _ hq38 hl38 hu38
          have hq38 : z38.toInt = z31.toInt + (I 37 (i.toInt.toNat)).toInt + 4294967296 * q38 := hq38
          try have hz38 : z38.toInt = z31.toInt + (I 37 (i.toInt.toNat)).toInt := by omega
          refine And.intro (show f_in z38 30 from ⟨show 0 ≤ z38.toInt from by omega, show z38.toInt < 30 from by omega⟩) ?_
          have r39_3 : -1 ≤ (I 36 (z38.toInt.toNat)).toInt ∧ (I 36 (z38.toInt.toNat)).toInt ≤ 1599 := hR 36 (z38.toInt.toNat)
          have k39 := lvn_ok hR hmL ((hmO.1 i.toInt.toNat (by omega)).2 z38.toInt.toNat (by omega) (by omega))
          refine And.intro (show f_in (I 36 (z38.toInt.toNat)) 1600 from ⟨show 0 ≤ (I 36 (z38.toInt.toNat)).toInt from by omega, show (I 36 (z38.toInt.toNat)).toInt < 1600 from by omega⟩) ?_
          intro z41 q41 _ hq41 hl41 hu41
          have hq41 : z41.toInt = n.toInt + (I 6 ((I 36 (z38.toInt.toNat)).toInt.toNat)).toInt + 4294967296 * q41 := hq41
          try have hz41 : z41.toInt = n.toInt + (I 6 ((I 36 (z38.toInt.toNat)).toInt.toNat)).toInt := by omega
          intro z43 q43 _ hq43 hl43 hu43
          have hq43 : z43.toInt = i.toInt + 1 + 4294967296 * q43 := hq43
          try have hz43 : z43.toInt = i.toInt + 1 := by omega
          have q43 : z41.toInt = eS I z43.toInt.toNat := by
            rw [show z43.toInt.toNat = i.toInt.toNat + 1 by omega]
            simp only [eS]
            rw [← u12_3, show 3 * i.toInt.toNat + (I 37 i.toInt.toNat).toInt.toNat = z38.toInt.toNat by omega]
            omega
          exact ⟨z41, z43, (by intro q9 h9; simp only [List.mem_cons, List.not_mem_nil, or_false] at h9; rcases h9 with h9 | h9 | h9 <;> subst h9 <;> repeat (first | exact List.mem_cons_self | apply List.mem_cons_of_mem)), rfl, rfl, rfl, (show 0 ≤ z43.toInt from by first | assumption | omega), (show z43.toInt ≤ (I 0 53).toInt from by first | assumption | omega), (show z41.toInt = eS I z43.toInt.toNat from by first | assumption | omega | rfl), (show 0 ≤ z41.toInt from by first | assumption | omega), (show z41.toInt ≤ 4 + 4 * z43.toInt from by first | assumption | omega), (show ((I 0 53).toInt - z43.toInt) < n12 from by omega)⟩
    refine f_wp_ok C f_cl flX12_ok fiX12_ok fjX12_ok (sn := none) (fun j h => by cases h) (cs := (fun _ => none)) (cz := (fun _ => none)) (fun j S h => by cases h) (fun j S h => by cases h) tX12_endsOf_ok (cut := (f_cnl [(12, (fun (ls' : fLs) (st' : List Value) (I' : fM) (L' : fN) => ∃ n : Int32, ∃ i : Int32, (∀ q ∈ ([(2, .int i), (1, .int n), (0, .ref 0)] : fLs), q ∈ ls') ∧ st' = [] ∧ I' = I ∧ L' = L ∧ ((0 ≤ i.toInt) ∧ (i.toInt ≤ (I 0 53).toInt) ∧ (n.toInt = eS I i.toInt.toNat) ∧ (0 ≤ n.toInt) ∧ (n.toInt ≤ 4 + 4 * i.toInt) ∧ ((I 0 53).toInt - i.toInt) < 11)))])) (f_cnl_of (P := fun (tQ : Nat) (P : fLs → List Value → fM → fN → Prop) => ∀ ls' st' I' L', P ls' st' I' L' → f_W pP l eP (f_rm 0) sP mP aP bP hP9 cP mY 71 a cy dC dI 3 (f_K 1 (qX12_endsOf [.ref 0] I L)) tQ ls' st' I' L') (List.forall_mem_cons.mpr ⟨(fun ls' st' I' L' h => by obtain ⟨n, i, hs, e1, e2, e3, h9⟩ := h; rw [e1, e2, e3]; exact f_W_sub hs (lp12 11 n i h9)), fun _ h => absurd h List.not_mem_nil⟩)) 11 0 tX12_endsOf tX12_endsOf_ok _ _ _ _ ?_
    have r5_1 : -1 ≤ (I 0 54).toInt ∧ (I 0 54).toInt ≤ 1599 := hR 0 54
    refine And.intro (show f_in (I 0 54) 1600 from ⟨show 0 ≤ (I 0 54).toInt from by omega, show (I 0 54).toInt < 1600 from by omega⟩) ?_
    have r12_3 : 0 ≤ (I 0 53).toInt ∧ (I 0 53).toInt ≤ 10 := hR 0 53
    exact ⟨I 6 ((I 0 54).toInt.toNat), Int32.ofInt 0, (by intro q9 h9; simp only [List.mem_cons, List.not_mem_nil, or_false] at h9; rcases h9 with h9 | h9 | h9 <;> subst h9 <;> repeat (first | exact List.mem_cons_self | apply List.mem_cons_of_mem)), rfl, rfl, rfl, (show 0 ≤ (0 : Int) from by first | assumption | omega), (show (0 : Int) ≤ (I 0 53).toInt from by first | assumption | omega), (show (I 6 ((I 0 54).toInt.toNat)).toInt = eS I 0 from by first | assumption | omega | rfl), (show 0 ≤ (I 6 ((I 0 54).toInt.toNat)).toInt from by first | assumption | omega), (show (I 6 ((I 0 54).toInt.toNat)).toInt ≤ 4 + 4 * (0 : Int) from by first | assumption | omega), (show ((I 0 53).toInt - (0 : Int)) < 11 from by omega)⟩
def tX12_means : List (Instr × Nat) := [(.aload_n 0, 1), (.getfield 161, 3), (.bipush 30, 2), (.aload_n 0, 1), (.getfield 463, 3), (.imul, 1), (.aload_n 0, 1), (.getfield 158, 3), (.aload_n 0, 1), (.getfield 463, 3), (.iaload, 1), (.iadd, 1), (.iload_n 1, 1), (.iastore, 1), (.aload_n 0, 1), (.getfield 158, 3), (.aload_n 0, 1), (.getfield 463, 3), (.dup2, 1), (.iaload, 1), (.iconst 1, 1), (.iadd, 1), (.iastore, 1), (.return_, 1)]
theorem tX12_means_ok : f_chk cX12_means 0 tX12_means = true := by decide +kernel
def pX12_means (av : List Value) (I : fM) (L : fN) : Prop := match av with
  | [.ref 0, .int n] => mR I ∧ (I 0 69).toInt ≤ 299 ∧ (I 48 (I 0 69).toInt.toNat).toInt ≤ 29
  | _ => False
def qX12_means (av : List Value) (I : fM) (L : fN) (r : Value) (I' : fM) (L' : fN) : Prop := match av, r with
  | [.ref 0, .int n], .null => mR I' ∧ f_fr [48, 49] I I' ∧ L' = L ∧ (I' 48 (I 0 69).toInt.toNat).toInt = (I 48 (I 0 69).toInt.toNat).toInt + 1
  | _, _ => False
set_option maxHeartbeats 4000000 in
set_option maxRecDepth 100000 in
theorem mX12_means {l : Launch} {a : Nat → Nat} {cy dC : Nat → ClassId} {dI : Nat → Nat → Nat} (hinj : ∀ i j, i < 71 → j < 71 → a i = a j → i = j) : f_Met (fun _ => True) l mY 71 a cy dC dI yX12_means cX12_means 2 0 0 pX12_means qX12_means := by
  refine f_met_of (f_Ec_T 71 a) hinj mY_hi (by decide) (fun av I L h => by unfold pX12_means at h; split at h <;> first | exact Nat.le_of_ble_eq_true rfl | exact h.elim) ?_
  intro pP eP sP mP aP bP hP9 cP C av I L hp
  unfold pX12_means at hp
  split at hp
  case h_2 => exact hp.elim
  case h_1 n =>
    obtain ⟨hR, p1, p2⟩ := hp
    have hF0 : f_fr [48, 49] I I := f_fr_rf
    refine f_wp_ok C f_cl flX12_ok fiX12_ok fjX12_ok (sn := none) (fun j h => by cases h) (cs := (fun _ => none)) (cz := (fun _ => none)) (fun j S h => by cases h) (fun j S h => by cases h) tX12_means_ok (cut := (fun _ => none)) (fun t P h => by cases h) 27 0 tX12_means tX12_means_ok _ _ _ _ ?_
    have r7_1 : 0 ≤ (I 0 69).toInt ∧ (I 0 69).toInt ≤ 300 := hR 0 69
    intro z10 q10 _ hq10 hl10 hu10
    have hq10 : z10.toInt = 30 * (I 0 69).toInt + 4294967296 * q10 := hq10
    try have hz10 : z10.toInt = 30 * (I 0 69).toInt := by omega
    refine And.intro (show f_in (I 0 69) 300 from ⟨show 0 ≤ (I 0 69).toInt from by omega, show (I 0 69).toInt < 300 from by omega⟩) ?_
    have r19_2 : 0 ≤ (I 48 ((I 0 69).toInt.toNat)).toInt ∧ (I 48 ((I 0 69).toInt.toNat)).toInt ≤ 30 := hR 48 ((I 0 69).toInt.toNat)
    intro z20 q20 _ hq20 hl20 hu20
    have hq20 : z20.toInt = z10.toInt + (I 48 ((I 0 69).toInt.toNat)).toInt + 4294967296 * q20 := hq20
    try have hz20 : z20.toInt = z10.toInt + (I 48 ((I 0 69).toInt.toNat)).toInt := by omega
    refine And.intro (show f_in z20 9000 from ⟨show 0 ≤ z20.toInt from by omega, show z20.toInt < 9000 from by omega⟩) ?_
    have hR22 := mR_a (k := 49) (j := z20.toInt.toNat) (x := n) hR (by exact f_rng _)
    have hF22 := f_fr_up (k := 49) (r := upd (I 49) (z20.toInt.toNat) n) hF0 rfl
    refine And.intro (show f_in (I 0 69) 300 from ⟨show 0 ≤ (I 0 69).toInt from by omega, show (I 0 69).toInt < 300 from by omega⟩) ?_
    intro z34 q34 _ hq34 hl34 hu34
    have hq34 : z34.toInt = (I 48 ((I 0 69).toInt.toNat)).toInt + 1 + 4294967296 * q34 := hq34
    try have hz34 : z34.toInt = (I 48 ((I 0 69).toInt.toNat)).toInt + 1 := by omega
    refine And.intro (show f_in (I 0 69) 300 from ⟨show 0 ≤ (I 0 69).toInt from by omega, show (I 0 69).toInt < 300 from by omega⟩) ?_
    have hR35 := mR_a (k := 48) (j := (I 0 69).toInt.toNat) (x := z34) hR22 (show 0 ≤ z34.toInt ∧ z34.toInt ≤ 30 from ⟨by omega, by omega⟩)
    have hF35 := f_fr_up (k := 48) (r := upd (I 48) ((I 0 69).toInt.toNat) z34) hF22 rfl
    exact ⟨hR35, hF35, rfl, (by
      show ((upd (I 48) (I 0 69).toInt.toNat z34) (I 0 69).toInt.toNat).toInt = _
      rw [pk_us]; omega)⟩
def tX12_saysOf : List (Instr × Nat) := [(.aload_n 0, 1), (.getfield 92, 3), (.iload_n 1, 1), (.iaload, 1), (.iconst (-1), 1), (.if_icmp .ne 12, 3), (.aload_n 0, 1), (.getfield 131, 3), (.iload_n 1, 1), (.iaload, 1), (.goto 12, 3), (.bipush 100, 2), (.aload_n 0, 1), (.getfield 167, 3), (.iload_n 1, 1), (.iaload, 1), (.iadd, 1), (.ireturn, 1)]
theorem tX12_saysOf_ok : f_chk cX12_saysOf 0 tX12_saysOf = true := by decide +kernel
def pX12_saysOf (av : List Value) (I : fM) (L : fN) : Prop := match av with
  | [.ref 0, .int g] => 0 ≤ g.toInt ∧ g.toInt ≤ 39
  | _ => False
def qX12_saysOf (av : List Value) (I : fM) (L : fN) (r : Value) (I' : fM) (L' : fN) : Prop := match av, r with
  | [.ref 0, .int g], .int x => I' = I ∧ L' = L
  | _, _ => False
set_option maxHeartbeats 4000000 in
set_option maxRecDepth 100000 in
theorem mX12_saysOf {l : Launch} {a : Nat → Nat} {cy dC : Nat → ClassId} {dI : Nat → Nat → Nat} (hinj : ∀ i j, i < 71 → j < 71 → a i = a j → i = j) : f_Met (fun _ => True) l mY 71 a cy dC dI yX12_saysOf cX12_saysOf 2 1 0 pX12_saysOf qX12_saysOf := by
  refine f_met_of (f_Ec_T 71 a) hinj mY_hi (by decide) (fun av I L h => by unfold pX12_saysOf at h; split at h <;> first | exact Nat.le_of_ble_eq_true rfl | exact h.elim) ?_
  intro pP eP sP mP aP bP hP9 cP C av I L hp
  unfold pX12_saysOf at hp
  split at hp
  case h_2 => exact hp.elim
  case h_1 g =>
    obtain ⟨p0, p1⟩ := hp
    refine f_wp_ok C f_cl flX12_ok fiX12_ok fjX12_ok (sn := none) (fun j h => by cases h) (cs := (fun _ => none)) (cz := (fun _ => none)) (fun j S h => by cases h) (fun j S h => by cases h) tX12_saysOf_ok (cut := (fun _ => none)) (fun t P h => by cases h) 16 0 tX12_saysOf tX12_saysOf_ok _ _ _ _ ?_
    refine And.intro (show f_in g 40 from ⟨show 0 ≤ g.toInt from by omega, show g.toInt < 40 from by omega⟩) ?_
    apply And.intro
    · intro h7
      have h7 : ¬ (I 26 (g.toInt.toNat)).toInt = (-1) := h7
      refine And.intro (show f_in g 40 from ⟨show 0 ≤ g.toInt from by omega, show g.toInt < 40 from by omega⟩) ?_
      intro z27 q27 _ hq27 hl27 hu27
      have hq27 : z27.toInt = 100 + (I 51 (g.toInt.toNat)).toInt + 4294967296 * q27 := hq27
      try have hz27 : z27.toInt = 100 + (I 51 (g.toInt.toNat)).toInt := by omega
      exact ⟨rfl, rfl⟩
    · intro h7
      have h7 : (I 26 (g.toInt.toNat)).toInt = (-1) := h7
      refine And.intro (show f_in g 40 from ⟨show 0 ≤ g.toInt from by omega, show g.toInt < 40 from by omega⟩) ?_
      exact ⟨rfl, rfl⟩
