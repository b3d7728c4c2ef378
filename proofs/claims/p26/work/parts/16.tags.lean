/-! tags as digits of three bits: preorder, leaves below 5 -/
def dg (S j : Nat) : Nat := S / 8 ^ j % 8
def cn (D : Nat → Nat) (i : Nat) : Nat → Int
  | 0 => 1
  | k + 1 => cn D i k + (if D (i + k) < 5 then -1 else 1)
def tsub (D : Nat → Nat) (i n : Nat) : Prop := 0 < n ∧ (∀ k, k < n → 0 < cn D i k) ∧ cn D i n = 0
theorem cn_add (D : Nat → Nat) (i m : Nat) : ∀ k, cn D i (m + k) = cn D i m - 1 + cn D (i + m) k
  | 0 => by simp only [cn, Nat.add_zero]; omega
  | k + 1 => by
    have h := cn_add D i m k
    show cn D i (m + k) + (if D (i + (m + k)) < 5 then -1 else 1) = cn D i m - 1 + (cn D (i + m) k + (if D (i + m + k) < 5 then -1 else 1))
    rw [h, Nat.add_assoc i m k]
    omega
theorem cn_1 {D : Nat → Nat} {i : Nat} (h : 5 ≤ D i) (k : Nat) : cn D i (1 + k) = cn D (i + 1) k + 1 := by
  rw [cn_add D i 1 k]
  have e : cn D i 1 = 2 := by
    show (1 : Int) + (if D (i + 0) < 5 then -1 else 1) = 2
    rw [if_neg (by rw [Nat.add_zero]; omega)]
    rfl
  omega
theorem tsub_leaf {D : Nat → Nat} {i n : Nat} (h : tsub D i n) (hd : D i < 5) : n = 1 := by
  obtain ⟨h0, h1, h2⟩ := h
  rcases Nat.lt_or_ge 1 n with q | q
  · have e : cn D i 1 = 0 := by
      show (1 : Int) + (if D (i + 0) < 5 then -1 else 1) = 0
      rw [if_pos (by rw [Nat.add_zero]; exact hd)]
      rfl
    have := h1 1 q
    omega
  · omega
theorem tsub_mk {D : Nat → Nat} {i : Nat} (hd : D i < 5) : tsub D i 1 := by
  refine ⟨by omega, fun k hk => ?_, ?_⟩
  · have : k = 0 := by omega
    subst this
    show (0 : Int) < 1
    omega
  · show (1 : Int) + (if D (i + 0) < 5 then -1 else 1) = 0
    rw [if_pos (by rw [Nat.add_zero]; exact hd)]
    rfl
theorem tsub_or (D : Nat → Nat) (i : Nat) : ∀ N, (∀ k, k ≤ N → 0 < cn D i k) ∨ (∃ m, m ≤ N ∧ tsub D i m)
  | 0 => Or.inl fun k hk => by
    have : k = 0 := by omega
    subst this
    show (0 : Int) < 1
    omega
  | N + 1 => by
    rcases tsub_or D i N with h | ⟨m, h1, h2⟩
    · have hN := h N (Nat.le_refl _)
      have e : cn D i (N + 1) = cn D i N + (if D (i + N) < 5 then -1 else 1) := rfl
      by_cases q : 0 < cn D i (N + 1)
      · refine Or.inl fun k hk => ?_
        rcases Nat.lt_or_ge k (N + 1) with w | w
        · exact h k (by omega)
        · have : k = N + 1 := by omega
          subst this
          exact q
      · refine Or.inr ⟨N + 1, Nat.le_refl _, by omega, fun k hk => h k (by omega), ?_⟩
        split at e <;> omega
    · exact Or.inr ⟨m, by omega, h2⟩
theorem tsub_find {D : Nat → Nat} {i N : Nat} (h : cn D i N < 0) : ∃ m, m < N ∧ tsub D i m := by
  rcases tsub_or D i N with q | ⟨m, h1, h2⟩
  · have := q N (Nat.le_refl _)
    omega
  · refine ⟨m, ?_, h2⟩
    rcases Nat.lt_or_ge m N with w | w
    · exact w
    · have : m = N := by omega
      subst this
      have := h2.2.2
      omega
theorem tsub_split {D : Nat → Nat} {i n : Nat} (h : tsub D i n) (hd : 5 ≤ D i) : ∃ n1 n2, tsub D (i + 1) n1 ∧ tsub D (i + 1 + n1) n2 ∧ n = 1 + n1 + n2 := by
  obtain ⟨h0, h1, h2⟩ := h
  have e : cn D (i + 1) (n - 1) < 0 := by
    have e1 := cn_1 hd (n - 1)
    rw [show 1 + (n - 1) = n by omega] at e1
    omega
  obtain ⟨m, hm, ht⟩ := tsub_find e
  have em : cn D i (1 + m) = 1 := by rw [cn_1 hd m, ht.2.2]; omega
  have ek : ∀ k, cn D (i + 1 + m) k = cn D i (1 + m + k) := by
    intro k
    have q := cn_add D i (1 + m) k
    rw [show i + (1 + m) = i + 1 + m by omega] at q
    omega
  refine ⟨m, n - 1 - m, ht, ⟨by omega, fun k hk => ?_, ?_⟩, by omega⟩
  · rw [ek]
    exact h1 _ (by omega)
  · rw [ek, show 1 + m + (n - 1 - m) = n by omega]
    exact h2
theorem tsub_join {D : Nat → Nat} {i n1 n2 : Nat} (hd : 5 ≤ D i) (ha : tsub D (i + 1) n1) (hb : tsub D (i + 1 + n1) n2) : tsub D i (1 + n1 + n2) := by
  have em : cn D i (1 + n1) = 1 := by rw [cn_1 hd n1, ha.2.2]; omega
  have ek : ∀ k, cn D i (1 + n1 + k) = cn D (i + 1 + n1) k := by
    intro k
    have q := cn_add D i (1 + n1) k
    rw [show i + (1 + n1) = i + 1 + n1 by omega] at q
    omega
  refine ⟨by omega, fun k hk => ?_, by rw [ek]; exact hb.2.2⟩
  rcases Nat.lt_or_ge k 1 with w | w
  · have : k = 0 := by omega
    subst this
    show (0 : Int) < 1
    omega
  · rcases Nat.lt_or_ge k (1 + n1) with w2 | w2
    · rw [show k = 1 + (k - 1) by omega, cn_1 hd]
      have := ha.2.1 (k - 1) (by omega)
      omega
    · rw [show k = 1 + n1 + (k - (1 + n1)) by omega, ek]
      exact hb.2.1 _ (by omega)
theorem cn_congr {D D' : Nat → Nat} {i i' : Nat} : ∀ {n : Nat}, (∀ k, k < n → D (i + k) = D' (i' + k)) → cn D i n = cn D' i' n
  | 0, _ => rfl
  | n + 1, h => by
    have e := cn_congr (D := D) (D' := D') (i := i) (i' := i') (n := n) (fun k hk => h k (by omega))
    show cn D i n + (if D (i + n) < 5 then -1 else 1) = cn D' i' n + (if D' (i' + n) < 5 then -1 else 1)
    rw [e, h n (by omega)]
theorem tsub_congr {D D' : Nat → Nat} {i i' n : Nat} (h : tsub D i n) (he : ∀ k, k < n → D (i + k) = D' (i' + k)) : tsub D' i' n :=
  ⟨h.1, fun k hk => by rw [← cn_congr (D := D) (i := i) (fun j hj => he j (by omega))]; exact h.2.1 k hk, by rw [← cn_congr (D := D) (i := i) (fun j hj => he j (by omega))]; exact h.2.2⟩
/-- a tag: its digits, and how many in its highest byte -/
def dgT (t : Int32) (j : Nat) : Nat := dg t.toInt.toNat j
def wfT (t : Int32) (n : Nat) : Prop := ∃ S : Nat, t.toInt = S + 16777216 * n ∧ n ≤ 7 ∧ S < 8 ^ n ∧ tsub (dg S) 0 n
theorem dg_hi {S n j : Nat} (hj : j ≤ 7) : dg (S + 16777216 * n) j = dg S j := by
  unfold dg
  have hp : 8 ^ j * (8 * (2097152 / 8 ^ j)) = 16777216 := by
    rcases (by omega : j = 0 ∨ j = 1 ∨ j = 2 ∨ j = 3 ∨ j = 4 ∨ j = 5 ∨ j = 6 ∨ j = 7) with rfl | rfl | rfl | rfl | rfl | rfl | rfl | rfl <;> decide
  rw [← hp, Nat.mul_assoc, Nat.add_mul_div_left _ _ (Nat.pos_of_ne_zero (by
    intro e
    have := Nat.pow_eq_zero.mp e
    omega))]
  rw [Nat.mul_assoc, Nat.add_mul_mod_self_left]
theorem dgT_of {t : Int32} {S n : Nat} (h : t.toInt = S + 16777216 * n) {j : Nat} (hj : j ≤ 7) : dgT t j = dg S j := by
  unfold dgT
  rw [h, show ((S : Int) + 16777216 * n).toNat = S + 16777216 * n by omega]
  exact dg_hi hj
theorem wfT_sub {t : Int32} {n : Nat} (h : wfT t n) : 0 ≤ t.toInt ∧ n ≤ 7 ∧ tsub (dgT t) 0 n := by
  obtain ⟨S, h1, h2, h3, h4⟩ := h
  refine ⟨by omega, h2, tsub_congr h4 (fun k hk => ?_)⟩
  rw [dgT_of h1 (by omega)]
