/-! tying: every level ties two ends more -/
def ct (P : Nat → Int32) : Nat → Int
  | 0 => 0
  | n + 1 => ct P n + (if 0 ≤ (P n).toInt then 1 else 0)
theorem ct_cong {P P' : Nat → Int32} : ∀ {n : Nat}, (∀ i, i < n → P' i = P i) → ct P' n = ct P n
  | 0, _ => rfl
  | n + 1, h => by
    simp only [ct]
    rw [ct_cong (fun i hi => h i (by omega)), h n (by omega)]
theorem ct_le (P : Nat → Int32) : ∀ n : Nat, 0 ≤ ct P n ∧ ct P n ≤ n
  | 0 => ⟨Int.le_refl _, Int.le_refl _⟩
  | n + 1 => by
    have q := ct_le P n
    simp only [ct]
    by_cases h : 0 ≤ (P n).toInt
    · rw [if_pos h]; omega
    · rw [if_neg h]; omega
theorem ct_free {P : Nat → Int32} {i : Nat} (hi : (P i).toInt < 0) : ∀ {n : Nat}, i < n → ct P n ≤ n - 1
  | 0, h => by omega
  | n + 1, h => by
    simp only [ct]
    by_cases e : i = n
    · subst e
      rw [if_neg (by omega)]
      have := ct_le P i
      omega
    · have q := ct_free hi (n := n) (by omega)
      by_cases h : 0 ≤ (P n).toInt
      · rw [if_pos h]; omega
      · rw [if_neg h]; omega
theorem ct_up {P : Nat → Int32} {i : Nat} {x : Int32} : ∀ {n : Nat}, i < n → ct (upd P i x) n = ct P n + (if 0 ≤ x.toInt then 1 else 0) - (if 0 ≤ (P i).toInt then 1 else 0)
  | 0, h => by omega
  | n + 1, h => by
    simp only [ct]
    by_cases e : i = n
    · subst e
      rw [ct_cong (P := P) (fun j hj => pk_un (by omega)), pk_us]
      omega
    · rw [ct_up (n := n) (by omega), pk_un (fun q => e q.symm)]
      omega
theorem ct_all {P : Nat → Int32} (h : ∀ e, (P e).toInt = -1 ∨ 0 ≤ (P e).toInt) : ∀ n : Nat, (∀ e, e < n → (P e).toInt = -1) → ct P n = 0
  | 0, _ => rfl
  | n + 1, q => by
    simp only [ct]
    rw [ct_all h n (fun e he => q e (by omega)), if_neg (by have := q n (by omega); omega)]
    rfl
/-- the places tried, as one number -/
def tyM (R : Nat → Int32) : Nat → Int
  | 0 => 0
  | n + 1 => tyM R n + (21 - (R n).toInt) * 22 ^ (10 - n)
theorem tyM_cong {R R' : Nat → Int32} : ∀ {n : Nat}, (∀ i, i < n → R' i = R i) → tyM R' n = tyM R n
  | 0, _ => rfl
  | n + 1, h => by
    simp only [tyM]
    rw [tyM_cong (fun i hi => h i (by omega)), h n (by omega)]
theorem p22 (n : Nat) : (1 : Int) ≤ 22 ^ n := by
  induction n with
  | zero => decide
  | succ n ih => rw [Int.pow_succ]; omega
theorem tyM_rng {R : Nat → Int32} (h : ∀ j, 0 ≤ (R j).toInt ∧ (R j).toInt ≤ 19) : ∀ {n : Nat}, n ≤ 11 → 0 ≤ tyM R n ∧ tyM R n + 22 ^ (11 - n) ≤ 22 ^ 11
  | 0, _ => ⟨Int.le_refl _, by simp [tyM]⟩
  | n + 1, hn => by
    have q := tyM_rng h (n := n) (by omega)
    have w := h n
    have e : (22 : Int) ^ (11 - n) = 22 ^ (10 - n) * 22 := by rw [show 11 - n = (10 - n) + 1 by omega, Int.pow_succ]
    have p := p22 (10 - n)
    rw [show 11 - (n + 1) = 10 - n by omega]
    simp only [tyM]
    have m1 : (21 - (R n).toInt) * 22 ^ (10 - n) ≤ 21 * 22 ^ (10 - n) := Int.mul_le_mul_of_nonneg_right (by omega) (by omega)
    have m2 : 0 ≤ (21 - (R n).toInt) * 22 ^ (10 - n) := Int.mul_nonneg (by omega) (by omega)
    omega
theorem tyM_back {R : Nat → Int32} (h : ∀ j, 0 ≤ (R j).toInt ∧ (R j).toInt ≤ 19) (n : Nat) : tyM R n < tyM R (n + 1) := by
  simp only [tyM]
  have p := p22 (10 - n)
  have w := h n
  have : 1 * (22 : Int) ^ (10 - n) ≤ (21 - (R n).toInt) * 22 ^ (10 - n) := Int.mul_le_mul_of_nonneg_right (by omega) (by omega)
  omega
theorem tyM_on {R : Nat → Int32} {n : Nat} {x : Int32} (hx : (R n).toInt < x.toInt) : tyM (upd R n x) (n + 1) + 22 ^ (10 - n) ≤ tyM R (n + 1) := by
  simp only [tyM]
  rw [tyM_cong (R := R) (fun i hi => pk_un (by omega)), pk_us]
  have p := p22 (10 - n)
  have : (21 - x.toInt + 1) * (22 : Int) ^ (10 - n) ≤ (21 - (R n).toInt) * 22 ^ (10 - n) := Int.mul_le_mul_of_nonneg_right (by omega) (by omega)
  rw [Int.add_mul, Int.one_mul] at this
  omega
theorem tyM_push {R : Nat → Int32} {n : Nat} {y : Int32} (hn : n ≤ 9) (hy : 0 ≤ y.toInt) : tyM (upd R (n + 1) y) (n + 2) < tyM R (n + 1) + 22 ^ (10 - n) := by
  simp only [tyM]
  rw [tyM_cong (R := R) (fun i hi => pk_un (by omega)), pk_us, pk_un (by omega)]
  have p := p22 (10 - (n + 1))
  have e : (22 : Int) ^ (10 - n) = 22 ^ (10 - (n + 1)) * 22 := by rw [show 10 - n = (10 - (n + 1)) + 1 by omega, Int.pow_succ]
  have : (21 - y.toInt) * (22 : Int) ^ (10 - (n + 1)) ≤ 21 * 22 ^ (10 - (n + 1)) := Int.mul_le_mul_of_nonneg_right (by omega) (by omega)
  omega
/-- ties go both ways, between a given end and a wanted one -/
def syT (P Gv : Nat → Int32) (E : Int) : Prop := ∀ e : Nat, (e : Int) < E → (P e).toInt = -1 ∨ 0 ≤ (P e).toInt ∧ (P e).toInt < E ∧ (P (P e).toInt.toNat).toInt = e ∧ ¬ (Gv (P e).toInt.toNat).toInt = (Gv e).toInt
theorem syT_tie {P Gv : Nat → Int32} {E : Int} {i j : Int32} (h : syT P Gv E) (hi : 0 ≤ i.toInt ∧ i.toInt < E) (hj : 0 ≤ j.toInt ∧ j.toInt < E) (hij : ¬ i.toInt = j.toInt) (pi : (P i.toInt.toNat).toInt = -1) (pj : (P j.toInt.toNat).toInt = -1) (hg : ¬ (Gv j.toInt.toNat).toInt = (Gv i.toInt.toNat).toInt) : syT (upd (upd P i.toInt.toNat j) j.toInt.toNat i) Gv E := by
  intro e he
  by_cases q : e = j.toInt.toNat
  · subst q
    rw [pk_us]
    refine Or.inr ⟨hi.1, hi.2, ?_, fun w => hg w.symm⟩
    rw [pk_un (by omega), pk_us]; omega
  · rw [pk_un q]
    by_cases q' : e = i.toInt.toNat
    · subst q'
      rw [pk_us]
      refine Or.inr ⟨hj.1, hj.2, ?_, hg⟩
      rw [pk_us]; omega
    · rw [pk_un q']
      rcases h e he with a | ⟨a1, a2, a3, a4⟩
      · exact Or.inl a
      · have n1 : ¬ (P e).toInt.toNat = i.toInt.toNat := fun w => by rw [w] at a3; omega
        have n2 : ¬ (P e).toInt.toNat = j.toInt.toNat := fun w => by rw [w] at a3; omega
        refine Or.inr ⟨a1, a2, ?_, a4⟩
        rw [pk_un n2, pk_un n1]; exact a3
theorem syT_cut {P Gv : Nat → Int32} {E : Int} {i : Nat} {x y : Int32} (h : syT P Gv E) (hi : (i : Int) < E) (p0 : 0 ≤ (P i).toInt) (hx : x.toInt = -1) (hy : y.toInt = -1) : syT (upd (upd P (P i).toInt.toNat x) i y) Gv E := by
  have hs := h i hi
  intro e he
  by_cases q : e = i
  · subst q; rw [pk_us]; exact Or.inl hy
  · rw [pk_un q]
    by_cases q' : e = (P i).toInt.toNat
    · subst q'; rw [pk_us]; exact Or.inl hx
    · rw [pk_un q']
      rcases h e he with a | ⟨a1, a2, a3, a4⟩
      · exact Or.inl a
      · have n1 : ¬ (P e).toInt.toNat = i := fun w => by rw [w] at a3; omega
        have n2 : ¬ (P e).toInt.toNat = (P i).toInt.toNat := fun w => by
          rw [w] at a3
          omega
        refine Or.inr ⟨a1, a2, ?_, a4⟩
        rw [pk_un n1, pk_un n2]; exact a3
/-- a level of the tying, d deep -/
def tY (J : fM) (d : Int) : Prop := syT (J 23) (J 33) (J 0 45).toInt ∧ (∀ k : Nat, (k : Int) ≤ d → (J 40 k).toInt ≤ (J 41 k).toInt ∧ (J 41 k).toInt < (J 0 45).toInt) ∧ (∀ k : Nat, (k : Int) < d → (J 23 (J 40 k).toInt.toNat).toInt = (J 41 k).toInt ∧ (J 40 k).toInt < (J 41 k).toInt) ∧ (∀ k k' : Nat, k < k' → (k' : Int) ≤ d → (J 40 k).toInt < (J 40 k').toInt) ∧
  (0 ≤ d → (∀ e : Nat, (e : Int) < (J 40 d.toNat).toInt → 0 ≤ (J 23 e).toInt) ∧ ((J 23 (J 40 d.toNat).toInt.toNat).toInt = -1 ∧ ct (J 23) (J 0 45).toInt.toNat = 2 * d ∨ (J 23 (J 40 d.toNat).toInt.toNat).toInt = (J 41 d.toNat).toInt ∧ (J 40 d.toNat).toInt < (J 41 d.toNat).toInt ∧ ct (J 23) (J 0 45).toInt.toNat = 2 * d + 2))
/-- all ends are tied -/
def tA (J : fM) : Prop := ∀ e : Nat, (e : Int) < (J 0 45).toInt → 0 ≤ (J 23 e).toInt ∧ (J 23 e).toInt < (J 0 45).toInt ∧ (J 23 (J 23 e).toInt.toNat).toInt = e ∧ ¬ (J 33 (J 23 e).toInt.toNat).toInt = (J 33 e).toInt
-- @invo tA [23, 33] [45]
theorem tA_dep : f_depo tA [23, 33] [45] := by
  intro I I' h ho hs
  unfold tA
  rw [h 23 rfl, h 33 rfl, ho 45 rfl]
  exact hs
theorem tY_begin {J : fM} (hR : mR J) (h45 : 1 ≤ (J 0 45).toInt) (h : ∀ e : Nat, (e : Int) < (J 0 45).toInt → (J 23 e).toInt = -1) (h40 : (J 40 0).toInt = 0) (h41 : (J 41 0).toInt = 0) : tY J 0 := by
  refine ⟨fun e he => Or.inl (h e he), fun k hk => ?_, fun k hk => by omega, fun k k' h1 h2 => by omega, fun _ => ⟨fun e he => ?_, Or.inl ⟨?_, ?_⟩⟩⟩
  · have : k = 0 := by omega
    subst this; omega
  · have he : (e : Int) < (J 40 0).toInt := he
    omega
  · show (J 23 (J 40 0).toInt.toNat).toInt = -1
    rw [h40]; exact h 0 (by omega)
  · rw [ct_all (fun e => by have := (hR 23 e).1; have : -1 ≤ (J 23 e).toInt := this; omega) _ (fun e he => h e (by omega))]
    rfl
/-- the level's own two ends are free again -/
theorem tY_cut {J K : fM} {d : Nat} {x y : Int32} (hR : mR J) (h : tY J d) (h45 : 1 ≤ (J 0 45).toInt) (hp : 0 ≤ (J 23 (J 40 d).toInt.toNat).toInt) (hx : x.toInt = -1) (hy : y.toInt = -1) (k45 : K 0 45 = J 0 45) (e23 : K 23 = upd (upd (J 23) (J 23 (J 40 d).toInt.toNat).toInt.toNat x) (J 40 d).toInt.toNat y) (e33 : K 33 = J 33) (e40 : K 40 = J 40) (e41 : K 41 = J 41) : tY K d ∧ (K 23 (J 40 d).toInt.toNat).toInt = -1 := by
  obtain ⟨a1, a2, a3, a4, a5⟩ := h
  have p40 : ∀ k, 0 ≤ (J 40 k).toInt := fun k => (hR 40 k).1
  have a5 := a5 (by omega)
  rw [Int.toNat_natCast] at a5
  have b2 := a2 d (by omega)
  have q40 := p40 d
  have hlow : ∀ e : Nat, (e : Int) < (J 40 d).toInt → K 23 e = J 23 e := fun e he => by
    rw [e23, pk_un (by omega), pk_un (by omega)]
  have hk : (K 23 (J 40 d).toInt.toNat).toInt = -1 := by rw [e23, pk_us]; exact hy
  have hs := a1 (J 40 d).toInt.toNat (by omega)
  refine ⟨?_, hk⟩
  unfold tY
  rw [Int.toNat_natCast, k45, e33, e40, e41]
  refine ⟨by rw [e23]; exact syT_cut a1 (by omega) hp hx hy, a2, fun k hk' => ?_, a4, fun _ => ⟨fun e he => ?_, Or.inl ⟨hk, ?_⟩⟩⟩
  · have := a4 k d (by omega) (by omega)
    have := p40 k
    rw [hlow _ (by omega)]
    exact a3 k hk'
  · rw [hlow e he]; exact a5.1 e he
  · have hne : ¬ (J 40 d).toInt.toNat = (J 23 (J 40 d).toInt.toNat).toInt.toNat := by omega
    have x0 : ¬ 0 ≤ x.toInt := by omega
    have y0 : ¬ 0 ≤ y.toInt := by omega
    have j0 : 0 ≤ (J 23 (J 23 (J 40 d).toInt.toNat).toInt.toNat).toInt := by omega
    rw [e23, ct_up (by omega), ct_up (by omega), pk_un hne]
    simp only [if_neg x0, if_neg y0, if_pos hp, if_pos j0]
    omega
/-- one level up -/
theorem tY_back {J K : fM} {d : Nat} (h : tY J d) (hR : mR J) (hp : (J 23 (J 40 d).toInt.toNat).toInt = -1) (k45 : K 0 45 = J 0 45) (e23 : K 23 = J 23) (e33 : K 33 = J 33) (e40 : K 40 = J 40) (e41 : K 41 = J 41) {d' : Int} (hd : d' = d - 1) : tY K d' := by
  obtain ⟨a1, a2, a3, a4, a5⟩ := h
  have p40 : ∀ k, 0 ≤ (J 40 k).toInt := fun k => (hR 40 k).1
  have p41 : ∀ k, 0 ≤ (J 41 k).toInt := fun k => (hR 41 k).1
  have a5 := a5 (by omega)
  rw [Int.toNat_natCast] at a5
  unfold tY
  rw [k45, e23, e33, e40, e41]
  refine ⟨a1, fun k hk => a2 k (by omega), fun k hk => a3 k (by omega), fun k k' h1 h2 => a4 k k' h1 (by omega), fun h0 => ?_⟩
  have b3 := a3 d'.toNat (by omega)
  have b4 := a4 d'.toNat d (by omega) (by omega)
  refine ⟨fun e he => a5.1 e (by omega), Or.inr ⟨b3.1, b3.2, ?_⟩⟩
  rcases a5.2 with c | c
  · omega
  · have := p41 d
    omega
/-- two ends are tied -/
theorem tY_tie {J K : fM} {d : Nat} {i j : Int32} (hR : mR J) (h : tY J d) (hi : i = J 40 d) (hp : (J 23 (J 40 d).toInt.toNat).toInt = -1) (hj : (J 41 d).toInt < j.toInt ∧ j.toInt < (J 0 45).toInt) (pj : (J 23 j.toInt.toNat).toInt = -1) (hg : ¬ (J 33 j.toInt.toNat).toInt = (J 33 i.toInt.toNat).toInt)
    (k45 : K 0 45 = J 0 45) (e23 : K 23 = upd (upd (J 23) i.toInt.toNat j) j.toInt.toNat i) (e33 : K 33 = J 33) (e40 : K 40 = J 40) (e41 : K 41 = upd (J 41) d j) : tY K d ∧ (K 23 i.toInt.toNat).toInt = j.toInt ∧ (∀ e : Nat, (e : Int) ≤ i.toInt → 0 ≤ (K 23 e).toInt) ∧ ct (K 23) (J 0 45).toInt.toNat = 2 * d + 2 := by
  obtain ⟨a1, a2, a3, a4, a5⟩ := h
  have p40 : ∀ k, 0 ≤ (J 40 k).toInt := fun k => (hR 40 k).1
  have p41 : ∀ k, 0 ≤ (J 41 k).toInt := fun k => (hR 41 k).1
  have a5 := a5 (by omega)
  rw [Int.toNat_natCast] at a5
  have b2 := a2 d (by omega)
  have q40 := p40 d
  have q41 := p41 d
  subst hi
  have hlow : ∀ e : Nat, (e : Int) < (J 40 d).toInt → K 23 e = J 23 e := fun e he => by
    rw [e23, pk_un (by omega), pk_un (by omega)]
  have hi1 : (K 23 (J 40 d).toInt.toNat).toInt = j.toInt := by rw [e23, pk_un (by omega), pk_us]
  have hc : ct (K 23) (J 0 45).toInt.toNat = 2 * d + 2 := by
    have i0 : 0 ≤ (J 40 d).toInt := q40
    have j0 : 0 ≤ j.toInt := by omega
    have n1 : ¬ 0 ≤ (J 23 (J 40 d).toInt.toNat).toInt := by omega
    have n2 : ¬ 0 ≤ (J 23 j.toInt.toNat).toInt := by omega
    have ne : ¬ j.toInt.toNat = (J 40 d).toInt.toNat := by omega
    rw [e23, ct_up (by omega), ct_up (by omega), pk_un ne]
    simp only [if_pos i0, if_pos j0, if_neg n1, if_neg n2]
    rcases a5.2 with c | c
    · omega
    · omega
  refine ⟨?_, hi1, fun e he => ?_, hc⟩
  · unfold tY
    rw [Int.toNat_natCast, k45, e33, e40, e41, pk_us]
    refine ⟨by rw [e23]; exact syT_tie a1 ⟨q40, by omega⟩ ⟨by omega, hj.2⟩ (by omega) hp pj hg, fun k hk => ?_, fun k hk => ?_, a4, fun _ => ⟨fun e he => by rw [hlow e he]; exact a5.1 e he, Or.inr ⟨hi1, by omega, hc⟩⟩⟩
    · by_cases q : k = d
      · subst q; rw [pk_us]; omega
      · rw [pk_un q]; exact a2 k hk
    · have := a4 k d (by omega) (by omega)
      have := p40 k
      rw [pk_un (by omega), hlow _ (by omega)]
      exact a3 k hk
  · by_cases q : (e : Int) = (J 40 d).toInt
    · rw [show e = (J 40 d).toInt.toNat by omega, hi1]; omega
    · rw [hlow e (by omega)]; exact a5.1 e (by omega)
/-- a level more -/
theorem tY_next {J K : fM} {d : Nat} {y : Int32} (hR : mR J) (h : tY J d) (hy : (J 40 d).toInt < y.toInt ∧ y.toInt < (J 0 45).toInt) (py : (J 23 y.toInt.toNat).toInt < 0) (hlow : ∀ e : Nat, (e : Int) < y.toInt → 0 ≤ (J 23 e).toInt) (hp : (J 23 (J 40 d).toInt.toNat).toInt = (J 41 d).toInt ∧ (J 40 d).toInt < (J 41 d).toInt) (hc : ct (J 23) (J 0 45).toInt.toNat = 2 * d + 2)
    (k45 : K 0 45 = J 0 45) (e23 : K 23 = J 23) (e33 : K 33 = J 33) (e40 : K 40 = upd (J 40) (d + 1) y) (e41 : K 41 = upd (J 41) (d + 1) y) {d' : Int} (hd : d' = d + 1) : tY K d' := by
  obtain ⟨a1, a2, a3, a4, a5⟩ := h
  have p23 : ∀ k, -1 ≤ (J 23 k).toInt := fun k => (hR 23 k).1
  unfold tY
  rw [k45, e23, e33, e40, e41, show d'.toNat = d + 1 by omega, pk_us, pk_us]
  refine ⟨a1, fun k hk => ?_, fun k hk => ?_, fun k k' h1 h2 => ?_, fun _ => ⟨hlow, Or.inl ⟨by have := p23 y.toInt.toNat; omega, by omega⟩⟩⟩
  · by_cases q : k = d + 1
    · subst q; rw [pk_us, pk_us]; omega
    · rw [pk_un q, pk_un q]; exact a2 k (by omega)
  · rw [pk_un (by omega), pk_un (by omega)]
    by_cases q : k = d
    · subst q; exact hp
    · exact a3 k (by omega)
  · by_cases q : k' = d + 1
    · subst q
      rw [pk_us, pk_un (by omega)]
      by_cases q' : k = d
      · subst q'; exact hy.1
      · have := a4 k d (by omega) (by omega)
        omega
    · rw [pk_un q, pk_un (by omega)]; exact a4 k k' h1 (by omega)
def pX12_partnerb (av : List Value) (I : fM) (L : fN) : Prop := match av with
  | [.ref 0, .int i, .int f] => mR I ∧ 0 ≤ i.toInt ∧ i.toInt ≤ 19 ∧ 0 ≤ f.toInt ∧ f.toInt ≤ 19
  | _ => False
def qX12_partnerb (av : List Value) (I : fM) (L : fN) (r : Value) (I' : fM) (L' : fN) : Prop := match av, r with
  | [.ref 0, .int i, .int f], .int x => I' = I ∧ L' = L ∧ (x.toInt = -1 ∨ f.toInt < x.toInt ∧ x.toInt < (I 0 45).toInt ∧ (I 23 x.toInt.toNat).toInt = -1 ∧ ¬ (I 33 x.toInt.toNat).toInt = (I 33 i.toInt.toNat).toInt)
  | _, _ => False
set_option maxHeartbeats 40000000 in
set_option maxRecDepth 100000 in
theorem mX12_partnerb {l : Launch} {a : Nat → Nat} {cy dC : Nat → ClassId} {dI : Nat → Nat → Nat} (hinj : ∀ i j, i < 71 → j < 71 → a i = a j → i = j) : f_Met (fun _ => True) l mY 71 a cy dC dI yX12_partner cX12_partner 5 1 0 pX12_partnerb qX12_partnerb := by
  refine f_met_of (f_Ec_T 71 a) hinj mY_hi (by decide) (fun av I L h => by unfold pX12_partnerb at h; split at h <;> first | exact Nat.le_of_ble_eq_true rfl | exact h.elim) ?_
  intro pP eP sP mP aP bP hP9 cP C av I L hp
  unfold pX12_partnerb at hp
  split at hp
  case h_2 => exact hp.elim
  case h_1 i f =>
    obtain ⟨hR, p1, p2, p3, p4⟩ := hp
    have hn : 0 ≤ (I 0 45).toInt ∧ (I 0 45).toInt ≤ 20 := hR 0 45
    have lp55 : ∀ (n55 : Nat), ∀ (b : Int32) (j : Int32), (b.toInt ≤ (I 0 45).toInt) ∧ (f.toInt < j.toInt) ∧ (j.toInt ≤ 20) ∧ (20 - j.toInt) < n55 → f_W pP l eP (f_rm 0) sP mP aP bP hP9 cP mY 71 a cy dC dI 5 (f_K 1 (qX12_partnerb [.ref 0, .int i, .int f] I L)) 55 [(4, .int j), (3, .int b), (2, .int f), (1, .int i), (0, .ref 0)] [] I L := by
      intro n55
      induction n55 with
      | zero =>
        intro b j h9
        obtain ⟨u55_1, u55_2, u55_3, hm55⟩ := h9
        omega
      | succ n55 ih55 =>
        intro b j h9
        obtain ⟨u55_1, u55_2, u55_3, hm55⟩ := h9
        refine f_wp_ok C f_cl flX12_ok fiX12_ok fjX12_ok (sn := none) (fun j h => by cases h) (cs := (fun _ => none)) (cz := (fun _ => none)) (fun j S h => by cases h) (fun j S h => by cases h) tX12_partner_ok (cut := (f_cnl [(55, (fun (ls' : fLs) (st' : List Value) (I' : fM) (L' : fN) => ∃ b : Int32, ∃ j : Int32, (∀ q ∈ ([(4, .int j), (3, .int b), (2, .int f), (1, .int i), (0, .ref 0)] : fLs), q ∈ ls') ∧ st' = [] ∧ I' = I ∧ L' = L ∧ ((b.toInt ≤ (I 0 45).toInt) ∧ (f.toInt < j.toInt) ∧ (j.toInt ≤ 20) ∧ (20 - j.toInt) < n55)))])) (f_cnl_of (P := fun (tQ : Nat) (P : fLs → List Value → fM → fN → Prop) => ∀ ls' st' I' L', P ls' st' I' L' → f_W pP l eP (f_rm 0) sP mP aP bP hP9 cP mY 71 a cy dC dI 5 (f_K 1 (qX12_partnerb [.ref 0, .int i, .int f] I L)) tQ ls' st' I' L') (List.forall_mem_cons.mpr ⟨(fun ls' st' I' L' h => by obtain ⟨b, j, hs, e1, e2, e3, h9⟩ := h; rw [e1, e2, e3]; exact f_W_sub hs (ih55 b j h9)), fun _ h => absurd h List.not_mem_nil⟩)) 38 55 (f_seek 55 0 tX12_partner) (f_seek_ok 55 0 tX12_partner tX12_partner_ok) _ _ _ _ ?_
        apply And.intro
        · intro h58
          have h58 : b.toInt ≤ j.toInt := h58
          have r123_1 : 0 ≤ (I 0 45).toInt ∧ (I 0 45).toInt ≤ 20 := hR 0 45
          have r123_2 : -1 ≤ (I 23 0).toInt ∧ (I 23 0).toInt ≤ 19 := hR 23 0
          exact ⟨rfl, rfl, (show ((-1 : Int) = -1 ∨ f.toInt < (-1 : Int) ∧ (-1 : Int) < (I 0 45).toInt ∧ (I 23 0).toInt = -1 ∧ ¬ (I 33 0).toInt = (I 33 i.toInt.toNat).toInt) from by first | assumption | omega | rfl)⟩
        · intro h58
          have h58 : j.toInt < b.toInt := h58
          intro z64 q64 _ hq64 hl64 hu64
          have hq64 : z64.toInt = j.toInt - i.toInt + 4294967296 * q64 := hq64
          try have hz64 : z64.toInt = j.toInt - i.toInt := by omega
          refine And.intro (by decide) ?_
          try have d66 : (z64 - z64 / (Int32.ofInt 2) * (Int32.ofInt 2)).toInt = z64.toInt % 2 := t_rem (show 0 ≤ z64.toInt from by omega) (show 0 < 2 from by omega)
          apply And.intro
          · intro h68
            have h68 : ¬ (z64 - z64 / (Int32.ofInt 2) * (Int32.ofInt 2)).toInt = 1 := h68
            intro z116 q116 _ hq116 hl116 hu116
            have hq116 : z116.toInt = j.toInt + 1 + 4294967296 * q116 := hq116
            try have hz116 : z116.toInt = j.toInt + 1 := by omega
            have r55_1 : 0 ≤ (I 0 45).toInt ∧ (I 0 45).toInt ≤ 20 := hR 0 45
            exact ⟨b, z116, (by intro q9 h9; simp only [List.mem_cons, List.not_mem_nil, or_false] at h9; rcases h9 with h9 | h9 | h9 | h9 | h9 <;> subst h9 <;> repeat (first | exact List.mem_cons_self | apply List.mem_cons_of_mem)), rfl, rfl, rfl, (show b.toInt ≤ (I 0 45).toInt from by first | assumption | omega), (show f.toInt < z116.toInt from by first | assumption | omega), (show z116.toInt ≤ 20 from by first | assumption | omega), (show (20 - z116.toInt) < n55 from by omega)⟩
          · intro h68
            have h68 : (z64 - z64 / (Int32.ofInt 2) * (Int32.ofInt 2)).toInt = 1 := h68
            refine And.intro (show f_in j 20 from ⟨show 0 ≤ j.toInt from by omega, show j.toInt < 20 from by omega⟩) ?_
            have r77_1 : -1 ≤ (I 23 (j.toInt.toNat)).toInt ∧ (I 23 (j.toInt.toNat)).toInt ≤ 19 := hR 23 (j.toInt.toNat)
            apply And.intro
            · intro h78
              have h78 : 0 ≤ (I 23 (j.toInt.toNat)).toInt := h78
              intro z116 q116 _ hq116 hl116 hu116
              have hq116 : z116.toInt = j.toInt + 1 + 4294967296 * q116 := hq116
              try have hz116 : z116.toInt = j.toInt + 1 := by omega
              have r55_2 : 0 ≤ (I 0 45).toInt ∧ (I 0 45).toInt ≤ 20 := hR 0 45
              exact ⟨b, z116, (by intro q9 h9; simp only [List.mem_cons, List.not_mem_nil, or_false] at h9; rcases h9 with h9 | h9 | h9 | h9 | h9 <;> subst h9 <;> repeat (first | exact List.mem_cons_self | apply List.mem_cons_of_mem)), rfl, rfl, rfl, (show b.toInt ≤ (I 0 45).toInt from by first | assumption | omega), (show f.toInt < z116.toInt from by first | assumption | omega), (show z116.toInt ≤ 20 from by first | assumption | omega), (show (20 - z116.toInt) < n55 from by omega)⟩
            · intro h78
              have h78 : (I 23 (j.toInt.toNat)).toInt < 0 := h78
              refine And.intro (show f_in j 20 from ⟨show 0 ≤ j.toInt from by omega, show j.toInt < 20 from by omega⟩) ?_
              refine And.intro (show f_in i 20 from ⟨show 0 ≤ i.toInt from by omega, show i.toInt < 20 from by omega⟩) ?_
              apply And.intro
              · intro h94
                have h94 : ¬ (I 21 (j.toInt.toNat)).toInt = (I 21 (i.toInt.toNat)).toInt := h94
                intro z116 q116 _ hq116 hl116 hu116
                have hq116 : z116.toInt = j.toInt + 1 + 4294967296 * q116 := hq116
                try have hz116 : z116.toInt = j.toInt + 1 := by omega
                have r55_4 : 0 ≤ (I 0 45).toInt ∧ (I 0 45).toInt ≤ 20 := hR 0 45
                exact ⟨b, z116, (by intro q9 h9; simp only [List.mem_cons, List.not_mem_nil, or_false] at h9; rcases h9 with h9 | h9 | h9 | h9 | h9 <;> subst h9 <;> repeat (first | exact List.mem_cons_self | apply List.mem_cons_of_mem)), rfl, rfl, rfl, (show b.toInt ≤ (I 0 45).toInt from by first | assumption | omega), (show f.toInt < z116.toInt from by first | assumption | omega), (show z116.toInt ≤ 20 from by first | assumption | omega), (show (20 - z116.toInt) < n55 from by omega)⟩
              · intro h94
                have h94 : (I 21 (j.toInt.toNat)).toInt = (I 21 (i.toInt.toNat)).toInt := h94
                refine And.intro (show f_in j 20 from ⟨show 0 ≤ j.toInt from by omega, show j.toInt < 20 from by omega⟩) ?_
                refine And.intro (show f_in i 20 from ⟨show 0 ≤ i.toInt from by omega, show i.toInt < 20 from by omega⟩) ?_
                apply And.intro
                · intro h110
                  have h110 : (I 33 (j.toInt.toNat)).toInt = (I 33 (i.toInt.toNat)).toInt := h110
                  intro z116 q116 _ hq116 hl116 hu116
                  have hq116 : z116.toInt = j.toInt + 1 + 4294967296 * q116 := hq116
                  try have hz116 : z116.toInt = j.toInt + 1 := by omega
                  have r55_6 : 0 ≤ (I 0 45).toInt ∧ (I 0 45).toInt ≤ 20 := hR 0 45
                  exact ⟨b, z116, (by intro q9 h9; simp only [List.mem_cons, List.not_mem_nil, or_false] at h9; rcases h9 with h9 | h9 | h9 | h9 | h9 <;> subst h9 <;> repeat (first | exact List.mem_cons_self | apply List.mem_cons_of_mem)), rfl, rfl, rfl, (show b.toInt ≤ (I 0 45).toInt from by first | assumption | omega), (show f.toInt < z116.toInt from by first | assumption | omega), (show z116.toInt ≤ 20 from by first | assumption | omega), (show (20 - z116.toInt) < n55 from by omega)⟩
                · intro h110
                  have h110 : ¬ (I 33 (j.toInt.toNat)).toInt = (I 33 (i.toInt.toNat)).toInt := h110
                  have r115_6 : 0 ≤ (I 0 45).toInt ∧ (I 0 45).toInt ≤ 20 := hR 0 45
                  exact ⟨rfl, rfl, (show (j.toInt = -1 ∨ f.toInt < j.toInt ∧ j.toInt < (I 0 45).toInt ∧ (I 23 j.toInt.toNat).toInt = -1 ∧ ¬ (I 33 j.toInt.toNat).toInt = (I 33 i.toInt.toNat).toInt) from by first | assumption | omega | rfl)⟩
    have lp8 : ∀ (n8 : Nat), ∀ (b : Int32) (k : Int32), (b.toInt ≤ (I 0 45).toInt) ∧ (0 ≤ k.toInt) ∧ (k.toInt ≤ i.toInt) ∧ (i.toInt - k.toInt) < n8 → f_W pP l eP (f_rm 0) sP mP aP bP hP9 cP mY 71 a cy dC dI 5 (f_K 1 (qX12_partnerb [.ref 0, .int i, .int f] I L)) 8 [(4, .int k), (3, .int b), (2, .int f), (1, .int i), (0, .ref 0)] [] I L := by
      intro n8
      induction n8 with
      | zero =>
        intro b k h9
        obtain ⟨u8_1, u8_2, u8_3, hm8⟩ := h9
        omega
      | succ n8 ih8 =>
        intro b k h9
        obtain ⟨u8_1, u8_2, u8_3, hm8⟩ := h9
        refine f_wp_ok C f_cl flX12_ok fiX12_ok fjX12_ok (sn := none) (fun j h => by cases h) (cs := (fun _ => none)) (cz := (fun _ => none)) (fun j S h => by cases h) (fun j S h => by cases h) tX12_partner_ok (cut := (f_cnl [(8, (fun (ls' : fLs) (st' : List Value) (I' : fM) (L' : fN) => ∃ b : Int32, ∃ k : Int32, (∀ q ∈ ([(4, .int k), (3, .int b), (2, .int f), (1, .int i), (0, .ref 0)] : fLs), q ∈ ls') ∧ st' = [] ∧ I' = I ∧ L' = L ∧ ((b.toInt ≤ (I 0 45).toInt) ∧ (0 ≤ k.toInt) ∧ (k.toInt ≤ i.toInt) ∧ (i.toInt - k.toInt) < n8))), (55, (fun (ls' : fLs) (st' : List Value) (I' : fM) (L' : fN) => ∃ b : Int32, ∃ j : Int32, (∀ q ∈ ([(4, .int j), (3, .int b), (2, .int f), (1, .int i), (0, .ref 0)] : fLs), q ∈ ls') ∧ st' = [] ∧ I' = I ∧ L' = L ∧ ((b.toInt ≤ (I 0 45).toInt) ∧ (f.toInt < j.toInt) ∧ (j.toInt ≤ 20) ∧ (20 - j.toInt) < 21)))])) (f_cnl_of (P := fun (tQ : Nat) (P : fLs → List Value → fM → fN → Prop) => ∀ ls' st' I' L', P ls' st' I' L' → f_W pP l eP (f_rm 0) sP mP aP bP hP9 cP mY 71 a cy dC dI 5 (f_K 1 (qX12_partnerb [.ref 0, .int i, .int f] I L)) tQ ls' st' I' L') (List.forall_mem_cons.mpr ⟨(fun ls' st' I' L' h => by obtain ⟨b, k, hs, e1, e2, e3, h9⟩ := h; rw [e1, e2, e3]; exact f_W_sub hs (ih8 b k h9)), List.forall_mem_cons.mpr ⟨(fun ls' st' I' L' h => by obtain ⟨b, j, hs, e1, e2, e3, h9⟩ := h; rw [e1, e2, e3]; exact f_W_sub hs (lp55 21 b j h9)), fun _ h => absurd h List.not_mem_nil⟩⟩)) 25 8 (f_seek 8 0 tX12_partner) (f_seek_ok 8 0 tX12_partner tX12_partner_ok) _ _ _ _ ?_
        apply And.intro
        · intro h11
          have h11 : i.toInt ≤ k.toInt := h11
          intro z52 q52 _ hq52 hl52 hu52
          have hq52 : z52.toInt = f.toInt + 1 + 4294967296 * q52 := hq52
          try have hz52 : z52.toInt = f.toInt + 1 := by omega
          have r55_1 : 0 ≤ (I 0 45).toInt ∧ (I 0 45).toInt ≤ 20 := hR 0 45
          exact ⟨b, z52, (by intro q9 h9; simp only [List.mem_cons, List.not_mem_nil, or_false] at h9; rcases h9 with h9 | h9 | h9 | h9 | h9 <;> subst h9 <;> repeat (first | exact List.mem_cons_self | apply List.mem_cons_of_mem)), rfl, rfl, rfl, (show b.toInt ≤ (I 0 45).toInt from by first | assumption | omega), (show f.toInt < z52.toInt from by first | assumption | omega), (show z52.toInt ≤ 20 from by first | assumption | omega), (show (20 - z52.toInt) < 21 from by omega)⟩
        · intro h11
          have h11 : k.toInt < i.toInt := h11
          refine And.intro (show f_in k 20 from ⟨show 0 ≤ k.toInt from by omega, show k.toInt < 20 from by omega⟩) ?_
          have r20_1 : -1 ≤ (I 23 (k.toInt.toNat)).toInt ∧ (I 23 (k.toInt.toNat)).toInt ≤ 19 := hR 23 (k.toInt.toNat)
          apply And.intro
          · intro h22
            have h22 : (I 23 (k.toInt.toNat)).toInt ≤ i.toInt := h22
            intro z44 q44 _ hq44 hl44 hu44
            have hq44 : z44.toInt = k.toInt + 1 + 4294967296 * q44 := hq44
            try have hz44 : z44.toInt = k.toInt + 1 := by omega
            have r8_2 : 0 ≤ (I 0 45).toInt ∧ (I 0 45).toInt ≤ 20 := hR 0 45
            exact ⟨b, z44, (by intro q9 h9; simp only [List.mem_cons, List.not_mem_nil, or_false] at h9; rcases h9 with h9 | h9 | h9 | h9 | h9 <;> subst h9 <;> repeat (first | exact List.mem_cons_self | apply List.mem_cons_of_mem)), rfl, rfl, rfl, (show b.toInt ≤ (I 0 45).toInt from by first | assumption | omega), (show 0 ≤ z44.toInt from by first | assumption | omega), (show z44.toInt ≤ i.toInt from by first | assumption | omega), (show (i.toInt - z44.toInt) < n8 from by omega)⟩
          · intro h22
            have h22 : i.toInt < (I 23 (k.toInt.toNat)).toInt := h22
            refine And.intro (show f_in k 20 from ⟨show 0 ≤ k.toInt from by omega, show k.toInt < 20 from by omega⟩) ?_
            apply And.intro
            · intro h33
              have h33 : b.toInt ≤ (I 23 (k.toInt.toNat)).toInt := h33
              intro z44 q44 _ hq44 hl44 hu44
              have hq44 : z44.toInt = k.toInt + 1 + 4294967296 * q44 := hq44
              try have hz44 : z44.toInt = k.toInt + 1 := by omega
              have r8_2 : 0 ≤ (I 0 45).toInt ∧ (I 0 45).toInt ≤ 20 := hR 0 45
              exact ⟨b, z44, (by intro q9 h9; simp only [List.mem_cons, List.not_mem_nil, or_false] at h9; rcases h9 with h9 | h9 | h9 | h9 | h9 <;> subst h9 <;> repeat (first | exact List.mem_cons_self | apply List.mem_cons_of_mem)), rfl, rfl, rfl, (show b.toInt ≤ (I 0 45).toInt from by first | assumption | omega), (show 0 ≤ z44.toInt from by first | assumption | omega), (show z44.toInt ≤ i.toInt from by first | assumption | omega), (show (i.toInt - z44.toInt) < n8 from by omega)⟩
            · intro h33
              have h33 : (I 23 (k.toInt.toNat)).toInt < b.toInt := h33
              refine And.intro (show f_in k 20 from ⟨show 0 ≤ k.toInt from by omega, show k.toInt < 20 from by omega⟩) ?_
              intro z44 q44 _ hq44 hl44 hu44
              have hq44 : z44.toInt = k.toInt + 1 + 4294967296 * q44 := hq44
              try have hz44 : z44.toInt = k.toInt + 1 := by omega
              have r8_2 : 0 ≤ (I 0 45).toInt ∧ (I 0 45).toInt ≤ 20 := hR 0 45
              exact ⟨I 23 (k.toInt.toNat), z44, (by intro q9 h9; simp only [List.mem_cons, List.not_mem_nil, or_false] at h9; rcases h9 with h9 | h9 | h9 | h9 | h9 <;> subst h9 <;> repeat (first | exact List.mem_cons_self | apply List.mem_cons_of_mem)), rfl, rfl, rfl, (show (I 23 (k.toInt.toNat)).toInt ≤ (I 0 45).toInt from by first | assumption | omega), (show 0 ≤ z44.toInt from by first | assumption | omega), (show z44.toInt ≤ i.toInt from by first | assumption | omega), (show (i.toInt - z44.toInt) < n8 from by omega)⟩
    refine f_wp_ok C f_cl flX12_ok fiX12_ok fjX12_ok (sn := none) (fun j h => by cases h) (cs := (fun _ => none)) (cz := (fun _ => none)) (fun j S h => by cases h) (fun j S h => by cases h) tX12_partner_ok (cut := (f_cnl [(8, (fun (ls' : fLs) (st' : List Value) (I' : fM) (L' : fN) => ∃ b : Int32, ∃ k : Int32, (∀ q ∈ ([(4, .int k), (3, .int b), (2, .int f), (1, .int i), (0, .ref 0)] : fLs), q ∈ ls') ∧ st' = [] ∧ I' = I ∧ L' = L ∧ ((b.toInt ≤ (I 0 45).toInt) ∧ (0 ≤ k.toInt) ∧ (k.toInt ≤ i.toInt) ∧ (i.toInt - k.toInt) < 20)))])) (f_cnl_of (P := fun (tQ : Nat) (P : fLs → List Value → fM → fN → Prop) => ∀ ls' st' I' L', P ls' st' I' L' → f_W pP l eP (f_rm 0) sP mP aP bP hP9 cP mY 71 a cy dC dI 5 (f_K 1 (qX12_partnerb [.ref 0, .int i, .int f] I L)) tQ ls' st' I' L') (List.forall_mem_cons.mpr ⟨(fun ls' st' I' L' h => by obtain ⟨b, k, hs, e1, e2, e3, h9⟩ := h; rw [e1, e2, e3]; exact f_W_sub hs (lp8 20 b k h9)), fun _ h => absurd h List.not_mem_nil⟩)) 8 0 tX12_partner tX12_partner_ok _ _ _ _ ?_
    have r1_1 : 0 ≤ (I 0 45).toInt ∧ (I 0 45).toInt ≤ 20 := hR 0 45
    exact ⟨I 0 45, Int32.ofInt 0, (by intro q9 h9; simp only [List.mem_cons, List.not_mem_nil, or_false] at h9; rcases h9 with h9 | h9 | h9 | h9 | h9 <;> subst h9 <;> repeat (first | exact List.mem_cons_self | apply List.mem_cons_of_mem)), rfl, rfl, rfl, (show (I 0 45).toInt ≤ (I 0 45).toInt from by first | assumption | omega), (show 0 ≤ (0 : Int) from by first | assumption | omega), (show (0 : Int) ≤ i.toInt from by first | assumption | omega), (show (i.toInt - (0 : Int)) < 20 from by omega)⟩
