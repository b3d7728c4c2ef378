/-! opening: the tasks that are left, the ends that lie there; every thing has one of them -/
def vc (G W c : Int) : Prop := 0 ≤ c ∧ (c % 2 = 1 → c < 2 * G) ∧ (c % 2 = 0 → c < 2 * W)
theorem vc_mono {G W G' W' c : Int} (h : vc G W c) (hG : G ≤ G') (hW : W ≤ W') : vc G' W' c := ⟨h.1, fun q => by have := h.2.1 q; omega, fun q => by have := h.2.2 q; omega⟩
def tS (f : Nat → Int) : Nat → Int
  | 0 => 0
  | n + 1 => tS f n + f n
theorem tS_cong {f f' : Nat → Int} : ∀ {n : Nat}, (∀ i, i < n → f' i = f i) → tS f' n = tS f n
  | 0, _ => rfl
  | n + 1, h => by
    simp only [tS]
    rw [tS_cong (fun i hi => h i (by omega)), h n (by omega)]
theorem tS_ge {f : Nat → Int} : ∀ {n : Nat}, (∀ i, i < n → 1 ≤ f i) → (n : Int) ≤ tS f n
  | 0, _ => by simp [tS]
  | n + 1, h => by
    simp only [tS]
    have := tS_ge (f := f) (n := n) (fun i hi => h i (by omega))
    have := h n (by omega)
    omega
def tk (N E T G W : Int) (ec tc tl : Nat → Int) : Prop := 0 ≤ E ∧ 0 ≤ T ∧ (∀ e : Nat, (e : Int) < E → vc G W (ec e)) ∧ (∀ i : Nat, (i : Int) < T → vc G W (tc i) ∧ 1 ≤ tl i) ∧ (∀ e i : Nat, (e : Int) < E → (i : Int) < T → ec e ≠ tc i) ∧ (∀ i j : Nat, i < j → (j : Int) < T → tc i ≠ tc j) ∧ (∀ e e' : Nat, e < e' → (e' : Int) < E → ec e ≠ ec e') ∧ G + W = E + T ∧ E + tS tl T.toNat = N
theorem tk_num {N E T G W : Int} {ec tc tl : Nat → Int} (h : tk N E T G W ec tc tl) : 0 ≤ E ∧ 0 ≤ T ∧ T ≤ tS tl T.toNat ∧ G + W = E + T ∧ E + tS tl T.toNat = N := by
  obtain ⟨h1, h2, h3, h4, h5, h6, h7, h8, h9⟩ := h
  have q := tS_ge (f := tl) (n := T.toNat) (fun i hi => (h4 i (by omega)).2)
  exact ⟨h1, h2, by omega, h8, h9⟩
theorem tk_end {N E T G W : Int} {ec ec' tc tl : Nat → Int} {t : Nat} (h : tk N E T G W ec tc tl) (ht : (t : Int) = T - 1) (h1 : tl t = 1) (ha : ∀ e : Nat, (e : Int) < E → ec' e = ec e) (hb : ec' E.toNat = tc t) : tk N (E + 1) (T - 1) G W ec' tc tl := by
  obtain ⟨a1, a2, a3, a4, a5, a6, a7, a8, a9⟩ := h
  have e0 : ∀ e : Nat, (e : Int) < E + 1 → (e : Int) < E ∨ e = E.toNat := fun e he => by omega
  refine ⟨by omega, by omega, fun e he => ?_, fun i hi => a4 i (by omega), fun e i he hi => ?_, fun i j hij hj => a6 i j hij (by omega), fun e e' he he' => ?_, by omega, ?_⟩
  · rcases e0 e he with q | q
    · rw [ha e q]; exact a3 e q
    · rw [q, hb]; exact (a4 t (by omega)).1
  · rcases e0 e he with q | q
    · rw [ha e q]; exact a5 e i q (by omega)
    · rw [q, hb]; exact (a6 i t (by omega) (by omega)).symm
  · have q : (e : Int) < E := by omega
    rw [ha e q]
    rcases e0 e' he' with q' | q'
    · rw [ha e' q']; exact a7 e e' he q'
    · rw [q', hb]; exact a5 e t q (by omega)
  · rw [show T.toNat = (T - 1).toNat + 1 by omega] at a9
    simp only [tS] at a9
    rw [show (T - 1).toNat = t by omega] at a9 ⊢
    omega
theorem tk_two {N E T G W G' W' : Int} {ec tc tl tc' tl' : Nat → Int} {t : Nat} {f : Int} (h : tk N E T G W ec tc tl) (ht : (t : Int) = T - 1) (hG : G ≤ G') (hW : W ≤ W') (hs : G' + W' = G + W + 1) (hf : ¬ vc G W f) (hf' : vc G' W' f)
    (hi : ∀ i : Nat, i < t → tc' i = tc i ∧ tl' i = tl i) (hl : 1 ≤ tl' t ∧ 1 ≤ tl' (t + 1) ∧ tl' t + tl' (t + 1) = tl t) (hc : tc' t = tc t ∧ tc' (t + 1) = f ∨ tc' t = f ∧ tc' (t + 1) = tc t) : tk N E (T + 1) G' W' ec tc' tl' := by
  obtain ⟨a1, a2, a3, a4, a5, a6, a7, a8, a9⟩ := h
  have e0 : ∀ i : Nat, (i : Int) < T + 1 → i < t ∨ i = t ∨ i = t + 1 := fun i h => by omega
  have v : ∀ i : Nat, (i : Int) < T + 1 → tc' i = f ∨ ∃ j : Nat, (j : Int) < T ∧ tc' i = tc j := fun i h => by
    rcases e0 i h with q | q | q
    · exact Or.inr ⟨i, by omega, (hi i q).1⟩
    · subst q; rcases hc with c | c
      · exact Or.inr ⟨i, by omega, c.1⟩
      · exact Or.inl c.1
    · subst q; rcases hc with c | c
      · exact Or.inl c.2
      · exact Or.inr ⟨t, by omega, c.2⟩
  have nf : ∀ j : Nat, (j : Int) < T → tc j ≠ f := fun j hj e => hf (by rw [← e]; exact (a4 j hj).1)
  refine ⟨a1, by omega, fun e he => vc_mono (a3 e he) hG hW, fun i h => ⟨?_, ?_⟩, fun e i he h => ?_, fun i j hij hj => ?_, a7, by omega, ?_⟩
  · rcases v i h with q | ⟨j, hj, q⟩
    · rw [q]; exact hf'
    · rw [q]; exact vc_mono (a4 j hj).1 hG hW
  · rcases e0 i h with q | q | q
    · rw [(hi i q).2]; exact (a4 i (by omega)).2
    · rw [q]; exact hl.1
    · rw [q]; exact hl.2.1
  · rcases v i h with q | ⟨j, hj, q⟩
    · rw [q]; exact fun e' => hf (by rw [← e']; exact a3 e he)
    · rw [q]; exact a5 e j he hj
  · rcases e0 j hj with q | q | q
    · rw [(hi i (by omega)).1, (hi j q).1]; exact a6 i j hij (by omega)
    · subst q
      rw [(hi i hij).1]
      rcases hc with c | c
      · rw [c.1]; exact a6 i j hij (by omega)
      · rw [c.1]; exact nf i (by omega)
    · subst q
      rcases Nat.lt_or_ge i t with r | r
      · rw [(hi i r).1]
        rcases hc with c | c
        · rw [c.2]; exact nf i (by omega)
        · rw [c.2]; exact a6 i t r (by omega)
      · have r : i = t := by omega
        subst r
        rcases hc with c | c
        · rw [c.1, c.2]; exact nf i (by omega)
        · rw [c.1, c.2]; exact (nf i (by omega)).symm
  · rw [show (T + 1).toNat = t + 2 by omega]
    rw [show T.toNat = t + 1 by omega] at a9
    simp only [tS] at a9 ⊢
    rw [tS_cong (f := tl) (f' := tl') (n := t) (fun i h => (hi i h).2)]
    omega
/-- two rows beside each other -/
theorem u2_lo {f : Nat → Int32} {t i : Nat} {x y : Int32} (h : i < t) : (upd (upd f t x) (t + 1) y) i = f i := by rw [pk_un (by omega), pk_un (by omega)]
theorem u2_1 {f : Nat → Int32} {t : Nat} {x y : Int32} : (upd (upd f t x) (t + 1) y) t = x := by rw [pk_un (by omega), pk_us]
theorem u2_2 {f : Nat → Int32} {t : Nat} {x y : Int32} : (upd (upd f t x) (t + 1) y) (t + 1) = y := pk_us
def ecd (J : fM) (e : Nat) : Int := 2 * (J 22 e).toInt + (J 33 e).toInt
def tcd (J : fM) (i : Nat) : Int := 2 * (J 32 i).toInt + (J 34 i).toInt
def tlv (J : fM) (i : Nat) : Int := (J 6 (J 31 i).toInt.toNat).toInt
def eO (J : fM) : Prop := ∀ e : Nat, (e : Int) < (J 0 45).toInt → ((J 33 e).toInt = 0 ∨ (J 33 e).toInt = 1) ∧ ((J 33 e).toInt = 1 → (J 24 (J 22 e).toInt.toNat).toInt = e) ∧ ((J 33 e).toInt = 0 → (J 25 (J 22 e).toInt.toNat).toInt = e)
def tO (J : fM) : Prop := ∀ i : Nat, (i : Int) < (J 0 48).toInt → ((J 34 i).toInt = 0 ∨ (J 34 i).toInt = 1) ∧ lvn J (J 31 i).toInt ∧ ((J 34 i).toInt = 1 → (J 27 (J 32 i).toInt.toNat).toInt + tlv J i ≤ 4) ∧ ((J 34 i).toInt = 0 → (J 29 (J 32 i).toInt.toNat).toInt + tlv J i ≤ 4)
/-- every wanted thing but gt is an argument of one given thing, once -/
def aO (J : fM) (gt : Int) : Prop := (∀ g k : Nat, (g : Int) < (J 0 46).toInt → 4 * g ≤ k → (k : Int) < 4 * g + (J 27 g).toInt → (J 28 k).toInt < (J 0 47).toInt ∧ ¬ (J 28 k).toInt = gt) ∧
  (∀ g k g' k' : Nat, (g : Int) < (J 0 46).toInt → 4 * g ≤ k → (k : Int) < 4 * g + (J 27 g).toInt → (g' : Int) < (J 0 46).toInt → 4 * g' ≤ k' → (k' : Int) < 4 * g' + (J 27 g').toInt → (J 28 k).toInt = (J 28 k').toInt → k = k') ∧
  (∀ w : Nat, (w : Int) < (J 0 47).toInt → ¬ (w : Int) = gt → ∃ g k : Nat, (g : Int) < (J 0 46).toInt ∧ 4 * g ≤ k ∧ (k : Int) < 4 * g + (J 27 g).toInt ∧ (J 28 k).toInt = w)
def hS (H : Nat → Int32) : Nat → Int
  | 0 => 0
  | n + 1 => hS H n + (H n).toInt
theorem hS_cong {H H' : Nat → Int32} : ∀ {n : Nat}, (∀ i, i < n → H' i = H i) → hS H' n = hS H n
  | 0, _ => rfl
  | n + 1, h => by
    simp only [hS]
    rw [hS_cong (fun i hi => h i (by omega)), h n (by omega)]
theorem hS_upd {H : Nat → Int32} {i : Nat} {x : Int32} : ∀ {n : Nat}, i < n → hS (upd H i x) n = hS H n + x.toInt - (H i).toInt
  | 0, h => by omega
  | n + 1, h => by
    simp only [hS]
    by_cases e : i = n
    · subst e
      rw [hS_cong (H := H) (fun j hj => pk_un (by omega)), pk_us]
      omega
    · rw [hS_upd (n := n) (by omega), pk_un (fun q => e q.symm)]
      omega
/-- so far, from I on -/
def oI (I J : fM) (N : Int) : Prop := tk N (J 0 45).toInt (J 0 48).toInt (J 0 46).toInt (J 0 47).toInt (ecd J) (tcd J) (tlv J) ∧ eO J ∧ tO J ∧ (∀ gt : Int, gt < (I 0 47).toInt → aO I gt → aO J gt) ∧ (hS (I 29) (I 0 47).toInt.toNat ≤ (I 0 46).toInt → hS (J 29) (J 0 47).toInt.toNat ≤ (J 0 46).toInt) ∧
  (I 0 46).toInt ≤ (J 0 46).toInt ∧ (I 0 47).toInt ≤ (J 0 47).toInt ∧ (∀ g : Nat, (g : Int) < (I 0 46).toInt → J 26 g = I 26 g) ∧ (∀ g : Nat, (I 0 46).toInt ≤ g → (g : Int) < (J 0 46).toInt → 0 ≤ (J 26 g).toInt)
theorem oI_end {I J K : fM} {N : Int} {t : Nat} {th g : Int32} (hR : mR J) (h : oI I J N) (ht : (t : Int) = (J 0 48).toInt - 1) (h1 : tlv J t = 1) (hth : th = J 32 t) (hg : g.toInt = (J 34 t).toInt)
    (k45 : (K 0 45).toInt = (J 0 45).toInt + 1) (k46 : K 0 46 = J 0 46) (k47 : K 0 47 = J 0 47) (k48 : (K 0 48).toInt = (J 0 48).toInt - 1) (k24 : K 0 24 = J 0 24)
    (e22 : K 22 = upd (J 22) (J 0 45).toInt.toNat th) (e33 : K 33 = upd (J 33) (J 0 45).toInt.toNat g) (e0 : (J 34 t).toInt = 0 → K 24 = J 24 ∧ K 25 = upd (J 25) th.toInt.toNat (J 0 45)) (e1 : ¬ (J 34 t).toInt = 0 → K 25 = J 25 ∧ K 24 = upd (J 24) th.toInt.toNat (J 0 45))
    (e6 : K 6 = J 6) (e8 : K 8 = J 8) (e11 : K 11 = J 11) (e26 : K 26 = J 26) (e27 : K 27 = J 27) (e28 : K 28 = J 28) (e29 : K 29 = J 29) (e31 : K 31 = J 31) (e32 : K 32 = J 32) (e34 : K 34 = J 34) : oI I K N := by
  obtain ⟨a1, a2, a3, a4, a5, a6, a7, a8, a9⟩ := h
  have n1 := tk_num a1
  have etc : tcd K = tcd J := by funext i; unfold tcd; rw [e32, e34]
  have etl : tlv K = tlv J := by funext i; unfold tlv; rw [e6, e31]
  have elv : ∀ n, lvn K n = lvn J n := lvn_eq k24 e8 e11
  have hne := a1.2.2.2.2.1
  refine ⟨?_, ?_, ?_, fun gt h1 h2 => ?_, ?_, ?_, ?_, ?_, ?_⟩
  · rw [k45, k46, k47, k48, etc, etl]
    refine tk_end a1 ht h1 (fun e he => ?_) ?_
    · unfold ecd; rw [e22, e33, pk_un (by omega), pk_un (by omega)]
    · unfold ecd tcd; rw [e22, e33, pk_us, pk_us, hth, hg]
  · intro e he
    have ht3 := (a3 t (by omega)).1
    by_cases q : e = (J 0 45).toInt.toNat
    · subst q
      rw [e22, e33, pk_us, pk_us, hg]
      refine ⟨ht3, fun r => ?_, fun r => ?_⟩
      · rw [(e1 (by omega)).2, pk_us]; omega
      · rw [(e0 r).2, pk_us]; omega
    · have he' : (e : Int) < (J 0 45).toInt := by omega
      obtain ⟨b1, b2, b3⟩ := a2 e he'
      have c := hne e t he' (by omega)
      unfold ecd tcd at c
      have p22 : 0 ≤ (J 22 e).toInt := (hR 22 e).1
      have p32 : 0 ≤ (J 32 t).toInt := (hR 32 t).1
      rw [e22, e33, pk_un q, pk_un q]
      refine ⟨b1, fun r => ?_, fun r => ?_⟩
      · by_cases z : (J 34 t).toInt = 0
        · rw [(e0 z).1]; exact b2 r
        · rw [(e1 z).2, pk_un (by rw [hth]; omega)]; exact b2 r
      · by_cases z : (J 34 t).toInt = 0
        · rw [(e0 z).2, pk_un (by rw [hth]; omega)]; exact b3 r
        · rw [(e1 z).1]; exact b3 r
  · intro i hi
    rw [e34, e31, e27, e32, e29, etl, elv]
    exact a3 i (by omega)
  · have q := a4 gt h1 h2
    unfold aO at q ⊢
    rw [k46, k47, e27, e28]
    exact q
  · rw [k46, k47, e29]; exact a5
  · rw [k46]; exact a6
  · rw [k47]; exact a7
  · rw [e26]; exact a8
  · rw [k46, e26]; exact a9
/-- one task makes two: the tasks' own facts -/
theorem tO_two {J K : fM} {t : Nat} {n1 n2 t1 t2 p1 p2 : Int32} (h : tO J) (ht : (t : Int) = (J 0 48).toInt - 1) (k48 : (K 0 48).toInt = (J 0 48).toInt + 1) (k24 : K 0 24 = J 0 24) (e6 : K 6 = J 6) (e8 : K 8 = J 8) (e11 : K 11 = J 11)
    (e31 : K 31 = upd (upd (J 31) t n1) (t + 1) n2) (e32 : K 32 = upd (upd (J 32) t t1) (t + 1) t2) (e34 : K 34 = upd (upd (J 34) t p1) (t + 1) p2) (hp : (p1.toInt = 0 ∨ p1.toInt = 1) ∧ (p2.toInt = 0 ∨ p2.toInt = 1)) (hn : lvn J n1.toInt ∧ lvn J n2.toInt)
    (h1 : (p1.toInt = 1 → (K 27 t1.toInt.toNat).toInt + (J 6 n1.toInt.toNat).toInt ≤ 4) ∧ (p1.toInt = 0 → (K 29 t1.toInt.toNat).toInt + (J 6 n1.toInt.toNat).toInt ≤ 4)) (h2 : (p2.toInt = 1 → (K 27 t2.toInt.toNat).toInt + (J 6 n2.toInt.toNat).toInt ≤ 4) ∧ (p2.toInt = 0 → (K 29 t2.toInt.toNat).toInt + (J 6 n2.toInt.toNat).toInt ≤ 4))
    (ho : ∀ i : Nat, i < t → ((J 34 i).toInt = 1 → K 27 (J 32 i).toInt.toNat = J 27 (J 32 i).toInt.toNat) ∧ ((J 34 i).toInt = 0 → K 29 (J 32 i).toInt.toNat = J 29 (J 32 i).toInt.toNat)) : tO K := by
  intro i hi
  have elv : ∀ n, lvn K n = lvn J n := lvn_eq k24 e8 e11
  have e0 : i < t ∨ i = t ∨ i = t + 1 := by omega
  unfold tlv
  rw [elv, e31, e32, e34, e6]
  rcases e0 with q | q | q
  · rw [u2_lo q, u2_lo q, u2_lo q]
    obtain ⟨b1, b2, b3, b4⟩ := h i (by omega)
    obtain ⟨c1, c2⟩ := ho i q
    exact ⟨b1, b2, fun r => by rw [c1 r]; exact b3 r, fun r => by rw [c2 r]; exact b4 r⟩
  · subst q
    rw [u2_1, u2_1, u2_1]
    exact ⟨hp.1, hn.1, h1.1, h1.2⟩
  · subst q
    rw [u2_2, u2_2, u2_2]
    exact ⟨hp.2, hn.2, h2.1, h2.2⟩
theorem oI_given {I J K : fM} {N : Int} {t : Nat} {n1 n2 t1 t2 p1 p2 wn is th b y z0 : Int32} {k : Nat} (hR : mR J) (h : oI I J N) (ht : (t : Int) = (J 0 48).toInt - 1) (hth : th = J 32 t) (hg : (J 34 t).toInt = 1) (hb : b.toInt = (J 0 47).toInt)
    (k45 : K 0 45 = J 0 45) (k46 : K 0 46 = J 0 46) (k47 : (K 0 47).toInt = (J 0 47).toInt + 1) (k48 : (K 0 48).toInt = (J 0 48).toInt + 1) (k24 : K 0 24 = J 0 24)
    (e31 : K 31 = upd (upd (J 31) t n1) (t + 1) n2) (e32 : K 32 = upd (upd (J 32) t t1) (t + 1) t2) (e34 : K 34 = upd (upd (J 34) t p1) (t + 1) p2)
    (ho : n1 = wn ∧ p1.toInt = 0 ∧ t1 = b ∧ n2 = is ∧ p2.toInt = 1 ∧ t2 = th ∨ n1 = is ∧ p1.toInt = 1 ∧ t1 = th ∧ n2 = wn ∧ p2.toInt = 0 ∧ t2 = b)
    (hl : lvn J wn.toInt ∧ lvn J is.toInt) (hv : 1 ≤ (J 6 wn.toInt.toNat).toInt ∧ 1 ≤ (J 6 is.toInt.toNat).toInt ∧ (J 6 wn.toInt.toNat).toInt + (J 6 is.toInt.toNat).toInt = tlv J t)
    (e27 : K 27 = upd (J 27) th.toInt.toNat y) (hy : y.toInt = (J 27 th.toInt.toNat).toInt + 1) (e28 : K 28 = upd (J 28) k b) (hk : (k : Int) = 4 * th.toInt + (J 27 th.toInt.toNat).toInt) (e29 : K 29 = upd (J 29) (J 0 47).toInt.toNat z0) (hz : z0.toInt = 0)
    (e6 : K 6 = J 6) (e8 : K 8 = J 8) (e11 : K 11 = J 11) (e22 : K 22 = J 22) (e24 : K 24 = J 24) (e25 : K 25 = J 25) (e26 : K 26 = J 26) (e33 : K 33 = J 33) : oI I K N := by
  obtain ⟨a1, a2, a3, a4, a5, a6, a7, a8, a9⟩ := h
  have n0 := tk_num a1
  have p32 : ∀ i, 0 ≤ (J 32 i).toInt := fun i => (hR 32 i).1
  have p27 : ∀ i, 0 ≤ (J 27 i).toInt ∧ (J 27 i).toInt ≤ 4 := fun i => hR 27 i
  have p47 : 0 ≤ (J 0 47).toInt := (hR 0 47).1
  have hT : (t : Int) < (J 0 48).toInt := by omega
  have c0 := a3 t hT
  have vt : ∀ i : Nat, (i : Int) < (J 0 48).toInt → ((J 34 i).toInt = 1 → (J 32 i).toInt < (J 0 46).toInt) ∧ ((J 34 i).toInt = 0 → (J 32 i).toInt < (J 0 47).toInt) := fun i hi => by
    have v := (a1.2.2.2.1 i hi).1
    unfold vc tcd at v
    refine ⟨fun q => ?_, fun q => ?_⟩
    · have := v.2.1 (by omega); omega
    · have := v.2.2 (by omega); omega
  have dt : ∀ i : Nat, i < t → (J 34 i).toInt = 1 → ¬ (J 32 i).toInt.toNat = th.toInt.toNat := fun i hi hg' q => by
    have d := a1.2.2.2.2.2.1 i t hi hT
    unfold tcd at d
    have := p32 i
    have := p32 t
    rw [hth] at q
    omega
  have hth0 : 0 ≤ th.toInt ∧ th.toInt < (J 0 46).toInt := by rw [hth]; exact ⟨p32 t, (vt t hT).1 hg⟩
  have y27 : (J 27 th.toInt.toNat).toInt + tlv J t ≤ 4 := by rw [hth]; exact c0.2.2.1 hg
  have eec : ecd K = ecd J := by funext e; unfold ecd; rw [e22, e33]
  refine ⟨?_, ?_, ?_, fun gt h1 h2 => ?_, ?_, ?_, ?_, ?_, ?_⟩
  · rw [k45, k46, k47, k48, eec]
    refine tk_two (f := 2 * (J 0 47).toInt) a1 ht (Int.le_refl _) (by omega) (by omega) (fun v => by have := v.2.2 (by omega); omega) ⟨by omega, fun q => by omega, fun q => by omega⟩ (fun i hi => ?_) ?_ ?_
    · unfold tcd tlv; rw [e31, e32, e34, e6, u2_lo hi, u2_lo hi, u2_lo hi]; exact ⟨rfl, rfl⟩
    · unfold tlv at hv ⊢
      rw [e31, e6, u2_1, u2_2]
      rcases ho with ⟨o1, -, -, o4, -, -⟩ | ⟨o1, -, -, o4, -, -⟩
      · rw [o1, o4]; omega
      · rw [o1, o4]; omega
    · unfold tcd
      rw [e32, e34, u2_1, u2_1, u2_2, u2_2, ← hth, hg, ← hb]
      rcases ho with ⟨-, o2, o3, -, o5, o6⟩ | ⟨-, o2, o3, -, o5, o6⟩
      · rw [o2, o3, o5, o6]; exact Or.inr ⟨by omega, rfl⟩
      · rw [o2, o3, o5, o6]; exact Or.inl ⟨rfl, by omega⟩
  · intro e he
    rw [e22, e24, e25, e33]
    exact a2 e (by rw [← k45]; exact he)
  · have w1 : (K 27 th.toInt.toNat).toInt + (J 6 is.toInt.toNat).toInt ≤ 4 := by rw [e27, pk_us]; omega
    have w2 : (K 29 b.toInt.toNat).toInt + (J 6 wn.toInt.toNat).toInt ≤ 4 := by
      rw [e29, hb, pk_us]
      have := (p27 th.toInt.toNat).1
      omega
    refine tO_two a3 ht k48 k24 e6 e8 e11 e31 e32 e34 ?_ ?_ ?_ ?_ (fun i hi => ⟨fun q => ?_, fun q => ?_⟩)
    · rcases ho with ⟨-, o2, -, -, o5, -⟩ | ⟨-, o2, -, -, o5, -⟩ <;> omega
    · rcases ho with ⟨o1, -, -, o4, -, -⟩ | ⟨o1, -, -, o4, -, -⟩
      · rw [o1, o4]; exact hl
      · rw [o1, o4]; exact ⟨hl.2, hl.1⟩
    · rcases ho with ⟨o1, o2, o3, -, -, -⟩ | ⟨o1, o2, o3, -, -, -⟩
      · rw [o1, o3]; exact ⟨fun q => by omega, fun _ => w2⟩
      · rw [o1, o3]; exact ⟨fun _ => w1, fun q => by omega⟩
    · rcases ho with ⟨-, -, -, o4, o5, o6⟩ | ⟨-, -, -, o4, o5, o6⟩
      · rw [o4, o6]; exact ⟨fun _ => w1, fun q => by omega⟩
      · rw [o4, o6]; exact ⟨fun q => by omega, fun _ => w2⟩
    · rw [e27, pk_un (dt i hi q)]
    · have := (vt i (by omega)).2 q
      have := p32 i
      rw [e29, pk_un (by omega)]
  · obtain ⟨b1, b2, b3⟩ := a4 gt h1 h2
    -- where an argument stands now
    have m27 : ∀ g : Nat, ¬ g = th.toInt.toNat → K 27 g = J 27 g := fun g q => by rw [e27, pk_un q]
    have s27 : (K 27 th.toInt.toNat).toInt = (J 27 th.toInt.toNat).toInt + 1 := by rw [e27, pk_us]; exact hy
    have old : ∀ g k' : Nat, 4 * g ≤ k' → (k' : Int) < 4 * g + (K 27 g).toInt → k' = k ∧ g = th.toInt.toNat ∨ ¬ k' = k ∧ (k' : Int) < 4 * g + (J 27 g).toInt := fun g k' q1 q2 => by
      by_cases e : g = th.toInt.toNat
      · subst e; rw [s27] at q2; omega
      · rw [m27 g e] at q2
        have := p27 g
        have := p27 th.toInt.toNat
        refine Or.inr ⟨fun q => ?_, q2⟩
        have : tlv J t ≥ 2 := by omega
        omega
    have r28 : ∀ k' : Nat, ¬ k' = k → K 28 k' = J 28 k' := fun k' q => by rw [e28, pk_un q]
    have s28 : (K 28 k).toInt = (J 0 47).toInt := by rw [e28, pk_us]; exact hb
    refine ⟨fun g k' q0 q1 q2 => ?_, fun g k' g' k'' q0 q1 q2 r0 r1 r2 q => ?_, fun w q0 q1 => ?_⟩
    · rw [k46] at q0
      rcases old g k' q1 q2 with ⟨o1, o2⟩ | ⟨o1, o2⟩
      · rw [o1, s28, k47]; omega
      · rw [r28 k' o1, k47]
        have := b1 g k' q0 q1 o2
        omega
    · rw [k46] at q0 r0
      rcases old g k' q1 q2 with ⟨o1, o2⟩ | ⟨o1, o2⟩
      · rcases old g' k'' r1 r2 with ⟨o1', o2'⟩ | ⟨o1', o2'⟩
        · rw [o1, o1']
        · rw [o1, s28, r28 k'' o1'] at q
          have := b1 g' k'' r0 r1 o2'
          omega
      · rcases old g' k'' r1 r2 with ⟨o1', o2'⟩ | ⟨o1', o2'⟩
        · rw [o1', s28, r28 k' o1] at q
          have := b1 g k' q0 q1 o2
          omega
        · rw [r28 k' o1, r28 k'' o1'] at q
          exact b2 g k' g' k'' q0 q1 o2 r0 r1 o2' q
    · rw [k47] at q0
      rw [k46]
      by_cases e : (w : Int) = (J 0 47).toInt
      · refine ⟨th.toInt.toNat, k, by omega, by have := (p27 th.toInt.toNat).1; omega, by rw [s27]; omega, by rw [s28, e]⟩
      · obtain ⟨g, k', c1, c2, c3, c4⟩ := b3 w (by omega) q1
        have ck : ¬ k' = k := fun q => by
          subst q
          have := p27 g
          have := p27 th.toInt.toNat
          have : g = th.toInt.toNat := by
            have : tlv J t ≥ 2 := by omega
            omega
          subst this
          omega
        refine ⟨g, k', c1, c2, ?_, by rw [r28 k' ck]; exact c4⟩
        by_cases e' : g = th.toInt.toNat
        · subst e'; rw [s27]; omega
        · rw [m27 g e']; exact c3
  · intro q
    have := a5 q
    rw [k47, k46, show ((J 0 47).toInt + 1).toNat = (J 0 47).toInt.toNat + 1 by omega, e29]
    simp only [hS]
    rw [hS_cong (H := J 29) (fun i hi => pk_un (by omega)), pk_us]
    omega
  · rw [k46]; exact a6
  · omega
  · rw [e26]; exact a8
  · rw [k46, e26]; exact a9
theorem oI_wanted {I J K : fM} {N : Int} {t : Nat} {n1 n2 t1 t2 p1 p2 wn is th b y z0 : Int32} (hR : mR J) (h : oI I J N) (ht : (t : Int) = (J 0 48).toInt - 1) (hth : th = J 32 t) (hg : (J 34 t).toInt = 0) (hb : b.toInt = (J 0 46).toInt)
    (k45 : K 0 45 = J 0 45) (k46 : (K 0 46).toInt = (J 0 46).toInt + 1) (k47 : K 0 47 = J 0 47) (k48 : (K 0 48).toInt = (J 0 48).toInt + 1) (k24 : K 0 24 = J 0 24)
    (e31 : K 31 = upd (upd (J 31) t n1) (t + 1) n2) (e32 : K 32 = upd (upd (J 32) t t1) (t + 1) t2) (e34 : K 34 = upd (upd (J 34) t p1) (t + 1) p2)
    (ho : n1 = wn ∧ p1.toInt = 1 ∧ t1 = b ∧ n2 = is ∧ p2.toInt = 0 ∧ t2 = th ∨ n1 = is ∧ p1.toInt = 0 ∧ t1 = th ∧ n2 = wn ∧ p2.toInt = 1 ∧ t2 = b)
    (hl : lvn J wn.toInt ∧ lvn J is.toInt) (hv : 1 ≤ (J 6 wn.toInt.toNat).toInt ∧ 1 ≤ (J 6 is.toInt.toNat).toInt ∧ (J 6 wn.toInt.toNat).toInt + (J 6 is.toInt.toNat).toInt = tlv J t)
    (e29 : K 29 = upd (J 29) th.toInt.toNat y) (hy : y.toInt = (J 29 th.toInt.toNat).toInt + 1) (e26 : K 26 = upd (J 26) (J 0 46).toInt.toNat th) (e27 : K 27 = upd (J 27) (J 0 46).toInt.toNat z0) (hz : z0.toInt = 0)
    (e6 : K 6 = J 6) (e8 : K 8 = J 8) (e11 : K 11 = J 11) (e22 : K 22 = J 22) (e24 : K 24 = J 24) (e25 : K 25 = J 25) (e28 : K 28 = J 28) (e33 : K 33 = J 33) : oI I K N := by
  obtain ⟨a1, a2, a3, a4, a5, a6, a7, a8, a9⟩ := h
  have n0 := tk_num a1
  have p32 : ∀ i, 0 ≤ (J 32 i).toInt := fun i => (hR 32 i).1
  have p29 : ∀ i, 0 ≤ (J 29 i).toInt ∧ (J 29 i).toInt ≤ 4 := fun i => hR 29 i
  have p46 : 0 ≤ (J 0 46).toInt := (hR 0 46).1
  have hT : (t : Int) < (J 0 48).toInt := by omega
  have c0 := a3 t hT
  have vt : ∀ i : Nat, (i : Int) < (J 0 48).toInt → ((J 34 i).toInt = 1 → (J 32 i).toInt < (J 0 46).toInt) ∧ ((J 34 i).toInt = 0 → (J 32 i).toInt < (J 0 47).toInt) := fun i hi => by
    have v := (a1.2.2.2.1 i hi).1
    unfold vc tcd at v
    refine ⟨fun q => ?_, fun q => ?_⟩
    · have := v.2.1 (by omega); omega
    · have := v.2.2 (by omega); omega
  have dt : ∀ i : Nat, i < t → (J 34 i).toInt = 0 → ¬ (J 32 i).toInt.toNat = th.toInt.toNat := fun i hi hg' q => by
    have d := a1.2.2.2.2.2.1 i t hi hT
    unfold tcd at d
    have := p32 i
    have := p32 t
    rw [hth] at q
    omega
  have hth0 : 0 ≤ th.toInt ∧ th.toInt < (J 0 47).toInt := by rw [hth]; exact ⟨p32 t, (vt t hT).2 hg⟩
  have y29 : (J 29 th.toInt.toNat).toInt + tlv J t ≤ 4 := by rw [hth]; exact c0.2.2.2 hg
  have eec : ecd K = ecd J := by funext e; unfold ecd; rw [e22, e33]
  refine ⟨?_, ?_, ?_, fun gt h1 h2 => ?_, ?_, ?_, ?_, ?_, ?_⟩
  · rw [k45, k46, k47, k48, eec]
    refine tk_two (f := 2 * (J 0 46).toInt + 1) a1 ht (by omega) (Int.le_refl _) (by omega) (fun v => by have := v.2.1 (by omega); omega) ⟨by omega, fun q => by omega, fun q => by omega⟩ (fun i hi => ?_) ?_ ?_
    · unfold tcd tlv; rw [e31, e32, e34, e6, u2_lo hi, u2_lo hi, u2_lo hi]; exact ⟨rfl, rfl⟩
    · unfold tlv at hv ⊢
      rw [e31, e6, u2_1, u2_2]
      rcases ho with ⟨o1, -, -, o4, -, -⟩ | ⟨o1, -, -, o4, -, -⟩
      · rw [o1, o4]; omega
      · rw [o1, o4]; omega
    · unfold tcd
      rw [e32, e34, u2_1, u2_1, u2_2, u2_2, ← hth, hg, ← hb]
      rcases ho with ⟨-, o2, o3, -, o5, o6⟩ | ⟨-, o2, o3, -, o5, o6⟩
      · rw [o2, o3, o5, o6]; exact Or.inr ⟨rfl, by omega⟩
      · rw [o2, o3, o5, o6]; exact Or.inl ⟨by omega, rfl⟩
  · intro e he
    rw [e22, e24, e25, e33]
    exact a2 e (by rw [← k45]; exact he)
  · have w1 : (K 29 th.toInt.toNat).toInt + (J 6 is.toInt.toNat).toInt ≤ 4 := by rw [e29, pk_us]; omega
    have w2 : (K 27 b.toInt.toNat).toInt + (J 6 wn.toInt.toNat).toInt ≤ 4 := by
      rw [e27, hb, pk_us]
      have := (p29 th.toInt.toNat).1
      omega
    refine tO_two a3 ht k48 k24 e6 e8 e11 e31 e32 e34 ?_ ?_ ?_ ?_ (fun i hi => ⟨fun q => ?_, fun q => ?_⟩)
    · rcases ho with ⟨-, o2, -, -, o5, -⟩ | ⟨-, o2, -, -, o5, -⟩ <;> omega
    · rcases ho with ⟨o1, -, -, o4, -, -⟩ | ⟨o1, -, -, o4, -, -⟩
      · rw [o1, o4]; exact hl
      · rw [o1, o4]; exact ⟨hl.2, hl.1⟩
    · rcases ho with ⟨o1, o2, o3, -, -, -⟩ | ⟨o1, o2, o3, -, -, -⟩
      · rw [o1, o3]; exact ⟨fun _ => w2, fun q => by omega⟩
      · rw [o1, o3]; exact ⟨fun q => by omega, fun _ => w1⟩
    · rcases ho with ⟨-, -, -, o4, o5, o6⟩ | ⟨-, -, -, o4, o5, o6⟩
      · rw [o4, o6]; exact ⟨fun q => by omega, fun _ => w1⟩
      · rw [o4, o6]; exact ⟨fun _ => w2, fun q => by omega⟩
    · have := (vt i (by omega)).1 q
      have := p32 i
      rw [e27, pk_un (by omega)]
    · rw [e29, pk_un (dt i hi q)]
  · obtain ⟨b1, b2, b3⟩ := a4 gt h1 h2
    have old : ∀ g k' : Nat, (g : Int) < (K 0 46).toInt → 4 * g ≤ k' → (k' : Int) < 4 * g + (K 27 g).toInt → (g : Int) < (J 0 46).toInt ∧ (k' : Int) < 4 * g + (J 27 g).toInt := fun g k' q0 q1 q2 => by
      by_cases e : g = (J 0 46).toInt.toNat
      · subst e; rw [e27, pk_us] at q2; omega
      · rw [e27, pk_un e] at q2; exact ⟨by omega, q2⟩
    unfold aO
    rw [k47, e28]
    refine ⟨fun g k' q0 q1 q2 => ?_, fun g k' g' k'' q0 q1 q2 r0 r1 r2 q => ?_, fun w q0 q1 => ?_⟩
    · obtain ⟨o1, o2⟩ := old g k' q0 q1 q2
      exact b1 g k' o1 q1 o2
    · obtain ⟨o1, o2⟩ := old g k' q0 q1 q2
      obtain ⟨o3, o4⟩ := old g' k'' r0 r1 r2
      exact b2 g k' g' k'' o1 q1 o2 o3 r1 o4 q
    · obtain ⟨g, k', c1, c2, c3, c4⟩ := b3 w q0 q1
      exact ⟨g, k', by omega, c2, by rw [e27, pk_un (by omega)]; exact c3, c4⟩
  · intro q
    have := a5 q
    rw [k47, k46, e29, hS_upd (by omega)]
    omega
  · omega
  · rw [k47]; exact a7
  · intro g hg'
    rw [e26, pk_un (by omega)]
    exact a8 g hg'
  · intro g q0 q1
    by_cases e : g = (J 0 46).toInt.toNat
    · rw [e26, e, pk_us]; omega
    · rw [e26, pk_un e]; exact a9 g q0 (by omega)
theorem f_nar01 {x : Int32} (h : x.toInt = 0 ∨ x.toInt = 1) : (vp_nar .boolean x).toInt = x.toInt := by
  rcases f_b01 h with e | e <;> subst e <;> rfl
