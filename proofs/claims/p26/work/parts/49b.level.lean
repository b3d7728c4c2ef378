/-! the levels of brackets: what pends at each -/
def pS (P : Nat → Int32) (c : Nat → Int) : Nat → Int
  | 0 => 0
  | n + 1 => pS P c n + (if 0 ≤ (P n).toInt then c (P n).toInt.toNat else 0)
theorem pS_cong {P P' : Nat → Int32} {c c' : Nat → Int} : ∀ {n : Nat}, (∀ i, i < n → P' i = P i ∧ (0 ≤ (P i).toInt → c' (P i).toInt.toNat = c (P i).toInt.toNat)) → pS P' c' n = pS P c n
  | 0, _ => rfl
  | n + 1, h => by
    simp only [pS]
    rw [pS_cong (fun i hi => h i (by omega)), (h n (by omega)).1]
    by_cases q : 0 ≤ (P n).toInt
    · rw [if_pos q, if_pos q, (h n (by omega)).2 q]
    · rw [if_neg q, if_neg q]
theorem pS_nn {P : Nat → Int32} {c : Nat → Int} : ∀ {n : Nat}, (∀ i, i < n → 0 ≤ (P i).toInt → 0 ≤ c (P i).toInt.toNat) → 0 ≤ pS P c n
  | 0, _ => Int.le_refl _
  | n + 1, h => by
    simp only [pS]
    have q := pS_nn (P := P) (c := c) (n := n) (fun i hi => h i (by omega))
    by_cases w : 0 ≤ (P n).toInt
    · rw [if_pos w]
      have := h n (by omega) w
      omega
    · rw [if_neg w]; omega
def pn (P G V : Nat → Int32) (lo hi : Int) (l : Nat) (c e : Int) : Prop := (∀ i : Nat, i < l → (P i).toInt = -1 ∨ lo ≤ (P i).toInt ∧ (P i).toInt < hi ∧ 1 ≤ (G i).toInt) ∧ pS P (fun n => (V n).toInt) l = c ∧ pS P (fun _ => 1) l = e
theorem pn_open {P G V : Nat → Int32} {lo hi : Int} {l : Nat} {c e : Int} (h : pn P G V lo hi l c e) : pn (upd P l (Int32.ofInt (-1))) G V lo hi (l + 1) c e := by
  obtain ⟨h1, h2, h3⟩ := h
  refine ⟨fun i hi => ?_, ?_, ?_⟩
  · by_cases q : i = l
    · exact Or.inl (by rw [q, pk_us]; rfl)
    · rw [pk_un q]; exact h1 i (by omega)
  · simp only [pS]
    rw [pS_cong (P := P) (c := fun n => (V n).toInt) (fun i hi => ⟨pk_un (by omega), fun _ => rfl⟩), pk_us, if_neg (by decide), h2]
    omega
  · simp only [pS]
    rw [pS_cong (P := P) (c := fun _ => 1) (fun i hi => ⟨pk_un (by omega), fun _ => rfl⟩), pk_us, if_neg (by decide), h3]
    omega
theorem pn_drop {P G V : Nat → Int32} {lo hi : Int} {l : Nat} {c e : Int} (h : pn P G V lo hi (l + 1) c e) (hl : (P l).toInt = -1) : pn P G V lo hi l c e := by
  obtain ⟨h1, h2, h3⟩ := h
  simp only [pS] at h2 h3
  rw [if_neg (by omega)] at h2 h3
  exact ⟨fun i hi => h1 i (by omega), by omega, by omega⟩
theorem pn_set {P G V : Nat → Int32} {lo hi : Int} {l : Nat} {c e : Int} {x g : Int32} (h : pn P G V lo hi (l + 1) c e) (hl : (P l).toInt = -1) (h0 : 0 ≤ lo) (hx : lo ≤ x.toInt ∧ x.toInt < hi) (hg : 1 ≤ g.toInt) : pn (upd P l x) (upd G l g) V lo hi (l + 1) (c + (V x.toInt.toNat).toInt) (e + 1) := by
  obtain ⟨h1, h2, h3⟩ := pn_drop h hl
  refine ⟨fun i hi => ?_, ?_, ?_⟩
  · by_cases q : i = l
    · rw [q, pk_us, pk_us]; exact Or.inr ⟨hx.1, hx.2, hg⟩
    · rw [pk_un q, pk_un q]; exact h1 i (by omega)
  · simp only [pS]
    rw [pS_cong (P := P) (c := fun n => (V n).toInt) (fun i hi => ⟨pk_un (by omega), fun _ => rfl⟩), pk_us, if_pos (by omega), h2]
  · simp only [pS]
    rw [pS_cong (P := P) (c := fun _ => 1) (fun i hi => ⟨pk_un (by omega), fun _ => rfl⟩), pk_us, if_pos (by omega), h3]
theorem pn_leaf {P G V : Nat → Int32} {lo hi : Int} {l n : Nat} {c e : Int} {z : Int32} (h : pn P G V lo hi l c e) (h0 : 0 ≤ lo) (hn : (n : Int) = hi) : pn P G (upd V n z) lo (hi + 1) l c e := by
  obtain ⟨h1, h2, h3⟩ := h
  refine ⟨fun i hi => ?_, ?_, h3⟩
  · have := h1 i hi
    omega
  · rw [← h2]
    refine pS_cong (fun i hi => ⟨rfl, fun q => ?_⟩)
    have := h1 i hi
    show ((upd V n z) (P i).toInt.toNat).toInt = _
    rw [pk_un (by omega)]
theorem pn_comb {P G V : Nat → Int32} {lo hi : Int} {l n : Nat} {c e : Int} {z : Int32} (h : pn P G V lo hi (l + 1) c e) (hl : ¬ (P l).toInt = -1) (h0 : 0 ≤ lo) (hn : (n : Int) = hi) : pn P G (upd V n z) lo (hi + 1) l (c - (V (P l).toInt.toNat).toInt) (e - 1) := by
  have q := h.1 l (by omega)
  refine pn_leaf (h := ?_) h0 hn
  obtain ⟨h1, h2, h3⟩ := h
  simp only [pS] at h2 h3
  rw [if_pos (by omega)] at h2 h3
  exact ⟨fun i hi => h1 i (by omega), by omega, by omega⟩
theorem pn_nn {P G V : Nat → Int32} {lo hi : Int} {l : Nat} {c e : Int} (h : pn P G V lo hi l c e) : 0 ≤ e := by
  rw [← h.2.2]
  exact pS_nn (fun _ _ _ => by decide)
theorem pn_nn1 {P G V : Nat → Int32} {lo hi : Int} {l : Nat} {c e : Int} (h : pn P G V lo hi (l + 1) c e) (hl : ¬ (P l).toInt = -1) (hV : ∀ n : Nat, lo ≤ n → (n : Int) < hi → 1 ≤ (V n).toInt) (h0 : 0 ≤ lo) : lo ≤ (P l).toInt ∧ (P l).toInt < hi ∧ 1 ≤ (G l).toInt ∧ 1 ≤ e ∧ (V (P l).toInt.toNat).toInt ≤ c := by
  have q := h.1 l (by omega)
  have n1 := pn_nn (pn_comb (z := 0) h hl h0 (n := hi.toNat) (by omega))
  obtain ⟨h1, h2, h3⟩ := h
  simp only [pS] at h2
  rw [if_pos (by omega)] at h2
  have n2 : 0 ≤ pS P (fun n => (V n).toInt) l := pS_nn (fun i hi q => by
    have := h1 i (by omega)
    have := hV (P i).toInt.toNat (by omega) (by omega)
    show 0 ≤ (V (P i).toInt.toNat).toInt
    omega)
  omega
/-- ahead of a unit -/
def rO (n0 r : Int) (J : fM) (lev many : Int) : Prop := (J 0 4).toInt = 0 → many ≤ 4 ∧ pn (J 17) (J 18) (J 6) (260 * r) (260 * r + (J 11 r.toNat).toInt) (lev.toNat + 1) many (n0 + 2 * many - (J 11 r.toNat).toInt)
/-- behind one, or behind a sign -/
def rI (n0 r kk : Int) (J : fM) (lev cnt node : Int) : Prop := (J 0 4).toInt = 0 → cnt ≤ 4 ∧ (node < 0 → pn (J 17) (J 18) (J 6) (260 * r) (260 * r + (J 11 r.toNat).toInt) (lev.toNat + 1) cnt (n0 + 2 * cnt - (J 11 r.toNat).toInt)) ∧
  (0 ≤ node → 260 * r ≤ node ∧ node < 260 * r + (J 11 r.toNat).toInt ∧ 1 ≤ kk ∧ pn (J 17) (J 18) (J 6) (260 * r) (260 * r + (J 11 r.toNat).toInt) (lev.toNat + 1) (cnt - (J 6 node.toNat).toInt) (n0 + 2 * cnt - 1 - (J 11 r.toNat).toInt))
theorem rI_kind {n0 r kk : Int} {J K : fM} {lev many : Int} {x : Int32} (h : rO n0 r J lev many) (hg : (J 0 4).toInt = 0) (hm : ¬ many = 4) (hk : 1 ≤ kk) (e17 : K 17 = J 17) (e18 : K 18 = J 18) (hx : x.toInt = 260 * r + (J 11 r.toNat).toInt) (hn : (K 11 r.toNat).toInt = (J 11 r.toNat).toInt + 1)
    (hl : lvs J K x.toInt.toNat 1) (h0 : 0 ≤ r) (hnn : 0 ≤ (J 11 r.toNat).toInt) : rI n0 r kk K lev (many + 1) x.toInt := by
  intro _
  obtain ⟨q1, q2⟩ := h hg
  obtain ⟨z, hz, e6⟩ := hl
  refine ⟨by omega, fun q => by omega, fun _ => ⟨by omega, by omega, hk, ?_⟩⟩
  have w := pn_leaf (z := z) q2 (by omega) (n := x.toInt.toNat) (by omega)
  rw [e17, e18, e6, pk_us, hn, hz]
  rw [show 260 * r + ((J 11 r.toNat).toInt + 1) = 260 * r + (J 11 r.toNat).toInt + 1 by omega, show many + 1 - 1 = many by omega, show n0 + 2 * (many + 1) - 1 - ((J 11 r.toNat).toInt + 1) = n0 + 2 * many - (J 11 r.toNat).toInt by omega]
  exact w
theorem rI_set {n0 r kk : Int} {J K : fM} {lev cnt : Int} {x g : Int32} (h : rI n0 r kk J lev cnt x.toInt) (hg : (J 0 4).toInt = 0) (h0 : 0 ≤ r) (hx : 0 ≤ x.toInt) (hl : (J 17 lev.toNat).toInt = -1) (h1 : 1 ≤ g.toInt) (e17 : K 17 = upd (J 17) lev.toNat x) (e18 : K 18 = upd (J 18) lev.toNat g) (e6 : K 6 = J 6) (e11 : K 11 = J 11) : rI n0 r kk K lev cnt (-1) := by
  intro _
  obtain ⟨q1, -, q3⟩ := h hg
  obtain ⟨a1, a2, a3, a4⟩ := q3 hx
  refine ⟨q1, fun _ => ?_, fun q => absurd q (by decide)⟩
  have w := pn_set (x := x) (g := g) a4 hl (by omega) ⟨a1, a2⟩ h1
  rw [e17, e18, e6, e11]
  rw [show cnt - (J 6 x.toInt.toNat).toInt + (J 6 x.toInt.toNat).toInt = cnt by omega, show n0 + 2 * cnt - 1 - (J 11 r.toNat).toInt + 1 = n0 + 2 * cnt - (J 11 r.toNat).toInt by omega] at w
  exact w
theorem rI_drop {n0 r kk : Int} {J K : fM} {lev lev' cnt node : Int} (h : rI n0 r kk J lev cnt node) (hg : (J 0 4).toInt = 0) (hx : 0 ≤ node) (h1 : lev' = lev - 1) (h2 : 1 ≤ lev) (hl : (J 17 lev.toNat).toInt = -1) (e17 : K 17 = J 17) (e18 : K 18 = J 18) (e6 : K 6 = J 6) (e11 : K 11 = J 11) : rI n0 r kk K lev' cnt node := by
  intro _
  obtain ⟨q1, -, q3⟩ := h hg
  obtain ⟨a1, a2, a3, a4⟩ := q3 hx
  rw [e17, e18, e6, e11, show lev'.toNat + 1 = lev.toNat by omega]
  exact ⟨q1, fun q => by omega, fun _ => ⟨a1, a2, a3, pn_drop a4 hl⟩⟩
theorem rI_comb {n0 r kk : Int} {J K : fM} {lev lev' cnt node : Int} {x z : Int32} (h : rI n0 r kk J lev cnt node) (hg : (J 0 4).toInt = 0) (hx : 0 ≤ node) (h1 : lev' = lev - 1) (h2 : 1 ≤ lev) (h0 : 0 ≤ r) (hnn : 0 ≤ (J 11 r.toNat).toInt) (hl : ¬ (J 17 lev.toNat).toInt = -1) (e17 : K 17 = J 17) (e18 : K 18 = J 18)
    (hw : x.toInt = 260 * r + (J 11 r.toNat).toInt) (hn : (K 11 r.toNat).toInt = (J 11 r.toNat).toInt + 1) (e6 : K 6 = upd (J 6) x.toInt.toNat z) (hz : z.toInt = (J 6 (J 17 lev.toNat).toInt.toNat).toInt + (J 6 node.toNat).toInt) : rI n0 r kk K lev' cnt x.toInt := by
  intro _
  obtain ⟨q1, -, q3⟩ := h hg
  obtain ⟨a1, a2, a3, a4⟩ := q3 hx
  refine ⟨q1, fun q => by omega, fun _ => ⟨by omega, by omega, a3, ?_⟩⟩
  have w := pn_comb (z := z) a4 hl (by omega) (n := x.toInt.toNat) (by omega)
  rw [e17, e18, e6, pk_us, hn, hz, show lev'.toNat + 1 = lev.toNat by omega]
  rw [show 260 * r + ((J 11 r.toNat).toInt + 1) = 260 * r + (J 11 r.toNat).toInt + 1 by omega, show cnt - ((J 6 (J 17 lev.toNat).toInt.toNat).toInt + (J 6 node.toNat).toInt) = cnt - (J 6 node.toNat).toInt - (J 6 (J 17 lev.toNat).toInt.toNat).toInt by omega, show n0 + 2 * cnt - 1 - ((J 11 r.toNat).toInt + 1) = n0 + 2 * cnt - 1 - (J 11 r.toNat).toInt - 1 by omega]
  exact w
def tX12_readT : List (Instr × Nat) := [(.iconst 0, 1), (.istore_n 1, 1), (.iconst 0, 1), (.istore_n 2, 1), (.aload_n 0, 1), (.getfield 65, 3), (.iconst 0, 1), (.iconst (-1), 1), (.iastore, 1), (.aload_n 0, 1), (.invokevirtual 281, 3), (.ifCond .eq 194, 3), (.aload_n 0, 1), (.bipush 40, 2), (.invokevirtual 329, 3), (.ifCond .eq 38, 3), (.iload_n 1, 1), (.iconst 4, 1), (.if_icmp .ne 7, 3), (.aload_n 0, 1), (.invokevirtual 288, 3), (.aload_n 0, 1), (.invokevirtual 281, 3), (.ifCond .ne 5, 3), (.iconst (-1), 1), (.ireturn, 1), (.aload_n 0, 1), (.invokevirtual 285, 3), (.iinc 1 1, 3), (.aload_n 0, 1), (.getfield 65, 3), (.iload_n 1, 1), (.iconst (-1), 1), (.iastore, 1), (.goto (-48), 3), (.aload_n 0, 1), (.iload_n 2, 1), (.invokevirtual 346, 3), (.istore_n 3, 1), (.iinc 2 1, 3), (.aload_n 0, 1), (.invokevirtual 281, 3), (.ifCond .eq 131, 3), (.iload_n 3, 1), (.ifCond .lt 127, 3), (.aload_n 0, 1), (.getfield 65, 3), (.iload_n 1, 1), (.iaload, 1), (.iconst (-1), 1), (.if_icmp .ne 57, 3), (.aload_n 0, 1), (.bipush 47, 2), (.invokevirtual 329, 3), (.ifCond .ne 12, 3), (.aload_n 0, 1), (.bipush 92, 2), (.invokevirtual 329, 3), (.ifCond .eq 39, 3), (.aload_n 0, 1), (.getfield 65, 3), (.iload_n 1, 1), (.iload_n 3, 1), (.iastore, 1), (.aload_n 0, 1), (.getfield 68, 3), (.iload_n 1, 1), (.aload_n 0, 1), (.bipush 47, 2), (.invokevirtual 329, 3), (.ifCond .eq 7, 3), (.iconst 1, 1), (.goto 4, 3), (.iconst 2, 1), (.iastore, 1), (.aload_n 0, 1), (.invokevirtual 285, 3), (.iconst (-1), 1), (.istore_n 3, 1), (.goto (-72), 3), (.aload_n 0, 1), (.getfield 65, 3), (.iload_n 1, 1), (.iaload, 1), (.iconst (-1), 1), (.if_icmp .eq 31, 3), (.aload_n 0, 1), (.invokevirtual 349, 3), (.istore 4, 2), (.aload_n 0, 1), (.iload 4, 2), (.aload_n 0, 1), (.getfield 68, 3), (.iload_n 1, 1), (.iaload, 1), (.aload_n 0, 1), (.getfield 65, 3), (.iload_n 1, 1), (.iaload, 1), (.iload_n 3, 1), (.invokevirtual 352, 3), (.iload 4, 2), (.istore_n 3, 1), (.iload_n 1, 1), (.ifCond .ne 5, 3), (.iload_n 3, 1), (.ireturn, 1), (.aload_n 0, 1), (.aload_n 0, 1), (.bipush 41, 2), (.invokevirtual 329, 3), (.invokevirtual 332, 3), (.iinc 1 (-1), 3), (.goto (-132), 3), (.goto (-195), 3), (.iconst (-1), 1), (.ireturn, 1)]
theorem tX12_readT_ok : f_chk cX12_readT 0 tX12_readT = true := by decide +kernel
def pX12_readT (av : List Value) (I : fM) (L : fN) : Prop := match av with
  | [.ref 0] => mR I ∧ mL I ∧ tB I ∧ (I 0 7).toInt ≤ 1600 ∧ (I 0 25).toInt + (I 0 24).toInt = 1 ∧ (I 11 (I 0 25).toInt.toNat).toInt ≤ 252
  | _ => False
def qX12_readT (av : List Value) (I : fM) (L : fN) (r : Value) (I' : fM) (L' : fN) : Prop := match av, r with
  | [.ref 0], .int x => mR I' ∧ mL I' ∧ tB I' ∧ f_fo [4, 5, 6, 7, 8] I I' ∧ f_fr [0, 3, 4, 5, 6, 7, 11, 17, 18] I I' ∧ f_fr [0] L L' ∧ (I' 0 7).toInt ≤ 1600 ∧ (¬ (I 0 4).toInt = 0 → ¬ (I' 0 4).toInt = 0) ∧ (I 11 (I 0 25).toInt.toNat).toInt ≤ (I' 11 (I 0 25).toInt.toNat).toInt ∧ (I' 11 (I 0 25).toInt.toNat).toInt ≤ (I 11 (I 0 25).toInt.toNat).toInt + 7 ∧ ((I' 0 4).toInt = 0 → 260 * (I 0 25).toInt ≤ x.toInt ∧ x.toInt < 260 * (I 0 25).toInt + (I' 11 (I 0 25).toInt.toNat).toInt ∧ 1 ≤ (I 8 (I 0 25).toInt.toNat).toInt) ∧ -1 ≤ x.toInt ∧ x.toInt ≤ 1599
  | _, _ => False
set_option maxHeartbeats 40000000 in
set_option maxRecDepth 100000 in
theorem mX12_readT {l : Launch} {a : Nat → Nat} {cy dC : Nat → ClassId} {dI : Nat → Nat → Nat} (hinj : ∀ i j, i < 71 → j < 71 → a i = a j → i = j) : f_Met (fun _ => True) l mY 71 a cy dC dI yX12_readT cX12_readT 5 1 3 pX12_readT qX12_readT := by
  refine f_met_of (f_Ec_T 71 a) hinj mY_hi (by decide) (fun av I L h => by unfold pX12_readT at h; split at h <;> first | exact Nat.le_of_ble_eq_true rfl | exact h.elim) ?_
  intro pP eP sP mP aP bP hP9 cP C av I L hp
  unfold pX12_readT at hp
  split at hp
  case h_2 => exact hp.elim
  case h_1 =>
    obtain ⟨hR, hmL, htB, p3, p4, p5⟩ := hp
    have hb : 0 ≤ (I 0 25).toInt ∧ (I 0 25).toInt ≤ 1 := hR 0 25
    have hN : 0 ≤ (I 11 (I 0 25).toInt.toNat).toInt := (hR 11 _).1
    have hF0 : f_fr [0, 3, 4, 5, 6, 7, 11, 17, 18] I I := f_fr_rf
    have hG0 : f_fr [0] L L := f_fr_rf
    have hO0 : f_fo [4, 5, 6, 7, 8] I I := f_fo_rf
    have lp11 : ∀ (n11 : Nat), ∀ (level : Int32) (many : Int32) (J11 : fM) (M11 : fN), mR J11 ∧ f_fr [0, 3, 4, 5, 6, 7, 11, 17, 18] I J11 ∧ f_fr [0] L M11 ∧ f_fo [4, 5, 6, 7, 8] I J11 ∧ mL J11 ∧ tB J11 ∧ (0 ≤ level.toInt) ∧ (level.toInt ≤ 4) ∧ (0 ≤ many.toInt) ∧ (many.toInt ≤ 5) ∧ ((J11 0 7).toInt ≤ 1600) ∧ ((¬ (I 0 4).toInt = 0 → ¬ (J11 0 4).toInt = 0)) ∧ ((I 11 (I 0 25).toInt.toNat).toInt ≤ (J11 11 (I 0 25).toInt.toNat).toInt) ∧ ((J11 11 (I 0 25).toInt.toNat).toInt ≤ (I 11 (I 0 25).toInt.toNat).toInt + 7) ∧ (rO (I 11 (I 0 25).toInt.toNat).toInt (I 0 25).toInt J11 level.toInt many.toInt) ∧ (6 * (5 - many.toInt) + 5 - level.toInt) < n11 → f_W pP l eP (f_rm 3) sP mP aP bP hP9 cP mY 71 a cy dC dI 5 (f_K 1 (qX12_readT [.ref 0] I L)) 11 [(2, .int many), (1, .int level), (0, .ref 0)] [] J11 M11 := by
      intro n11
      induction n11 with
      | zero =>
        intro level many J11 M11 h9
        obtain ⟨hR11c, hF11c, hG11c, hO11c, hmL11c, htB11c, u11_1, u11_2, u11_3, u11_4, u11_5, u11_6, u11_7, u11_8, u11_9, hm11⟩ := h9
        omega
      | succ n11 ih11 =>
        intro level many J11 M11 h9
        obtain ⟨hR11c, hF11c, hG11c, hO11c, hmL11c, htB11c, u11_1, u11_2, u11_3, u11_4, u11_5, u11_6, u11_7, u11_8, u11_9, hm11⟩ := h9
        have lp71 : ∀ (n71 : Nat), ∀ (lev : Int32) (cnt : Int32) (node : Int32) (J71 : fM) (M71 : fN), mR J71 ∧ f_fr [0, 3, 4, 5, 6, 7, 11, 17, 18] I J71 ∧ f_fr [0] L M71 ∧ f_fo [4, 5, 6, 7, 8] I J71 ∧ mL J71 ∧ tB J71 ∧ (0 ≤ lev.toInt) ∧ (lev.toInt ≤ 4) ∧ (cnt.toInt = many.toInt + 1) ∧ (cnt.toInt ≤ 5) ∧ (-1 ≤ node.toInt) ∧ (node.toInt ≤ 1599) ∧ ((J71 0 7).toInt ≤ 1600) ∧ ((¬ (I 0 4).toInt = 0 → ¬ (J71 0 4).toInt = 0)) ∧ ((I 11 (I 0 25).toInt.toNat).toInt ≤ (J71 11 (I 0 25).toInt.toNat).toInt) ∧ ((J71 11 (I 0 25).toInt.toNat).toInt ≤ (I 11 (I 0 25).toInt.toNat).toInt + 7) ∧ (rI (I 11 (I 0 25).toInt.toNat).toInt (I 0 25).toInt (I 8 (I 0 25).toInt.toNat).toInt J71 lev.toInt cnt.toInt node.toInt) ∧ (10000 * lev.toInt + node.toInt + 1) < n71 → f_W pP l eP (f_rm 3) sP mP aP bP hP9 cP mY 71 a cy dC dI 5 (f_K 1 (qX12_readT [.ref 0] I L)) 71 [(3, .int node), (2, .int cnt), (1, .int lev), (0, .ref 0)] [] J71 M71 := by
          intro n71
          induction n71 with
          | zero =>
            intro lev cnt node J71 M71 h9
            obtain ⟨hR71c, hF71c, hG71c, hO71c, hmL71c, htB71c, u71_1, u71_2, u71_3, u71_4, u71_5, u71_6, u71_7, u71_8, u71_9, u71_10, u71_11, hm71⟩ := h9
            omega
          | succ n71 ih71 =>
            intro lev cnt node J71 M71 h9
            obtain ⟨hR71c, hF71c, hG71c, hO71c, hmL71c, htB71c, u71_1, u71_2, u71_3, u71_4, u71_5, u71_6, u71_7, u71_8, u71_9, u71_10, u71_11, hm71⟩ := h9
            refine f_wp_ok C f_cl flX12_ok fiX12_ok fjX12_ok (sn := none) (fun j h => by cases h) (cs := (f_cnl [(281, (1, 3, 11, pX12_isGood, qX12_isGood)), (329, (2, 3, 11, pX12_stands, qX12_stands)), (288, (1, 0, 11, pX12_misplaced, qX12_misplaced)), (285, (1, 0, 11, pX12_goOn, qX12_goOn)), (346, (2, 1, 11, pX12_readKind, qX12_readKind)), (349, (1, 1, 11, pX12_freshNode, qX12_freshNode)), (352, (5, 0, 11, pX12_laySlash, qX12_laySlash)), (332, (2, 0, 11, pX12_mustb, qX12_mustb))])) (cz := (fun _ => none)) (f_cnl_of (P := fun j S => f_cok pP l eP (f_rm 3) sP mP aP bP hP9 cP mY 71 a cy dC dI 5 _ _ (.invokevirtual j) true S) (List.forall_mem_cons.mpr ⟨f_cokV C (mX12_isGood hinj) (ci := 11) rfl (List.forall_mem_cons.mpr ⟨(mlX12_ok _ (List.mem_of_getElem? (i := 7) rfl)), kc_X12_isGood⟩) (by decide +kernel) ⟨Nat.le_of_ble_eq_true rfl, Nat.le_of_ble_eq_true rfl⟩, List.forall_mem_cons.mpr ⟨f_cokV C (mX12_stands hinj) (ci := 11) rfl (List.forall_mem_cons.mpr ⟨(mlX12_ok _ (List.mem_of_getElem? (i := 17) rfl)), kc_X12_stands⟩) (by decide +kernel) ⟨Nat.le_of_ble_eq_true rfl, Nat.le_of_ble_eq_true rfl⟩, List.forall_mem_cons.mpr ⟨f_cokV C (mX12_misplaced hinj) (ci := 11) rfl (List.forall_mem_cons.mpr ⟨(mlX12_ok _ (List.mem_of_getElem? (i := 9) rfl)), kc_X12_misplaced⟩) (by decide +kernel) ⟨Nat.le_of_ble_eq_true rfl, Nat.le_of_ble_eq_true rfl⟩, List.forall_mem_cons.mpr ⟨f_cokV C (mX12_goOn hinj) (ci := 11) rfl (List.forall_mem_cons.mpr ⟨(mlX12_ok _ (List.mem_of_getElem? (i := 8) rfl)), kc_X12_goOn⟩) (by decide +kernel) ⟨Nat.le_of_ble_eq_true rfl, Nat.le_of_ble_eq_true rfl⟩, List.forall_mem_cons.mpr ⟨f_cokV C (mX12_readKind hinj) (ci := 11) rfl (List.forall_mem_cons.mpr ⟨(mlX12_ok _ (List.mem_of_getElem? (i := 22) rfl)), kc_X12_readKind⟩) (by decide +kernel) ⟨Nat.le_of_ble_eq_true rfl, Nat.le_of_ble_eq_true rfl⟩, List.forall_mem_cons.mpr ⟨f_cokV C (mX12_freshNode hinj) (ci := 11) rfl (List.forall_mem_cons.mpr ⟨(mlX12_ok _ (List.mem_of_getElem? (i := 23) rfl)), kc_X12_freshNode⟩) (by decide +kernel) ⟨Nat.le_of_ble_eq_true rfl, Nat.le_of_ble_eq_true rfl⟩, List.forall_mem_cons.mpr ⟨f_cokV C (mX12_laySlash hinj) (ci := 11) rfl (List.forall_mem_cons.mpr ⟨(mlX12_ok _ (List.mem_of_getElem? (i := 24) rfl)), kc_X12_laySlash⟩) (by decide +kernel) ⟨Nat.le_of_ble_eq_true rfl, Nat.le_of_ble_eq_true rfl⟩, List.forall_mem_cons.mpr ⟨f_cokV C (mX12_mustb hinj) (ci := 11) rfl (List.forall_mem_cons.mpr ⟨(mlX12_ok _ (List.mem_of_getElem? (i := 18) rfl)), kc_X12_must⟩) (by decide +kernel) ⟨Nat.le_of_ble_eq_true rfl, Nat.le_of_ble_eq_true rfl⟩, fun _ h => absurd h List.not_mem_nil⟩⟩⟩⟩⟩⟩⟩⟩)) (fun j S h => by cases h) tX12_readT_ok (cut := (f_cnl [(11, (fun (ls' : fLs) (st' : List Value) (I' : fM) (L' : fN) => ∃ level : Int32, ∃ many : Int32, (∀ q ∈ ([(2, .int many), (1, .int level), (0, .ref 0)] : fLs), q ∈ ls') ∧ st' = [] ∧ (mR I' ∧ f_fr [0, 3, 4, 5, 6, 7, 11, 17, 18] I I' ∧ f_fr [0] L L' ∧ f_fo [4, 5, 6, 7, 8] I I' ∧ mL I' ∧ tB I' ∧ (0 ≤ level.toInt) ∧ (level.toInt ≤ 4) ∧ (0 ≤ many.toInt) ∧ (many.toInt ≤ 5) ∧ ((I' 0 7).toInt ≤ 1600) ∧ ((¬ (I 0 4).toInt = 0 → ¬ (I' 0 4).toInt = 0)) ∧ ((I 11 (I 0 25).toInt.toNat).toInt ≤ (I' 11 (I 0 25).toInt.toNat).toInt) ∧ ((I' 11 (I 0 25).toInt.toNat).toInt ≤ (I 11 (I 0 25).toInt.toNat).toInt + 7) ∧ (rO (I 11 (I 0 25).toInt.toNat).toInt (I 0 25).toInt I' level.toInt many.toInt) ∧ (6 * (5 - many.toInt) + 5 - level.toInt) < n11))), (71, (fun (ls' : fLs) (st' : List Value) (I' : fM) (L' : fN) => ∃ lev : Int32, ∃ cnt : Int32, ∃ node : Int32, (∀ q ∈ ([(3, .int node), (2, .int cnt), (1, .int lev), (0, .ref 0)] : fLs), q ∈ ls') ∧ st' = [] ∧ (mR I' ∧ f_fr [0, 3, 4, 5, 6, 7, 11, 17, 18] I I' ∧ f_fr [0] L L' ∧ f_fo [4, 5, 6, 7, 8] I I' ∧ mL I' ∧ tB I' ∧ (0 ≤ lev.toInt) ∧ (lev.toInt ≤ 4) ∧ (cnt.toInt = many.toInt + 1) ∧ (cnt.toInt ≤ 5) ∧ (-1 ≤ node.toInt) ∧ (node.toInt ≤ 1599) ∧ ((I' 0 7).toInt ≤ 1600) ∧ ((¬ (I 0 4).toInt = 0 → ¬ (I' 0 4).toInt = 0)) ∧ ((I 11 (I 0 25).toInt.toNat).toInt ≤ (I' 11 (I 0 25).toInt.toNat).toInt) ∧ ((I' 11 (I 0 25).toInt.toNat).toInt ≤ (I 11 (I 0 25).toInt.toNat).toInt + 7) ∧ (rI (I 11 (I 0 25).toInt.toNat).toInt (I 0 25).toInt (I 8 (I 0 25).toInt.toNat).toInt I' lev.toInt cnt.toInt node.toInt) ∧ (10000 * lev.toInt + node.toInt + 1) < n71)))])) (f_cnl_of (P := fun (tQ : Nat) (P : fLs → List Value → fM → fN → Prop) => ∀ ls' st' I' L', P ls' st' I' L' → f_W pP l eP (f_rm 3) sP mP aP bP hP9 cP mY 71 a cy dC dI 5 (f_K 1 (qX12_readT [.ref 0] I L)) tQ ls' st' I' L') (List.forall_mem_cons.mpr ⟨(fun ls' st' I' L' h => by obtain ⟨level, many, hs, e1, h9⟩ := h; rw [e1]; exact f_W_sub hs (ih11 level many I' L' h9)), List.forall_mem_cons.mpr ⟨(fun ls' st' I' L' h => by obtain ⟨lev, cnt, node, hs, e1, h9⟩ := h; rw [e1]; exact f_W_sub hs (ih71 lev cnt node I' L' h9)), fun _ h => absurd h List.not_mem_nil⟩⟩)) 46 71 (f_seek 71 0 tX12_readT) (f_seek_ok 71 0 tX12_readT tX12_readT_ok) _ _ _ _ ?_
            refine And.intro trivial ?_
            intro x72 I72 L72 hq72
            have hq72 : I72 = J71 ∧ L72 = M71 ∧ ((x72.toInt = 1 ∧ (J71 0 4).toInt = 0 ∨ x72.toInt = 0 ∧ ¬ (J71 0 4).toInt = 0)) := hq72
            obtain ⟨eI72, eL72, c72_2⟩ := hq72
            replace eI72 := eI72.symm
            subst eI72
            replace eL72 := eL72.symm
            subst eL72
            apply And.intro
            · intro h75
              have h75 : x72.toInt = 0 := h75
              have q206 : rO (I 11 (I 0 25).toInt.toNat).toInt (I 0 25).toInt J71 lev.toInt cnt.toInt := fun h => by
                obtain ⟨d1, d2, -⟩ := u71_11 h
                exact ⟨d1, d2 (by omega)⟩
              have r11_1 : 0 ≤ (J71 0 7).toInt ∧ (J71 0 7).toInt ≤ 1601 := hR71c 0 7
              have r11_3 : 0 ≤ (J71 11 ((I 0 25).toInt.toNat)).toInt ∧ (J71 11 ((I 0 25).toInt.toNat)).toInt ≤ 260 := hR71c 11 ((I 0 25).toInt.toNat)
              exact ⟨lev, cnt, (by intro q9 h9; simp only [List.mem_cons, List.not_mem_nil, or_false] at h9; rcases h9 with h9 | h9 | h9 <;> subst h9 <;> repeat (first | exact List.mem_cons_self | apply List.mem_cons_of_mem)), rfl, hR71c, hF71c, hG71c, hO71c, hmL71c, htB71c, (show 0 ≤ lev.toInt from by first | assumption | omega), (show lev.toInt ≤ 4 from by first | assumption | omega), (show 0 ≤ cnt.toInt from by first | assumption | omega), (show cnt.toInt ≤ 5 from by first | assumption | omega), (show (J71 0 7).toInt ≤ 1600 from by first | assumption | omega), (show (¬ (I 0 4).toInt = 0 → ¬ (J71 0 4).toInt = 0) from by first | assumption | omega | rfl), (show (I 11 (I 0 25).toInt.toNat).toInt ≤ (J71 11 (I 0 25).toInt.toNat).toInt from by first | assumption | omega), (show (J71 11 (I 0 25).toInt.toNat).toInt ≤ (I 11 (I 0 25).toInt.toNat).toInt + 7 from by first | assumption | omega), (show rO (I 11 (I 0 25).toInt.toNat).toInt (I 0 25).toInt J71 lev.toInt cnt.toInt from by first | assumption | omega), (show (6 * (5 - cnt.toInt) + 5 - lev.toInt) < n11 from by omega)⟩
            · intro h75
              have h75 : ¬ x72.toInt = 0 := h75
              apply And.intro
              · intro h79
                have h79 : node.toInt < 0 := h79
                have q206 : rO (I 11 (I 0 25).toInt.toNat).toInt (I 0 25).toInt J71 lev.toInt cnt.toInt := fun h => by
                  obtain ⟨d1, d2, -⟩ := u71_11 h
                  exact ⟨d1, d2 (by omega)⟩
                have r11_1 : 0 ≤ (J71 0 7).toInt ∧ (J71 0 7).toInt ≤ 1601 := hR71c 0 7
                have r11_3 : 0 ≤ (J71 11 ((I 0 25).toInt.toNat)).toInt ∧ (J71 11 ((I 0 25).toInt.toNat)).toInt ≤ 260 := hR71c 11 ((I 0 25).toInt.toNat)
                exact ⟨lev, cnt, (by intro q9 h9; simp only [List.mem_cons, List.not_mem_nil, or_false] at h9; rcases h9 with h9 | h9 | h9 <;> subst h9 <;> repeat (first | exact List.mem_cons_self | apply List.mem_cons_of_mem)), rfl, hR71c, hF71c, hG71c, hO71c, hmL71c, htB71c, (show 0 ≤ lev.toInt from by first | assumption | omega), (show lev.toInt ≤ 4 from by first | assumption | omega), (show 0 ≤ cnt.toInt from by first | assumption | omega), (show cnt.toInt ≤ 5 from by first | assumption | omega), (show (J71 0 7).toInt ≤ 1600 from by first | assumption | omega), (show (¬ (I 0 4).toInt = 0 → ¬ (J71 0 4).toInt = 0) from by first | assumption | omega | rfl), (show (I 11 (I 0 25).toInt.toNat).toInt ≤ (J71 11 (I 0 25).toInt.toNat).toInt from by first | assumption | omega), (show (J71 11 (I 0 25).toInt.toNat).toInt ≤ (I 11 (I 0 25).toInt.toNat).toInt + 7 from by first | assumption | omega), (show rO (I 11 (I 0 25).toInt.toNat).toInt (I 0 25).toInt J71 lev.toInt cnt.toInt from by first | assumption | omega), (show (6 * (5 - cnt.toInt) + 5 - lev.toInt) < n11 from by omega)⟩
              · intro h79
                have h79 : 0 ≤ node.toInt := h79
                refine And.intro (show f_in lev 6 from ⟨show 0 ≤ lev.toInt from by omega, show lev.toInt < 6 from by omega⟩) ?_
                have r87_1 : -1 ≤ (J71 17 (lev.toInt.toNat)).toInt ∧ (J71 17 (lev.toInt.toNat)).toInt ≤ 1599 := hR71c 17 (lev.toInt.toNat)
                apply And.intro
                · intro h89
                  have h89 : ¬ (J71 17 (lev.toInt.toNat)).toInt = (-1) := h89
                  have g146 : (J71 0 4).toInt = 0 := by omega
                  obtain ⟨w146, -, v146⟩ := u71_11 g146
                  have v146 := v146 (by omega)
                  have t146 : tr (J71 3) (J71 4) (J71 5) (J71 6) (260 * (I 0 25).toInt) (260 * (I 0 25).toInt + (J71 11 (I 0 25).toInt.toNat).toInt) := by have t := htB71c; unfold tB at t; rw [hO71c 25 rfl] at t; exact t
                  refine And.intro (show f_in lev 6 from ⟨show 0 ≤ lev.toInt from by omega, show lev.toInt < 6 from by omega⟩) ?_
                  apply And.intro
                  · intro h153
                    have h153 : (J71 17 (lev.toInt.toNat)).toInt = (-1) := h153
                    exfalso
                    omega
                  · intro h153
                    have h153 : ¬ (J71 17 (lev.toInt.toNat)).toInt = (-1) := h153
                    have m156 := pn_nn1 v146.2.2.2 h153 (fun n a b => (t146 n a b).1) (by omega)
                    have a156 := t146 (J71 17 lev.toInt.toNat).toInt.toNat (by omega) (by omega)
                    have b156 := t146 node.toInt.toNat (by omega) (by omega)
                    have r157_2 : 0 ≤ (J71 11 ((J71 0 25).toInt.toNat)).toInt ∧ (J71 11 ((J71 0 25).toInt.toNat)).toInt ≤ 260 := hR71c 11 ((J71 0 25).toInt.toNat)
                    have e157_3 : (J71 11 ((J71 0 25).toInt.toNat)).toInt = (J71 11 ((I 0 25).toInt.toNat)).toInt := by rw [(hO71c 25 rfl)]
                    have r157_4 : 0 ≤ (J71 0 25).toInt ∧ (J71 0 25).toInt ≤ 1 := hR71c 0 25
                    have e157_5 : (J71 0 25).toInt = (I 0 25).toInt := congrArg Int32.toInt (hO71c 25 rfl)
                    refine And.intro ⟨hR71c, (show (J71 11 (J71 0 25).toInt.toNat).toInt ≤ 259 from by first | assumption | omega)⟩ ?_
                    intro x157 I157 L157 hq157
                    have hq157 : mR I157 ∧ f_fr [11] J71 I157 ∧ L157 = M71 ∧ x157.toInt = 260 * (J71 0 25).toInt + (J71 11 (J71 0 25).toInt.toNat).toInt ∧ (I157 11 (J71 0 25).toInt.toNat).toInt = (J71 11 (J71 0 25).toInt.toNat).toInt + 1 ∧ ((∀ j : Nat, j ≠ (J71 0 25).toInt.toNat → I157 11 j = J71 11 j)) := hq157
                    obtain ⟨c157_0, c157_1, eL157, c157_3, c157_4, c157_5⟩ := hq157
                    replace eL157 := eL157.symm
                    subst eL157
                    have hO157 := f_fo_fr hO71c c157_1 rfl
                    have hF157 := f_fr_tr hF71c c157_1 rfl
                    have r157_6 : 0 ≤ (I157 11 ((J71 0 25).toInt.toNat)).toInt ∧ (I157 11 ((J71 0 25).toInt.toNat)).toInt ≤ 260 := c157_0 11 ((J71 0 25).toInt.toNat)
                    have e157_7 : (I157 11 ((J71 0 25).toInt.toNat)).toInt = (I157 11 ((I 0 25).toInt.toNat)).toInt := by rw [(hO71c 25 rfl)]
                    have g157 : I157 0 24 = I 0 24 := hO157 24 rfl
                    have f157 : J71 0 25 = I 0 25 := hO71c 25 rfl
                    have hmL157 : mL I157 := mL_new hR71c hmL71c c157_1 c157_5 (by rw [hO71c 24 rfl, f157]; omega)
                    have k157 : I157 6 = J71 6 := c157_1 6 rfl
                    have l157 : I157 17 = J71 17 := c157_1 17 rfl
                    have s157 : I157 18 = J71 18 := c157_1 18 rfl
                    have i157 : 1 ≤ (I157 18 lev.toInt.toNat).toInt ∧ 0 ≤ (I157 17 lev.toInt.toNat).toInt ∧ 0 ≤ (I157 6 (I157 17 lev.toInt.toNat).toInt.toNat).toInt ∧ (I157 6 (I157 17 lev.toInt.toNat).toInt.toNat).toInt ≤ 1000 ∧ 0 ≤ (I157 6 node.toInt.toNat).toInt ∧ (I157 6 node.toInt.toNat).toInt ≤ 1000 := by rw [k157, l157, s157]; omega
                    refine And.intro (show f_in lev 6 from ⟨show 0 ≤ lev.toInt from by omega, show lev.toInt < 6 from by omega⟩) ?_
                    have r170_8 : 0 ≤ (I157 18 (lev.toInt.toNat)).toInt ∧ (I157 18 (lev.toInt.toNat)).toInt ≤ 2 := c157_0 18 (lev.toInt.toNat)
                    have e170_9 : (I157 18 (lev.toInt.toNat)).toInt = (J71 18 (lev.toInt.toNat)).toInt := congrArg Int32.toInt (congrFun (c157_1 18 rfl) (lev.toInt.toNat))
                    refine And.intro (show f_in lev 6 from ⟨show 0 ≤ lev.toInt from by omega, show lev.toInt < 6 from by omega⟩) ?_
                    have r176_10 : -1 ≤ (I157 17 (lev.toInt.toNat)).toInt ∧ (I157 17 (lev.toInt.toNat)).toInt ≤ 1599 := c157_0 17 (lev.toInt.toNat)
                    have e176_11 : (I157 17 (lev.toInt.toNat)).toInt = (J71 17 (lev.toInt.toNat)).toInt := congrArg Int32.toInt (congrFun (c157_1 17 rfl) (lev.toInt.toNat))
                    have e178_13 : (I157 6 ((I157 17 (lev.toInt.toNat)).toInt.toNat)).toInt = (J71 6 ((I157 17 (lev.toInt.toNat)).toInt.toNat)).toInt := congrArg Int32.toInt (congrFun (c157_1 6 rfl) ((I157 17 (lev.toInt.toNat)).toInt.toNat))
                    have e178_15 : (I157 6 (node.toInt.toNat)).toInt = (J71 6 (node.toInt.toNat)).toInt := congrArg Int32.toInt (congrFun (c157_1 6 rfl) (node.toInt.toNat))
                    refine And.intro ⟨c157_0, (show 0 ≤ x157.toInt from by first | assumption | omega), (show x157.toInt ≤ 1599 from by first | assumption | omega), (show 1 ≤ (I157 18 (lev.toInt.toNat)).toInt from by first | assumption | omega), (show (I157 18 (lev.toInt.toNat)).toInt ≤ 2 from by first | assumption | omega), (show 0 ≤ (I157 17 (lev.toInt.toNat)).toInt from by first | assumption | omega), (show (I157 17 (lev.toInt.toNat)).toInt ≤ 1599 from by first | assumption | omega), (show 0 ≤ node.toInt from by first | assumption | omega), (show node.toInt ≤ 1599 from by first | assumption | omega), (show 0 ≤ (I157 6 (I157 17 (lev.toInt.toNat)).toInt.toNat).toInt from by first | assumption | omega), (show (I157 6 (I157 17 (lev.toInt.toNat)).toInt.toNat).toInt ≤ 1000 from by first | assumption | omega), (show 0 ≤ (I157 6 node.toInt.toNat).toInt from by first | assumption | omega), (show (I157 6 node.toInt.toNat).toInt ≤ 1000 from by first | assumption | omega)⟩ ?_
                    intro I178 L178 hq178
                    have hq178 : mR I178 ∧ f_fr [3, 4, 5, 6, 7] I157 I178 ∧ L178 = M71 ∧ I178 3 = upd (I157 3) x157.toInt.toNat (I157 18 (lev.toInt.toNat)) ∧ I178 4 = upd (I157 4) x157.toInt.toNat (I157 17 (lev.toInt.toNat)) ∧ I178 5 = upd (I157 5) x157.toInt.toNat node ∧ lvs I157 I178 x157.toInt.toNat ((I157 6 (I157 17 (lev.toInt.toNat)).toInt.toNat).toInt + (I157 6 node.toInt.toNat).toInt) := hq178
                    obtain ⟨c178_0, c178_1, eL178, c178_3, c178_4, c178_5, c178_6⟩ := hq178
                    replace eL178 := eL178.symm
                    subst eL178
                    have hO178 := f_fo_fr hO157 c178_1 rfl
                    have hF178 := f_fr_tr hF157 c178_1 rfl
                    obtain ⟨z178, hz178, e178⟩ := c178_6
                    have hmL178 : mL I178 := mL_lay c157_0 hmL157 c178_1 c178_3 c178_4 c178_5 e178 (by rw [g157]; omega)
                    have y178 : z178.toInt = (J71 6 (J71 17 lev.toInt.toNat).toInt.toNat).toInt + (J71 6 node.toInt.toNat).toInt := by rw [k157, l157] at hz178; exact hz178
                    have htB178 : tB I178 := by
                      unfold tB
                      rw [c178_3, c178_4, c178_5, e178, c178_1 11 rfl, c157_1 3 rfl, c157_1 4 rfl, c157_1 5 rfl, k157, hO178 25 rfl]
                      have h := tr_put (n := x157.toInt.toNat) (s := I157 18 lev.toInt.toNat) (u := I157 17 lev.toInt.toNat) (v := node) (z := z178) (by omega) (by omega) (by omega) t146 (by omega) (Or.inr ⟨by omega, by rw [l157]; omega, by rw [l157]; omega, by omega, by omega, by rw [l157]; exact y178⟩)
                      rw [show 260 * (I 0 25).toInt + (I157 11 (I 0 25).toInt.toNat).toInt = 260 * (I 0 25).toInt + (J71 11 (I 0 25).toInt.toNat).toInt + 1 by omega]
                      exact h
                    apply And.intro
                    · intro h185
                      have h185 : ¬ lev.toInt = 0 := h185
                      refine And.intro c178_0 ?_
                      intro x194 I194 L194 hq194
                      have hq194 : I194 = I178 ∧ L194 = M71 ∧ ((x194.toInt = 0 ∨ x194.toInt = 1)) := hq194
                      obtain ⟨eI194, eL194, c194_2⟩ := hq194
                      replace eI194 := eI194.symm
                      subst eI194
                      replace eL194 := eL194.symm
                      subst eL194
                      have r197_16 : 0 ≤ (I178 0 7).toInt ∧ (I178 0 7).toInt ≤ 1601 := c178_0 0 7
                      have e197_17 : (I178 0 7).toInt = (I157 0 7).toInt := congrArg Int32.toInt (congrFun (c178_1 0 rfl) 7)
                      have e197_18 : (I157 0 7).toInt = (J71 0 7).toInt := congrArg Int32.toInt (congrFun (c157_1 0 rfl) 7)
                      refine And.intro ⟨c178_0, (show (I178 0 7).toInt ≤ 1600 from by first | assumption | omega)⟩ ?_
                      intro I197 L197 hq197
                      have hq197 : mR I197 ∧ f_fo [4, 5, 6, 7, 8] I178 I197 ∧ f_fr [0] I178 I197 ∧ f_fr [0] M71 L197 ∧ (I197 0 7).toInt ≤ 1600 ∧ ((¬ (I178 0 4).toInt = 0 → ¬ (I197 0 4).toInt = 0)) := hq197
                      obtain ⟨c197_0, c197_1, c197_2, c197_3, c197_4, c197_5⟩ := hq197
                      have hO197 := f_fo_tr hO178 c197_1 rfl
                      have hmL197 := f_depo_fo mL_dep hmL178 c197_2 c197_1 rfl rfl
                      have htB197 := f_depo_fo tB_dep htB178 c197_2 c197_1 rfl rfl
                      have hF197 := f_fr_tr hF178 c197_2 rfl
                      have hG197 := f_fr_tr hG71c c197_3 rfl
                      intro z200 q200 _ hq200 hl200 hu200
                      have hq200 : z200.toInt = lev.toInt + (-1) + 4294967296 * q200 := hq200
                      try have hz200 : z200.toInt = lev.toInt + (-1) := by omega
                      have q200 : rI (I 11 (I 0 25).toInt.toNat).toInt (I 0 25).toInt (I 8 (I 0 25).toInt.toNat).toInt I197 z200.toInt cnt.toInt x157.toInt := by
                        first
                        | exact rI_comb u71_11 g146 (by omega) (show z200.toInt = lev.toInt - 1 by omega) (by omega) hb.1 (by omega) h153 ((c197_2 17 rfl).trans ((c178_1 17 rfl).trans l157)) ((c197_2 18 rfl).trans ((c178_1 18 rfl).trans s157)) (by omega) (by rw [c197_2 11 rfl, c178_1 11 rfl]; omega) (by rw [c197_2 6 rfl, e178, k157]) y178
                        | exact rI_drop u71_11 g146 (by omega) (show z200.toInt = lev.toInt - 1 by omega) (by omega) h153 (c197_2 17 rfl) (c197_2 18 rfl) (c197_2 6 rfl) (c197_2 11 rfl)
                      have r71_19 : 0 ≤ (I197 0 7).toInt ∧ (I197 0 7).toInt ≤ 1601 := c197_0 0 7
                      have r71_21 : 0 ≤ (I197 11 ((I 0 25).toInt.toNat)).toInt ∧ (I197 11 ((I 0 25).toInt.toNat)).toInt ≤ 260 := c197_0 11 ((I 0 25).toInt.toNat)
                      have e71_22 : (I197 11 ((I 0 25).toInt.toNat)).toInt = (I178 11 ((I 0 25).toInt.toNat)).toInt := congrArg Int32.toInt (congrFun (c197_2 11 rfl) ((I 0 25).toInt.toNat))
                      have e71_23 : (I178 11 ((I 0 25).toInt.toNat)).toInt = (I157 11 ((I 0 25).toInt.toNat)).toInt := congrArg Int32.toInt (congrFun (c178_1 11 rfl) ((I 0 25).toInt.toNat))
                      exact ⟨z200, cnt, x157, (by intro q9 h9; simp only [List.mem_cons, List.not_mem_nil, or_false] at h9; rcases h9 with h9 | h9 | h9 | h9 <;> subst h9 <;> repeat (first | exact List.mem_cons_self | apply List.mem_cons_of_mem)), rfl, c197_0, hF197, hG197, hO197, hmL197, htB197, (show 0 ≤ z200.toInt from by first | assumption | omega), (show z200.toInt ≤ 4 from by first | assumption | omega), (show cnt.toInt = many.toInt + 1 from by first | assumption | omega | rfl), (show cnt.toInt ≤ 5 from by first | assumption | omega), (show -1 ≤ x157.toInt from by first | assumption | omega), (show x157.toInt ≤ 1599 from by first | assumption | omega), (show (I197 0 7).toInt ≤ 1600 from by first | assumption | omega), (show (¬ (I 0 4).toInt = 0 → ¬ (I197 0 4).toInt = 0) from by first | assumption | omega | rfl), (show (I 11 (I 0 25).toInt.toNat).toInt ≤ (I197 11 (I 0 25).toInt.toNat).toInt from by first | assumption | omega), (show (I197 11 (I 0 25).toInt.toNat).toInt ≤ (I 11 (I 0 25).toInt.toNat).toInt + 7 from by first | assumption | omega), (show rI (I 11 (I 0 25).toInt.toNat).toInt (I 0 25).toInt (I 8 (I 0 25).toInt.toNat).toInt I197 z200.toInt cnt.toInt x157.toInt from by first | assumption | omega), (show (10000 * z200.toInt + x157.toInt + 1) < n71 from by omega)⟩
                    · intro h185
                      have h185 : lev.toInt = 0 := h185
                      have r189_16 : 0 ≤ (I178 0 7).toInt ∧ (I178 0 7).toInt ≤ 1601 := c178_0 0 7
                      have e189_17 : (I178 0 7).toInt = (I157 0 7).toInt := congrArg Int32.toInt (congrFun (c178_1 0 rfl) 7)
                      have e189_18 : (I157 0 7).toInt = (J71 0 7).toInt := congrArg Int32.toInt (congrFun (c157_1 0 rfl) 7)
                      have e189_20 : (I178 0 4).toInt = (I157 0 4).toInt := congrArg Int32.toInt (congrFun (c178_1 0 rfl) 4)
                      have e189_21 : (I157 0 4).toInt = (J71 0 4).toInt := congrArg Int32.toInt (congrFun (c157_1 0 rfl) 4)
                      have r189_22 : 0 ≤ (I178 11 ((I 0 25).toInt.toNat)).toInt ∧ (I178 11 ((I 0 25).toInt.toNat)).toInt ≤ 260 := c178_0 11 ((I 0 25).toInt.toNat)
                      have e189_23 : (I178 11 ((I 0 25).toInt.toNat)).toInt = (I157 11 ((I 0 25).toInt.toNat)).toInt := congrArg Int32.toInt (congrFun (c178_1 11 rfl) ((I 0 25).toInt.toNat))
                      exact ⟨c178_0, hmL178, htB178, hO178, hF178, hG71c, (show (I178 0 7).toInt ≤ 1600 from by first | assumption | omega | rfl), (show (¬ (I 0 4).toInt = 0 → ¬ (I178 0 4).toInt = 0) from by first | assumption | omega | rfl), (show (I 11 (I 0 25).toInt.toNat).toInt ≤ (I178 11 (I 0 25).toInt.toNat).toInt from by first | assumption | omega | rfl), (show (I178 11 (I 0 25).toInt.toNat).toInt ≤ (I 11 (I 0 25).toInt.toNat).toInt + 7 from by first | assumption | omega | rfl), (show ((I178 0 4).toInt = 0 → 260 * (I 0 25).toInt ≤ x157.toInt ∧ x157.toInt < 260 * (I 0 25).toInt + (I178 11 (I 0 25).toInt.toNat).toInt ∧ 1 ≤ (I 8 (I 0 25).toInt.toNat).toInt) from fun h => by omega), (show -1 ≤ x157.toInt from by first | assumption | omega | rfl), (show x157.toInt ≤ 1599 from by first | assumption | omega | rfl)⟩
                · intro h89
                  have h89 : (J71 17 (lev.toInt.toNat)).toInt = (-1) := h89
                  refine And.intro hR71c ?_
                  intro x95 I95 L95 hq95
                  have hq95 : I95 = J71 ∧ L95 = M71 ∧ ((x95.toInt = 0 ∨ x95.toInt = 1)) := hq95
                  obtain ⟨eI95, eL95, c95_2⟩ := hq95
                  replace eI95 := eI95.symm
                  subst eI95
                  replace eL95 := eL95.symm
                  subst eL95
                  apply And.intro
                  · intro h98
                    have h98 : ¬ x95.toInt = 0 := h98
                    have g110 : (J71 0 4).toInt = 0 := by omega
                    refine And.intro (show f_in lev 6 from ⟨show 0 ≤ lev.toInt from by omega, show lev.toInt < 6 from by omega⟩) ?_
                    have hR116 := mR_a (k := 17) (j := lev.toInt.toNat) (x := node) hR71c (show -1 ≤ node.toInt ∧ node.toInt ≤ 1599 from ⟨by omega, by omega⟩)
                    have hF116 := f_fr_up (k := 17) (r := upd (J71 17) (lev.toInt.toNat) node) hF71c rfl
                    have hO116 := f_fo_ne (k := 17) (r := upd (J71 17) (lev.toInt.toNat) node) hO71c (by decide)
                    have hmL116 := f_depo_up mL_dep (k := 17) (r := upd (J71 17) (lev.toInt.toNat) node) hmL71c rfl (by decide)
                    have htB116 := f_depo_up tB_dep (k := 17) (r := upd (J71 17) (lev.toInt.toNat) node) htB71c rfl (by decide)
                    refine And.intro hR116 ?_
                    intro x125 I125 L125 hq125
                    have hq125 : I125 = (va_up J71 17 (upd (J71 17) (lev.toInt.toNat) node)) ∧ L125 = M71 ∧ ((x125.toInt = 0 ∨ x125.toInt = 1)) := hq125
                    obtain ⟨eI125, eL125, c125_2⟩ := hq125
                    replace eI125 := eI125.symm
                    subst eI125
                    replace eL125 := eL125.symm
                    subst eL125
                    apply And.intro
                    · intro h128
                      have h128 : x125.toInt = 0 := h128
                      refine And.intro (show f_in lev 6 from ⟨show 0 ≤ lev.toInt from by omega, show lev.toInt < 6 from by omega⟩) ?_
                      have hR136 := mR_a (k := 18) (j := lev.toInt.toNat) (x := Int32.ofInt 2) hR116 (show 0 ≤ 2 ∧ 2 ≤ 2 from ⟨by omega, by omega⟩)
                      have hF136 := f_fr_up (k := 18) (r := upd (J71 18) (lev.toInt.toNat) (Int32.ofInt 2)) hF116 rfl
                      have hO136 := f_fo_ne (k := 18) (r := upd (J71 18) (lev.toInt.toNat) (Int32.ofInt 2)) hO116 (by decide)
                      have hmL136 := f_depo_up mL_dep (k := 18) (r := upd (J71 18) (lev.toInt.toNat) (Int32.ofInt 2)) hmL116 rfl (by decide)
                      have htB136 := f_depo_up tB_dep (k := 18) (r := upd (J71 18) (lev.toInt.toNat) (Int32.ofInt 2)) htB116 rfl (by decide)
                      refine And.intro ⟨hR136, (show (J71 0 7).toInt ≤ 1600 from by first | assumption | omega)⟩ ?_
                      intro I138 L138 hq138
                      have hq138 : mR I138 ∧ f_fo [6, 7, 8] (va_up (va_up J71 17 (upd (J71 17) (lev.toInt.toNat) node)) 18 (upd (J71 18) (lev.toInt.toNat) (Int32.ofInt 2))) I138 ∧ f_fr [0] (va_up (va_up J71 17 (upd (J71 17) (lev.toInt.toNat) node)) 18 (upd (J71 18) (lev.toInt.toNat) (Int32.ofInt 2))) I138 ∧ f_fr [0] M71 L138 ∧ (I138 0 7).toInt ≤ 1600 := hq138
                      obtain ⟨c138_0, c138_1, c138_2, c138_3, c138_4⟩ := hq138
                      have hO138 := f_fo_tr hO136 c138_1 rfl
                      have hmL138 := f_depo_fo mL_dep hmL136 c138_2 c138_1 rfl rfl
                      have htB138 := f_depo_fo tB_dep htB136 c138_2 c138_1 rfl rfl
                      have hF138 := f_fr_tr hF136 c138_2 rfl
                      have hG138 := f_fr_tr hG71c c138_3 rfl
                      have q138 : rI (I 11 (I 0 25).toInt.toNat).toInt (I 0 25).toInt (I 8 (I 0 25).toInt.toNat).toInt I138 lev.toInt cnt.toInt (Int32.ofInt (-1)).toInt := by rw [show (Int32.ofInt (-1)).toInt = -1 from rfl]; exact rI_set u71_11 g110 hb.1 (by omega) h89 (by decide) (c138_2 17 rfl) (c138_2 18 rfl) (c138_2 6 rfl) (c138_2 11 rfl)
                      have cn71_node : (Int32.ofInt (-1)).toInt = -1 := rfl
                      have r71_3 : 0 ≤ (I138 0 7).toInt ∧ (I138 0 7).toInt ≤ 1601 := c138_0 0 7
                      have e71_5 : (I138 0 4).toInt = (J71 0 4).toInt := congrArg Int32.toInt (c138_1 4 rfl)
                      have r71_6 : 0 ≤ (I138 11 ((I 0 25).toInt.toNat)).toInt ∧ (I138 11 ((I 0 25).toInt.toNat)).toInt ≤ 260 := c138_0 11 ((I 0 25).toInt.toNat)
                      have e71_7 : (I138 11 ((I 0 25).toInt.toNat)).toInt = (J71 11 ((I 0 25).toInt.toNat)).toInt := congrArg Int32.toInt (congrFun (c138_2 11 rfl) ((I 0 25).toInt.toNat))
                      exact ⟨lev, cnt, Int32.ofInt (-1), (by intro q9 h9; simp only [List.mem_cons, List.not_mem_nil, or_false] at h9; rcases h9 with h9 | h9 | h9 | h9 <;> subst h9 <;> repeat (first | exact List.mem_cons_self | apply List.mem_cons_of_mem)), rfl, c138_0, hF138, hG138, hO138, hmL138, htB138, (show 0 ≤ lev.toInt from by first | assumption | omega), (show lev.toInt ≤ 4 from by first | assumption | omega), (show cnt.toInt = many.toInt + 1 from by first | assumption | omega | rfl), (show cnt.toInt ≤ 5 from by first | assumption | omega), (show -1 ≤ (Int32.ofInt (-1)).toInt from by first | assumption | omega), (show (Int32.ofInt (-1)).toInt ≤ 1599 from by first | assumption | omega), (show (I138 0 7).toInt ≤ 1600 from by first | assumption | omega), (show (¬ (I 0 4).toInt = 0 → ¬ (I138 0 4).toInt = 0) from by first | assumption | omega | rfl), (show (I 11 (I 0 25).toInt.toNat).toInt ≤ (I138 11 (I 0 25).toInt.toNat).toInt from by first | assumption | omega), (show (I138 11 (I 0 25).toInt.toNat).toInt ≤ (I 11 (I 0 25).toInt.toNat).toInt + 7 from by first | assumption | omega), (show rI (I 11 (I 0 25).toInt.toNat).toInt (I 0 25).toInt (I 8 (I 0 25).toInt.toNat).toInt I138 lev.toInt cnt.toInt (Int32.ofInt (-1)).toInt from by first | assumption | omega), (show (10000 * lev.toInt + (Int32.ofInt (-1)).toInt + 1) < n71 from by omega)⟩
                    · intro h128
                      have h128 : ¬ x125.toInt = 0 := h128
                      refine And.intro (show f_in lev 6 from ⟨show 0 ≤ lev.toInt from by omega, show lev.toInt < 6 from by omega⟩) ?_
                      have hR136 := mR_a (k := 18) (j := lev.toInt.toNat) (x := Int32.ofInt 1) hR116 (show 0 ≤ 1 ∧ 1 ≤ 2 from ⟨by omega, by omega⟩)
                      have hF136 := f_fr_up (k := 18) (r := upd (J71 18) (lev.toInt.toNat) (Int32.ofInt 1)) hF116 rfl
                      have hO136 := f_fo_ne (k := 18) (r := upd (J71 18) (lev.toInt.toNat) (Int32.ofInt 1)) hO116 (by decide)
                      have hmL136 := f_depo_up mL_dep (k := 18) (r := upd (J71 18) (lev.toInt.toNat) (Int32.ofInt 1)) hmL116 rfl (by decide)
                      have htB136 := f_depo_up tB_dep (k := 18) (r := upd (J71 18) (lev.toInt.toNat) (Int32.ofInt 1)) htB116 rfl (by decide)
                      refine And.intro ⟨hR136, (show (J71 0 7).toInt ≤ 1600 from by first | assumption | omega)⟩ ?_
                      intro I138 L138 hq138
                      have hq138 : mR I138 ∧ f_fo [6, 7, 8] (va_up (va_up J71 17 (upd (J71 17) (lev.toInt.toNat) node)) 18 (upd (J71 18) (lev.toInt.toNat) (Int32.ofInt 1))) I138 ∧ f_fr [0] (va_up (va_up J71 17 (upd (J71 17) (lev.toInt.toNat) node)) 18 (upd (J71 18) (lev.toInt.toNat) (Int32.ofInt 1))) I138 ∧ f_fr [0] M71 L138 ∧ (I138 0 7).toInt ≤ 1600 := hq138
                      obtain ⟨c138_0, c138_1, c138_2, c138_3, c138_4⟩ := hq138
                      have hO138 := f_fo_tr hO136 c138_1 rfl
                      have hmL138 := f_depo_fo mL_dep hmL136 c138_2 c138_1 rfl rfl
                      have htB138 := f_depo_fo tB_dep htB136 c138_2 c138_1 rfl rfl
                      have hF138 := f_fr_tr hF136 c138_2 rfl
                      have hG138 := f_fr_tr hG71c c138_3 rfl
                      have q138 : rI (I 11 (I 0 25).toInt.toNat).toInt (I 0 25).toInt (I 8 (I 0 25).toInt.toNat).toInt I138 lev.toInt cnt.toInt (Int32.ofInt (-1)).toInt := by rw [show (Int32.ofInt (-1)).toInt = -1 from rfl]; exact rI_set u71_11 g110 hb.1 (by omega) h89 (by decide) (c138_2 17 rfl) (c138_2 18 rfl) (c138_2 6 rfl) (c138_2 11 rfl)
                      have cn71_node : (Int32.ofInt (-1)).toInt = -1 := rfl
                      have r71_3 : 0 ≤ (I138 0 7).toInt ∧ (I138 0 7).toInt ≤ 1601 := c138_0 0 7
                      have e71_5 : (I138 0 4).toInt = (J71 0 4).toInt := congrArg Int32.toInt (c138_1 4 rfl)
                      have r71_6 : 0 ≤ (I138 11 ((I 0 25).toInt.toNat)).toInt ∧ (I138 11 ((I 0 25).toInt.toNat)).toInt ≤ 260 := c138_0 11 ((I 0 25).toInt.toNat)
                      have e71_7 : (I138 11 ((I 0 25).toInt.toNat)).toInt = (J71 11 ((I 0 25).toInt.toNat)).toInt := congrArg Int32.toInt (congrFun (c138_2 11 rfl) ((I 0 25).toInt.toNat))
                      exact ⟨lev, cnt, Int32.ofInt (-1), (by intro q9 h9; simp only [List.mem_cons, List.not_mem_nil, or_false] at h9; rcases h9 with h9 | h9 | h9 | h9 <;> subst h9 <;> repeat (first | exact List.mem_cons_self | apply List.mem_cons_of_mem)), rfl, c138_0, hF138, hG138, hO138, hmL138, htB138, (show 0 ≤ lev.toInt from by first | assumption | omega), (show lev.toInt ≤ 4 from by first | assumption | omega), (show cnt.toInt = many.toInt + 1 from by first | assumption | omega | rfl), (show cnt.toInt ≤ 5 from by first | assumption | omega), (show -1 ≤ (Int32.ofInt (-1)).toInt from by first | assumption | omega), (show (Int32.ofInt (-1)).toInt ≤ 1599 from by first | assumption | omega), (show (I138 0 7).toInt ≤ 1600 from by first | assumption | omega), (show (¬ (I 0 4).toInt = 0 → ¬ (I138 0 4).toInt = 0) from by first | assumption | omega | rfl), (show (I 11 (I 0 25).toInt.toNat).toInt ≤ (I138 11 (I 0 25).toInt.toNat).toInt from by first | assumption | omega), (show (I138 11 (I 0 25).toInt.toNat).toInt ≤ (I 11 (I 0 25).toInt.toNat).toInt + 7 from by first | assumption | omega), (show rI (I 11 (I 0 25).toInt.toNat).toInt (I 0 25).toInt (I 8 (I 0 25).toInt.toNat).toInt I138 lev.toInt cnt.toInt (Int32.ofInt (-1)).toInt from by first | assumption | omega), (show (10000 * lev.toInt + (Int32.ofInt (-1)).toInt + 1) < n71 from by omega)⟩
                  · intro h98
                    have h98 : x95.toInt = 0 := h98
                    refine And.intro hR71c ?_
                    intro x104 I104 L104 hq104
                    have hq104 : I104 = J71 ∧ L104 = M71 ∧ ((x104.toInt = 0 ∨ x104.toInt = 1)) := hq104
                    obtain ⟨eI104, eL104, c104_2⟩ := hq104
                    replace eI104 := eI104.symm
                    subst eI104
                    replace eL104 := eL104.symm
                    subst eL104
                    apply And.intro
                    · intro h107
                      have h107 : x104.toInt = 0 := h107
                      have g146 : (J71 0 4).toInt = 0 := by omega
                      obtain ⟨w146, -, v146⟩ := u71_11 g146
                      have v146 := v146 (by omega)
                      have t146 : tr (J71 3) (J71 4) (J71 5) (J71 6) (260 * (I 0 25).toInt) (260 * (I 0 25).toInt + (J71 11 (I 0 25).toInt.toNat).toInt) := by have t := htB71c; unfold tB at t; rw [hO71c 25 rfl] at t; exact t
                      refine And.intro (show f_in lev 6 from ⟨show 0 ≤ lev.toInt from by omega, show lev.toInt < 6 from by omega⟩) ?_
                      apply And.intro
                      · intro h153
                        have h153 : (J71 17 (lev.toInt.toNat)).toInt = (-1) := h153
                        apply And.intro
                        · intro h185
                          have h185 : ¬ lev.toInt = 0 := h185
                          refine And.intro hR71c ?_
                          intro x194 I194 L194 hq194
                          have hq194 : I194 = J71 ∧ L194 = M71 ∧ ((x194.toInt = 0 ∨ x194.toInt = 1)) := hq194
                          obtain ⟨eI194, eL194, c194_2⟩ := hq194
                          replace eI194 := eI194.symm
                          subst eI194
                          replace eL194 := eL194.symm
                          subst eL194
                          have r197_2 : 0 ≤ (J71 0 7).toInt ∧ (J71 0 7).toInt ≤ 1601 := hR71c 0 7
                          refine And.intro ⟨hR71c, (show (J71 0 7).toInt ≤ 1600 from by first | assumption | omega)⟩ ?_
                          intro I197 L197 hq197
                          have hq197 : mR I197 ∧ f_fo [4, 5, 6, 7, 8] J71 I197 ∧ f_fr [0] J71 I197 ∧ f_fr [0] M71 L197 ∧ (I197 0 7).toInt ≤ 1600 ∧ ((¬ (J71 0 4).toInt = 0 → ¬ (I197 0 4).toInt = 0)) := hq197
                          obtain ⟨c197_0, c197_1, c197_2, c197_3, c197_4, c197_5⟩ := hq197
                          have hO197 := f_fo_tr hO71c c197_1 rfl
                          have hmL197 := f_depo_fo mL_dep hmL71c c197_2 c197_1 rfl rfl
                          have htB197 := f_depo_fo tB_dep htB71c c197_2 c197_1 rfl rfl
                          have hF197 := f_fr_tr hF71c c197_2 rfl
                          have hG197 := f_fr_tr hG71c c197_3 rfl
                          intro z200 q200 _ hq200 hl200 hu200
                          have hq200 : z200.toInt = lev.toInt + (-1) + 4294967296 * q200 := hq200
                          try have hz200 : z200.toInt = lev.toInt + (-1) := by omega
                          have q200 : rI (I 11 (I 0 25).toInt.toNat).toInt (I 0 25).toInt (I 8 (I 0 25).toInt.toNat).toInt I197 z200.toInt cnt.toInt node.toInt := by
                            first
                            | exact rI_comb u71_11 g146 (by omega) (show z200.toInt = lev.toInt - 1 by omega) (by omega) hb.1 (by omega) h153 ((c197_2 17 rfl).trans ((c178_1 17 rfl).trans l157)) ((c197_2 18 rfl).trans ((c178_1 18 rfl).trans s157)) (by omega) (by rw [c197_2 11 rfl, c178_1 11 rfl]; omega) (by rw [c197_2 6 rfl, e178, k157]) y178
                            | exact rI_drop u71_11 g146 (by omega) (show z200.toInt = lev.toInt - 1 by omega) (by omega) h153 (c197_2 17 rfl) (c197_2 18 rfl) (c197_2 6 rfl) (c197_2 11 rfl)
                          have r71_3 : 0 ≤ (I197 0 7).toInt ∧ (I197 0 7).toInt ≤ 1601 := c197_0 0 7
                          have r71_5 : 0 ≤ (I197 11 ((I 0 25).toInt.toNat)).toInt ∧ (I197 11 ((I 0 25).toInt.toNat)).toInt ≤ 260 := c197_0 11 ((I 0 25).toInt.toNat)
                          have e71_6 : (I197 11 ((I 0 25).toInt.toNat)).toInt = (J71 11 ((I 0 25).toInt.toNat)).toInt := congrArg Int32.toInt (congrFun (c197_2 11 rfl) ((I 0 25).toInt.toNat))
                          exact ⟨z200, cnt, node, (by intro q9 h9; simp only [List.mem_cons, List.not_mem_nil, or_false] at h9; rcases h9 with h9 | h9 | h9 | h9 <;> subst h9 <;> repeat (first | exact List.mem_cons_self | apply List.mem_cons_of_mem)), rfl, c197_0, hF197, hG197, hO197, hmL197, htB197, (show 0 ≤ z200.toInt from by first | assumption | omega), (show z200.toInt ≤ 4 from by first | assumption | omega), (show cnt.toInt = many.toInt + 1 from by first | assumption | omega | rfl), (show cnt.toInt ≤ 5 from by first | assumption | omega), (show -1 ≤ node.toInt from by first | assumption | omega), (show node.toInt ≤ 1599 from by first | assumption | omega), (show (I197 0 7).toInt ≤ 1600 from by first | assumption | omega), (show (¬ (I 0 4).toInt = 0 → ¬ (I197 0 4).toInt = 0) from by first | assumption | omega | rfl), (show (I 11 (I 0 25).toInt.toNat).toInt ≤ (I197 11 (I 0 25).toInt.toNat).toInt from by first | assumption | omega), (show (I197 11 (I 0 25).toInt.toNat).toInt ≤ (I 11 (I 0 25).toInt.toNat).toInt + 7 from by first | assumption | omega), (show rI (I 11 (I 0 25).toInt.toNat).toInt (I 0 25).toInt (I 8 (I 0 25).toInt.toNat).toInt I197 z200.toInt cnt.toInt node.toInt from by first | assumption | omega), (show (10000 * z200.toInt + node.toInt + 1) < n71 from by omega)⟩
                        · intro h185
                          have h185 : lev.toInt = 0 := h185
                          have r189_2 : 0 ≤ (J71 0 7).toInt ∧ (J71 0 7).toInt ≤ 1601 := hR71c 0 7
                          have r189_4 : 0 ≤ (J71 11 ((I 0 25).toInt.toNat)).toInt ∧ (J71 11 ((I 0 25).toInt.toNat)).toInt ≤ 260 := hR71c 11 ((I 0 25).toInt.toNat)
                          exact ⟨hR71c, hmL71c, htB71c, hO71c, hF71c, hG71c, (show (J71 0 7).toInt ≤ 1600 from by first | assumption | omega | rfl), (show (¬ (I 0 4).toInt = 0 → ¬ (J71 0 4).toInt = 0) from by first | assumption | omega | rfl), (show (I 11 (I 0 25).toInt.toNat).toInt ≤ (J71 11 (I 0 25).toInt.toNat).toInt from by first | assumption | omega | rfl), (show (J71 11 (I 0 25).toInt.toNat).toInt ≤ (I 11 (I 0 25).toInt.toNat).toInt + 7 from by first | assumption | omega | rfl), (show ((J71 0 4).toInt = 0 → 260 * (I 0 25).toInt ≤ node.toInt ∧ node.toInt < 260 * (I 0 25).toInt + (J71 11 (I 0 25).toInt.toNat).toInt ∧ 1 ≤ (I 8 (I 0 25).toInt.toNat).toInt) from fun h => by omega), (show -1 ≤ node.toInt from by first | assumption | omega | rfl), (show node.toInt ≤ 1599 from by first | assumption | omega | rfl)⟩
                      · intro h153
                        have h153 : ¬ (J71 17 (lev.toInt.toNat)).toInt = (-1) := h153
                        exfalso
                        omega
                    · intro h107
                      have h107 : ¬ x104.toInt = 0 := h107
                      have g110 : (J71 0 4).toInt = 0 := by omega
                      refine And.intro (show f_in lev 6 from ⟨show 0 ≤ lev.toInt from by omega, show lev.toInt < 6 from by omega⟩) ?_
                      have hR116 := mR_a (k := 17) (j := lev.toInt.toNat) (x := node) hR71c (show -1 ≤ node.toInt ∧ node.toInt ≤ 1599 from ⟨by omega, by omega⟩)
                      have hF116 := f_fr_up (k := 17) (r := upd (J71 17) (lev.toInt.toNat) node) hF71c rfl
                      have hO116 := f_fo_ne (k := 17) (r := upd (J71 17) (lev.toInt.toNat) node) hO71c (by decide)
                      have hmL116 := f_depo_up mL_dep (k := 17) (r := upd (J71 17) (lev.toInt.toNat) node) hmL71c rfl (by decide)
                      have htB116 := f_depo_up tB_dep (k := 17) (r := upd (J71 17) (lev.toInt.toNat) node) htB71c rfl (by decide)
                      refine And.intro hR116 ?_
                      intro x125 I125 L125 hq125
                      have hq125 : I125 = (va_up J71 17 (upd (J71 17) (lev.toInt.toNat) node)) ∧ L125 = M71 ∧ ((x125.toInt = 0 ∨ x125.toInt = 1)) := hq125
                      obtain ⟨eI125, eL125, c125_2⟩ := hq125
                      replace eI125 := eI125.symm
                      subst eI125
                      replace eL125 := eL125.symm
                      subst eL125
                      apply And.intro
                      · intro h128
                        have h128 : x125.toInt = 0 := h128
                        refine And.intro (show f_in lev 6 from ⟨show 0 ≤ lev.toInt from by omega, show lev.toInt < 6 from by omega⟩) ?_
                        have hR136 := mR_a (k := 18) (j := lev.toInt.toNat) (x := Int32.ofInt 2) hR116 (show 0 ≤ 2 ∧ 2 ≤ 2 from ⟨by omega, by omega⟩)
                        have hF136 := f_fr_up (k := 18) (r := upd (J71 18) (lev.toInt.toNat) (Int32.ofInt 2)) hF116 rfl
                        have hO136 := f_fo_ne (k := 18) (r := upd (J71 18) (lev.toInt.toNat) (Int32.ofInt 2)) hO116 (by decide)
                        have hmL136 := f_depo_up mL_dep (k := 18) (r := upd (J71 18) (lev.toInt.toNat) (Int32.ofInt 2)) hmL116 rfl (by decide)
                        have htB136 := f_depo_up tB_dep (k := 18) (r := upd (J71 18) (lev.toInt.toNat) (Int32.ofInt 2)) htB116 rfl (by decide)
                        refine And.intro ⟨hR136, (show (J71 0 7).toInt ≤ 1600 from by first | assumption | omega)⟩ ?_
                        intro I138 L138 hq138
                        have hq138 : mR I138 ∧ f_fo [6, 7, 8] (va_up (va_up J71 17 (upd (J71 17) (lev.toInt.toNat) node)) 18 (upd (J71 18) (lev.toInt.toNat) (Int32.ofInt 2))) I138 ∧ f_fr [0] (va_up (va_up J71 17 (upd (J71 17) (lev.toInt.toNat) node)) 18 (upd (J71 18) (lev.toInt.toNat) (Int32.ofInt 2))) I138 ∧ f_fr [0] M71 L138 ∧ (I138 0 7).toInt ≤ 1600 := hq138
                        obtain ⟨c138_0, c138_1, c138_2, c138_3, c138_4⟩ := hq138
                        have hO138 := f_fo_tr hO136 c138_1 rfl
                        have hmL138 := f_depo_fo mL_dep hmL136 c138_2 c138_1 rfl rfl
                        have htB138 := f_depo_fo tB_dep htB136 c138_2 c138_1 rfl rfl
                        have hF138 := f_fr_tr hF136 c138_2 rfl
                        have hG138 := f_fr_tr hG71c c138_3 rfl
                        have q138 : rI (I 11 (I 0 25).toInt.toNat).toInt (I 0 25).toInt (I 8 (I 0 25).toInt.toNat).toInt I138 lev.toInt cnt.toInt (Int32.ofInt (-1)).toInt := by rw [show (Int32.ofInt (-1)).toInt = -1 from rfl]; exact rI_set u71_11 g110 hb.1 (by omega) h89 (by decide) (c138_2 17 rfl) (c138_2 18 rfl) (c138_2 6 rfl) (c138_2 11 rfl)
                        have cn71_node : (Int32.ofInt (-1)).toInt = -1 := rfl
                        have r71_3 : 0 ≤ (I138 0 7).toInt ∧ (I138 0 7).toInt ≤ 1601 := c138_0 0 7
                        have e71_5 : (I138 0 4).toInt = (J71 0 4).toInt := congrArg Int32.toInt (c138_1 4 rfl)
                        have r71_6 : 0 ≤ (I138 11 ((I 0 25).toInt.toNat)).toInt ∧ (I138 11 ((I 0 25).toInt.toNat)).toInt ≤ 260 := c138_0 11 ((I 0 25).toInt.toNat)
                        have e71_7 : (I138 11 ((I 0 25).toInt.toNat)).toInt = (J71 11 ((I 0 25).toInt.toNat)).toInt := congrArg Int32.toInt (congrFun (c138_2 11 rfl) ((I 0 25).toInt.toNat))
                        exact ⟨lev, cnt, Int32.ofInt (-1), (by intro q9 h9; simp only [List.mem_cons, List.not_mem_nil, or_false] at h9; rcases h9 with h9 | h9 | h9 | h9 <;> subst h9 <;> repeat (first | exact List.mem_cons_self | apply List.mem_cons_of_mem)), rfl, c138_0, hF138, hG138, hO138, hmL138, htB138, (show 0 ≤ lev.toInt from by first | assumption | omega), (show lev.toInt ≤ 4 from by first | assumption | omega), (show cnt.toInt = many.toInt + 1 from by first | assumption | omega | rfl), (show cnt.toInt ≤ 5 from by first | assumption | omega), (show -1 ≤ (Int32.ofInt (-1)).toInt from by first | assumption | omega), (show (Int32.ofInt (-1)).toInt ≤ 1599 from by first | assumption | omega), (show (I138 0 7).toInt ≤ 1600 from by first | assumption | omega), (show (¬ (I 0 4).toInt = 0 → ¬ (I138 0 4).toInt = 0) from by first | assumption | omega | rfl), (show (I 11 (I 0 25).toInt.toNat).toInt ≤ (I138 11 (I 0 25).toInt.toNat).toInt from by first | assumption | omega), (show (I138 11 (I 0 25).toInt.toNat).toInt ≤ (I 11 (I 0 25).toInt.toNat).toInt + 7 from by first | assumption | omega), (show rI (I 11 (I 0 25).toInt.toNat).toInt (I 0 25).toInt (I 8 (I 0 25).toInt.toNat).toInt I138 lev.toInt cnt.toInt (Int32.ofInt (-1)).toInt from by first | assumption | omega), (show (10000 * lev.toInt + (Int32.ofInt (-1)).toInt + 1) < n71 from by omega)⟩
                      · intro h128
                        have h128 : ¬ x125.toInt = 0 := h128
                        refine And.intro (show f_in lev 6 from ⟨show 0 ≤ lev.toInt from by omega, show lev.toInt < 6 from by omega⟩) ?_
                        have hR136 := mR_a (k := 18) (j := lev.toInt.toNat) (x := Int32.ofInt 1) hR116 (show 0 ≤ 1 ∧ 1 ≤ 2 from ⟨by omega, by omega⟩)
                        have hF136 := f_fr_up (k := 18) (r := upd (J71 18) (lev.toInt.toNat) (Int32.ofInt 1)) hF116 rfl
                        have hO136 := f_fo_ne (k := 18) (r := upd (J71 18) (lev.toInt.toNat) (Int32.ofInt 1)) hO116 (by decide)
                        have hmL136 := f_depo_up mL_dep (k := 18) (r := upd (J71 18) (lev.toInt.toNat) (Int32.ofInt 1)) hmL116 rfl (by decide)
                        have htB136 := f_depo_up tB_dep (k := 18) (r := upd (J71 18) (lev.toInt.toNat) (Int32.ofInt 1)) htB116 rfl (by decide)
                        refine And.intro ⟨hR136, (show (J71 0 7).toInt ≤ 1600 from by first | assumption | omega)⟩ ?_
                        intro I138 L138 hq138
                        have hq138 : mR I138 ∧ f_fo [6, 7, 8] (va_up (va_up J71 17 (upd (J71 17) (lev.toInt.toNat) node)) 18 (upd (J71 18) (lev.toInt.toNat) (Int32.ofInt 1))) I138 ∧ f_fr [0] (va_up (va_up J71 17 (upd (J71 17) (lev.toInt.toNat) node)) 18 (upd (J71 18) (lev.toInt.toNat) (Int32.ofInt 1))) I138 ∧ f_fr [0] M71 L138 ∧ (I138 0 7).toInt ≤ 1600 := hq138
                        obtain ⟨c138_0, c138_1, c138_2, c138_3, c138_4⟩ := hq138
                        have hO138 := f_fo_tr hO136 c138_1 rfl
                        have hmL138 := f_depo_fo mL_dep hmL136 c138_2 c138_1 rfl rfl
                        have htB138 := f_depo_fo tB_dep htB136 c138_2 c138_1 rfl rfl
                        have hF138 := f_fr_tr hF136 c138_2 rfl
                        have hG138 := f_fr_tr hG71c c138_3 rfl
                        have q138 : rI (I 11 (I 0 25).toInt.toNat).toInt (I 0 25).toInt (I 8 (I 0 25).toInt.toNat).toInt I138 lev.toInt cnt.toInt (Int32.ofInt (-1)).toInt := by rw [show (Int32.ofInt (-1)).toInt = -1 from rfl]; exact rI_set u71_11 g110 hb.1 (by omega) h89 (by decide) (c138_2 17 rfl) (c138_2 18 rfl) (c138_2 6 rfl) (c138_2 11 rfl)
                        have cn71_node : (Int32.ofInt (-1)).toInt = -1 := rfl
                        have r71_3 : 0 ≤ (I138 0 7).toInt ∧ (I138 0 7).toInt ≤ 1601 := c138_0 0 7
                        have e71_5 : (I138 0 4).toInt = (J71 0 4).toInt := congrArg Int32.toInt (c138_1 4 rfl)
                        have r71_6 : 0 ≤ (I138 11 ((I 0 25).toInt.toNat)).toInt ∧ (I138 11 ((I 0 25).toInt.toNat)).toInt ≤ 260 := c138_0 11 ((I 0 25).toInt.toNat)
                        have e71_7 : (I138 11 ((I 0 25).toInt.toNat)).toInt = (J71 11 ((I 0 25).toInt.toNat)).toInt := congrArg Int32.toInt (congrFun (c138_2 11 rfl) ((I 0 25).toInt.toNat))
                        exact ⟨lev, cnt, Int32.ofInt (-1), (by intro q9 h9; simp only [List.mem_cons, List.not_mem_nil, or_false] at h9; rcases h9 with h9 | h9 | h9 | h9 <;> subst h9 <;> repeat (first | exact List.mem_cons_self | apply List.mem_cons_of_mem)), rfl, c138_0, hF138, hG138, hO138, hmL138, htB138, (show 0 ≤ lev.toInt from by first | assumption | omega), (show lev.toInt ≤ 4 from by first | assumption | omega), (show cnt.toInt = many.toInt + 1 from by first | assumption | omega | rfl), (show cnt.toInt ≤ 5 from by first | assumption | omega), (show -1 ≤ (Int32.ofInt (-1)).toInt from by first | assumption | omega), (show (Int32.ofInt (-1)).toInt ≤ 1599 from by first | assumption | omega), (show (I138 0 7).toInt ≤ 1600 from by first | assumption | omega), (show (¬ (I 0 4).toInt = 0 → ¬ (I138 0 4).toInt = 0) from by first | assumption | omega | rfl), (show (I 11 (I 0 25).toInt.toNat).toInt ≤ (I138 11 (I 0 25).toInt.toNat).toInt from by first | assumption | omega), (show (I138 11 (I 0 25).toInt.toNat).toInt ≤ (I 11 (I 0 25).toInt.toNat).toInt + 7 from by first | assumption | omega), (show rI (I 11 (I 0 25).toInt.toNat).toInt (I 0 25).toInt (I 8 (I 0 25).toInt.toNat).toInt I138 lev.toInt cnt.toInt (Int32.ofInt (-1)).toInt from by first | assumption | omega), (show (10000 * lev.toInt + (Int32.ofInt (-1)).toInt + 1) < n71 from by omega)⟩
        have lp36 : ∀ (J36 : fM) (M36 : fN), mR J36 ∧ f_fr [0, 3, 4, 5, 6, 7, 11, 17, 18] I J36 ∧ f_fr [0] L M36 ∧ f_fo [4, 5, 6, 7, 8] I J36 ∧ mL J36 ∧ tB J36 ∧ ((J36 0 7).toInt ≤ 1600) ∧ ((¬ (I 0 4).toInt = 0 → ¬ (J36 0 4).toInt = 0)) ∧ ((I 11 (I 0 25).toInt.toNat).toInt ≤ (J36 11 (I 0 25).toInt.toNat).toInt) ∧ ((J36 11 (I 0 25).toInt.toNat).toInt ≤ (I 11 (I 0 25).toInt.toNat).toInt + 7) ∧ (rO (I 11 (I 0 25).toInt.toNat).toInt (I 0 25).toInt J36 level.toInt many.toInt) ∧ ((¬ (J36 0 4).toInt = 0 ∨ level.toInt ≤ 3)) → f_W pP l eP (f_rm 3) sP mP aP bP hP9 cP mY 71 a cy dC dI 5 (f_K 1 (qX12_readT [.ref 0] I L)) 36 [(2, .int many), (1, .int level), (0, .ref 0)] [] J36 M36 := by
          intro J36 M36 h9
          obtain ⟨hR36c, hF36c, hG36c, hO36c, hmL36c, htB36c, u36_1, u36_2, u36_3, u36_4, u36_5, u36_6⟩ := h9
          refine f_wp_ok C f_cl flX12_ok fiX12_ok fjX12_ok (sn := none) (fun j h => by cases h) (cs := (f_cnl [(281, (1, 3, 11, pX12_isGood, qX12_isGood)), (329, (2, 3, 11, pX12_stands, qX12_stands)), (288, (1, 0, 11, pX12_misplaced, qX12_misplaced)), (285, (1, 0, 11, pX12_goOn, qX12_goOn)), (346, (2, 1, 11, pX12_readKind, qX12_readKind)), (349, (1, 1, 11, pX12_freshNode, qX12_freshNode)), (352, (5, 0, 11, pX12_laySlash, qX12_laySlash)), (332, (2, 0, 11, pX12_mustb, qX12_mustb))])) (cz := (fun _ => none)) (f_cnl_of (P := fun j S => f_cok pP l eP (f_rm 3) sP mP aP bP hP9 cP mY 71 a cy dC dI 5 _ _ (.invokevirtual j) true S) (List.forall_mem_cons.mpr ⟨f_cokV C (mX12_isGood hinj) (ci := 11) rfl (List.forall_mem_cons.mpr ⟨(mlX12_ok _ (List.mem_of_getElem? (i := 7) rfl)), kc_X12_isGood⟩) (by decide +kernel) ⟨Nat.le_of_ble_eq_true rfl, Nat.le_of_ble_eq_true rfl⟩, List.forall_mem_cons.mpr ⟨f_cokV C (mX12_stands hinj) (ci := 11) rfl (List.forall_mem_cons.mpr ⟨(mlX12_ok _ (List.mem_of_getElem? (i := 17) rfl)), kc_X12_stands⟩) (by decide +kernel) ⟨Nat.le_of_ble_eq_true rfl, Nat.le_of_ble_eq_true rfl⟩, List.forall_mem_cons.mpr ⟨f_cokV C (mX12_misplaced hinj) (ci := 11) rfl (List.forall_mem_cons.mpr ⟨(mlX12_ok _ (List.mem_of_getElem? (i := 9) rfl)), kc_X12_misplaced⟩) (by decide +kernel) ⟨Nat.le_of_ble_eq_true rfl, Nat.le_of_ble_eq_true rfl⟩, List.forall_mem_cons.mpr ⟨f_cokV C (mX12_goOn hinj) (ci := 11) rfl (List.forall_mem_cons.mpr ⟨(mlX12_ok _ (List.mem_of_getElem? (i := 8) rfl)), kc_X12_goOn⟩) (by decide +kernel) ⟨Nat.le_of_ble_eq_true rfl, Nat.le_of_ble_eq_true rfl⟩, List.forall_mem_cons.mpr ⟨f_cokV C (mX12_readKind hinj) (ci := 11) rfl (List.forall_mem_cons.mpr ⟨(mlX12_ok _ (List.mem_of_getElem? (i := 22) rfl)), kc_X12_readKind⟩) (by decide +kernel) ⟨Nat.le_of_ble_eq_true rfl, Nat.le_of_ble_eq_true rfl⟩, List.forall_mem_cons.mpr ⟨f_cokV C (mX12_freshNode hinj) (ci := 11) rfl (List.forall_mem_cons.mpr ⟨(mlX12_ok _ (List.mem_of_getElem? (i := 23) rfl)), kc_X12_freshNode⟩) (by decide +kernel) ⟨Nat.le_of_ble_eq_true rfl, Nat.le_of_ble_eq_true rfl⟩, List.forall_mem_cons.mpr ⟨f_cokV C (mX12_laySlash hinj) (ci := 11) rfl (List.forall_mem_cons.mpr ⟨(mlX12_ok _ (List.mem_of_getElem? (i := 24) rfl)), kc_X12_laySlash⟩) (by decide +kernel) ⟨Nat.le_of_ble_eq_true rfl, Nat.le_of_ble_eq_true rfl⟩, List.forall_mem_cons.mpr ⟨f_cokV C (mX12_mustb hinj) (ci := 11) rfl (List.forall_mem_cons.mpr ⟨(mlX12_ok _ (List.mem_of_getElem? (i := 18) rfl)), kc_X12_must⟩) (by decide +kernel) ⟨Nat.le_of_ble_eq_true rfl, Nat.le_of_ble_eq_true rfl⟩, fun _ h => absurd h List.not_mem_nil⟩⟩⟩⟩⟩⟩⟩⟩)) (fun j S h => by cases h) tX12_readT_ok (cut := (f_cnl [(11, (fun (ls' : fLs) (st' : List Value) (I' : fM) (L' : fN) => ∃ level : Int32, ∃ many : Int32, (∀ q ∈ ([(2, .int many), (1, .int level), (0, .ref 0)] : fLs), q ∈ ls') ∧ st' = [] ∧ (mR I' ∧ f_fr [0, 3, 4, 5, 6, 7, 11, 17, 18] I I' ∧ f_fr [0] L L' ∧ f_fo [4, 5, 6, 7, 8] I I' ∧ mL I' ∧ tB I' ∧ (0 ≤ level.toInt) ∧ (level.toInt ≤ 4) ∧ (0 ≤ many.toInt) ∧ (many.toInt ≤ 5) ∧ ((I' 0 7).toInt ≤ 1600) ∧ ((¬ (I 0 4).toInt = 0 → ¬ (I' 0 4).toInt = 0)) ∧ ((I 11 (I 0 25).toInt.toNat).toInt ≤ (I' 11 (I 0 25).toInt.toNat).toInt) ∧ ((I' 11 (I 0 25).toInt.toNat).toInt ≤ (I 11 (I 0 25).toInt.toNat).toInt + 7) ∧ (rO (I 11 (I 0 25).toInt.toNat).toInt (I 0 25).toInt I' level.toInt many.toInt) ∧ (6 * (5 - many.toInt) + 5 - level.toInt) < n11)))])) (f_cnl_of (P := fun (tQ : Nat) (P : fLs → List Value → fM → fN → Prop) => ∀ ls' st' I' L', P ls' st' I' L' → f_W pP l eP (f_rm 3) sP mP aP bP hP9 cP mY 71 a cy dC dI 5 (f_K 1 (qX12_readT [.ref 0] I L)) tQ ls' st' I' L') (List.forall_mem_cons.mpr ⟨(fun ls' st' I' L' h => by obtain ⟨level, many, hs, e1, h9⟩ := h; rw [e1]; exact f_W_sub hs (ih11 level many I' L' h9)), fun _ h => absurd h List.not_mem_nil⟩)) 15 36 (f_seek 36 0 tX12_readT) (f_seek_ok 36 0 tX12_readT tX12_readT_ok) _ _ _ _ ?_
          refine And.intro trivial ?_
          intro x37 I37 L37 hq37
          have hq37 : I37 = J36 ∧ L37 = M36 ∧ ((x37.toInt = 1 ∧ (J36 0 4).toInt = 0 ∨ x37.toInt = 0 ∧ ¬ (J36 0 4).toInt = 0)) := hq37
          obtain ⟨eI37, eL37, c37_2⟩ := hq37
          replace eI37 := eI37.symm
          subst eI37
          replace eL37 := eL37.symm
          subst eL37
          apply And.intro
          · intro h40
            have h40 : ¬ x37.toInt = 0 := h40
            have r46_1 : 0 ≤ (J36 0 7).toInt ∧ (J36 0 7).toInt ≤ 1601 := hR36c 0 7
            refine And.intro ⟨hR36c, (show (J36 0 7).toInt ≤ 1600 from by first | assumption | omega)⟩ ?_
            intro I46 L46 hq46
            have hq46 : mR I46 ∧ f_fo [6, 7, 8] J36 I46 ∧ f_fr [0] J36 I46 ∧ f_fr [0] M36 L46 ∧ (I46 0 7).toInt ≤ 1600 := hq46
            obtain ⟨c46_0, c46_1, c46_2, c46_3, c46_4⟩ := hq46
            have hO46 := f_fo_tr hO36c c46_1 rfl
            have hmL46 := f_depo_fo mL_dep hmL36c c46_2 c46_1 rfl rfl
            have htB46 := f_depo_fo tB_dep htB36c c46_2 c46_1 rfl rfl
            have hF46 := f_fr_tr hF36c c46_2 rfl
            have hG46 := f_fr_tr hG36c c46_3 rfl
            intro z49 q49 _ hq49 hl49 hu49
            have hq49 : z49.toInt = level.toInt + 1 + 4294967296 * q49 := hq49
            try have hz49 : z49.toInt = level.toInt + 1 := by omega
            refine And.intro (show f_in z49 6 from ⟨show 0 ≤ z49.toInt from by omega, show z49.toInt < 6 from by omega⟩) ?_
            have hR58 := mR_a (k := 17) (j := z49.toInt.toNat) (x := Int32.ofInt (-1)) c46_0 (show (-1 : Int) ≤ (Int32.ofInt (-1)).toInt ∧ (Int32.ofInt (-1)).toInt ≤ (1599 : Int) from ⟨by decide, by decide⟩)
            have hF58 := f_fr_up (k := 17) (r := upd (I46 17) (z49.toInt.toNat) (Int32.ofInt (-1))) hF46 rfl
            have hO58 := f_fo_ne (k := 17) (r := upd (I46 17) (z49.toInt.toNat) (Int32.ofInt (-1))) hO46 (by decide)
            have hmL58 := f_depo_up mL_dep (k := 17) (r := upd (I46 17) (z49.toInt.toNat) (Int32.ofInt (-1))) hmL46 rfl (by decide)
            have htB58 := f_depo_up tB_dep (k := 17) (r := upd (I46 17) (z49.toInt.toNat) (Int32.ofInt (-1))) htB46 rfl (by decide)
            have q58 : rO (I 11 (I 0 25).toInt.toNat).toInt (I 0 25).toInt (va_up I46 17 (upd (I46 17) (z49.toInt.toNat) (Int32.ofInt (-1)))) z49.toInt many.toInt := fun _ => by
              obtain ⟨w1, w2⟩ := u36_5 (by omega)
              refine ⟨w1, ?_⟩
              show pn (upd (I46 17) z49.toInt.toNat (Int32.ofInt (-1))) (I46 18) (I46 6) _ (260 * (I 0 25).toInt + (I46 11 (I 0 25).toInt.toNat).toInt) (z49.toInt.toNat + 1) _ ((I 11 (I 0 25).toInt.toNat).toInt + 2 * many.toInt - (I46 11 (I 0 25).toInt.toNat).toInt)
              rw [c46_2 17 rfl, c46_2 18 rfl, c46_2 6 rfl, c46_2 11 rfl, show z49.toInt.toNat = level.toInt.toNat + 1 by omega]
              exact pn_open w2
            have e11_4 : (I46 0 4).toInt = (J36 0 4).toInt := congrArg Int32.toInt (c46_1 4 rfl)
            have e11_6 : (I46 11 ((I 0 25).toInt.toNat)).toInt = (J36 11 ((I 0 25).toInt.toNat)).toInt := congrArg Int32.toInt (congrFun (c46_2 11 rfl) ((I 0 25).toInt.toNat))
            exact ⟨z49, many, (by intro q9 h9; simp only [List.mem_cons, List.not_mem_nil, or_false] at h9; rcases h9 with h9 | h9 | h9 <;> subst h9 <;> repeat (first | exact List.mem_cons_self | apply List.mem_cons_of_mem)), rfl, hR58, hF58, hG46, hO58, hmL58, htB58, (show 0 ≤ z49.toInt from by first | assumption | omega), (show z49.toInt ≤ 4 from by first | assumption | omega), (show 0 ≤ many.toInt from by first | assumption | omega), (show many.toInt ≤ 5 from by first | assumption | omega), (show (I46 0 7).toInt ≤ 1600 from by first | assumption | omega), (show (¬ (I 0 4).toInt = 0 → ¬ (I46 0 4).toInt = 0) from by first | assumption | omega | rfl), (show (I 11 (I 0 25).toInt.toNat).toInt ≤ (I46 11 (I 0 25).toInt.toNat).toInt from by first | assumption | omega), (show (I46 11 (I 0 25).toInt.toNat).toInt ≤ (I 11 (I 0 25).toInt.toNat).toInt + 7 from by first | assumption | omega), (show rO (I 11 (I 0 25).toInt.toNat).toInt (I 0 25).toInt (va_up I46 17 (upd (I46 17) (z49.toInt.toNat) (Int32.ofInt (-1)))) z49.toInt many.toInt from by first | assumption | omega), (show (6 * (5 - many.toInt) + 5 - z49.toInt) < n11 from by omega)⟩
          · intro h40
            have h40 : x37.toInt = 0 := h40
            have r44_1 : 0 ≤ (J36 0 7).toInt ∧ (J36 0 7).toInt ≤ 1601 := hR36c 0 7
            have r44_3 : 0 ≤ (J36 11 ((I 0 25).toInt.toNat)).toInt ∧ (J36 11 ((I 0 25).toInt.toNat)).toInt ≤ 260 := hR36c 11 ((I 0 25).toInt.toNat)
            exact ⟨hR36c, hmL36c, htB36c, hO36c, hF36c, hG36c, (show (J36 0 7).toInt ≤ 1600 from by first | assumption | omega | rfl), (show (¬ (I 0 4).toInt = 0 → ¬ (J36 0 4).toInt = 0) from by first | assumption | omega | rfl), (show (I 11 (I 0 25).toInt.toNat).toInt ≤ (J36 11 (I 0 25).toInt.toNat).toInt from by first | assumption | omega | rfl), (show (J36 11 (I 0 25).toInt.toNat).toInt ≤ (I 11 (I 0 25).toInt.toNat).toInt + 7 from by first | assumption | omega | rfl), (show ((J36 0 4).toInt = 0 → 260 * (I 0 25).toInt ≤ (-1 : Int) ∧ (-1 : Int) < 260 * (I 0 25).toInt + (J36 11 (I 0 25).toInt.toNat).toInt ∧ 1 ≤ (I 8 (I 0 25).toInt.toNat).toInt) from fun h => by omega), (show -1 ≤ (-1 : Int) from by first | assumption | omega | rfl), (show (-1 : Int) ≤ 1599 from by first | assumption | omega | rfl)⟩
        refine f_wp_ok C f_cl flX12_ok fiX12_ok fjX12_ok (sn := none) (fun j h => by cases h) (cs := (f_cnl [(281, (1, 3, 11, pX12_isGood, qX12_isGood)), (329, (2, 3, 11, pX12_stands, qX12_stands)), (288, (1, 0, 11, pX12_misplaced, qX12_misplaced)), (285, (1, 0, 11, pX12_goOn, qX12_goOn)), (346, (2, 1, 11, pX12_readKind, qX12_readKind)), (349, (1, 1, 11, pX12_freshNode, qX12_freshNode)), (352, (5, 0, 11, pX12_laySlash, qX12_laySlash)), (332, (2, 0, 11, pX12_mustb, qX12_mustb))])) (cz := (fun _ => none)) (f_cnl_of (P := fun j S => f_cok pP l eP (f_rm 3) sP mP aP bP hP9 cP mY 71 a cy dC dI 5 _ _ (.invokevirtual j) true S) (List.forall_mem_cons.mpr ⟨f_cokV C (mX12_isGood hinj) (ci := 11) rfl (List.forall_mem_cons.mpr ⟨(mlX12_ok _ (List.mem_of_getElem? (i := 7) rfl)), kc_X12_isGood⟩) (by decide +kernel) ⟨Nat.le_of_ble_eq_true rfl, Nat.le_of_ble_eq_true rfl⟩, List.forall_mem_cons.mpr ⟨f_cokV C (mX12_stands hinj) (ci := 11) rfl (List.forall_mem_cons.mpr ⟨(mlX12_ok _ (List.mem_of_getElem? (i := 17) rfl)), kc_X12_stands⟩) (by decide +kernel) ⟨Nat.le_of_ble_eq_true rfl, Nat.le_of_ble_eq_true rfl⟩, List.forall_mem_cons.mpr ⟨f_cokV C (mX12_misplaced hinj) (ci := 11) rfl (List.forall_mem_cons.mpr ⟨(mlX12_ok _ (List.mem_of_getElem? (i := 9) rfl)), kc_X12_misplaced⟩) (by decide +kernel) ⟨Nat.le_of_ble_eq_true rfl, Nat.le_of_ble_eq_true rfl⟩, List.forall_mem_cons.mpr ⟨f_cokV C (mX12_goOn hinj) (ci := 11) rfl (List.forall_mem_cons.mpr ⟨(mlX12_ok _ (List.mem_of_getElem? (i := 8) rfl)), kc_X12_goOn⟩) (by decide +kernel) ⟨Nat.le_of_ble_eq_true rfl, Nat.le_of_ble_eq_true rfl⟩, List.forall_mem_cons.mpr ⟨f_cokV C (mX12_readKind hinj) (ci := 11) rfl (List.forall_mem_cons.mpr ⟨(mlX12_ok _ (List.mem_of_getElem? (i := 22) rfl)), kc_X12_readKind⟩) (by decide +kernel) ⟨Nat.le_of_ble_eq_true rfl, Nat.le_of_ble_eq_true rfl⟩, List.forall_mem_cons.mpr ⟨f_cokV C (mX12_freshNode hinj) (ci := 11) rfl (List.forall_mem_cons.mpr ⟨(mlX12_ok _ (List.mem_of_getElem? (i := 23) rfl)), kc_X12_freshNode⟩) (by decide +kernel) ⟨Nat.le_of_ble_eq_true rfl, Nat.le_of_ble_eq_true rfl⟩, List.forall_mem_cons.mpr ⟨f_cokV C (mX12_laySlash hinj) (ci := 11) rfl (List.forall_mem_cons.mpr ⟨(mlX12_ok _ (List.mem_of_getElem? (i := 24) rfl)), kc_X12_laySlash⟩) (by decide +kernel) ⟨Nat.le_of_ble_eq_true rfl, Nat.le_of_ble_eq_true rfl⟩, List.forall_mem_cons.mpr ⟨f_cokV C (mX12_mustb hinj) (ci := 11) rfl (List.forall_mem_cons.mpr ⟨(mlX12_ok _ (List.mem_of_getElem? (i := 18) rfl)), kc_X12_must⟩) (by decide +kernel) ⟨Nat.le_of_ble_eq_true rfl, Nat.le_of_ble_eq_true rfl⟩, fun _ h => absurd h List.not_mem_nil⟩⟩⟩⟩⟩⟩⟩⟩)) (fun j S h => by cases h) tX12_readT_ok (cut := (f_cnl [(36, (fun (ls' : fLs) (st' : List Value) (I' : fM) (L' : fN) => (∀ q ∈ ([(2, .int many), (1, .int level), (0, .ref 0)] : fLs), q ∈ ls') ∧ st' = [] ∧ (mR I' ∧ f_fr [0, 3, 4, 5, 6, 7, 11, 17, 18] I I' ∧ f_fr [0] L L' ∧ f_fo [4, 5, 6, 7, 8] I I' ∧ mL I' ∧ tB I' ∧ ((I' 0 7).toInt ≤ 1600) ∧ ((¬ (I 0 4).toInt = 0 → ¬ (I' 0 4).toInt = 0)) ∧ ((I 11 (I 0 25).toInt.toNat).toInt ≤ (I' 11 (I 0 25).toInt.toNat).toInt) ∧ ((I' 11 (I 0 25).toInt.toNat).toInt ≤ (I 11 (I 0 25).toInt.toNat).toInt + 7) ∧ (rO (I 11 (I 0 25).toInt.toNat).toInt (I 0 25).toInt I' level.toInt many.toInt) ∧ ((¬ (I' 0 4).toInt = 0 ∨ level.toInt ≤ 3))))), (71, (fun (ls' : fLs) (st' : List Value) (I' : fM) (L' : fN) => ∃ lev : Int32, ∃ cnt : Int32, ∃ node : Int32, (∀ q ∈ ([(3, .int node), (2, .int cnt), (1, .int lev), (0, .ref 0)] : fLs), q ∈ ls') ∧ st' = [] ∧ (mR I' ∧ f_fr [0, 3, 4, 5, 6, 7, 11, 17, 18] I I' ∧ f_fr [0] L L' ∧ f_fo [4, 5, 6, 7, 8] I I' ∧ mL I' ∧ tB I' ∧ (0 ≤ lev.toInt) ∧ (lev.toInt ≤ 4) ∧ (cnt.toInt = many.toInt + 1) ∧ (cnt.toInt ≤ 5) ∧ (-1 ≤ node.toInt) ∧ (node.toInt ≤ 1599) ∧ ((I' 0 7).toInt ≤ 1600) ∧ ((¬ (I 0 4).toInt = 0 → ¬ (I' 0 4).toInt = 0)) ∧ ((I 11 (I 0 25).toInt.toNat).toInt ≤ (I' 11 (I 0 25).toInt.toNat).toInt) ∧ ((I' 11 (I 0 25).toInt.toNat).toInt ≤ (I 11 (I 0 25).toInt.toNat).toInt + 7) ∧ (rI (I 11 (I 0 25).toInt.toNat).toInt (I 0 25).toInt (I 8 (I 0 25).toInt.toNat).toInt I' lev.toInt cnt.toInt node.toInt) ∧ (10000 * lev.toInt + node.toInt + 1) < 60000)))])) (f_cnl_of (P := fun (tQ : Nat) (P : fLs → List Value → fM → fN → Prop) => ∀ ls' st' I' L', P ls' st' I' L' → f_W pP l eP (f_rm 3) sP mP aP bP hP9 cP mY 71 a cy dC dI 5 (f_K 1 (qX12_readT [.ref 0] I L)) tQ ls' st' I' L') (List.forall_mem_cons.mpr ⟨(fun ls' st' I' L' h => by obtain ⟨hs, e1, h9⟩ := h; rw [e1]; exact f_W_sub hs (lp36  I' L' h9)), List.forall_mem_cons.mpr ⟨(fun ls' st' I' L' h => by obtain ⟨lev, cnt, node, hs, e1, h9⟩ := h; rw [e1]; exact f_W_sub hs (lp71 60000 lev cnt node I' L' h9)), fun _ h => absurd h List.not_mem_nil⟩⟩)) 15 11 (f_seek 11 0 tX12_readT) (f_seek_ok 11 0 tX12_readT tX12_readT_ok) _ _ _ _ ?_
        refine And.intro trivial ?_
        intro x12 I12 L12 hq12
        have hq12 : I12 = J11 ∧ L12 = M11 ∧ ((x12.toInt = 1 ∧ (J11 0 4).toInt = 0 ∨ x12.toInt = 0 ∧ ¬ (J11 0 4).toInt = 0)) := hq12
        obtain ⟨eI12, eL12, c12_2⟩ := hq12
        replace eI12 := eI12.symm
        subst eI12
        replace eL12 := eL12.symm
        subst eL12
        apply And.intro
        · intro h15
          have h15 : x12.toInt = 0 := h15
          have r210_1 : 0 ≤ (J11 0 7).toInt ∧ (J11 0 7).toInt ≤ 1601 := hR11c 0 7
          have r210_3 : 0 ≤ (J11 11 ((I 0 25).toInt.toNat)).toInt ∧ (J11 11 ((I 0 25).toInt.toNat)).toInt ≤ 260 := hR11c 11 ((I 0 25).toInt.toNat)
          exact ⟨hR11c, hmL11c, htB11c, hO11c, hF11c, hG11c, (show (J11 0 7).toInt ≤ 1600 from by first | assumption | omega | rfl), (show (¬ (I 0 4).toInt = 0 → ¬ (J11 0 4).toInt = 0) from by first | assumption | omega | rfl), (show (I 11 (I 0 25).toInt.toNat).toInt ≤ (J11 11 (I 0 25).toInt.toNat).toInt from by first | assumption | omega | rfl), (show (J11 11 (I 0 25).toInt.toNat).toInt ≤ (I 11 (I 0 25).toInt.toNat).toInt + 7 from by first | assumption | omega | rfl), (show ((J11 0 4).toInt = 0 → 260 * (I 0 25).toInt ≤ (-1 : Int) ∧ (-1 : Int) < 260 * (I 0 25).toInt + (J11 11 (I 0 25).toInt.toNat).toInt ∧ 1 ≤ (I 8 (I 0 25).toInt.toNat).toInt) from fun h => by omega), (show -1 ≤ (-1 : Int) from by first | assumption | omega | rfl), (show (-1 : Int) ≤ 1599 from by first | assumption | omega | rfl)⟩
        · intro h15
          have h15 : ¬ x12.toInt = 0 := h15
          refine And.intro hR11c ?_
          intro x21 I21 L21 hq21
          have hq21 : I21 = J11 ∧ L21 = M11 ∧ ((x21.toInt = 0 ∨ x21.toInt = 1)) := hq21
          obtain ⟨eI21, eL21, c21_2⟩ := hq21
          replace eI21 := eI21.symm
          subst eI21
          replace eL21 := eL21.symm
          subst eL21
          apply And.intro
          · intro h24
            have h24 : x21.toInt = 0 := h24
            have w62 := u11_9 (by omega)
            have v62 := pn_nn w62.2
            have r64_1 : 0 ≤ (J11 0 7).toInt ∧ (J11 0 7).toInt ≤ 1601 := hR11c 0 7
            have r64_2 : 0 ≤ (J11 0 25).toInt ∧ (J11 0 25).toInt ≤ 1 := hR11c 0 25
            have e64_3 : (J11 0 25).toInt = (I 0 25).toInt := congrArg Int32.toInt (hO11c 25 rfl)
            have r64_4 : 0 ≤ (J11 0 24).toInt ∧ (J11 0 24).toInt ≤ 1 := hR11c 0 24
            have e64_5 : (J11 0 24).toInt = (I 0 24).toInt := congrArg Int32.toInt (hO11c 24 rfl)
            have r64_6 : 0 ≤ (J11 11 ((J11 0 25).toInt.toNat)).toInt ∧ (J11 11 ((J11 0 25).toInt.toNat)).toInt ≤ 260 := hR11c 11 ((J11 0 25).toInt.toNat)
            have e64_7 : (J11 11 ((J11 0 25).toInt.toNat)).toInt = (J11 11 ((I 0 25).toInt.toNat)).toInt := by rw [(hO11c 25 rfl)]
            refine And.intro ⟨hR11c, hmL11c, htB11c, (show (J11 0 7).toInt ≤ 1600 from by first | assumption | omega), (show (J11 0 25).toInt + (J11 0 24).toInt = 1 from by first | assumption | omega | rfl), (show (J11 11 (J11 0 25).toInt.toNat).toInt ≤ 259 from by first | assumption | omega)⟩ ?_
            intro x64 I64 L64 hq64
            have hq64 : mR I64 ∧ mL I64 ∧ tB I64 ∧ f_fo [4, 5, 6, 7, 8] J11 I64 ∧ f_fr [0, 3, 4, 5, 6, 7, 11] J11 I64 ∧ f_fr [0] M11 L64 ∧ (I64 0 7).toInt ≤ 1600 ∧ ((x64.toInt = -1 ∧ ¬ (I64 0 4).toInt = 0 ∧ I64 11 = J11 11 ∨ (J11 0 4).toInt = 0 ∧ ¬ many.toInt = 4 ∧ 1 ≤ (J11 8 (J11 0 25).toInt.toNat).toInt ∧ x64.toInt = 260 * (J11 0 25).toInt + (J11 11 (J11 0 25).toInt.toNat).toInt ∧ (I64 11 (J11 0 25).toInt.toNat).toInt = (J11 11 (J11 0 25).toInt.toNat).toInt + 1 ∧ lvs J11 I64 x64.toInt.toNat 1)) := hq64
            obtain ⟨c64_0, c64_1, c64_2, c64_3, c64_4, c64_5, c64_6, c64_7⟩ := hq64
            have hO64 := f_fo_tr hO11c c64_3 rfl
            have hF64 := f_fr_tr hF11c c64_4 rfl
            have e64_9 : (J11 8 ((J11 0 25).toInt.toNat)).toInt = (J11 8 ((I 0 25).toInt.toNat)).toInt := by rw [(hO11c 25 rfl)]
            have e64_10 : (J11 8 ((I 0 25).toInt.toNat)).toInt = (I 8 ((I 0 25).toInt.toNat)).toInt := congrArg Int32.toInt (congrFun (hF11c 8 rfl) ((I 0 25).toInt.toNat))
            have r64_11 : 0 ≤ (I64 11 ((J11 0 25).toInt.toNat)).toInt ∧ (I64 11 ((J11 0 25).toInt.toNat)).toInt ≤ 260 := c64_0 11 ((J11 0 25).toInt.toNat)
            have e64_12 : (I64 11 ((J11 0 25).toInt.toNat)).toInt = (I64 11 ((I 0 25).toInt.toNat)).toInt := by rw [(hO11c 25 rfl)]
            have hG64 := f_fr_tr hG11c c64_5 rfl
            intro z68 q68 _ hq68 hl68 hu68
            have hq68 : z68.toInt = many.toInt + 1 + 4294967296 * q68 := hq68
            try have hz68 : z68.toInt = many.toInt + 1 := by omega
            have q68 : rI (I 11 (I 0 25).toInt.toNat).toInt (I 0 25).toInt (I 8 (I 0 25).toInt.toNat).toInt I64 level.toInt z68.toInt x64.toInt := by
              rcases c64_7 with d | d
              · exact fun h => absurd h d.2.1
              · rw [hO11c 25 rfl, hF11c 8 rfl] at d
                rw [show z68.toInt = many.toInt + 1 by omega]
                exact rI_kind u11_9 d.1 (by omega) d.2.2.1 (c64_4 17 rfl) (c64_4 18 rfl) d.2.2.2.1 d.2.2.2.2.1 d.2.2.2.2.2 hb.1 (by omega)
            have n68 : (I 11 (I 0 25).toInt.toNat).toInt ≤ (I64 11 (I 0 25).toInt.toNat).toInt ∧ (I64 11 (I 0 25).toInt.toNat).toInt ≤ (I 11 (I 0 25).toInt.toNat).toInt + 7 ∧ x64.toInt ≤ 1599 ∧ -1 ≤ x64.toInt ∧ (¬ (I 0 4).toInt = 0 → ¬ (I64 0 4).toInt = 0) := by
              rcases c64_7 with d | d
              · have e := congrFun d.2.2 (I 0 25).toInt.toNat
                rw [e]
                omega
              · rw [hO11c 25 rfl] at d
                omega
            have r71_13 : 0 ≤ (I64 0 7).toInt ∧ (I64 0 7).toInt ≤ 1601 := c64_0 0 7
            have r71_14 : 0 ≤ (I64 11 ((I 0 25).toInt.toNat)).toInt ∧ (I64 11 ((I 0 25).toInt.toNat)).toInt ≤ 260 := c64_0 11 ((I 0 25).toInt.toNat)
            exact ⟨level, z68, x64, (by intro q9 h9; simp only [List.mem_cons, List.not_mem_nil, or_false] at h9; rcases h9 with h9 | h9 | h9 | h9 <;> subst h9 <;> repeat (first | exact List.mem_cons_self | apply List.mem_cons_of_mem)), rfl, c64_0, hF64, hG64, hO64, c64_1, c64_2, (show 0 ≤ level.toInt from by first | assumption | omega), (show level.toInt ≤ 4 from by first | assumption | omega), (show z68.toInt = many.toInt + 1 from by first | assumption | omega | rfl), (show z68.toInt ≤ 5 from by first | assumption | omega), (show -1 ≤ x64.toInt from by first | assumption | omega), (show x64.toInt ≤ 1599 from by first | assumption | omega), (show (I64 0 7).toInt ≤ 1600 from by first | assumption | omega), (show (¬ (I 0 4).toInt = 0 → ¬ (I64 0 4).toInt = 0) from by first | assumption | omega | rfl), (show (I 11 (I 0 25).toInt.toNat).toInt ≤ (I64 11 (I 0 25).toInt.toNat).toInt from by first | assumption | omega), (show (I64 11 (I 0 25).toInt.toNat).toInt ≤ (I 11 (I 0 25).toInt.toNat).toInt + 7 from by first | assumption | omega), (show rI (I 11 (I 0 25).toInt.toNat).toInt (I 0 25).toInt (I 8 (I 0 25).toInt.toNat).toInt I64 level.toInt z68.toInt x64.toInt from by first | assumption | omega), (show (10000 * level.toInt + x64.toInt + 1) < 60000 from by omega)⟩
          · intro h24
            have h24 : ¬ x21.toInt = 0 := h24
            apply And.intro
            · intro h29
              have h29 : ¬ level.toInt = 4 := h29
              have r36_1 : 0 ≤ (J11 0 7).toInt ∧ (J11 0 7).toInt ≤ 1601 := hR11c 0 7
              have r36_3 : 0 ≤ (J11 11 ((I 0 25).toInt.toNat)).toInt ∧ (J11 11 ((I 0 25).toInt.toNat)).toInt ≤ 260 := hR11c 11 ((I 0 25).toInt.toNat)
              exact ⟨(by intro q9 h9; simp only [List.mem_cons, List.not_mem_nil, or_false] at h9; rcases h9 with h9 | h9 | h9 <;> subst h9 <;> repeat (first | exact List.mem_cons_self | apply List.mem_cons_of_mem)), rfl, hR11c, hF11c, hG11c, hO11c, hmL11c, htB11c, (show (J11 0 7).toInt ≤ 1600 from by first | assumption | omega), (show (¬ (I 0 4).toInt = 0 → ¬ (J11 0 4).toInt = 0) from by first | assumption | omega | rfl), (show (I 11 (I 0 25).toInt.toNat).toInt ≤ (J11 11 (I 0 25).toInt.toNat).toInt from by first | assumption | omega), (show (J11 11 (I 0 25).toInt.toNat).toInt ≤ (I 11 (I 0 25).toInt.toNat).toInt + 7 from by first | assumption | omega), (show rO (I 11 (I 0 25).toInt.toNat).toInt (I 0 25).toInt J11 level.toInt many.toInt from by first | assumption | omega), (show (¬ (J11 0 4).toInt = 0 ∨ level.toInt ≤ 3) from by first | assumption | omega | rfl)⟩
            · intro h29
              have h29 : level.toInt = 4 := h29
              refine And.intro hR11c ?_
              intro I33 L33 hq33
              have hq33 : mR I33 ∧ f_fo [4, 5] J11 I33 ∧ f_fr [0] J11 I33 ∧ L33 = M11 ∧ 1 ≤ (I33 0 4).toInt := hq33
              obtain ⟨c33_0, c33_1, c33_2, eL33, c33_4⟩ := hq33
              replace eL33 := eL33.symm
              subst eL33
              have hO33 := f_fo_tr hO11c c33_1 rfl
              have hmL33 := f_depo_fo mL_dep hmL11c c33_2 c33_1 rfl rfl
              have htB33 := f_depo_fo tB_dep htB11c c33_2 c33_1 rfl rfl
              have hF33 := f_fr_tr hF11c c33_2 rfl
              have q33 : rO (I 11 (I 0 25).toInt.toNat).toInt (I 0 25).toInt I33 level.toInt many.toInt := fun h => absurd h (by omega)
              have r36_1 : 0 ≤ (I33 0 7).toInt ∧ (I33 0 7).toInt ≤ 1601 := c33_0 0 7
              have e36_2 : (I33 0 7).toInt = (J11 0 7).toInt := congrArg Int32.toInt (c33_1 7 rfl)
              have r36_4 : 0 ≤ (I33 11 ((I 0 25).toInt.toNat)).toInt ∧ (I33 11 ((I 0 25).toInt.toNat)).toInt ≤ 260 := c33_0 11 ((I 0 25).toInt.toNat)
              have e36_5 : (I33 11 ((I 0 25).toInt.toNat)).toInt = (J11 11 ((I 0 25).toInt.toNat)).toInt := congrArg Int32.toInt (congrFun (c33_2 11 rfl) ((I 0 25).toInt.toNat))
              exact ⟨(by intro q9 h9; simp only [List.mem_cons, List.not_mem_nil, or_false] at h9; rcases h9 with h9 | h9 | h9 <;> subst h9 <;> repeat (first | exact List.mem_cons_self | apply List.mem_cons_of_mem)), rfl, c33_0, hF33, hG11c, hO33, hmL33, htB33, (show (I33 0 7).toInt ≤ 1600 from by first | assumption | omega), (show (¬ (I 0 4).toInt = 0 → ¬ (I33 0 4).toInt = 0) from by first | assumption | omega | rfl), (show (I 11 (I 0 25).toInt.toNat).toInt ≤ (I33 11 (I 0 25).toInt.toNat).toInt from by first | assumption | omega), (show (I33 11 (I 0 25).toInt.toNat).toInt ≤ (I 11 (I 0 25).toInt.toNat).toInt + 7 from by first | assumption | omega), (show rO (I 11 (I 0 25).toInt.toNat).toInt (I 0 25).toInt I33 level.toInt many.toInt from by first | assumption | omega), (show (¬ (I33 0 4).toInt = 0 ∨ level.toInt ≤ 3) from by first | assumption | omega | rfl)⟩
    refine f_wp_ok C f_cl flX12_ok fiX12_ok fjX12_ok (sn := none) (fun j h => by cases h) (cs := (f_cnl [(281, (1, 3, 11, pX12_isGood, qX12_isGood)), (329, (2, 3, 11, pX12_stands, qX12_stands)), (288, (1, 0, 11, pX12_misplaced, qX12_misplaced)), (285, (1, 0, 11, pX12_goOn, qX12_goOn)), (346, (2, 1, 11, pX12_readKind, qX12_readKind)), (349, (1, 1, 11, pX12_freshNode, qX12_freshNode)), (352, (5, 0, 11, pX12_laySlash, qX12_laySlash)), (332, (2, 0, 11, pX12_mustb, qX12_mustb))])) (cz := (fun _ => none)) (f_cnl_of (P := fun j S => f_cok pP l eP (f_rm 3) sP mP aP bP hP9 cP mY 71 a cy dC dI 5 _ _ (.invokevirtual j) true S) (List.forall_mem_cons.mpr ⟨f_cokV C (mX12_isGood hinj) (ci := 11) rfl (List.forall_mem_cons.mpr ⟨(mlX12_ok _ (List.mem_of_getElem? (i := 7) rfl)), kc_X12_isGood⟩) (by decide +kernel) ⟨Nat.le_of_ble_eq_true rfl, Nat.le_of_ble_eq_true rfl⟩, List.forall_mem_cons.mpr ⟨f_cokV C (mX12_stands hinj) (ci := 11) rfl (List.forall_mem_cons.mpr ⟨(mlX12_ok _ (List.mem_of_getElem? (i := 17) rfl)), kc_X12_stands⟩) (by decide +kernel) ⟨Nat.le_of_ble_eq_true rfl, Nat.le_of_ble_eq_true rfl⟩, List.forall_mem_cons.mpr ⟨f_cokV C (mX12_misplaced hinj) (ci := 11) rfl (List.forall_mem_cons.mpr ⟨(mlX12_ok _ (List.mem_of_getElem? (i := 9) rfl)), kc_X12_misplaced⟩) (by decide +kernel) ⟨Nat.le_of_ble_eq_true rfl, Nat.le_of_ble_eq_true rfl⟩, List.forall_mem_cons.mpr ⟨f_cokV C (mX12_goOn hinj) (ci := 11) rfl (List.forall_mem_cons.mpr ⟨(mlX12_ok _ (List.mem_of_getElem? (i := 8) rfl)), kc_X12_goOn⟩) (by decide +kernel) ⟨Nat.le_of_ble_eq_true rfl, Nat.le_of_ble_eq_true rfl⟩, List.forall_mem_cons.mpr ⟨f_cokV C (mX12_readKind hinj) (ci := 11) rfl (List.forall_mem_cons.mpr ⟨(mlX12_ok _ (List.mem_of_getElem? (i := 22) rfl)), kc_X12_readKind⟩) (by decide +kernel) ⟨Nat.le_of_ble_eq_true rfl, Nat.le_of_ble_eq_true rfl⟩, List.forall_mem_cons.mpr ⟨f_cokV C (mX12_freshNode hinj) (ci := 11) rfl (List.forall_mem_cons.mpr ⟨(mlX12_ok _ (List.mem_of_getElem? (i := 23) rfl)), kc_X12_freshNode⟩) (by decide +kernel) ⟨Nat.le_of_ble_eq_true rfl, Nat.le_of_ble_eq_true rfl⟩, List.forall_mem_cons.mpr ⟨f_cokV C (mX12_laySlash hinj) (ci := 11) rfl (List.forall_mem_cons.mpr ⟨(mlX12_ok _ (List.mem_of_getElem? (i := 24) rfl)), kc_X12_laySlash⟩) (by decide +kernel) ⟨Nat.le_of_ble_eq_true rfl, Nat.le_of_ble_eq_true rfl⟩, List.forall_mem_cons.mpr ⟨f_cokV C (mX12_mustb hinj) (ci := 11) rfl (List.forall_mem_cons.mpr ⟨(mlX12_ok _ (List.mem_of_getElem? (i := 18) rfl)), kc_X12_must⟩) (by decide +kernel) ⟨Nat.le_of_ble_eq_true rfl, Nat.le_of_ble_eq_true rfl⟩, fun _ h => absurd h List.not_mem_nil⟩⟩⟩⟩⟩⟩⟩⟩)) (fun j S h => by cases h) tX12_readT_ok (cut := (f_cnl [(11, (fun (ls' : fLs) (st' : List Value) (I' : fM) (L' : fN) => ∃ level : Int32, ∃ many : Int32, (∀ q ∈ ([(2, .int many), (1, .int level), (0, .ref 0)] : fLs), q ∈ ls') ∧ st' = [] ∧ (mR I' ∧ f_fr [0, 3, 4, 5, 6, 7, 11, 17, 18] I I' ∧ f_fr [0] L L' ∧ f_fo [4, 5, 6, 7, 8] I I' ∧ mL I' ∧ tB I' ∧ (0 ≤ level.toInt) ∧ (level.toInt ≤ 4) ∧ (0 ≤ many.toInt) ∧ (many.toInt ≤ 5) ∧ ((I' 0 7).toInt ≤ 1600) ∧ ((¬ (I 0 4).toInt = 0 → ¬ (I' 0 4).toInt = 0)) ∧ ((I 11 (I 0 25).toInt.toNat).toInt ≤ (I' 11 (I 0 25).toInt.toNat).toInt) ∧ ((I' 11 (I 0 25).toInt.toNat).toInt ≤ (I 11 (I 0 25).toInt.toNat).toInt + 7) ∧ (rO (I 11 (I 0 25).toInt.toNat).toInt (I 0 25).toInt I' level.toInt many.toInt) ∧ (6 * (5 - many.toInt) + 5 - level.toInt) < 40)))])) (f_cnl_of (P := fun (tQ : Nat) (P : fLs → List Value → fM → fN → Prop) => ∀ ls' st' I' L', P ls' st' I' L' → f_W pP l eP (f_rm 3) sP mP aP bP hP9 cP mY 71 a cy dC dI 5 (f_K 1 (qX12_readT [.ref 0] I L)) tQ ls' st' I' L') (List.forall_mem_cons.mpr ⟨(fun ls' st' I' L' h => by obtain ⟨level, many, hs, e1, h9⟩ := h; rw [e1]; exact f_W_sub hs (lp11 40 level many I' L' h9)), fun _ h => absurd h List.not_mem_nil⟩)) 12 0 tX12_readT tX12_readT_ok _ _ _ _ ?_
    refine And.intro (show f_in (Int32.ofInt 0) 6 from ⟨show 0 ≤ 0 from by omega, show 0 < 6 from by omega⟩) ?_
    have hR10 := mR_a (k := 17) (j := 0) (x := Int32.ofInt (-1)) hR (show (-1 : Int) ≤ (Int32.ofInt (-1)).toInt ∧ (Int32.ofInt (-1)).toInt ≤ (1599 : Int) from ⟨by decide, by decide⟩)
    have hF10 := f_fr_up (k := 17) (r := upd (I 17) 0 (Int32.ofInt (-1))) hF0 rfl
    have hO10 := f_fo_ne (k := 17) (r := upd (I 17) 0 (Int32.ofInt (-1))) hO0 (by decide)
    have hmL10 := f_depo_up mL_dep (k := 17) (r := upd (I 17) 0 (Int32.ofInt (-1))) hmL rfl (by decide)
    have htB10 := f_depo_up tB_dep (k := 17) (r := upd (I 17) 0 (Int32.ofInt (-1))) htB rfl (by decide)
    have q10 : rO (I 11 (I 0 25).toInt.toNat).toInt (I 0 25).toInt (va_up I 17 (upd (I 17) 0 (Int32.ofInt (-1)))) (0 : Int) (0 : Int) := fun _ => by
      refine ⟨by omega, ?_⟩
      show pn (upd (I 17) 0 (Int32.ofInt (-1))) (I 18) (I 6) _ _ 1 0 ((I 11 (I 0 25).toInt.toNat).toInt + 2 * 0 - (I 11 (I 0 25).toInt.toNat).toInt)
      rw [show (I 11 (I 0 25).toInt.toNat).toInt + 2 * 0 - (I 11 (I 0 25).toInt.toNat).toInt = 0 by omega]
      exact pn_open ⟨fun i hi => absurd hi (by omega), rfl, rfl⟩
    exact ⟨Int32.ofInt 0, Int32.ofInt 0, (by intro q9 h9; simp only [List.mem_cons, List.not_mem_nil, or_false] at h9; rcases h9 with h9 | h9 | h9 <;> subst h9 <;> repeat (first | exact List.mem_cons_self | apply List.mem_cons_of_mem)), rfl, hR10, hF10, hG0, hO10, hmL10, htB10, (show 0 ≤ (0 : Int) from by first | assumption | omega), (show (0 : Int) ≤ 4 from by first | assumption | omega), (show 0 ≤ (0 : Int) from by first | assumption | omega), (show (0 : Int) ≤ 5 from by first | assumption | omega), (show (I 0 7).toInt ≤ 1600 from by first | assumption | omega), (show (¬ (I 0 4).toInt = 0 → ¬ (I 0 4).toInt = 0) from by first | assumption | omega | rfl), (show (I 11 (I 0 25).toInt.toNat).toInt ≤ (I 11 (I 0 25).toInt.toNat).toInt from by first | assumption | omega), (show (I 11 (I 0 25).toInt.toNat).toInt ≤ (I 11 (I 0 25).toInt.toNat).toInt + 7 from by first | assumption | omega), (show rO (I 11 (I 0 25).toInt.toNat).toInt (I 0 25).toInt (va_up I 17 (upd (I 17) 0 (Int32.ofInt (-1)))) (0 : Int) (0 : Int) from by first | assumption | omega), (show (6 * (5 - (0 : Int)) + 5 - (0 : Int)) < 40 from by omega)⟩
