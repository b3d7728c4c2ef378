theorem tk_new {N E G W G' W' f l : Int} {ec tc tl : Nat → Int} (h : tk N E 0 G W ec tc tl) (hG : G ≤ G') (hW : W ≤ W') (hs : G' + W' = G + W + 1) (hf : ¬ vc G W f) (hf' : vc G' W' f) (hl : 1 ≤ l) : tk (E + l) E 1 G' W' ec (fun _ => f) (fun _ => l) := by
  obtain ⟨a1, a2, a3, a4, a5, a6, a7, a8, a9⟩ := h
  refine ⟨a1, by omega, fun e he => vc_mono (a3 e he) hG hW, fun i hi => ⟨hf', hl⟩, fun e i he hi q => hf (by have := a3 e he; rw [q] at this; exact this), fun i j hij hj => by omega, a7, by omega, ?_⟩
  show E + (0 + l) = E + l
  omega
theorem aO_given {J K : fM} {gt : Int} {z : Int32} (h : aO J gt) (k46 : (K 0 46).toInt = (J 0 46).toInt + 1) (k47 : K 0 47 = J 0 47) (e27 : K 27 = upd (J 27) (J 0 46).toInt.toNat z) (hz : z.toInt = 0) (e28 : K 28 = J 28) (h0 : 0 ≤ (J 0 46).toInt) : aO K gt := by
  obtain ⟨b1, b2, b3⟩ := h
  have old : ∀ g k' : Nat, (g : Int) < (K 0 46).toInt → 4 * g ≤ k' → (k' : Int) < 4 * g + (K 27 g).toInt → (g : Int) < (J 0 46).toInt ∧ (k' : Int) < 4 * g + (J 27 g).toInt := fun g k' q0 q1 q2 => by
    by_cases e : g = (J 0 46).toInt.toNat
    · subst e; rw [e27, pk_us] at q2; omega
    · rw [e27, pk_un e] at q2; exact ⟨by omega, q2⟩
  unfold aO
  rw [k47, e28]
  refine ⟨fun g k' q0 q1 q2 => ?_, fun g k' g' k'' q0 q1 q2 r0 r1 r2 q => ?_, fun w q0 q1 => ?_⟩
  · obtain ⟨o1, o2⟩ := old g k' q0 q1 q2
    exact b1 g k' o1 q1 o2
  · obtain ⟨o1, o2⟩ := old g k' q0 q1 q2
    obtain ⟨o3, o4⟩ := old g' k'' r0 r1 r2
    exact b2 g k' g' k'' o1 q1 o2 o3 r1 o4 q
  · obtain ⟨g, k', c1, c2, c3, c4⟩ := b3 w q0 q1
    exact ⟨g, k', by omega, c2, by rw [e27, pk_un (by omega)]; exact c3, c4⟩
theorem aO_goal {J K : fM} (h : aO J (-1)) (k46 : K 0 46 = J 0 46) (k47 : (K 0 47).toInt = (J 0 47).toInt + 1) (e27 : K 27 = J 27) (e28 : K 28 = J 28) (h0 : ∀ k, 0 ≤ (J 28 k).toInt) : aO K (J 0 47).toInt := by
  obtain ⟨b1, b2, b3⟩ := h
  unfold aO
  rw [k46, e27, e28]
  refine ⟨fun g k' q0 q1 q2 => ?_, b2, fun w q0 q1 => b3 w (by omega) (by omega)⟩
  have := b1 g k' q0 q1 q2
  omega
theorem f_surj {n : Nat} {f : Nat → Nat} (h : ∀ i, i < n → f i < n) (hi : ∀ i j, i < j → j < n → f i ≠ f j) {y : Nat} (hy : y < n) : ∃ i, i < n ∧ f i = y := by
  by_cases q : ∃ i, i < n ∧ f i = y
  · exact q
  · exfalso
    have nd : (y :: (List.range n).map f).Nodup := by
      refine List.nodup_cons.mpr ⟨fun hm => ?_, ?_⟩
      · obtain ⟨i, hi1, hi2⟩ := List.mem_map.mp hm
        exact q ⟨i, List.mem_range.mp hi1, hi2⟩
      · exact List.pairwise_map.mpr (List.Pairwise.imp_of_mem (fun ha hb hlt => hi _ _ hlt (List.mem_range.mp hb)) List.pairwise_lt_range)
    have := nodup_len (n := n) nd (fun v hv => by
      rcases List.mem_cons.mp hv with e | e
      · rw [e]; exact hy
      · obtain ⟨i, hi1, hi2⟩ := List.mem_map.mp e
        rw [← hi2]; exact h i (List.mem_range.mp hi1))
    simp only [List.length_cons, List.length_map, List.length_range] at this
    omega
/-- every thing has its end -/
theorem tk_surj {N E G W : Int} {ec tc tl : Nat → Int} (h : tk N E 0 G W ec tc tl) (hG : 0 ≤ G) (hW : 0 ≤ W) {c : Int} (hc : vc G W c) : ∃ e : Nat, (e : Int) < E ∧ ec e = c := by
  obtain ⟨a1, a2, a3, a4, a5, a6, a7, a8, a9⟩ := h
  have key : ∀ d : Int, vc G W d → (if d % 2 = 1 then (d / 2).toNat else (G + d / 2).toNat) < E.toNat := fun d hd => by
    obtain ⟨v1, v2, v3⟩ := hd
    split <;> omega
  have inj : ∀ d d' : Int, vc G W d → vc G W d' → (if d % 2 = 1 then (d / 2).toNat else (G + d / 2).toNat) = (if d' % 2 = 1 then (d' / 2).toNat else (G + d' / 2).toNat) → d = d' := fun d d' hd hd' h => by
    obtain ⟨v1, v2, v3⟩ := hd
    obtain ⟨w1, w2, w3⟩ := hd'
    split at h <;> split at h <;> omega
  obtain ⟨i, h1, h2⟩ := f_surj (n := E.toNat) (f := fun e => if ec e % 2 = 1 then (ec e / 2).toNat else (G + ec e / 2).toNat) (fun e he => key _ (a3 e (by omega))) (fun e e' hlt he' q => a7 e e' hlt (by omega) (inj _ _ (a3 e (by omega)) (a3 e' (by omega)) q)) (key c hc)
  exact ⟨i, by omega, inj _ _ (a3 i (by omega)) hc h2⟩
/-- what is assembled -/
def sS (J : fM) : Prop := (1 ≤ (J 0 45).toInt ∧ (J 0 45).toInt ≤ 20 ∧ (J 0 46).toInt + (J 0 47).toInt = (J 0 45).toInt ∧ (J 0 55).toInt < (J 0 47).toInt ∧ hS (J 29) (J 0 47).toInt.toNat ≤ (J 0 46).toInt) ∧ eO J ∧ (∀ e : Nat, (e : Int) < (J 0 45).toInt → vc (J 0 46).toInt (J 0 47).toInt (ecd J e)) ∧
  (∀ w : Nat, (w : Int) < (J 0 47).toInt → (J 25 w).toInt < (J 0 45).toInt ∧ (J 33 (J 25 w).toInt.toNat).toInt = 0 ∧ (J 22 (J 25 w).toInt.toNat).toInt = w) ∧ (∀ g : Nat, (g : Int) < (J 0 46).toInt → (J 24 g).toInt < (J 0 45).toInt ∧ (J 33 (J 24 g).toInt.toNat).toInt = 1 ∧ (J 22 (J 24 g).toInt.toNat).toInt = g) ∧
  aO J (J 0 55).toInt ∧ (∀ g : Nat, (g : Int) < (J 0 46).toInt → (J 26 g).toInt = -1 → (J 39 g).toInt < (J 0 53).toInt)
-- @invo sS [22, 24, 25, 26, 27, 28, 29, 33, 39] [45, 46, 47, 53, 55]
theorem sS_dep : f_depo sS [22, 24, 25, 26, 27, 28, 29, 33, 39] [45, 46, 47, 53, 55] := by
  intro I I' h ho hs
  have e1 : ecd I' = ecd I := by funext e; unfold ecd; rw [h 22 rfl, h 33 rfl]
  have e2 : eO I' = eO I := by unfold eO; rw [h 22 rfl, h 24 rfl, h 25 rfl, h 33 rfl, ho 45 rfl]
  have e3 : ∀ gt, aO I' gt = aO I gt := fun gt => by unfold aO; rw [h 27 rfl, h 28 rfl, ho 46 rfl, ho 47 rfl]
  unfold sS
  rw [e1, e2, e3, h 22 rfl, h 24 rfl, h 25 rfl, h 26 rfl, h 29 rfl, h 33 rfl, h 39 rfl, ho 45 rfl, ho 46 rfl, ho 47 rfl, ho 53 rfl, ho 55 rfl]
  exact hs
theorem sS_of {J : fM} {N : Int} (hR : mR J) (h0 : 1 ≤ (J 0 45).toInt ∧ (J 0 45).toInt ≤ 20) (h1 : tk N (J 0 45).toInt 0 (J 0 46).toInt (J 0 47).toInt (ecd J) (tcd J) (tlv J)) (h2 : eO J) (h3 : aO J (J 0 55).toInt) (h4 : (J 0 55).toInt < (J 0 47).toInt) (h5 : hS (J 29) (J 0 47).toInt.toNat ≤ (J 0 46).toInt)
    (h6 : ∀ g : Nat, (g : Int) < (J 0 46).toInt → (J 26 g).toInt = -1 → (J 39 g).toInt < (J 0 53).toInt) : sS J := by
  have n := tk_num h1
  have p22 : ∀ e, 0 ≤ (J 22 e).toInt := fun e => (hR 22 e).1
  have p46 : 0 ≤ (J 0 46).toInt := (hR 0 46).1
  have p47 : 0 ≤ (J 0 47).toInt := (hR 0 47).1
  refine ⟨⟨h0.1, h0.2, by omega, h4, h5⟩, h2, h1.2.2.1, fun w hw => ?_, fun g hg => ?_, h3, h6⟩
  · obtain ⟨e, e1, e2⟩ := tk_surj h1 p46 p47 (c := 2 * w) ⟨by omega, fun q => by omega, fun q => by omega⟩
    unfold ecd at e2
    obtain ⟨o1, o2, o3⟩ := h2 e e1
    have := p22 e
    have q0 : (J 33 e).toInt = 0 := by omega
    have q1 : (J 22 e).toInt = w := by omega
    have q2 := o3 q0
    rw [q1, Int.toNat_natCast] at q2
    rw [show (J 25 w).toInt.toNat = e by omega]
    exact ⟨by omega, q0, q1⟩
  · obtain ⟨e, e1, e2⟩ := tk_surj h1 p46 p47 (c := 2 * g + 1) ⟨by omega, fun q => by omega, fun q => by omega⟩
    unfold ecd at e2
    obtain ⟨o1, o2, o3⟩ := h2 e e1
    have := p22 e
    have q0 : (J 33 e).toInt = 1 := by omega
    have q1 : (J 22 e).toInt = g := by omega
    have q2 := o2 q0
    rw [q1, Int.toNat_natCast] at q2
    rw [show (J 24 g).toInt.toNat = e by omega]
    exact ⟨by omega, q0, q1⟩
/-- the words ahead of i are opened -/
def pT (J : fM) (i : Int) : Prop := tk (J 0 45).toInt (J 0 45).toInt 0 (J 0 46).toInt (J 0 47).toInt (ecd J) (tcd J) (tlv J) ∧ eO J ∧ aO J (-1) ∧ hS (J 29) (J 0 47).toInt.toNat ≤ (J 0 46).toInt ∧ (∀ g : Nat, (g : Int) < (J 0 46).toInt → (J 26 g).toInt = -1 → (J 39 g).toInt < i)
theorem eS_le {I : fM} {n : Nat} (h : ∀ j : Nat, j < n → 0 ≤ (I 6 (I 36 (3 * j + (I 37 j).toInt.toNat)).toInt.toNat).toInt) : ∀ {m : Nat}, m ≤ n → ∀ k : Nat, m = k ∨ eS I k ≤ eS I m ∨ m < k := by
  intro m
  induction m with
  | zero => intro _ k; omega
  | succ m ih =>
    intro hm k
    have := ih (by omega) k
    have := h m (by omega)
    simp only [eS]
    rcases Nat.lt_or_ge (m + 1) k with q | q
    · exact Or.inr (Or.inr q)
    · by_cases e : m + 1 = k
      · exact Or.inl e
      · by_cases e' : m = k
        · subst e'; exact Or.inr (Or.inl (by omega))
        · exact Or.inr (Or.inl (by omega))
theorem pT_begin {K : fM} {i : Int} (k45 : (K 0 45).toInt = 0) (k46 : (K 0 46).toInt = 0) (k47 : (K 0 47).toInt = 0) : pT K i := by
  unfold pT eO aO tk
  rw [k45, k46, k47]
  refine ⟨⟨by omega, by omega, fun e he => by omega, fun i hi => by omega, fun e i he => by omega, fun i j hij hj => by omega, fun e e' h1 h2 => by omega, by omega, rfl⟩, fun e he => by omega, ⟨fun g k q => by omega, fun g k g' k' q => by omega, fun w q => by omega⟩, ?_, fun g hg => by omega⟩
  exact Int.le_refl 0
theorem opn_word {J K : fM} {i : Int} {nd th z : Int32} (h : pT J i) (hR : mR J) (hl : 1 ≤ (J 6 nd.toInt.toNat).toInt) (k45 : K 0 45 = J 0 45) (k46 : (K 0 46).toInt = (J 0 46).toInt + 1) (k47 : K 0 47 = J 0 47) (ht : th.toInt = (J 0 46).toInt) (e6 : K 6 = J 6) (e22 : K 22 = J 22) (e24 : K 24 = J 24) (e25 : K 25 = J 25) (e33 : K 33 = J 33)
    (e27 : K 27 = upd (J 27) (J 0 46).toInt.toNat z) (hz : z.toInt = 0) : opn K nd.toInt 1 th.toInt := by
  have p46 : 0 ≤ (J 0 46).toInt := (hR 0 46).1
  have eec : ecd K = ecd J := by funext e; unfold ecd; rw [e22, e33]
  refine ⟨?_, ?_, fun _ => ?_, fun q => by omega⟩
  · rw [k45, k46, k47, eec, e6, ht]
    exact tk_new h.1 (by omega) (Int.le_refl _) (by omega) (fun v => by have := v.2.1 (by omega); omega) ⟨by omega, fun q => by omega, fun q => by omega⟩ hl
  · unfold eO
    rw [k45, e22, e24, e25, e33]
    exact h.2.1
  · rw [e27, ht, pk_us]; exact hz
theorem opn_goal {J K : fM} {i : Int} {nd th z : Int32} (h : pT J i) (hR : mR J) (hl : 1 ≤ (J 6 nd.toInt.toNat).toInt) (k45 : K 0 45 = J 0 45) (k46 : K 0 46 = J 0 46) (k47 : (K 0 47).toInt = (J 0 47).toInt + 1) (ht : th.toInt = (J 0 47).toInt) (e6 : K 6 = J 6) (e22 : K 22 = J 22) (e24 : K 24 = J 24) (e25 : K 25 = J 25) (e33 : K 33 = J 33)
    (e29 : K 29 = upd (J 29) (J 0 47).toInt.toNat z) (hz : z.toInt = 0) : opn K nd.toInt 0 th.toInt := by
  have p47 : 0 ≤ (J 0 47).toInt := (hR 0 47).1
  have eec : ecd K = ecd J := by funext e; unfold ecd; rw [e22, e33]
  refine ⟨?_, ?_, fun q => by omega, fun _ => ?_⟩
  · rw [k45, k46, k47, eec, e6, ht]
    refine tk_new (f := 2 * (J 0 47).toInt + 0) h.1 (Int.le_refl _) (by omega) (by omega) (fun v => by have := v.2.2 (by omega); omega) ⟨by omega, fun q => by omega, fun q => by omega⟩ hl
  · unfold eO
    rw [k45, e22, e24, e25, e33]
    exact h.2.1
  · rw [e29, ht, pk_us]; exact hz
/-- a word is opened -/
theorem pT_word {J K M P : fM} {i i' : Int} {x y z w : Int32} {N : Int} (h : pT J i) (hR : mR J) (hi : i' = i + 1) (k46 : (K 0 46).toInt = (J 0 46).toInt + 1) (k47 : K 0 47 = J 0 47) (e26 : K 26 = upd (J 26) (J 0 46).toInt.toNat x) (e27 : K 27 = upd (J 27) (J 0 46).toInt.toNat z) (hz : z.toInt = 0) (e28 : K 28 = J 28) (e29 : K 29 = J 29) (e39 : K 39 = J 39)
    (ho : oI K M N) (h48 : (M 0 48).toInt = 0) (m39 : M 39 = K 39) (hy : y.toInt = (J 0 46).toInt) (hw : w.toInt = i) (p0 : P 0 = M 0) (p22 : P 22 = M 22) (p24 : P 24 = M 24) (p25 : P 25 = M 25) (p26 : P 26 = M 26) (p27 : P 27 = M 27) (p28 : P 28 = M 28) (p29 : P 29 = M 29) (p33 : P 33 = M 33) (p39 : P 39 = upd (M 39) y.toInt.toNat w) (p6 : P 6 = M 6) (p31 : P 31 = M 31) (p32 : P 32 = M 32) (p34 : P 34 = M 34) : pT P i' ∧ (P 0 45).toInt = N := by
  have q46 : 0 ≤ (J 0 46).toInt := (hR 0 46).1
  have q47 : 0 ≤ (J 0 47).toInt := (hR 0 47).1
  obtain ⟨a1, a2, a3, a4, a5⟩ := h
  obtain ⟨b1, b2, b3, b4, b5, b6, b7, b8, b9⟩ := ho
  have nn := tk_num b1
  have ec : ecd P = ecd M := by funext e; unfold ecd; rw [p22, p33]
  have tc : tcd P = tcd M := by funext e; unfold tcd; rw [p32, p34]
  have tl : tlv P = tlv M := by funext e; unfold tlv; rw [p6, p31]
  have e0 : tS (tlv M) (M 0 48).toInt.toNat = 0 := by rw [h48]; rfl
  have hN : N = (M 0 45).toInt := by omega
  refine ⟨?_, by rw [p0]; omega⟩
  unfold pT eO aO
  rw [ec, tc, tl, p0, p22, p24, p25, p26, p27, p28, p29, p33]
  refine ⟨by have b := b1; rw [h48, hN] at b; exact b, b2, b4 (-1) (by rw [k47]; omega) (aO_given a3 k46 k47 e27 hz e28 q46), b5 (by rw [e29, k46, k47]; omega), fun g g1 g2 => ?_⟩
  rw [p39]
  by_cases e : g = y.toInt.toNat
  · rw [e, pk_us]; omega
  · rw [pk_un e, m39, e39]
    by_cases e' : (g : Int) < (K 0 46).toInt
    · rw [b8 g e', e26, pk_un (by omega)] at g2
      have := a5 g (by omega) g2
      omega
    · have := b9 g (by omega) g1
      omega
theorem sS_goal {J K M : fM} {i N : Int} {z : Int32} (h : pT J i) (hR : mR J) (hRM : mR M) (hi : i ≤ (M 0 53).toInt) (k46 : K 0 46 = J 0 46) (k47 : (K 0 47).toInt = (J 0 47).toInt + 1) (k55 : (M 0 55).toInt = (J 0 47).toInt) (e26 : K 26 = J 26) (e27 : K 27 = J 27) (e28 : K 28 = J 28) (e29 : K 29 = upd (J 29) (J 0 47).toInt.toNat z) (hz : z.toInt = 0) (e39 : K 39 = J 39)
    (ho : oI K M N) (h48 : (M 0 48).toInt = 0) (hN : 1 ≤ N ∧ N ≤ 20) (m39 : M 39 = K 39) : sS M := by
  have q46 : 0 ≤ (J 0 46).toInt := (hR 0 46).1
  have q47 : 0 ≤ (J 0 47).toInt := (hR 0 47).1
  obtain ⟨a1, a2, a3, a4, a5⟩ := h
  obtain ⟨b1, b2, b3, b4, b5, b6, b7, b8, b9⟩ := ho
  have nn := tk_num b1
  have e0 : tS (tlv M) (M 0 48).toInt.toNat = 0 := by rw [h48]; rfl
  refine sS_of hRM (by omega) (by rw [← h48]; exact b1) b2 ?_ (by omega) (b5 ?_) (fun g g1 g2 => ?_)
  · rw [k55]
    exact b4 _ (by omega) (aO_goal a3 k46 k47 e27 e28 (fun k => (hR 28 k).1))
  · rw [k46, k47, show ((J 0 47).toInt + 1).toNat = (J 0 47).toInt.toNat + 1 by omega, e29]
    simp only [hS]
    rw [hS_cong (H := J 29) (fun j hj => pk_un (by omega)), pk_us]
    omega
  · rw [m39, e39]
    by_cases e' : (g : Int) < (K 0 46).toInt
    · rw [b8 g e', e26] at g2
      have := a5 g (by rw [k46] at e'; exact e') g2
      omega
    · have := b9 g (by omega) g1
      omega
def tX12_assemble : List (Instr × Nat) := [(.aload_n 0, 1), (.iconst 0, 1), (.putfield 385, 3), (.aload_n 0, 1), (.iconst 0, 1), (.putfield 379, 3), (.aload_n 0, 1), (.iconst 0, 1), (.putfield 382, 3), (.iconst 0, 1), (.istore_n 1, 1), (.iload_n 1, 1), (.aload_n 0, 1), (.getfield 407, 3), (.if_icmp .ge 43, 3), (.aload_n 0, 1), (.iconst (-1), 1), (.invokevirtual 404, 3), (.istore_n 2, 1), (.aload_n 0, 1), (.aload_n 0, 1), (.getfield 122, 3), (.iconst 3, 1), (.iload_n 1, 1), (.imul, 1), (.aload_n 0, 1), (.getfield 125, 3), (.iload_n 1, 1), (.iaload, 1), (.iadd, 1), (.iaload, 1), (.iconst 1, 1), (.iload_n 2, 1), (.invokevirtual 410, 3), (.aload_n 0, 1), (.getfield 131, 3), (.iload_n 2, 1), (.iload_n 1, 1), (.iastore, 1), (.iinc 1 1, 3), (.goto (-45), 3), (.aload_n 0, 1), (.aload_n 0, 1), (.invokevirtual 395, 3), (.putfield 413, 3), (.aload_n 0, 1), (.aload_n 0, 1), (.getfield 416, 3), (.iconst 0, 1), (.aload_n 0, 1), (.getfield 413, 3), (.invokevirtual 410, 3), (.return_, 1)]
theorem tX12_assemble_ok : f_chk cX12_assemble 0 tX12_assemble = true := by decide +kernel
def pX12_assemble (av : List Value) (I : fM) (L : fN) : Prop := match av with
  | [.ref 0] => mR I ∧ mL I ∧ mK I ∧ mO I ∧ pK I ∧ 0 ≤ (I 0 54).toInt ∧ eS I (I 0 53).toInt.toNat ≤ 20
  | _ => False
def qX12_assemble (av : List Value) (I : fM) (L : fN) (r : Value) (I' : fM) (L' : fN) : Prop := match av, r with
  | [.ref 0], .null => mR I' ∧ mL I' ∧ mK I' ∧ mO I' ∧ pK I' ∧ f_fo [45, 46, 47, 48, 55] I I' ∧ f_fr [0, 21, 22, 24, 25, 26, 27, 28, 29, 30, 31, 32, 33, 34, 39] I I' ∧ L' = L ∧ sS I'
  | _, _ => False
set_option maxHeartbeats 40000000 in
set_option maxRecDepth 100000 in
theorem mX12_assemble {l : Launch} {a : Nat → Nat} {cy dC : Nat → ClassId} {dI : Nat → Nat → Nat} (hinj : ∀ i j, i < 71 → j < 71 → a i = a j → i = j) : f_Met (fun _ => True) l mY 71 a cy dC dI yX12_assemble cX12_assemble 3 0 2 pX12_assemble qX12_assemble := by
  refine f_met_of (f_Ec_T 71 a) hinj mY_hi (by decide) (fun av I L h => by unfold pX12_assemble at h; split at h <;> first | exact Nat.le_of_ble_eq_true rfl | exact h.elim) ?_
  intro pP eP sP mP aP bP hP9 cP C av I L hp
  unfold pX12_assemble at hp
  split at hp
  case h_2 => exact hp.elim
  case h_1 =>
    obtain ⟨hR, hmL, hmK, hmO, hpK, p5, p6⟩ := hp
    have hn : 0 ≤ (I 0 53).toInt ∧ (I 0 53).toInt ≤ 10 := hR 0 53
    have hgl : lvn I (I 0 54).toInt := by rcases hmO.2 with h | h; (exfalso; omega); exact h
    have hgo := lvn_ok hR hmL hgl
    have hpick : ∀ j : Nat, (j : Int) < (I 0 53).toInt → lvn I (I 36 (3 * j + (I 37 j).toInt.toNat)).toInt := fun j hj => by
      have a1 := hpK j hj
      have a2 : 0 ≤ (I 37 j).toInt := (hR 37 j).1
      exact (hmO.1 j hj).2 _ (by omega) (by omega)
    have heS : ∀ k : Nat, (k : Int) ≤ (I 0 53).toInt → eS I k ≤ eS I (I 0 53).toInt.toNat := fun k hk => by
      rcases eS_le (I := I) (n := (I 0 53).toInt.toNat) (fun j hj => by have := (lvn_ok hR hmL (hpick j (by omega))).2.2.1; omega) (Nat.le_refl _) k with q | q | q
      · rw [q]; exact Int.le_refl _
      · exact q
      · omega
    have hF0 : f_fr [0, 21, 22, 24, 25, 26, 27, 28, 29, 30, 31, 32, 33, 34, 39] I I := f_fr_rf
    have hO0 : f_fo [45, 46, 47, 48, 55] I I := f_fo_rf
    have lp17 : ∀ (n17 : Nat), ∀ (i : Int32) (J17 : fM), mR J17 ∧ f_fr [0, 21, 22, 24, 25, 26, 27, 28, 29, 30, 31, 32, 33, 34, 39] I J17 ∧ f_fo [45, 46, 47, 48, 55] I J17 ∧ mL J17 ∧ mK J17 ∧ mO J17 ∧ pK J17 ∧ (0 ≤ i.toInt) ∧ (i.toInt ≤ (I 0 53).toInt) ∧ (pT J17 i.toInt) ∧ ((J17 0 45).toInt = eS I i.toInt.toNat - (I 6 (I 0 54).toInt.toNat).toInt) ∧ ((I 0 53).toInt - i.toInt) < n17 → f_W pP l eP (f_rm 2) sP mP aP bP hP9 cP mY 71 a cy dC dI 3 (f_K 0 (qX12_assemble [.ref 0] I L)) 17 [(1, .int i), (0, .ref 0)] [] J17 L := by
      intro n17
      induction n17 with
      | zero =>
        intro i J17 h9
        obtain ⟨hR17c, hF17c, hO17c, hmL17c, hmK17c, hmO17c, hpK17c, u17_1, u17_2, u17_3, u17_4, hm17⟩ := h9
        omega
      | succ n17 ih17 =>
        intro i J17 h9
        obtain ⟨hR17c, hF17c, hO17c, hmL17c, hmK17c, hmO17c, hpK17c, u17_1, u17_2, u17_3, u17_4, hm17⟩ := h9
        have num17 := tk_num u17_3.1
        have gg17 : 0 ≤ (J17 0 46).toInt ∧ (J17 0 46).toInt ≤ 40 := hR17c 0 46
        have ww17 : 0 ≤ (J17 0 47).toInt ∧ (J17 0 47).toInt ≤ 40 := hR17c 0 47
        have ss17 := heS i.toInt.toNat (by omega)
        refine f_wp_ok C f_cl flX12_ok fiX12_ok fjX12_ok (sn := none) (fun j h => by cases h) (cs := (f_cnl [(404, (2, 1, 11, pX12_freshGiven, qX12_freshGiven)), (410, (4, 0, 11, pX12_open, qX12_open)), (395, (1, 1, 11, pX12_freshWanted, qX12_freshWanted))])) (cz := (fun _ => none)) (f_cnl_of (P := fun j S => f_cok pP l eP (f_rm 2) sP mP aP bP hP9 cP mY 71 a cy dC dI 3 _ _ (.invokevirtual j) true S) (List.forall_mem_cons.mpr ⟨f_cokV C (mX12_freshGiven hinj) (ci := 11) rfl (List.forall_mem_cons.mpr ⟨(mlX12_ok _ (List.mem_of_getElem? (i := 35) rfl)), kc_X12_freshGiven⟩) (by decide +kernel) ⟨Nat.le_of_ble_eq_true rfl, Nat.le_of_ble_eq_true rfl⟩, List.forall_mem_cons.mpr ⟨f_cokV C (mX12_open hinj) (ci := 11) rfl (List.forall_mem_cons.mpr ⟨(mlX12_ok _ (List.mem_of_getElem? (i := 36) rfl)), kc_X12_open⟩) (by decide +kernel) ⟨Nat.le_of_ble_eq_true rfl, Nat.le_of_ble_eq_true rfl⟩, List.forall_mem_cons.mpr ⟨f_cokV C (mX12_freshWanted hinj) (ci := 11) rfl (List.forall_mem_cons.mpr ⟨(mlX12_ok _ (List.mem_of_getElem? (i := 32) rfl)), kc_X12_freshWanted⟩) (by decide +kernel) ⟨Nat.le_of_ble_eq_true rfl, Nat.le_of_ble_eq_true rfl⟩, fun _ h => absurd h List.not_mem_nil⟩⟩⟩)) (fun j S h => by cases h) tX12_assemble_ok (cut := (f_cnl [(17, (fun (ls' : fLs) (st' : List Value) (I' : fM) (L' : fN) => ∃ i : Int32, (∀ q ∈ ([(1, .int i), (0, .ref 0)] : fLs), q ∈ ls') ∧ st' = [] ∧ L' = L ∧ (mR I' ∧ f_fr [0, 21, 22, 24, 25, 26, 27, 28, 29, 30, 31, 32, 33, 34, 39] I I' ∧ f_fo [45, 46, 47, 48, 55] I I' ∧ mL I' ∧ mK I' ∧ mO I' ∧ pK I' ∧ (0 ≤ i.toInt) ∧ (i.toInt ≤ (I 0 53).toInt) ∧ (pT I' i.toInt) ∧ ((I' 0 45).toInt = eS I i.toInt.toNat - (I 6 (I 0 54).toInt.toNat).toInt) ∧ ((I 0 53).toInt - i.toInt) < n17)))])) (f_cnl_of (P := fun (tQ : Nat) (P : fLs → List Value → fM → fN → Prop) => ∀ ls' st' I' L', P ls' st' I' L' → f_W pP l eP (f_rm 2) sP mP aP bP hP9 cP mY 71 a cy dC dI 3 (f_K 0 (qX12_assemble [.ref 0] I L)) tQ ls' st' I' L') (List.forall_mem_cons.mpr ⟨(fun ls' st' I' L' h => by obtain ⟨i, hs, e1, e3, h9⟩ := h; rw [e1, e3]; exact f_W_sub hs (ih17 i I' h9)), fun _ h => absurd h List.not_mem_nil⟩)) 33 17 (f_seek 17 0 tX12_assemble) (f_seek_ok 17 0 tX12_assemble tX12_assemble_ok) _ _ _ _ ?_
        have r19_1 : 0 ≤ (J17 0 53).toInt ∧ (J17 0 53).toInt ≤ 10 := hR17c 0 53
        have e19_2 : (J17 0 53).toInt = (I 0 53).toInt := congrArg Int32.toInt (hO17c 53 rfl)
        apply And.intro
        · intro h22
          have h22 : (J17 0 53).toInt ≤ i.toInt := h22
          have s65 : i.toInt.toNat = (I 0 53).toInt.toNat := by omega
          rw [s65] at u17_4
          have r67_3 : 0 ≤ (J17 0 47).toInt ∧ (J17 0 47).toInt ≤ 40 := hR17c 0 47
          refine And.intro ⟨hR17c, (show (J17 0 47).toInt ≤ 39 from by first | assumption | omega)⟩ ?_
          intro x67 I67 L67 hq67
          have hq67 : mR I67 ∧ f_fo [47] J17 I67 ∧ f_fr [0, 29] J17 I67 ∧ L67 = L ∧ x67.toInt = (J17 0 47).toInt ∧ (I67 0 47).toInt = (J17 0 47).toInt + 1 ∧ I67 29 = upd (J17 29) (J17 0 47).toInt.toNat (Int32.ofInt 0) := hq67
          obtain ⟨c67_0, c67_1, c67_2, eL67, c67_4, c67_5, c67_6⟩ := hq67
          replace eL67 := eL67.symm
          subst eL67
          have hO67 := f_fo_tr hO17c c67_1 rfl
          have hmL67 := f_depo_fo mL_dep hmL17c c67_2 c67_1 rfl rfl
          have hmK67 := f_depo_fo mK_dep hmK17c c67_2 c67_1 rfl rfl
          have hmO67 := f_depo_fo mO_dep hmO17c c67_2 c67_1 rfl rfl
          have hpK67 := f_depo_fo pK_dep hpK17c c67_2 c67_1 rfl rfl
          have hF67 := f_fr_tr hF17c c67_2 rfl
          have hR70 := mR_f (k := 0) (j := 55) (x := x67) c67_0 (show 0 ≤ x67.toInt ∧ x67.toInt ≤ 39 from ⟨by omega, by omega⟩)
          have hF70 := f_fr_up (k := 0) (r := va_up (I67 0) 55 x67) hF67 rfl
          have hO70 := f_fo_up (j := 55) (x := x67) hO67 rfl
          have hmL70 := f_depo_up0 mL_dep (j := 55) (x := x67) hmL67 rfl rfl
          have hmK70 := f_depo_up0 mK_dep (j := 55) (x := x67) hmK67 rfl rfl
          have hmO70 := f_depo_up0 mO_dep (j := 55) (x := x67) hmO67 rfl rfl
          have hpK70 := f_depo_up0 pK_dep (j := 55) (x := x67) hpK67 rfl rfl
          have g70 : lvn (va_up I67 0 (va_up (I67 0) 55 x67)) (I67 0 54).toInt := by rw [show lvn (va_up I67 0 (va_up (I67 0) 55 x67)) (I67 0 54).toInt = lvn I (I67 0 54).toInt from lvn_eq (hO67 24 rfl) (hF67 8 rfl) (hF67 11 rfl) _, hO67 54 rfl]; exact hgl
          have e70 : I67 0 54 = I 0 54 := hO67 54 rfl
          have f70 : I67 6 = I 6 := hF67 6 rfl
          have k70 : (I67 6 (I67 0 54).toInt.toNat).toInt = (I 6 (I 0 54).toInt.toNat).toInt := by rw [f70, e70]
          have o70 : opn (va_up I67 0 (va_up (I67 0) 55 x67)) (I67 0 54).toInt (0 : Int) x67.toInt := opn_goal (nd := I67 0 54) u17_3 hR17c (by rw [e70, hF17c 6 rfl]; omega) (c67_1 45 rfl) (c67_1 46 rfl) c67_5 c67_4 (c67_2 6 rfl) (c67_2 22 rfl) (c67_2 24 rfl) (c67_2 25 rfl) (c67_2 33 rfl) c67_6 rfl
          have r75_4 : -1 ≤ (I67 0 54).toInt ∧ (I67 0 54).toInt ≤ 1599 := hR70 0 54
          have e75_5 : (I67 0 54).toInt = (J17 0 54).toInt := congrArg Int32.toInt (c67_1 54 rfl)
          have e75_6 : (J17 0 54).toInt = (I 0 54).toInt := congrArg Int32.toInt (hO17c 54 rfl)
          have e83_7 : (I67 0 45).toInt = (J17 0 45).toInt := congrArg Int32.toInt (c67_1 45 rfl)
          have e83_9 : (I67 6 ((I67 0 54).toInt.toNat)).toInt = (I67 6 ((I 0 54).toInt.toNat)).toInt := by rw [(hO67 54 rfl)]
          have e83_10 : (I67 6 ((I 0 54).toInt.toNat)).toInt = (J17 6 ((I 0 54).toInt.toNat)).toInt := congrArg Int32.toInt (congrFun (c67_2 6 rfl) ((I 0 54).toInt.toNat))
          have e83_11 : (J17 6 ((I 0 54).toInt.toNat)).toInt = (I 6 ((I 0 54).toInt.toNat)).toInt := congrArg Int32.toInt (congrFun (hF17c 6 rfl) ((I 0 54).toInt.toNat))
          refine And.intro ⟨hR70, hmL70, hmK70, (show lvn (va_up I67 0 (va_up (I67 0) 55 x67)) (I67 0 54).toInt from by first | assumption | omega), (show ((0 : Int) = 0 ∨ (0 : Int) = 1) from by first | assumption | omega | rfl), (show 0 ≤ x67.toInt from by first | assumption | omega), (show x67.toInt ≤ 39 from by first | assumption | omega), (show opn (va_up I67 0 (va_up (I67 0) 55 x67)) (I67 0 54).toInt (0 : Int) x67.toInt from by first | assumption | omega), (show (I67 0 45).toInt + (I67 6 (I67 0 54).toInt.toNat).toInt ≤ 20 from by first | assumption | omega)⟩ ?_
          intro I83 L83 hq83
          have hq83 : mR I83 ∧ mL I83 ∧ mK I83 ∧ f_fo [45, 46, 47, 48] (va_up I67 0 (va_up (I67 0) 55 x67)) I83 ∧ f_fr [0, 21, 22, 24, 25, 26, 27, 28, 29, 30, 31, 32, 33, 34] (va_up I67 0 (va_up (I67 0) 55 x67)) I83 ∧ L83 = L ∧ oI (va_up I67 0 (va_up (I67 0) 55 x67)) I83 ((I67 0 45).toInt + (I67 6 (I67 0 54).toInt.toNat).toInt) := hq83
          obtain ⟨c83_0, c83_1, c83_2, c83_3, c83_4, eL83, c83_6⟩ := hq83
          replace eL83 := eL83.symm
          subst eL83
          have hO83 := f_fo_tr hO70 c83_3 rfl
          have hmO83 := f_depo_fo mO_dep hmO70 c83_4 c83_3 rfl rfl
          have hpK83 := f_depo_fo pK_dep hpK70 c83_4 c83_3 rfl rfl
          have hF83 := f_fr_tr hF70 c83_4 rfl
          have s83 : sS I83 := sS_goal (K := va_up I67 0 (va_up (I67 0) 55 x67)) u17_3 hR17c c83_0 (by have e : (I83 0 53).toInt = (I 0 53).toInt := congrArg Int32.toInt (hO83 53 rfl); omega) (c67_1 46 rfl) c67_5 ((congrArg Int32.toInt (c83_3 55 rfl)).trans c67_4) (c67_2 26 rfl) (c67_2 27 rfl) (c67_2 28 rfl) c67_6 rfl (c67_2 39 rfl) c83_6 c83_2 (by omega) (c83_4 39 rfl)
          exact ⟨c83_0, c83_1, c83_2, hmO83, hpK83, hO83, hF83, rfl, (by assumption)⟩
        · intro h22
          have h22 : i.toInt < (J17 0 53).toInt := h22
          have s25 : eS I (i.toInt.toNat + 1) = eS I i.toInt.toNat + (I 6 (I 36 (3 * i.toInt.toNat + (I 37 i.toInt.toNat).toInt.toNat)).toInt.toNat).toInt := rfl
          have t25 := heS (i.toInt.toNat + 1) (by omega)
          have v25 := lvn_ok hR hmL (hpick i.toInt.toNat (by omega))
          have w25 := hpick i.toInt.toNat (by omega)
          have r27_3 : 0 ≤ (J17 0 46).toInt ∧ (J17 0 46).toInt ≤ 40 := hR17c 0 46
          refine And.intro ⟨hR17c, (show (J17 0 46).toInt ≤ 39 from by first | assumption | omega), (show -1 ≤ (-1 : Int) from by first | assumption | omega), (show (-1 : Int) ≤ 39 from by first | assumption | omega)⟩ ?_
          intro x27 I27 L27 hq27
          have hq27 : mR I27 ∧ f_fo [46] J17 I27 ∧ f_fr [0, 26, 27] J17 I27 ∧ L27 = L ∧ x27.toInt = (J17 0 46).toInt ∧ (I27 0 46).toInt = (J17 0 46).toInt + 1 ∧ I27 26 = upd (J17 26) (J17 0 46).toInt.toNat (Int32.ofInt (-1)) ∧ I27 27 = upd (J17 27) (J17 0 46).toInt.toNat (Int32.ofInt 0) := hq27
          obtain ⟨c27_0, c27_1, c27_2, eL27, c27_4, c27_5, c27_6, c27_7⟩ := hq27
          replace eL27 := eL27.symm
          subst eL27
          have hO27 := f_fo_tr hO17c c27_1 rfl
          have hmL27 := f_depo_fo mL_dep hmL17c c27_2 c27_1 rfl rfl
          have hmK27 := f_depo_fo mK_dep hmK17c c27_2 c27_1 rfl rfl
          have hmO27 := f_depo_fo mO_dep hmO17c c27_2 c27_1 rfl rfl
          have hpK27 := f_depo_fo pK_dep hpK17c c27_2 c27_1 rfl rfl
          have hF27 := f_fr_tr hF17c c27_2 rfl
          intro z38 q38 _ hq38 hl38 hu38
          have hq38 : z38.toInt = 3 * i.toInt + 4294967296 * q38 := hq38
          try have hz38 : z38.toInt = 3 * i.toInt := by omega
          refine And.intro (show f_in i 10 from ⟨show 0 ≤ i.toInt from by omega, show i.toInt < 10 from by omega⟩) ?_
          have r44_4 : 0 ≤ (I27 37 (i.toInt.toNat)).toInt ∧ (I27 37 (i.toInt.toNat)).toInt ≤ 2 := c27_0 37 (i.toInt.toNat)
          have e44_5 : (I27 37 (i.toInt.toNat)).toInt = (J17 37 (i.toInt.toNat)).toInt := congrArg Int32.toInt (congrFun (c27_2 37 rfl) (i.toInt.toNat))
          have e44_6 : (J17 37 (i.toInt.toNat)).toInt = (I 37 (i.toInt.toNat)).toInt := congrArg Int32.toInt (congrFun (hF17c 37 rfl) (i.toInt.toNat))
          intro z45 q45 _ hq45 hl45 hu45
          have hq45 : z45.toInt = z38.toInt + (I27 37 (i.toInt.toNat)).toInt + 4294967296 * q45 := hq45
          try have hz45 : z45.toInt = z38.toInt + (I27 37 (i.toInt.toNat)).toInt := by omega
          refine And.intro (show f_in z45 30 from ⟨show 0 ≤ z45.toInt from by omega, show z45.toInt < 30 from by omega⟩) ?_
          have r46_7 : -1 ≤ (I27 36 (z45.toInt.toNat)).toInt ∧ (I27 36 (z45.toInt.toNat)).toInt ≤ 1599 := c27_0 36 (z45.toInt.toNat)
          have e46_8 : (I27 36 (z45.toInt.toNat)).toInt = (J17 36 (z45.toInt.toNat)).toInt := congrArg Int32.toInt (congrFun (c27_2 36 rfl) (z45.toInt.toNat))
          have e46_9 : (J17 36 (z45.toInt.toNat)).toInt = (I 36 (z45.toInt.toNat)).toInt := congrArg Int32.toInt (congrFun (hF17c 36 rfl) (z45.toInt.toNat))
          have e46 : I27 36 z45.toInt.toNat = (I 36 (3 * i.toInt.toNat + (I 37 i.toInt.toNat).toInt.toNat)) := by
            have a2 : 0 ≤ (I 37 i.toInt.toNat).toInt := (hR 37 _).1
            rw [c27_2 36 rfl, hF17c 36 rfl, show z45.toInt.toNat = 3 * i.toInt.toNat + (I 37 i.toInt.toNat).toInt.toNat by omega]
          have f46 : I27 6 = I 6 := (c27_2 6 rfl).trans (hF17c 6 rfl)
          have g46 : lvn I27 (I27 36 z45.toInt.toNat).toInt := by rw [e46, lvn_eq (hO27 24 rfl) (hF27 8 rfl) (hF27 11 rfl)]; exact w25
          have k46 : (I27 6 (I27 36 z45.toInt.toNat).toInt.toNat).toInt = (I 6 (I 36 (3 * i.toInt.toNat + (I 37 i.toInt.toNat).toInt.toNat)).toInt.toNat).toInt := by rw [f46, e46]
          have o46 : opn I27 (I27 36 z45.toInt.toNat).toInt (1 : Int) x27.toInt := opn_word (nd := I27 36 z45.toInt.toNat) u17_3 hR17c (by rw [← c27_2 6 rfl]; omega) (c27_1 45 rfl) c27_5 (c27_1 47 rfl) c27_4 (c27_2 6 rfl) (c27_2 22 rfl) (c27_2 24 rfl) (c27_2 25 rfl) (c27_2 33 rfl) c27_7 rfl
          have r49_10 : 0 ≤ (I27 0 45).toInt ∧ (I27 0 45).toInt ≤ 20 := c27_0 0 45
          have e49_11 : (I27 0 45).toInt = (J17 0 45).toInt := congrArg Int32.toInt (c27_1 45 rfl)
          have e49_13 : (I27 6 ((I27 36 (z45.toInt.toNat)).toInt.toNat)).toInt = (J17 6 ((I27 36 (z45.toInt.toNat)).toInt.toNat)).toInt := congrArg Int32.toInt (congrFun (c27_2 6 rfl) ((I27 36 (z45.toInt.toNat)).toInt.toNat))
          have e49_14 : (J17 6 ((I27 36 (z45.toInt.toNat)).toInt.toNat)).toInt = (I 6 ((I27 36 (z45.toInt.toNat)).toInt.toNat)).toInt := congrArg Int32.toInt (congrFun (hF17c 6 rfl) ((I27 36 (z45.toInt.toNat)).toInt.toNat))
          refine And.intro ⟨c27_0, hmL27, hmK27, (show lvn I27 (I27 36 (z45.toInt.toNat)).toInt from by first | assumption | omega), (show ((1 : Int) = 0 ∨ (1 : Int) = 1) from by first | assumption | omega | rfl), (show 0 ≤ x27.toInt from by first | assumption | omega), (show x27.toInt ≤ 39 from by first | assumption | omega), (show opn I27 (I27 36 (z45.toInt.toNat)).toInt (1 : Int) x27.toInt from by first | assumption | omega), (show (I27 0 45).toInt + (I27 6 (I27 36 (z45.toInt.toNat)).toInt.toNat).toInt ≤ 20 from by first | assumption | omega)⟩ ?_
          intro I49 L49 hq49
          have hq49 : mR I49 ∧ mL I49 ∧ mK I49 ∧ f_fo [45, 46, 47, 48] I27 I49 ∧ f_fr [0, 21, 22, 24, 25, 26, 27, 28, 29, 30, 31, 32, 33, 34] I27 I49 ∧ L49 = L ∧ oI I27 I49 ((I27 0 45).toInt + (I27 6 (I27 36 (z45.toInt.toNat)).toInt.toNat).toInt) := hq49
          obtain ⟨c49_0, c49_1, c49_2, c49_3, c49_4, eL49, c49_6⟩ := hq49
          replace eL49 := eL49.symm
          subst eL49
          have hO49 := f_fo_tr hO27 c49_3 rfl
          have hmO49 := f_depo_fo mO_dep hmO27 c49_4 c49_3 rfl rfl
          have hpK49 := f_depo_fo pK_dep hpK27 c49_4 c49_3 rfl rfl
          have hF49 := f_fr_tr hF27 c49_4 rfl
          refine And.intro (show f_in x27 40 from ⟨show 0 ≤ x27.toInt from by omega, show x27.toInt < 40 from by omega⟩) ?_
          have hR58 := mR_a (k := 39) (j := x27.toInt.toNat) (x := i) c49_0 (show 0 ≤ i.toInt ∧ i.toInt ≤ 9 from ⟨by omega, by omega⟩)
          have hF58 := f_fr_up (k := 39) (r := upd (I49 39) (x27.toInt.toNat) i) hF49 rfl
          have hO58 := f_fo_ne (k := 39) (r := upd (I49 39) (x27.toInt.toNat) i) hO49 (by decide)
          have hmL58 := f_depo_up mL_dep (k := 39) (r := upd (I49 39) (x27.toInt.toNat) i) c49_1 rfl (by decide)
          have hmK58 := f_depo_up mK_dep (k := 39) (r := upd (I49 39) (x27.toInt.toNat) i) c49_2 rfl (by decide)
          have hmO58 := f_depo_up mO_dep (k := 39) (r := upd (I49 39) (x27.toInt.toNat) i) hmO49 rfl (by decide)
          have hpK58 := f_depo_up pK_dep (k := 39) (r := upd (I49 39) (x27.toInt.toNat) i) hpK49 rfl (by decide)
          have q58 := pT_word (P := (va_up I49 39 (upd (I49 39) (x27.toInt.toNat) i))) (i' := i.toInt + 1) u17_3 hR17c rfl c27_5 (c27_1 47 rfl) c27_6 c27_7 rfl (c27_2 28 rfl) (c27_2 29 rfl) (c27_2 39 rfl) c49_6 c49_2 (c49_4 39 rfl) c27_4 rfl rfl rfl rfl rfl rfl rfl rfl rfl rfl rfl rfl rfl rfl rfl
          intro z59 q59 _ hq59 hl59 hu59
          have hq59 : z59.toInt = i.toInt + 1 + 4294967296 * q59 := hq59
          try have hz59 : z59.toInt = i.toInt + 1 := by omega
          have q59 : pT (va_up I49 39 (upd (I49 39) (x27.toInt.toNat) i)) z59.toInt := by rw [show z59.toInt = i.toInt + 1 by omega]; exact q58.1
          have r59 : (I49 0 45).toInt = eS I z59.toInt.toNat - (I 6 (I 0 54).toInt.toNat).toInt := by
            have q : (I49 0 45).toInt = _ := q58.2
            rw [show z59.toInt.toNat = i.toInt.toNat + 1 by omega]
            omega
          exact ⟨z59, (by intro q9 h9; simp only [List.mem_cons, List.not_mem_nil, or_false] at h9; rcases h9 with h9 | h9 <;> subst h9 <;> repeat (first | exact List.mem_cons_self | apply List.mem_cons_of_mem)), rfl, rfl, hR58, hF58, hO58, hmL58, hmK58, hmO58, hpK58, (show 0 ≤ z59.toInt from by first | assumption | omega), (show z59.toInt ≤ (I 0 53).toInt from by first | assumption | omega), (show pT (va_up I49 39 (upd (I49 39) (x27.toInt.toNat) i)) z59.toInt from by first | assumption | omega), (show (I49 0 45).toInt = eS I z59.toInt.toNat - (I 6 (I 0 54).toInt.toNat).toInt from by first | assumption | omega | rfl), (show ((I 0 53).toInt - z59.toInt) < n17 from by omega)⟩
    refine f_wp_ok C f_cl flX12_ok fiX12_ok fjX12_ok (sn := none) (fun j h => by cases h) (cs := (f_cnl [(404, (2, 1, 11, pX12_freshGiven, qX12_freshGiven)), (410, (4, 0, 11, pX12_open, qX12_open)), (395, (1, 1, 11, pX12_freshWanted, qX12_freshWanted))])) (cz := (fun _ => none)) (f_cnl_of (P := fun j S => f_cok pP l eP (f_rm 2) sP mP aP bP hP9 cP mY 71 a cy dC dI 3 _ _ (.invokevirtual j) true S) (List.forall_mem_cons.mpr ⟨f_cokV C (mX12_freshGiven hinj) (ci := 11) rfl (List.forall_mem_cons.mpr ⟨(mlX12_ok _ (List.mem_of_getElem? (i := 35) rfl)), kc_X12_freshGiven⟩) (by decide +kernel) ⟨Nat.le_of_ble_eq_true rfl, Nat.le_of_ble_eq_true rfl⟩, List.forall_mem_cons.mpr ⟨f_cokV C (mX12_open hinj) (ci := 11) rfl (List.forall_mem_cons.mpr ⟨(mlX12_ok _ (List.mem_of_getElem? (i := 36) rfl)), kc_X12_open⟩) (by decide +kernel) ⟨Nat.le_of_ble_eq_true rfl, Nat.le_of_ble_eq_true rfl⟩, List.forall_mem_cons.mpr ⟨f_cokV C (mX12_freshWanted hinj) (ci := 11) rfl (List.forall_mem_cons.mpr ⟨(mlX12_ok _ (List.mem_of_getElem? (i := 32) rfl)), kc_X12_freshWanted⟩) (by decide +kernel) ⟨Nat.le_of_ble_eq_true rfl, Nat.le_of_ble_eq_true rfl⟩, fun _ h => absurd h List.not_mem_nil⟩⟩⟩)) (fun j S h => by cases h) tX12_assemble_ok (cut := (f_cnl [(17, (fun (ls' : fLs) (st' : List Value) (I' : fM) (L' : fN) => ∃ i : Int32, (∀ q ∈ ([(1, .int i), (0, .ref 0)] : fLs), q ∈ ls') ∧ st' = [] ∧ L' = L ∧ (mR I' ∧ f_fr [0, 21, 22, 24, 25, 26, 27, 28, 29, 30, 31, 32, 33, 34, 39] I I' ∧ f_fo [45, 46, 47, 48, 55] I I' ∧ mL I' ∧ mK I' ∧ mO I' ∧ pK I' ∧ (0 ≤ i.toInt) ∧ (i.toInt ≤ (I 0 53).toInt) ∧ (pT I' i.toInt) ∧ ((I' 0 45).toInt = eS I i.toInt.toNat - (I 6 (I 0 54).toInt.toNat).toInt) ∧ ((I 0 53).toInt - i.toInt) < 11)))])) (f_cnl_of (P := fun (tQ : Nat) (P : fLs → List Value → fM → fN → Prop) => ∀ ls' st' I' L', P ls' st' I' L' → f_W pP l eP (f_rm 2) sP mP aP bP hP9 cP mY 71 a cy dC dI 3 (f_K 0 (qX12_assemble [.ref 0] I L)) tQ ls' st' I' L') (List.forall_mem_cons.mpr ⟨(fun ls' st' I' L' h => by obtain ⟨i, hs, e1, e3, h9⟩ := h; rw [e1, e3]; exact f_W_sub hs (lp17 11 i I' h9)), fun _ h => absurd h List.not_mem_nil⟩)) 14 0 tX12_assemble tX12_assemble_ok _ _ _ _ ?_
    have hR2 := mR_f (k := 0) (j := 45) (x := Int32.ofInt 0) hR (show 0 ≤ 0 ∧ 0 ≤ 20 from ⟨by omega, by omega⟩)
    have hF2 := f_fr_up (k := 0) (r := va_up (I 0) 45 (Int32.ofInt 0)) hF0 rfl
    have hO2 := f_fo_up (j := 45) (x := Int32.ofInt 0) hO0 rfl
    have hmL2 := f_depo_up0 mL_dep (j := 45) (x := Int32.ofInt 0) hmL rfl rfl
    have hmK2 := f_depo_up0 mK_dep (j := 45) (x := Int32.ofInt 0) hmK rfl rfl
    have hmO2 := f_depo_up0 mO_dep (j := 45) (x := Int32.ofInt 0) hmO rfl rfl
    have hpK2 := f_depo_up0 pK_dep (j := 45) (x := Int32.ofInt 0) hpK rfl rfl
    have hR7 := mR_f (k := 0) (j := 46) (x := Int32.ofInt 0) hR2 (show 0 ≤ 0 ∧ 0 ≤ 40 from ⟨by omega, by omega⟩)
    have hF7 := f_fr_up (k := 0) (r := va_up (va_up (I 0) 45 (Int32.ofInt 0)) 46 (Int32.ofInt 0)) hF2 rfl
    have hO7 := f_fo_up (j := 46) (x := Int32.ofInt 0) hO2 rfl
    have hmL7 := f_depo_up0 mL_dep (j := 46) (x := Int32.ofInt 0) hmL2 rfl rfl
    have hmK7 := f_depo_up0 mK_dep (j := 46) (x := Int32.ofInt 0) hmK2 rfl rfl
    have hmO7 := f_depo_up0 mO_dep (j := 46) (x := Int32.ofInt 0) hmO2 rfl rfl
    have hpK7 := f_depo_up0 pK_dep (j := 46) (x := Int32.ofInt 0) hpK2 rfl rfl
    have hR12 := mR_f (k := 0) (j := 47) (x := Int32.ofInt 0) hR7 (show 0 ≤ 0 ∧ 0 ≤ 40 from ⟨by omega, by omega⟩)
    have hF12 := f_fr_up (k := 0) (r := va_up (va_up (va_up (I 0) 45 (Int32.ofInt 0)) 46 (Int32.ofInt 0)) 47 (Int32.ofInt 0)) hF7 rfl
    have hO12 := f_fo_up (j := 47) (x := Int32.ofInt 0) hO7 rfl
    have hmL12 := f_depo_up0 mL_dep (j := 47) (x := Int32.ofInt 0) hmL7 rfl rfl
    have hmK12 := f_depo_up0 mK_dep (j := 47) (x := Int32.ofInt 0) hmK7 rfl rfl
    have hmO12 := f_depo_up0 mO_dep (j := 47) (x := Int32.ofInt 0) hmO7 rfl rfl
    have hpK12 := f_depo_up0 pK_dep (j := 47) (x := Int32.ofInt 0) hpK7 rfl rfl
    have q12 : pT (va_up (va_up (va_up I 0 (va_up (I 0) 45 (Int32.ofInt 0))) 0 (va_up (va_up (I 0) 45 (Int32.ofInt 0)) 46 (Int32.ofInt 0))) 0 (va_up (va_up (va_up (I 0) 45 (Int32.ofInt 0)) 46 (Int32.ofInt 0)) 47 (Int32.ofInt 0))) (0 : Int) := pT_begin rfl rfl rfl
    have r12 : eS I 0 = (I 6 (I 0 54).toInt.toNat).toInt := rfl
    exact ⟨Int32.ofInt 0, (by intro q9 h9; simp only [List.mem_cons, List.not_mem_nil, or_false] at h9; rcases h9 with h9 | h9 <;> subst h9 <;> repeat (first | exact List.mem_cons_self | apply List.mem_cons_of_mem)), rfl, rfl, hR12, hF12, hO12, hmL12, hmK12, hmO12, hpK12, (show 0 ≤ (0 : Int) from by first | assumption | omega), (show (0 : Int) ≤ (I 0 53).toInt from by first | assumption | omega), (show pT (va_up (va_up (va_up I 0 (va_up (I 0) 45 (Int32.ofInt 0))) 0 (va_up (va_up (I 0) 45 (Int32.ofInt 0)) 46 (Int32.ofInt 0))) 0 (va_up (va_up (va_up (I 0) 45 (Int32.ofInt 0)) 46 (Int32.ofInt 0)) 47 (Int32.ofInt 0))) (0 : Int) from by first | assumption | omega), (show (0 : Int) = eS I 0 - (I 6 (I 0 54).toInt.toNat).toInt from by first | assumption | omega | rfl), (show ((I 0 53).toInt - (0 : Int)) < 11 from by omega)⟩
