/-! a reading is told: each wanted thing is come to once at most -/
def stk (S : Nat → Int32) (p : Int) : List Nat := (List.range p.toNat).map (fun i => (S i).toInt.toNat)
theorem stk_len (S : Nat → Int32) (p : Int) : (stk S p).length = p.toNat := by unfold stk; rw [List.length_map, List.length_range]
theorem stk_push {S : Nat → Int32} {p : Int} {x : Int32} (hp : 0 ≤ p) : stk (upd S p.toNat x) (p + 1) = stk S p ++ [x.toInt.toNat] := by
  unfold stk
  rw [show (p + 1).toNat = p.toNat + 1 by omega, List.range_succ, List.map_append, List.map_cons, List.map_nil, pk_us]
  congr 1
  apply List.map_congr_left
  intro i hi
  rw [pk_un (by have := List.mem_range.mp hi; omega)]
theorem stk_pop {S : Nat → Int32} {p : Int} (hp : 0 < p) : stk S p = stk S (p - 1) ++ [(S (p - 1).toNat).toInt.toNat] := by
  unfold stk
  rw [show p.toNat = (p - 1).toNat + 1 by omega, List.range_succ, List.map_append, List.map_cons, List.map_nil]
/-- what is not yet told -/
def uS (H : Nat → Int32) (V : List Nat) : Nat → Int
  | 0 => 0
  | n + 1 => uS H V n + (if n ∈ V then 0 else 1 + (H n).toInt)
theorem uS_nil (H : Nat → Int32) : ∀ n : Nat, uS H [] n = n + hS H n
  | 0 => rfl
  | n + 1 => by
    simp only [uS, hS]
    rw [uS_nil H n, if_neg List.not_mem_nil]
    omega
theorem uS_nn {H : Nat → Int32} (h : ∀ i, 0 ≤ (H i).toInt) (V : List Nat) : ∀ n : Nat, 0 ≤ uS H V n
  | 0 => Int.le_refl _
  | n + 1 => by
    simp only [uS]
    have q := uS_nn h V n
    have w := h n
    split <;> omega
theorem uS_cons {H : Nat → Int32} {V : List Nat} {w : Nat} (hw : ¬ w ∈ V) : ∀ {n : Nat}, (w < n → uS H (w :: V) n = uS H V n - (1 + (H w).toInt)) ∧ (n ≤ w → uS H (w :: V) n = uS H V n)
  | 0 => ⟨fun h => by omega, fun _ => rfl⟩
  | n + 1 => by
    have q := uS_cons (H := H) hw (n := n)
    refine ⟨fun h => ?_, fun h => ?_⟩
    · simp only [uS]
      by_cases e : w = n
      · subst e
        rw [q.2 (Nat.le_refl _), if_pos List.mem_cons_self, if_neg hw]
        omega
      · rw [q.1 (by omega)]
        by_cases m : n ∈ V
        · rw [if_pos (List.mem_cons_of_mem _ m), if_pos m]; omega
        · rw [if_neg (fun h => by rcases List.mem_cons.mp h with r | r; exact e r.symm; exact m r), if_neg m]; omega
    · simp only [uS]
      rw [q.2 (by omega)]
      by_cases m : n ∈ V
      · rw [if_pos (List.mem_cons_of_mem _ m), if_pos m]
      · rw [if_neg (fun h => by rcases List.mem_cons.mp h with r | r; omega; exact m r), if_neg m]
/-- v is an argument of what u is tied to -/
def isA (I : fM) (u v : Nat) : Prop := ∃ k : Nat, 4 * pg I u ≤ k ∧ (k : Int) < 4 * (pg I u : Int) + (I 27 (pg I u)).toInt ∧ (I 28 k).toInt = v
def kV0 (I : fM) (V l : List Nat) (m : Int) : Prop := (V ++ l).Nodup ∧ (∀ v ∈ V ++ l, (v : Int) < (I 0 47).toInt ∧ ((v : Int) = (I 0 55).toInt ∨ ∃ u ∈ V, isA I u v)) ∧ m + uS (I 29) V (I 0 47).toInt.toNat = (I 0 47).toInt + hS (I 29) (I 0 47).toInt.toNat
def kV (I : fM) (S : Nat → Int32) (p m : Int) : Prop := ∃ V : List Nat, kV0 I V (stk S p) m
/-- the arguments up to a are still to be laid down -/
def kW (I : fM) (S : Nat → Int32) (p m : Int) (w : Nat) (a : Int) : Prop := ∃ V : List Nat, w ∈ V ∧ kV0 I V (stk S p) m ∧ (∀ k : Nat, 4 * pg I w ≤ k → (k : Int) ≤ 4 * (pg I w : Int) + a → ¬ (I 28 k).toInt.toNat ∈ V ++ stk S p)
theorem kV0_num {I : fM} {V l : List Nat} {m : Int} (hR : mR I) (hs : sS I) (h : kV0 I V l m) : (l.length : Int) + V.length ≤ 20 ∧ m ≤ 20 := by
  obtain ⟨h1, h2, h3⟩ := h
  have q := nodup_len (n := (I 0 47).toInt.toNat) h1 (fun v hv => by have := (h2 v hv).1; omega)
  rw [List.length_append] at q
  obtain ⟨s1, s2, s3, s4, s5⟩ := hs.1
  have n := uS_nn (H := I 29) (fun i => (hR 29 i).1) V (I 0 47).toInt.toNat
  have p46 : 0 ≤ (I 0 46).toInt := (hR 0 46).1
  have p47 : 0 ≤ (I 0 47).toInt := (hR 0 47).1
  omega
theorem kV_begin {I : fM} {S : Nat → Int32} (hR : mR I) (hs : sS I) (h0 : S 0 = I 0 55) : kV I S 1 0 := by
  have p55 : 0 ≤ (I 0 55).toInt := (hR 0 55).1
  have p47 : 0 ≤ (I 0 47).toInt := (hR 0 47).1
  have e : stk S 1 = [(I 0 55).toInt.toNat] := by
    show [(S 0).toInt.toNat] = _
    rw [h0]
  refine ⟨[], ?_⟩
  rw [e]
  refine ⟨List.nodup_cons.mpr ⟨List.not_mem_nil, List.nodup_nil⟩, fun v hv => ?_, ?_⟩
  · have hv : v = (I 0 55).toInt.toNat := by simpa using hv
    have := hs.1.2.2.2.1
    exact ⟨by omega, Or.inl (by omega)⟩
  · rw [uS_nil]; omega
/-- a wanted thing is taken off -/
theorem kV_pop {I : fM} {S : Nat → Int32} {p m : Int} (hR : mR I) (hs : sS I) (ht : tA I) (h : kV I S p m) (hp : 0 < p) : (((S (p - 1).toNat).toInt.toNat : Nat) : Int) < (I 0 47).toInt ∧ m + 1 + (I 29 (S (p - 1).toNat).toInt.toNat).toInt ≤ 20 ∧ p ≤ 20 ∧
    kW I S (p - 1) (m + 1 + (I 29 (S (p - 1).toNat).toInt.toNat).toInt) (S (p - 1).toNat).toInt.toNat ((I 27 (pg I (S (p - 1).toNat).toInt.toNat)).toInt - 1) := by
  obtain ⟨V, h⟩ := h
  have num := kV0_num hR hs h
  rw [stk_len] at num
  rw [stk_pop hp] at h
  generalize (S (p - 1).toNat).toInt.toNat = w at h ⊢
  obtain ⟨h1, h2, h3⟩ := h
  have hw : (w : Int) < (I 0 47).toInt := (h2 w (by simp)).1
  have nd : ((w :: V) ++ stk S (p - 1)).Nodup := by
    have : (V ++ (stk S (p - 1) ++ [w])).Perm (w :: V ++ stk S (p - 1)) := by
      rw [← List.append_assoc]
      exact List.perm_append_comm
    exact this.nodup_iff.mp h1
  have mem : ∀ v, v ∈ (w :: V) ++ stk S (p - 1) → v ∈ V ++ (stk S (p - 1) ++ [w]) := fun v hv => by
    simp only [List.mem_append, List.mem_cons, List.not_mem_nil, or_false] at hv ⊢
    rcases hv with (a | a) | a
    · exact Or.inr (Or.inr a)
    · exact Or.inl a
    · exact Or.inr (Or.inl a)
  have wV : ¬ w ∈ V := fun q => by
    have := (List.nodup_cons.mp nd).1
    exact this (List.mem_append.mpr (Or.inl q))
  have k0 : kV0 I (w :: V) (stk S (p - 1)) (m + 1 + (I 29 w).toInt) := by
    refine ⟨nd, fun v hv => ?_, ?_⟩
    · obtain ⟨a1, a2⟩ := h2 v (mem v hv)
      refine ⟨a1, ?_⟩
      rcases a2 with a2 | ⟨u, u1, u2⟩
      · exact Or.inl a2
      · exact Or.inr ⟨u, List.mem_cons_of_mem _ u1, u2⟩
    · rw [(uS_cons wV).1 (by omega)]; omega
  have num2 := kV0_num hR hs k0
  refine ⟨hw, num2.2, by omega, w :: V, List.mem_cons_self, k0, fun k k1 k2 hm => ?_⟩
  have ho := hs.2.2.2.2.2.1
  have pw := (pg_lt hR hs ht hw).2.1
  have p28 : 0 ≤ (I 28 k).toInt := (hR 28 k).1
  obtain ⟨a1, a2⟩ := h2 _ (mem _ hm)
  have b1 := ho.1 (pg I w) k pw k1 (by omega)
  rcases a2 with a2 | ⟨u, u1, k', c1, c2, c3⟩
  · omega
  · have hu : (u : Int) < (I 0 47).toInt := (h2 u (List.mem_append.mpr (Or.inl u1))).1
    have pu := (pg_lt hR hs ht hu).2.1
    have e := ho.2.1 (pg I w) k (pg I u) k' pw k1 (by omega) pu c1 c2 (by omega)
    subst e
    have m1 : (I 27 (pg I w)).toInt ≤ 4 := (hR 27 _).2
    have m2 : (I 27 (pg I u)).toInt ≤ 4 := (hR 27 _).2
    have : pg I u = pg I w := by omega
    have := pg_inj hR hs ht hu hw this
    exact wV (this ▸ u1)
theorem kW_push {I : fM} {S : Nat → Int32} {p m a : Int} {w : Nat} {x : Int32} (hR : mR I) (hs : sS I) (ht : tA I) (h : kW I S p m w a) (hp : 0 ≤ p) (ha : 0 ≤ a) (hm : a < (I 27 (pg I w)).toInt) {k : Nat} (hk : (k : Int) = 4 * (pg I w : Int) + a) (hx : x = I 28 k) : kW I (upd S p.toNat x) (p + 1) m w (a - 1) := by
  obtain ⟨V, hw, ⟨h1, h2, h3⟩, h4⟩ := h
  subst hx
  have hwW := (h2 w (List.mem_append.mpr (Or.inl hw))).1
  have pw := (pg_lt hR hs ht hwW).2.1
  have ho := hs.2.2.2.2.2.1
  have p28 : ∀ k, 0 ≤ (I 28 k).toInt := fun k => (hR 28 k).1
  have b1 := ho.1 (pg I w) k pw (by omega) (by omega)
  have nx := h4 k (by omega) (by omega)
  refine ⟨V, hw, ?_, fun k' k1 k2 hmem => ?_⟩
  · rw [stk_push hp]
    refine ⟨?_, fun v hv => ?_, h3⟩
    · have : (V ++ (stk S p ++ [(I 28 k).toInt.toNat])).Perm ((I 28 k).toInt.toNat :: (V ++ stk S p)) := by
        rw [← List.append_assoc]
        exact List.perm_append_comm
      exact this.nodup_iff.mpr (List.nodup_cons.mpr ⟨nx, h1⟩)
    · rw [← List.append_assoc] at hv
      rcases List.mem_append.mp hv with q | q
      · exact h2 v q
      · have q : v = (I 28 k).toInt.toNat := by simpa using q
        have := p28 k
        exact ⟨by omega, Or.inr ⟨w, hw, k, by omega, by omega, by omega⟩⟩
  · rw [stk_push hp, ← List.append_assoc] at hmem
    rcases List.mem_append.mp hmem with q | q
    · exact h4 k' k1 (by omega) q
    · have q : (I 28 k').toInt.toNat = (I 28 k).toInt.toNat := by simpa using q
      have := p28 k
      have := p28 k'
      have := ho.2.1 (pg I w) k' (pg I w) k pw k1 (by omega) pw (by omega) (by omega) (by omega)
      omega
theorem kW_num {I : fM} {S : Nat → Int32} {p m a : Int} {w : Nat} (hR : mR I) (hs : sS I) (h : kW I S p m w a) (hp : 0 ≤ p) : p ≤ 19 := by
  obtain ⟨V, hw, h, -⟩ := h
  have q := kV0_num hR hs h
  rw [stk_len] at q
  have := List.length_pos_of_mem hw
  omega
def tX12_keepReading : List (Instr × Nat) := [(.aload_n 0, 1), (.getfield 463, 3), (.sipush 300, 3), (.if_icmp .ne 9, 3), (.aload_n 0, 1), (.iconst 1, 1), (.putfield 460, 3), (.return_, 1), (.iconst 0, 1), (.istore_n 1, 1), (.iload_n 1, 1), (.aload_n 0, 1), (.getfield 407, 3), (.if_icmp .ge 29, 3), (.aload_n 0, 1), (.getfield 149, 3), (.bipush 8, 2), (.aload_n 0, 1), (.getfield 463, 3), (.imul, 1), (.iload_n 1, 1), (.iadd, 1), (.aload_n 0, 1), (.getfield 125, 3), (.iload_n 1, 1), (.iaload, 1), (.iastore, 1), (.iinc 1 1, 3), (.goto (-31), 3), (.iconst 0, 1), (.istore_n 1, 1), (.iload_n 1, 1), (.aload_n 0, 1), (.getfield 385, 3), (.if_icmp .ge 29, 3), (.aload_n 0, 1), (.getfield 152, 3), (.bipush 20, 2), (.aload_n 0, 1), (.getfield 463, 3), (.imul, 1), (.iload_n 1, 1), (.iadd, 1), (.aload_n 0, 1), (.getfield 83, 3), (.iload_n 1, 1), (.iaload, 1), (.iastore, 1), (.iinc 1 1, 3), (.goto (-31), 3), (.aload_n 0, 1), (.getfield 155, 3), (.aload_n 0, 1), (.getfield 463, 3), (.aload_n 0, 1), (.getfield 385, 3), (.iastore, 1), (.aload_n 0, 1), (.getfield 158, 3), (.aload_n 0, 1), (.getfield 463, 3), (.iconst 0, 1), (.iastore, 1), (.aload_n 0, 1), (.iconst 0, 1), (.putfield 472, 3), (.iconst 1, 1), (.istore_n 1, 1), (.aload_n 0, 1), (.getfield 170, 3), (.iconst 0, 1), (.aload_n 0, 1), (.getfield 413, 3), (.iastore, 1), (.iload_n 1, 1), (.ifCond .le 142, 3), (.iinc 1 (-1), 3), (.aload_n 0, 1), (.getfield 170, 3), (.iload_n 1, 1), (.iaload, 1), (.istore_n 2, 1), (.iconst 0, 1), (.istore_n 3, 1), (.iload_n 3, 1), (.aload_n 0, 1), (.getfield 101, 3), (.iload_n 2, 1), (.iaload, 1), (.if_icmp .ge 50, 3), (.aload_n 0, 1), (.getfield 167, 3), (.aload_n 0, 1), (.getfield 104, 3), (.iconst 4, 1), (.iload_n 2, 1), (.imul, 1), (.iload_n 3, 1), (.iadd, 1), (.iaload, 1), (.aload_n 0, 1), (.getfield 472, 3), (.iastore, 1), (.aload_n 0, 1), (.sipush 200, 3), (.aload_n 0, 1), (.getfield 472, 3), (.iadd, 1), (.invokevirtual 475, 3), (.aload_n 0, 1), (.dup, 1), (.getfield 472, 3), (.iconst 1, 1), (.iadd, 1), (.putfield 472, 3), (.iinc 3 1, 3), (.goto (-54), 3), (.aload_n 0, 1), (.getfield 80, 3), (.aload_n 0, 1), (.getfield 83, 3), (.aload_n 0, 1), (.getfield 89, 3), (.iload_n 2, 1), (.iaload, 1), (.iaload, 1), (.iaload, 1), (.istore_n 3, 1), (.aload_n 0, 1), (.aload_n 0, 1), (.iload_n 3, 1), (.invokevirtual 478, 3), (.invokevirtual 475, 3), (.aload_n 0, 1), (.getfield 95, 3), (.iload_n 3, 1), (.iaload, 1), (.iconst 1, 1), (.isub, 1), (.istore 4, 2), (.iload 4, 2), (.ifCond .lt 29, 3), (.aload_n 0, 1), (.getfield 170, 3), (.iload_n 1, 1), (.aload_n 0, 1), (.getfield 98, 3), (.iconst 4, 1), (.iload_n 3, 1), (.imul, 1), (.iload 4, 2), (.iadd, 1), (.iaload, 1), (.iastore, 1), (.iinc 1 1, 3), (.iinc 4 (-1), 3), (.goto (-28), 3), (.goto (-140), 3), (.iconst 0, 1), (.istore_n 2, 1), (.iload_n 2, 1), (.aload_n 0, 1), (.getfield 379, 3), (.if_icmp .ge 70, 3), (.aload_n 0, 1), (.getfield 92, 3), (.iload_n 2, 1), (.iaload, 1), (.iconst (-1), 1), (.if_icmp .ne 54, 3), (.aload_n 0, 1), (.getfield 164, 3), (.bipush 8, 2), (.aload_n 0, 1), (.getfield 463, 3), (.imul, 1), (.aload_n 0, 1), (.getfield 131, 3), (.iload_n 2, 1), (.iaload, 1), (.iadd, 1), (.aload_n 0, 1), (.getfield 140, 3), (.iload_n 2, 1), (.iaload, 1), (.aload_n 0, 1), (.getfield 413, 3), (.if_icmp .ne 7, 3), (.iconst (-1), 1), (.goto 18, 3), (.aload_n 0, 1), (.aload_n 0, 1), (.getfield 143, 3), (.aload_n 0, 1), (.getfield 140, 3), (.iload_n 2, 1), (.iaload, 1), (.iaload, 1), (.invokevirtual 478, 3), (.iastore, 1), (.iinc 2 1, 3), (.goto (-72), 3), (.aload_n 0, 1), (.dup, 1), (.getfield 463, 3), (.iconst 1, 1), (.iadd, 1), (.putfield 463, 3), (.return_, 1)]
theorem tX12_keepReading_ok : f_chk cX12_keepReading 0 tX12_keepReading = true := by decide +kernel
def pX12_keepReading (av : List Value) (I : fM) (L : fN) : Prop := match av with
  | [.ref 0] => mR I ∧ sS I ∧ tA I ∧ uN I ∧ (I 0 53).toInt ≤ 8
  | _ => False
def qX12_keepReading (av : List Value) (I : fM) (L : fN) (r : Value) (I' : fM) (L' : fN) : Prop := match av, r with
  | [.ref 0], .null => mR I' ∧ sS I' ∧ tA I' ∧ f_fo [69, 71, 74] I I' ∧ f_fr [0, 45, 46, 47, 48, 49, 50, 51, 52] I I' ∧ L' = L
  | _, _ => False
set_option maxHeartbeats 40000000 in
set_option maxRecDepth 100000 in
theorem mX12_keepReading {l : Launch} {a : Nat → Nat} {cy dC : Nat → ClassId} {dI : Nat → Nat → Nat} (hinj : ∀ i j, i < 71 → j < 71 → a i = a j → i = j) : f_Met (fun _ => True) l mY 71 a cy dC dI yX12_keepReading cX12_keepReading 5 0 1 pX12_keepReading qX12_keepReading := by
  refine f_met_of (f_Ec_T 71 a) hinj mY_hi (by decide) (fun av I L h => by unfold pX12_keepReading at h; split at h <;> first | exact Nat.le_of_ble_eq_true rfl | exact h.elim) ?_
  intro pP eP sP mP aP bP hP9 cP C av I L hp
  unfold pX12_keepReading at hp
  split at hp
  case h_2 => exact hp.elim
  case h_1 =>
    obtain ⟨hR, hsS, htA, huN, p4⟩ := hp
    have hr : 0 ≤ (I 0 69).toInt ∧ (I 0 69).toInt ≤ 300 := hR 0 69
    have hE : 0 ≤ (I 0 45).toInt ∧ (I 0 45).toInt ≤ 20 := hR 0 45
    have hG : 0 ≤ (I 0 46).toInt ∧ (I 0 46).toInt ≤ 40 := hR 0 46
    have hW : 0 ≤ (I 0 47).toInt ∧ (I 0 47).toInt ≤ 40 := hR 0 47
    have h53 : 0 ≤ (I 0 53).toInt := (hR 0 53).1
    have hF0 : f_fr [0, 45, 46, 47, 48, 49, 50, 51, 52] I I := f_fr_rf
    have hO0 : f_fo [69, 71, 74] I I := f_fo_rf
    have lp273 : ∀ (n273 : Nat), ∀ (g : Int32) (J273 : fM), mR J273 ∧ f_fr [0, 45, 46, 47, 48, 49, 50, 51, 52] I J273 ∧ f_fo [69, 71, 74] I J273 ∧ sS J273 ∧ tA J273 ∧ (J273 0 69 = I 0 69) ∧ ((I 0 69).toInt ≤ 299) ∧ (0 ≤ g.toInt) ∧ (g.toInt ≤ (I 0 46).toInt) ∧ ((I 0 46).toInt - g.toInt) < n273 → f_W pP l eP (f_rm 1) sP mP aP bP hP9 cP mY 71 a cy dC dI 5 (f_K 0 (qX12_keepReading [.ref 0] I L)) 273 [(2, .int g), (0, .ref 0)] [] J273 L := by
      intro n273
      induction n273 with
      | zero =>
        intro g J273 h9
        obtain ⟨hR273c, hF273c, hO273c, hsS273c, htA273c, u273_1, u273_2, u273_3, u273_4, hm273⟩ := h9
        omega
      | succ n273 ih273 =>
        intro g J273 h9
        obtain ⟨hR273c, hF273c, hO273c, hsS273c, htA273c, u273_1, u273_2, u273_3, u273_4, hm273⟩ := h9
        have f273 : (J273 0 69).toInt = (I 0 69).toInt := by rw [u273_1]
        refine f_wp_ok C f_cl flX12_ok fiX12_ok fjX12_ok (sn := none) (fun j h => by cases h) (cs := (f_cnl [(475, (2, 0, 11, pX12_means, qX12_means)), (478, (2, 1, 11, pX12_saysOf, qX12_saysOf))])) (cz := (fun _ => none)) (f_cnl_of (P := fun j S => f_cok pP l eP (f_rm 1) sP mP aP bP hP9 cP mY 71 a cy dC dI 5 _ _ (.invokevirtual j) true S) (List.forall_mem_cons.mpr ⟨f_cokV C (mX12_means hinj) (ci := 11) rfl (List.forall_mem_cons.mpr ⟨(mlX12_ok _ (List.mem_of_getElem? (i := 51) rfl)), kc_X12_means⟩) (by decide +kernel) ⟨Nat.le_of_ble_eq_true rfl, Nat.le_of_ble_eq_true rfl⟩, List.forall_mem_cons.mpr ⟨f_cokV C (mX12_saysOf hinj) (ci := 11) rfl (List.forall_mem_cons.mpr ⟨(mlX12_ok _ (List.mem_of_getElem? (i := 52) rfl)), kc_X12_saysOf⟩) (by decide +kernel) ⟨Nat.le_of_ble_eq_true rfl, Nat.le_of_ble_eq_true rfl⟩, fun _ h => absurd h List.not_mem_nil⟩⟩)) (fun j S h => by cases h) tX12_keepReading_ok (cut := (f_cnl [(273, (fun (ls' : fLs) (st' : List Value) (I' : fM) (L' : fN) => ∃ g : Int32, (∀ q ∈ ([(2, .int g), (0, .ref 0)] : fLs), q ∈ ls') ∧ st' = [] ∧ L' = L ∧ (mR I' ∧ f_fr [0, 45, 46, 47, 48, 49, 50, 51, 52] I I' ∧ f_fo [69, 71, 74] I I' ∧ sS I' ∧ tA I' ∧ (I' 0 69 = I 0 69) ∧ ((I 0 69).toInt ≤ 299) ∧ (0 ≤ g.toInt) ∧ (g.toInt ≤ (I 0 46).toInt) ∧ ((I 0 46).toInt - g.toInt) < n273)))])) (f_cnl_of (P := fun (tQ : Nat) (P : fLs → List Value → fM → fN → Prop) => ∀ ls' st' I' L', P ls' st' I' L' → f_W pP l eP (f_rm 1) sP mP aP bP hP9 cP mY 71 a cy dC dI 5 (f_K 0 (qX12_keepReading [.ref 0] I L)) tQ ls' st' I' L') (List.forall_mem_cons.mpr ⟨(fun ls' st' I' L' h => by obtain ⟨g, hs, e1, e3, h9⟩ := h; rw [e1, e3]; exact f_W_sub hs (ih273 g I' h9)), fun _ h => absurd h List.not_mem_nil⟩)) 43 273 (f_seek 273 0 tX12_keepReading) (f_seek_ok 273 0 tX12_keepReading tX12_keepReading_ok) _ _ _ _ ?_
        have r275_1 : 0 ≤ (J273 0 46).toInt ∧ (J273 0 46).toInt ≤ 40 := hR273c 0 46
        have e275_2 : (J273 0 46).toInt = (I 0 46).toInt := congrArg Int32.toInt (hO273c 46 rfl)
        apply And.intro
        · intro h278
          have h278 : (J273 0 46).toInt ≤ g.toInt := h278
          have r350_3 : 0 ≤ (J273 0 69).toInt ∧ (J273 0 69).toInt ≤ 300 := hR273c 0 69
          intro z354 q354 _ hq354 hl354 hu354
          have hq354 : z354.toInt = (J273 0 69).toInt + 1 + 4294967296 * q354 := hq354
          try have hz354 : z354.toInt = (J273 0 69).toInt + 1 := by omega
          have hR355 := mR_f (k := 0) (j := 69) (x := z354) hR273c (show 0 ≤ z354.toInt ∧ z354.toInt ≤ 300 from ⟨by omega, by omega⟩)
          have hF355 := f_fr_up (k := 0) (r := va_up (J273 0) 69 z354) hF273c rfl
          have hO355 := f_fo_up (j := 69) (x := z354) hO273c rfl
          have hsS355 := f_depo_up0 sS_dep (j := 69) (x := z354) hsS273c rfl rfl
          have htA355 := f_depo_up0 tA_dep (j := 69) (x := z354) htA273c rfl rfl
          exact ⟨hR355, hsS355, htA355, hO355, hF355, rfl⟩
        · intro h278
          have h278 : g.toInt < (J273 0 46).toInt := h278
          refine And.intro (show f_in g 40 from ⟨show 0 ≤ g.toInt from by omega, show g.toInt < 40 from by omega⟩) ?_
          have r286_3 : -1 ≤ (J273 26 (g.toInt.toNat)).toInt ∧ (J273 26 (g.toInt.toNat)).toInt ≤ 39 := hR273c 26 (g.toInt.toNat)
          have e286_4 : (J273 26 (g.toInt.toNat)).toInt = (I 26 (g.toInt.toNat)).toInt := congrArg Int32.toInt (congrFun (hF273c 26 rfl) (g.toInt.toNat))
          apply And.intro
          · intro h288
            have h288 : ¬ (J273 26 (g.toInt.toNat)).toInt = (-1) := h288
            intro z342 q342 _ hq342 hl342 hu342
            have hq342 : z342.toInt = g.toInt + 1 + 4294967296 * q342 := hq342
            try have hz342 : z342.toInt = g.toInt + 1 := by omega
            exact ⟨z342, (by intro q9 h9; simp only [List.mem_cons, List.not_mem_nil, or_false] at h9; rcases h9 with h9 | h9 <;> subst h9 <;> repeat (first | exact List.mem_cons_self | apply List.mem_cons_of_mem)), rfl, rfl, hR273c, hF273c, hO273c, hsS273c, htA273c, (show J273 0 69 = I 0 69 from by first | assumption | omega | rfl), (show (I 0 69).toInt ≤ 299 from by first | assumption | omega), (show 0 ≤ z342.toInt from by first | assumption | omega), (show z342.toInt ≤ (I 0 46).toInt from by first | assumption | omega), (show ((I 0 46).toInt - z342.toInt) < n273 from by omega)⟩
          · intro h288
            have h288 : (J273 26 (g.toInt.toNat)).toInt = (-1) := h288
            have b291 : (J273 39 g.toInt.toNat).toInt < (I 0 53).toInt ∧ 0 ≤ (J273 39 g.toInt.toNat).toInt := by
              have e : (J273 26 g.toInt.toNat).toInt = (I 26 g.toInt.toNat).toInt := by rw [hF273c 26 rfl]
              rw [hF273c 39 rfl]
              exact ⟨hsS.2.2.2.2.2.2 g.toInt.toNat (by omega) (by omega), (hR 39 _).1⟩
            have c291 : (J273 42 g.toInt.toNat).toInt < (I 0 47).toInt ∧ 0 ≤ (J273 42 g.toInt.toNat).toInt := by rw [hF273c 42 rfl]; exact ⟨huN.1 g.toInt.toNat (by omega), (hR 42 _).1⟩
            have r298_5 : 0 ≤ (J273 0 69).toInt ∧ (J273 0 69).toInt ≤ 300 := hR273c 0 69
            intro z301 q301 _ hq301 hl301 hu301
            have hq301 : z301.toInt = 8 * (J273 0 69).toInt + 4294967296 * q301 := hq301
            try have hz301 : z301.toInt = 8 * (J273 0 69).toInt := by omega
            refine And.intro (show f_in g 40 from ⟨show 0 ≤ g.toInt from by omega, show g.toInt < 40 from by omega⟩) ?_
            have r307_6 : 0 ≤ (J273 39 (g.toInt.toNat)).toInt ∧ (J273 39 (g.toInt.toNat)).toInt ≤ 9 := hR273c 39 (g.toInt.toNat)
            have e307_7 : (J273 39 (g.toInt.toNat)).toInt = (I 39 (g.toInt.toNat)).toInt := congrArg Int32.toInt (congrFun (hF273c 39 rfl) (g.toInt.toNat))
            intro z308 q308 _ hq308 hl308 hu308
            have hq308 : z308.toInt = z301.toInt + (J273 39 (g.toInt.toNat)).toInt + 4294967296 * q308 := hq308
            try have hz308 : z308.toInt = z301.toInt + (J273 39 (g.toInt.toNat)).toInt := by omega
            refine And.intro (show f_in g 40 from ⟨show 0 ≤ g.toInt from by omega, show g.toInt < 40 from by omega⟩) ?_
            have r314_8 : 0 ≤ (J273 42 (g.toInt.toNat)).toInt ∧ (J273 42 (g.toInt.toNat)).toInt ≤ 39 := hR273c 42 (g.toInt.toNat)
            have e314_9 : (J273 42 (g.toInt.toNat)).toInt = (I 42 (g.toInt.toNat)).toInt := congrArg Int32.toInt (congrFun (hF273c 42 rfl) (g.toInt.toNat))
            have r316_10 : 0 ≤ (J273 0 55).toInt ∧ (J273 0 55).toInt ≤ 39 := hR273c 0 55
            have e316_11 : (J273 0 55).toInt = (I 0 55).toInt := congrArg Int32.toInt (hO273c 55 rfl)
            apply And.intro
            · intro h319
              have h319 : ¬ (J273 42 (g.toInt.toNat)).toInt = (J273 0 55).toInt := h319
              have b326 : 0 ≤ (J273 43 (J273 42 g.toInt.toNat).toInt.toNat).toInt ∧ (J273 43 (J273 42 g.toInt.toNat).toInt.toNat).toInt ≤ 39 := by
                have e : (J273 0 55).toInt = (I 0 55).toInt := congrArg Int32.toInt (hO273c 55 rfl)
                have q := huN.2 (J273 42 g.toInt.toNat).toInt.toNat (by omega) (by omega)
                rw [hF273c 43 rfl]; omega
              refine And.intro (show f_in g 40 from ⟨show 0 ≤ g.toInt from by omega, show g.toInt < 40 from by omega⟩) ?_
              refine And.intro (show f_in (J273 42 (g.toInt.toNat)) 40 from ⟨show 0 ≤ (J273 42 (g.toInt.toNat)).toInt from by omega, show (J273 42 (g.toInt.toNat)).toInt < 40 from by omega⟩) ?_
              have r337_12 : -1 ≤ (J273 43 ((J273 42 (g.toInt.toNat)).toInt.toNat)).toInt ∧ (J273 43 ((J273 42 (g.toInt.toNat)).toInt.toNat)).toInt ≤ 39 := hR273c 43 ((J273 42 (g.toInt.toNat)).toInt.toNat)
              have e337_13 : (J273 43 ((J273 42 (g.toInt.toNat)).toInt.toNat)).toInt = (I 43 ((J273 42 (g.toInt.toNat)).toInt.toNat)).toInt := congrArg Int32.toInt (congrFun (hF273c 43 rfl) ((J273 42 (g.toInt.toNat)).toInt.toNat))
              refine And.intro ⟨(show 0 ≤ (J273 43 ((J273 42 (g.toInt.toNat)).toInt.toNat)).toInt from by first | assumption | omega), (show (J273 43 ((J273 42 (g.toInt.toNat)).toInt.toNat)).toInt ≤ 39 from by first | assumption | omega)⟩ ?_
              intro x338 I338 L338 hq338
              have hq338 : I338 = J273 ∧ L338 = L := hq338
              obtain ⟨eI338, eL338⟩ := hq338
              replace eI338 := eI338.symm
              subst eI338
              replace eL338 := eL338.symm
              subst eL338
              refine And.intro (show f_in z308 2400 from ⟨show 0 ≤ z308.toInt from by omega, show z308.toInt < 2400 from by omega⟩) ?_
              have hR341 := mR_a (k := 50) (j := z308.toInt.toNat) (x := x338) hR273c (by exact f_rng _)
              have hF341 := f_fr_up (k := 50) (r := upd (J273 50) (z308.toInt.toNat) x338) hF273c rfl
              have hO341 := f_fo_ne (k := 50) (r := upd (J273 50) (z308.toInt.toNat) x338) hO273c (by decide)
              have hsS341 := f_depo_up sS_dep (k := 50) (r := upd (J273 50) (z308.toInt.toNat) x338) hsS273c rfl (by decide)
              have htA341 := f_depo_up tA_dep (k := 50) (r := upd (J273 50) (z308.toInt.toNat) x338) htA273c rfl (by decide)
              intro z342 q342 _ hq342 hl342 hu342
              have hq342 : z342.toInt = g.toInt + 1 + 4294967296 * q342 := hq342
              try have hz342 : z342.toInt = g.toInt + 1 := by omega
              exact ⟨z342, (by intro q9 h9; simp only [List.mem_cons, List.not_mem_nil, or_false] at h9; rcases h9 with h9 | h9 <;> subst h9 <;> repeat (first | exact List.mem_cons_self | apply List.mem_cons_of_mem)), rfl, rfl, hR341, hF341, hO341, hsS341, htA341, (show J273 0 69 = I 0 69 from by first | assumption | omega | rfl), (show (I 0 69).toInt ≤ 299 from by first | assumption | omega), (show 0 ≤ z342.toInt from by first | assumption | omega), (show z342.toInt ≤ (I 0 46).toInt from by first | assumption | omega), (show ((I 0 46).toInt - z342.toInt) < n273 from by omega)⟩
            · intro h319
              have h319 : (J273 42 (g.toInt.toNat)).toInt = (J273 0 55).toInt := h319
              refine And.intro (show f_in z308 2400 from ⟨show 0 ≤ z308.toInt from by omega, show z308.toInt < 2400 from by omega⟩) ?_
              have hR341 := mR_a (k := 50) (j := z308.toInt.toNat) (x := Int32.ofInt (-1)) hR273c (by exact f_rng _)
              have hF341 := f_fr_up (k := 50) (r := upd (J273 50) (z308.toInt.toNat) (Int32.ofInt (-1))) hF273c rfl
              have hO341 := f_fo_ne (k := 50) (r := upd (J273 50) (z308.toInt.toNat) (Int32.ofInt (-1))) hO273c (by decide)
              have hsS341 := f_depo_up sS_dep (k := 50) (r := upd (J273 50) (z308.toInt.toNat) (Int32.ofInt (-1))) hsS273c rfl (by decide)
              have htA341 := f_depo_up tA_dep (k := 50) (r := upd (J273 50) (z308.toInt.toNat) (Int32.ofInt (-1))) htA273c rfl (by decide)
              intro z342 q342 _ hq342 hl342 hu342
              have hq342 : z342.toInt = g.toInt + 1 + 4294967296 * q342 := hq342
              try have hz342 : z342.toInt = g.toInt + 1 := by omega
              exact ⟨z342, (by intro q9 h9; simp only [List.mem_cons, List.not_mem_nil, or_false] at h9; rcases h9 with h9 | h9 <;> subst h9 <;> repeat (first | exact List.mem_cons_self | apply List.mem_cons_of_mem)), rfl, rfl, hR341, hF341, hO341, hsS341, htA341, (show J273 0 69 = I 0 69 from by first | assumption | omega | rfl), (show (I 0 69).toInt ≤ 299 from by first | assumption | omega), (show 0 ≤ z342.toInt from by first | assumption | omega), (show z342.toInt ≤ (I 0 46).toInt from by first | assumption | omega), (show ((I 0 46).toInt - z342.toInt) < n273 from by omega)⟩
    have lp128 : ∀ (n128 : Nat), ∀ (piled : Int32) (J128 : fM), mR J128 ∧ f_fr [0, 45, 46, 47, 48, 49, 50, 51, 52] I J128 ∧ f_fo [69, 71, 74] I J128 ∧ sS J128 ∧ tA J128 ∧ (J128 0 69 = I 0 69) ∧ ((I 0 69).toInt ≤ 299) ∧ (0 ≤ piled.toInt) ∧ (0 ≤ (J128 48 (I 0 69).toInt.toNat).toInt) ∧ ((J128 48 (I 0 69).toInt.toNat).toInt ≤ 20) ∧ (kV I (J128 52) piled.toInt (J128 48 (I 0 69).toInt.toNat).toInt) ∧ (21 - (J128 48 (I 0 69).toInt.toNat).toInt) < n128 → f_W pP l eP (f_rm 1) sP mP aP bP hP9 cP mY 71 a cy dC dI 5 (f_K 0 (qX12_keepReading [.ref 0] I L)) 128 [(1, .int piled), (0, .ref 0)] [] J128 L := by
      intro n128
      induction n128 with
      | zero =>
        intro piled J128 h9
        obtain ⟨hR128c, hF128c, hO128c, hsS128c, htA128c, u128_1, u128_2, u128_3, u128_4, u128_5, u128_6, hm128⟩ := h9
        omega
      | succ n128 ih128 =>
        intro piled J128 h9
        obtain ⟨hR128c, hF128c, hO128c, hsS128c, htA128c, u128_1, u128_2, u128_3, u128_4, u128_5, u128_6, hm128⟩ := h9
        have lp237 : ∀ (n237 : Nat), ∀ (pl : Int32) (w : Int32) (g : Int32) (b : Int32) (J237 : fM), mR J237 ∧ f_fr [0, 45, 46, 47, 48, 49, 50, 51, 52] I J237 ∧ f_fo [69, 71, 74] I J237 ∧ sS J237 ∧ tA J237 ∧ (J237 0 69 = I 0 69) ∧ (0 ≤ pl.toInt) ∧ (pl.toInt ≤ 19) ∧ (w.toInt < (I 0 47).toInt) ∧ (g.toInt.toNat = pg I w.toInt.toNat) ∧ (0 ≤ w.toInt) ∧ (0 ≤ g.toInt) ∧ (-1 ≤ b.toInt) ∧ (b.toInt < (I 27 g.toInt.toNat).toInt) ∧ ((J237 48 (I 0 69).toInt.toNat).toInt ≤ 20) ∧ ((J128 48 (I 0 69).toInt.toNat).toInt < (J237 48 (I 0 69).toInt.toNat).toInt) ∧ (kW I (J237 52) pl.toInt (J237 48 (I 0 69).toInt.toNat).toInt w.toInt.toNat b.toInt) ∧ (1 + b.toInt) < n237 → f_W pP l eP (f_rm 1) sP mP aP bP hP9 cP mY 71 a cy dC dI 5 (f_K 0 (qX12_keepReading [.ref 0] I L)) 237 [(4, .int b), (3, .int g), (2, .int w), (1, .int pl), (0, .ref 0)] [] J237 L := by
          intro n237
          induction n237 with
          | zero =>
            intro pl w g b J237 h9
            obtain ⟨hR237c, hF237c, hO237c, hsS237c, htA237c, u237_1, u237_2, u237_3, u237_4, u237_5, u237_6, u237_7, u237_8, u237_9, u237_10, u237_11, u237_12, hm237⟩ := h9
            omega
          | succ n237 ih237 =>
            intro pl w g b J237 h9
            obtain ⟨hR237c, hF237c, hO237c, hsS237c, htA237c, u237_1, u237_2, u237_3, u237_4, u237_5, u237_6, u237_7, u237_8, u237_9, u237_10, u237_11, u237_12, hm237⟩ := h9
            have m237 : 0 ≤ (I 27 g.toInt.toNat).toInt ∧ (I 27 g.toInt.toNat).toInt ≤ 4 := hR 27 _
            have g237 := pg_lt hR hsS htA (w := w.toInt.toNat) (by omega)
            have r237 : J237 28 = I 28 := hF237c 28 rfl
            refine f_wp_ok C f_cl flX12_ok fiX12_ok fjX12_ok (sn := none) (fun j h => by cases h) (cs := (f_cnl [(475, (2, 0, 11, pX12_means, qX12_means)), (478, (2, 1, 11, pX12_saysOf, qX12_saysOf))])) (cz := (fun _ => none)) (f_cnl_of (P := fun j S => f_cok pP l eP (f_rm 1) sP mP aP bP hP9 cP mY 71 a cy dC dI 5 _ _ (.invokevirtual j) true S) (List.forall_mem_cons.mpr ⟨f_cokV C (mX12_means hinj) (ci := 11) rfl (List.forall_mem_cons.mpr ⟨(mlX12_ok _ (List.mem_of_getElem? (i := 51) rfl)), kc_X12_means⟩) (by decide +kernel) ⟨Nat.le_of_ble_eq_true rfl, Nat.le_of_ble_eq_true rfl⟩, List.forall_mem_cons.mpr ⟨f_cokV C (mX12_saysOf hinj) (ci := 11) rfl (List.forall_mem_cons.mpr ⟨(mlX12_ok _ (List.mem_of_getElem? (i := 52) rfl)), kc_X12_saysOf⟩) (by decide +kernel) ⟨Nat.le_of_ble_eq_true rfl, Nat.le_of_ble_eq_true rfl⟩, fun _ h => absurd h List.not_mem_nil⟩⟩)) (fun j S h => by cases h) tX12_keepReading_ok (cut := (f_cnl [(128, (fun (ls' : fLs) (st' : List Value) (I' : fM) (L' : fN) => ∃ piled : Int32, (∀ q ∈ ([(1, .int piled), (0, .ref 0)] : fLs), q ∈ ls') ∧ st' = [] ∧ L' = L ∧ (mR I' ∧ f_fr [0, 45, 46, 47, 48, 49, 50, 51, 52] I I' ∧ f_fo [69, 71, 74] I I' ∧ sS I' ∧ tA I' ∧ (I' 0 69 = I 0 69) ∧ ((I 0 69).toInt ≤ 299) ∧ (0 ≤ piled.toInt) ∧ (0 ≤ (I' 48 (I 0 69).toInt.toNat).toInt) ∧ ((I' 48 (I 0 69).toInt.toNat).toInt ≤ 20) ∧ (kV I (I' 52) piled.toInt (I' 48 (I 0 69).toInt.toNat).toInt) ∧ (21 - (I' 48 (I 0 69).toInt.toNat).toInt) < n128))), (237, (fun (ls' : fLs) (st' : List Value) (I' : fM) (L' : fN) => ∃ pl : Int32, ∃ w : Int32, ∃ g : Int32, ∃ b : Int32, (∀ q ∈ ([(4, .int b), (3, .int g), (2, .int w), (1, .int pl), (0, .ref 0)] : fLs), q ∈ ls') ∧ st' = [] ∧ L' = L ∧ (mR I' ∧ f_fr [0, 45, 46, 47, 48, 49, 50, 51, 52] I I' ∧ f_fo [69, 71, 74] I I' ∧ sS I' ∧ tA I' ∧ (I' 0 69 = I 0 69) ∧ (0 ≤ pl.toInt) ∧ (pl.toInt ≤ 19) ∧ (w.toInt < (I 0 47).toInt) ∧ (g.toInt.toNat = pg I w.toInt.toNat) ∧ (0 ≤ w.toInt) ∧ (0 ≤ g.toInt) ∧ (-1 ≤ b.toInt) ∧ (b.toInt < (I 27 g.toInt.toNat).toInt) ∧ ((I' 48 (I 0 69).toInt.toNat).toInt ≤ 20) ∧ ((J128 48 (I 0 69).toInt.toNat).toInt < (I' 48 (I 0 69).toInt.toNat).toInt) ∧ (kW I (I' 52) pl.toInt (I' 48 (I 0 69).toInt.toNat).toInt w.toInt.toNat b.toInt) ∧ (1 + b.toInt) < n237)))])) (f_cnl_of (P := fun (tQ : Nat) (P : fLs → List Value → fM → fN → Prop) => ∀ ls' st' I' L', P ls' st' I' L' → f_W pP l eP (f_rm 1) sP mP aP bP hP9 cP mY 71 a cy dC dI 5 (f_K 0 (qX12_keepReading [.ref 0] I L)) tQ ls' st' I' L') (List.forall_mem_cons.mpr ⟨(fun ls' st' I' L' h => by obtain ⟨piled, hs, e1, e3, h9⟩ := h; rw [e1, e3]; exact f_W_sub hs (ih128 piled I' h9)), List.forall_mem_cons.mpr ⟨(fun ls' st' I' L' h => by obtain ⟨pl, w, g, b, hs, e1, e3, h9⟩ := h; rw [e1, e3]; exact f_W_sub hs (ih237 pl w g b I' h9)), fun _ h => absurd h List.not_mem_nil⟩⟩)) 20 237 (f_seek 237 0 tX12_keepReading) (f_seek_ok 237 0 tX12_keepReading tX12_keepReading_ok) _ _ _ _ ?_
            apply And.intro
            · intro h239
              have h239 : b.toInt < 0 := h239
              have k268 : kV I (J237 52) pl.toInt (J237 48 (I 0 69).toInt.toNat).toInt := by
                obtain ⟨V, -, k, -⟩ := u237_12
                exact ⟨V, k⟩
              have r128_1 : 0 ≤ (J237 48 ((I 0 69).toInt.toNat)).toInt ∧ (J237 48 ((I 0 69).toInt.toNat)).toInt ≤ 30 := hR237c 48 ((I 0 69).toInt.toNat)
              exact ⟨pl, (by intro q9 h9; simp only [List.mem_cons, List.not_mem_nil, or_false] at h9; rcases h9 with h9 | h9 <;> subst h9 <;> repeat (first | exact List.mem_cons_self | apply List.mem_cons_of_mem)), rfl, rfl, hR237c, hF237c, hO237c, hsS237c, htA237c, (show J237 0 69 = I 0 69 from by first | assumption | omega | rfl), (show (I 0 69).toInt ≤ 299 from by first | assumption | omega), (show 0 ≤ pl.toInt from by first | assumption | omega), (show 0 ≤ (J237 48 (I 0 69).toInt.toNat).toInt from by first | assumption | omega), (show (J237 48 (I 0 69).toInt.toNat).toInt ≤ 20 from by first | assumption | omega), (show kV I (J237 52) pl.toInt (J237 48 (I 0 69).toInt.toNat).toInt from by first | assumption | omega), (show (21 - (J237 48 (I 0 69).toInt.toNat).toInt) < n128 from by omega)⟩
            · intro h239
              have h239 : 0 ≤ b.toInt := h239
              intro z253 q253 _ hq253 hl253 hu253
              have hq253 : z253.toInt = 4 * g.toInt + 4294967296 * q253 := hq253
              try have hz253 : z253.toInt = 4 * g.toInt := by omega
              intro z256 q256 _ hq256 hl256 hu256
              have hq256 : z256.toInt = z253.toInt + b.toInt + 4294967296 * q256 := hq256
              try have hz256 : z256.toInt = z253.toInt + b.toInt := by omega
              refine And.intro (show f_in z256 160 from ⟨show 0 ≤ z256.toInt from by omega, show z256.toInt < 160 from by omega⟩) ?_
              have r257_1 : 0 ≤ (J237 28 (z256.toInt.toNat)).toInt ∧ (J237 28 (z256.toInt.toNat)).toInt ≤ 39 := hR237c 28 (z256.toInt.toNat)
              have e257_2 : (J237 28 (z256.toInt.toNat)).toInt = (I 28 (z256.toInt.toNat)).toInt := congrArg Int32.toInt (congrFun (hF237c 28 rfl) (z256.toInt.toNat))
              refine And.intro (show f_in pl 40 from ⟨show 0 ≤ pl.toInt from by omega, show pl.toInt < 40 from by omega⟩) ?_
              have hR258 := mR_a (k := 52) (j := pl.toInt.toNat) (x := J237 28 (z256.toInt.toNat)) hR237c (show 0 ≤ (J237 28 (z256.toInt.toNat)).toInt ∧ (J237 28 (z256.toInt.toNat)).toInt ≤ 39 from ⟨by omega, by omega⟩)
              have hF258 := f_fr_up (k := 52) (r := upd (J237 52) (pl.toInt.toNat) (J237 28 (z256.toInt.toNat))) hF237c rfl
              have hO258 := f_fo_ne (k := 52) (r := upd (J237 52) (pl.toInt.toNat) (J237 28 (z256.toInt.toNat))) hO237c (by decide)
              have hsS258 := f_depo_up sS_dep (k := 52) (r := upd (J237 52) (pl.toInt.toNat) (J237 28 (z256.toInt.toNat))) hsS237c rfl (by decide)
              have htA258 := f_depo_up tA_dep (k := 52) (r := upd (J237 52) (pl.toInt.toNat) (J237 28 (z256.toInt.toNat))) htA237c rfl (by decide)
              have k258 : kW I (upd (J237 52) pl.toInt.toNat (J237 28 z256.toInt.toNat)) (pl.toInt + 1) (J237 48 (I 0 69).toInt.toNat).toInt w.toInt.toNat (b.toInt - 1) := kW_push hR hsS htA u237_12 u237_2 (by omega) (by rw [← u237_5]; omega) (k := z256.toInt.toNat) (by rw [← u237_5]; omega) (by rw [r237])
              have n258 := kW_num hR hsS k258 (by omega)
              intro z259 q259 _ hq259 hl259 hu259
              have hq259 : z259.toInt = pl.toInt + 1 + 4294967296 * q259 := hq259
              try have hz259 : z259.toInt = pl.toInt + 1 := by omega
              intro z262 q262 _ hq262 hl262 hu262
              have hq262 : z262.toInt = b.toInt + (-1) + 4294967296 * q262 := hq262
              try have hz262 : z262.toInt = b.toInt + (-1) := by omega
              have k262 : kW I (upd (J237 52) pl.toInt.toNat (J237 28 z256.toInt.toNat)) z259.toInt (J237 48 (I 0 69).toInt.toNat).toInt w.toInt.toNat z262.toInt := by rw [show z259.toInt = pl.toInt + 1 by omega, show z262.toInt = b.toInt - 1 by omega]; exact k258
              exact ⟨z259, w, g, z262, (by intro q9 h9; simp only [List.mem_cons, List.not_mem_nil, or_false] at h9; rcases h9 with h9 | h9 | h9 | h9 | h9 <;> subst h9 <;> repeat (first | exact List.mem_cons_self | apply List.mem_cons_of_mem)), rfl, rfl, hR258, hF258, hO258, hsS258, htA258, (show J237 0 69 = I 0 69 from by first | assumption | omega | rfl), (show 0 ≤ z259.toInt from by first | assumption | omega), (show z259.toInt ≤ 19 from by first | assumption | omega), (show w.toInt < (I 0 47).toInt from by first | assumption | omega), (show g.toInt.toNat = pg I w.toInt.toNat from by first | assumption | omega | rfl), (show 0 ≤ w.toInt from by first | assumption | omega), (show 0 ≤ g.toInt from by first | assumption | omega), (show -1 ≤ z262.toInt from by first | assumption | omega), (show z262.toInt < (I 27 g.toInt.toNat).toInt from by first | assumption | omega), (show (J237 48 (I 0 69).toInt.toNat).toInt ≤ 20 from by first | assumption | omega), (show (J128 48 (I 0 69).toInt.toNat).toInt < (J237 48 (I 0 69).toInt.toNat).toInt from by first | assumption | omega), (show kW I ((upd (J237 52) (pl.toInt.toNat) (J237 28 (z256.toInt.toNat)))) z259.toInt (J237 48 (I 0 69).toInt.toNat).toInt w.toInt.toNat z262.toInt from by first | assumption | omega), (show (1 + z262.toInt) < n237 from by omega)⟩
        have lp144 : ∀ (n144 : Nat), ∀ (pl : Int32) (w : Int32) (hh : Int32) (J144 : fM), mR J144 ∧ f_fr [0, 45, 46, 47, 48, 49, 50, 51, 52] I J144 ∧ f_fo [69, 71, 74] I J144 ∧ sS J144 ∧ tA J144 ∧ (J144 0 69 = I 0 69) ∧ (0 ≤ pl.toInt) ∧ (pl.toInt = piled.toInt - 1) ∧ (w = J128 52 pl.toInt.toNat) ∧ (0 < piled.toInt) ∧ (0 ≤ hh.toInt) ∧ (hh.toInt ≤ (I 29 w.toInt.toNat).toInt) ∧ (hh.toInt ≤ 4) ∧ ((J144 48 (I 0 69).toInt.toNat).toInt = (J128 48 (I 0 69).toInt.toNat).toInt + hh.toInt) ∧ (J144 52 = J128 52) ∧ (4 - hh.toInt) < n144 → f_W pP l eP (f_rm 1) sP mP aP bP hP9 cP mY 71 a cy dC dI 5 (f_K 0 (qX12_keepReading [.ref 0] I L)) 144 [(3, .int hh), (2, .int w), (1, .int pl), (0, .ref 0)] [] J144 L := by
          intro n144
          induction n144 with
          | zero =>
            intro pl w hh J144 h9
            obtain ⟨hR144c, hF144c, hO144c, hsS144c, htA144c, u144_1, u144_2, u144_3, u144_4, u144_5, u144_6, u144_7, u144_8, u144_9, u144_10, hm144⟩ := h9
            omega
          | succ n144 ih144 =>
            intro pl w hh J144 h9
            obtain ⟨hR144c, hF144c, hO144c, hsS144c, htA144c, u144_1, u144_2, u144_3, u144_4, u144_5, u144_6, u144_7, u144_8, u144_9, u144_10, hm144⟩ := h9
            have p144 := kV_pop hR hsS htA u128_6 u144_5
            have e144 : J128 52 (piled.toInt - 1).toNat = w := by rw [u144_4, u144_3]
            rw [e144] at p144
            have m144 : 0 ≤ (I 29 w.toInt.toNat).toInt ∧ (I 29 w.toInt.toNat).toInt ≤ 4 := hR 29 _
            have w144 : 0 ≤ w.toInt := by rw [u144_4]; exact (hR128c 52 _).1
            have f144 : (J144 0 69).toInt.toNat = (I 0 69).toInt.toNat := by rw [u144_1]
            have v144 : w.toInt ≤ 39 := by rw [u144_4]; exact (hR128c 52 _).2
            have a144 : (J144 29 w.toInt.toNat).toInt = (I 29 w.toInt.toNat).toInt := by rw [hF144c 29 rfl]
            refine f_wp_ok C f_cl flX12_ok fiX12_ok fjX12_ok (sn := none) (fun j h => by cases h) (cs := (f_cnl [(475, (2, 0, 11, pX12_means, qX12_means)), (478, (2, 1, 11, pX12_saysOf, qX12_saysOf))])) (cz := (fun _ => none)) (f_cnl_of (P := fun j S => f_cok pP l eP (f_rm 1) sP mP aP bP hP9 cP mY 71 a cy dC dI 5 _ _ (.invokevirtual j) true S) (List.forall_mem_cons.mpr ⟨f_cokV C (mX12_means hinj) (ci := 11) rfl (List.forall_mem_cons.mpr ⟨(mlX12_ok _ (List.mem_of_getElem? (i := 51) rfl)), kc_X12_means⟩) (by decide +kernel) ⟨Nat.le_of_ble_eq_true rfl, Nat.le_of_ble_eq_true rfl⟩, List.forall_mem_cons.mpr ⟨f_cokV C (mX12_saysOf hinj) (ci := 11) rfl (List.forall_mem_cons.mpr ⟨(mlX12_ok _ (List.mem_of_getElem? (i := 52) rfl)), kc_X12_saysOf⟩) (by decide +kernel) ⟨Nat.le_of_ble_eq_true rfl, Nat.le_of_ble_eq_true rfl⟩, fun _ h => absurd h List.not_mem_nil⟩⟩)) (fun j S h => by cases h) tX12_keepReading_ok (cut := (f_cnl [(144, (fun (ls' : fLs) (st' : List Value) (I' : fM) (L' : fN) => ∃ pl : Int32, ∃ w : Int32, ∃ hh : Int32, (∀ q ∈ ([(3, .int hh), (2, .int w), (1, .int pl), (0, .ref 0)] : fLs), q ∈ ls') ∧ st' = [] ∧ L' = L ∧ (mR I' ∧ f_fr [0, 45, 46, 47, 48, 49, 50, 51, 52] I I' ∧ f_fo [69, 71, 74] I I' ∧ sS I' ∧ tA I' ∧ (I' 0 69 = I 0 69) ∧ (0 ≤ pl.toInt) ∧ (pl.toInt = piled.toInt - 1) ∧ (w = J128 52 pl.toInt.toNat) ∧ (0 < piled.toInt) ∧ (0 ≤ hh.toInt) ∧ (hh.toInt ≤ (I 29 w.toInt.toNat).toInt) ∧ (hh.toInt ≤ 4) ∧ ((I' 48 (I 0 69).toInt.toNat).toInt = (J128 48 (I 0 69).toInt.toNat).toInt + hh.toInt) ∧ (I' 52 = J128 52) ∧ (4 - hh.toInt) < n144))), (237, (fun (ls' : fLs) (st' : List Value) (I' : fM) (L' : fN) => ∃ pl : Int32, ∃ w : Int32, ∃ g : Int32, ∃ b : Int32, (∀ q ∈ ([(4, .int b), (3, .int g), (2, .int w), (1, .int pl), (0, .ref 0)] : fLs), q ∈ ls') ∧ st' = [] ∧ L' = L ∧ (mR I' ∧ f_fr [0, 45, 46, 47, 48, 49, 50, 51, 52] I I' ∧ f_fo [69, 71, 74] I I' ∧ sS I' ∧ tA I' ∧ (I' 0 69 = I 0 69) ∧ (0 ≤ pl.toInt) ∧ (pl.toInt ≤ 19) ∧ (w.toInt < (I 0 47).toInt) ∧ (g.toInt.toNat = pg I w.toInt.toNat) ∧ (0 ≤ w.toInt) ∧ (0 ≤ g.toInt) ∧ (-1 ≤ b.toInt) ∧ (b.toInt < (I 27 g.toInt.toNat).toInt) ∧ ((I' 48 (I 0 69).toInt.toNat).toInt ≤ 20) ∧ ((J128 48 (I 0 69).toInt.toNat).toInt < (I' 48 (I 0 69).toInt.toNat).toInt) ∧ (kW I (I' 52) pl.toInt (I' 48 (I 0 69).toInt.toNat).toInt w.toInt.toNat b.toInt) ∧ (1 + b.toInt) < 6)))])) (f_cnl_of (P := fun (tQ : Nat) (P : fLs → List Value → fM → fN → Prop) => ∀ ls' st' I' L', P ls' st' I' L' → f_W pP l eP (f_rm 1) sP mP aP bP hP9 cP mY 71 a cy dC dI 5 (f_K 0 (qX12_keepReading [.ref 0] I L)) tQ ls' st' I' L') (List.forall_mem_cons.mpr ⟨(fun ls' st' I' L' h => by obtain ⟨pl, w, hh, hs, e1, e3, h9⟩ := h; rw [e1, e3]; exact f_W_sub hs (ih144 pl w hh I' h9)), List.forall_mem_cons.mpr ⟨(fun ls' st' I' L' h => by obtain ⟨pl, w, g, b, hs, e1, e3, h9⟩ := h; rw [e1, e3]; exact f_W_sub hs (lp237 6 pl w g b I' h9)), fun _ h => absurd h List.not_mem_nil⟩⟩)) 36 144 (f_seek 144 0 tX12_keepReading) (f_seek_ok 144 0 tX12_keepReading tX12_keepReading_ok) _ _ _ _ ?_
            refine And.intro (show f_in w 40 from ⟨show 0 ≤ w.toInt from by omega, show w.toInt < 40 from by omega⟩) ?_
            have r150_1 : 0 ≤ (J144 29 (w.toInt.toNat)).toInt ∧ (J144 29 (w.toInt.toNat)).toInt ≤ 4 := hR144c 29 (w.toInt.toNat)
            have e150_2 : (J144 29 (w.toInt.toNat)).toInt = (I 29 (w.toInt.toNat)).toInt := congrArg Int32.toInt (congrFun (hF144c 29 rfl) (w.toInt.toNat))
            apply And.intro
            · intro h151
              have h151 : (J144 29 (w.toInt.toNat)).toInt ≤ hh.toInt := h151
              have g201 := pg_lt hR hsS htA (w := w.toInt.toNat) (by omega)
              have r201 : J144 22 = I 22 ∧ J144 23 = I 23 ∧ J144 25 = I 25 ∧ J144 27 = I 27 := ⟨hF144c 22 rfl, hF144c 23 rfl, hF144c 25 rfl, hF144c 27 rfl⟩
              have t201 : 0 ≤ (J144 23 (J144 25 w.toInt.toNat).toInt.toNat).toInt := by rw [r201.2.1, r201.2.2.1]; exact g201.1
              have x201 : (J144 22 (J144 23 (J144 25 w.toInt.toNat).toInt.toNat).toInt.toNat).toInt.toNat = pg I w.toInt.toNat := by unfold pg; rw [r201.1, r201.2.1, r201.2.2.1]
              have y201 : 0 ≤ (J144 22 (J144 23 (J144 25 w.toInt.toNat).toInt.toNat).toInt.toNat).toInt ∧ (J144 22 (J144 23 (J144 25 w.toInt.toNat).toInt.toNat).toInt.toNat).toInt ≤ 39 := hR144c 22 _
              refine And.intro (show f_in w 40 from ⟨show 0 ≤ w.toInt from by omega, show w.toInt < 40 from by omega⟩) ?_
              have r214_3 : 0 ≤ (J144 25 (w.toInt.toNat)).toInt ∧ (J144 25 (w.toInt.toNat)).toInt ≤ 19 := hR144c 25 (w.toInt.toNat)
              have e214_4 : (J144 25 (w.toInt.toNat)).toInt = (I 25 (w.toInt.toNat)).toInt := congrArg Int32.toInt (congrFun (hF144c 25 rfl) (w.toInt.toNat))
              refine And.intro (show f_in (J144 25 (w.toInt.toNat)) 20 from ⟨show 0 ≤ (J144 25 (w.toInt.toNat)).toInt from by omega, show (J144 25 (w.toInt.toNat)).toInt < 20 from by omega⟩) ?_
              have r215_5 : -1 ≤ (J144 23 ((J144 25 (w.toInt.toNat)).toInt.toNat)).toInt ∧ (J144 23 ((J144 25 (w.toInt.toNat)).toInt.toNat)).toInt ≤ 19 := hR144c 23 ((J144 25 (w.toInt.toNat)).toInt.toNat)
              have e215_6 : (J144 23 ((J144 25 (w.toInt.toNat)).toInt.toNat)).toInt = (I 23 ((J144 25 (w.toInt.toNat)).toInt.toNat)).toInt := congrArg Int32.toInt (congrFun (hF144c 23 rfl) ((J144 25 (w.toInt.toNat)).toInt.toNat))
              refine And.intro (show f_in (J144 23 ((J144 25 (w.toInt.toNat)).toInt.toNat)) 20 from ⟨show 0 ≤ (J144 23 ((J144 25 (w.toInt.toNat)).toInt.toNat)).toInt from by omega, show (J144 23 ((J144 25 (w.toInt.toNat)).toInt.toNat)).toInt < 20 from by omega⟩) ?_
              have r216_7 : 0 ≤ (J144 22 ((J144 23 ((J144 25 (w.toInt.toNat)).toInt.toNat)).toInt.toNat)).toInt ∧ (J144 22 ((J144 23 ((J144 25 (w.toInt.toNat)).toInt.toNat)).toInt.toNat)).toInt ≤ 39 := hR144c 22 ((J144 23 ((J144 25 (w.toInt.toNat)).toInt.toNat)).toInt.toNat)
              have e216_8 : (J144 22 ((J144 23 ((J144 25 (w.toInt.toNat)).toInt.toNat)).toInt.toNat)).toInt = (I 22 ((J144 23 ((J144 25 (w.toInt.toNat)).toInt.toNat)).toInt.toNat)).toInt := congrArg Int32.toInt (congrFun (hF144c 22 rfl) ((J144 23 ((J144 25 (w.toInt.toNat)).toInt.toNat)).toInt.toNat))
              refine And.intro ⟨(show 0 ≤ (J144 22 ((J144 23 ((J144 25 (w.toInt.toNat)).toInt.toNat)).toInt.toNat)).toInt from by first | assumption | omega), (show (J144 22 ((J144 23 ((J144 25 (w.toInt.toNat)).toInt.toNat)).toInt.toNat)).toInt ≤ 39 from by first | assumption | omega)⟩ ?_
              intro x221 I221 L221 hq221
              have hq221 : I221 = J144 ∧ L221 = L := hq221
              obtain ⟨eI221, eL221⟩ := hq221
              replace eI221 := eI221.symm
              subst eI221
              replace eL221 := eL221.symm
              subst eL221
              have c224 : (J144 48 (J144 0 69).toInt.toNat).toInt = (J144 48 (I 0 69).toInt.toNat).toInt := by rw [f144]
              have r224_9 : 0 ≤ (J144 0 69).toInt ∧ (J144 0 69).toInt ≤ 300 := hR144c 0 69
              have r224_10 : 0 ≤ (J144 48 ((J144 0 69).toInt.toNat)).toInt ∧ (J144 48 ((J144 0 69).toInt.toNat)).toInt ≤ 30 := hR144c 48 ((J144 0 69).toInt.toNat)
              refine And.intro ⟨hR144c, (show (J144 0 69).toInt ≤ 299 from by first | assumption | omega), (show (J144 48 (J144 0 69).toInt.toNat).toInt ≤ 29 from by first | assumption | omega)⟩ ?_
              intro I224 L224 hq224
              have hq224 : mR I224 ∧ f_fr [48, 49] J144 I224 ∧ L224 = L ∧ (I224 48 (J144 0 69).toInt.toNat).toInt = (J144 48 (J144 0 69).toInt.toNat).toInt + 1 := hq224
              obtain ⟨c224_0, c224_1, eL224, c224_3⟩ := hq224
              replace eL224 := eL224.symm
              subst eL224
              have hO224 := f_fo_fr hO144c c224_1 rfl
              have hsS224 := f_depo_fr sS_dep hsS144c c224_1 rfl rfl
              have htA224 := f_depo_fr tA_dep htA144c c224_1 rfl rfl
              have hF224 := f_fr_tr hF144c c224_1 rfl
              have r224_11 : 0 ≤ (I224 48 ((J144 0 69).toInt.toNat)).toInt ∧ (I224 48 ((J144 0 69).toInt.toNat)).toInt ≤ 30 := c224_0 48 ((J144 0 69).toInt.toNat)
              have d224 : (I224 48 (I 0 69).toInt.toNat).toInt = (J144 48 (I 0 69).toInt.toNat).toInt + 1 := by
                have e := c224_3
                rw [f144] at e
                exact e
              have t224 : I224 0 69 = I 0 69 := (congrFun (c224_1 0 rfl) 69).trans u144_1
              refine And.intro (show f_in (J144 22 ((J144 23 ((J144 25 (w.toInt.toNat)).toInt.toNat)).toInt.toNat)) 40 from ⟨show 0 ≤ (J144 22 ((J144 23 ((J144 25 (w.toInt.toNat)).toInt.toNat)).toInt.toNat)).toInt from by omega, show (J144 22 ((J144 23 ((J144 25 (w.toInt.toNat)).toInt.toNat)).toInt.toNat)).toInt < 40 from by omega⟩) ?_
              have r232_12 : 0 ≤ (I224 27 ((J144 22 ((J144 23 ((J144 25 (w.toInt.toNat)).toInt.toNat)).toInt.toNat)).toInt.toNat)).toInt ∧ (I224 27 ((J144 22 ((J144 23 ((J144 25 (w.toInt.toNat)).toInt.toNat)).toInt.toNat)).toInt.toNat)).toInt ≤ 4 := c224_0 27 ((J144 22 ((J144 23 ((J144 25 (w.toInt.toNat)).toInt.toNat)).toInt.toNat)).toInt.toNat)
              have e232_13 : (I224 27 ((J144 22 ((J144 23 ((J144 25 (w.toInt.toNat)).toInt.toNat)).toInt.toNat)).toInt.toNat)).toInt = (J144 27 ((J144 22 ((J144 23 ((J144 25 (w.toInt.toNat)).toInt.toNat)).toInt.toNat)).toInt.toNat)).toInt := congrArg Int32.toInt (congrFun (c224_1 27 rfl) ((J144 22 ((J144 23 ((J144 25 (w.toInt.toNat)).toInt.toNat)).toInt.toNat)).toInt.toNat))
              have e232_14 : (J144 27 ((J144 22 ((J144 23 ((J144 25 (w.toInt.toNat)).toInt.toNat)).toInt.toNat)).toInt.toNat)).toInt = (I 27 ((J144 22 ((J144 23 ((J144 25 (w.toInt.toNat)).toInt.toNat)).toInt.toNat)).toInt.toNat)).toInt := congrArg Int32.toInt (congrFun (hF144c 27 rfl) ((J144 22 ((J144 23 ((J144 25 (w.toInt.toNat)).toInt.toNat)).toInt.toNat)).toInt.toNat))
              intro z234 q234 _ hq234 hl234 hu234
              have hq234 : z234.toInt = (I224 27 ((J144 22 ((J144 23 ((J144 25 (w.toInt.toNat)).toInt.toNat)).toInt.toNat)).toInt.toNat)).toInt - 1 + 4294967296 * q234 := hq234
              try have hz234 : z234.toInt = (I224 27 ((J144 22 ((J144 23 ((J144 25 (w.toInt.toNat)).toInt.toNat)).toInt.toNat)).toInt.toNat)).toInt - 1 := by omega
              have a234 : (I224 27 (J144 22 (J144 23 (J144 25 w.toInt.toNat).toInt.toNat).toInt.toNat).toInt.toNat).toInt = (I 27 (J144 22 (J144 23 (J144 25 w.toInt.toNat).toInt.toNat).toInt.toNat).toInt.toNat).toInt := by rw [c224_1 27 rfl, r201.2.2.2]
              have b234 : 0 ≤ (I 27 (J144 22 (J144 23 (J144 25 w.toInt.toNat).toInt.toNat).toInt.toNat).toInt.toNat).toInt ∧ (I 27 (J144 22 (J144 23 (J144 25 w.toInt.toNat).toInt.toNat).toInt.toNat).toInt.toNat).toInt ≤ 4 := hR 27 _
              have k234 : kW I (I224 52) pl.toInt (I224 48 (I 0 69).toInt.toNat).toInt w.toInt.toNat z234.toInt := by
                have k := p144.2.2.2
                rw [(c224_1 52 rfl).trans u144_10, u144_3, show (I224 48 (I 0 69).toInt.toNat).toInt = (J128 48 (I 0 69).toInt.toNat).toInt + 1 + (I 29 w.toInt.toNat).toInt by omega, show z234.toInt = (I 27 (pg I w.toInt.toNat)).toInt - 1 by rw [← x201]; omega]
                exact k
              have r237_15 : 0 ≤ (I224 48 ((I 0 69).toInt.toNat)).toInt ∧ (I224 48 ((I 0 69).toInt.toNat)).toInt ≤ 30 := c224_0 48 ((I 0 69).toInt.toNat)
              exact ⟨pl, w, J144 22 ((J144 23 ((J144 25 (w.toInt.toNat)).toInt.toNat)).toInt.toNat), z234, (by intro q9 h9; simp only [List.mem_cons, List.not_mem_nil, or_false] at h9; rcases h9 with h9 | h9 | h9 | h9 | h9 <;> subst h9 <;> repeat (first | exact List.mem_cons_self | apply List.mem_cons_of_mem)), rfl, rfl, c224_0, hF224, hO224, hsS224, htA224, (show I224 0 69 = I 0 69 from by first | assumption | omega | rfl), (show 0 ≤ pl.toInt from by first | assumption | omega), (show pl.toInt ≤ 19 from by first | assumption | omega), (show w.toInt < (I 0 47).toInt from by first | assumption | omega), (show (J144 22 ((J144 23 ((J144 25 (w.toInt.toNat)).toInt.toNat)).toInt.toNat)).toInt.toNat = pg I w.toInt.toNat from by first | assumption | omega | rfl), (show 0 ≤ w.toInt from by first | assumption | omega), (show 0 ≤ (J144 22 ((J144 23 ((J144 25 (w.toInt.toNat)).toInt.toNat)).toInt.toNat)).toInt from by first | assumption | omega), (show -1 ≤ z234.toInt from by first | assumption | omega), (show z234.toInt < (I 27 (J144 22 ((J144 23 ((J144 25 (w.toInt.toNat)).toInt.toNat)).toInt.toNat)).toInt.toNat).toInt from by first | assumption | omega), (show (I224 48 (I 0 69).toInt.toNat).toInt ≤ 20 from by first | assumption | omega), (show (J128 48 (I 0 69).toInt.toNat).toInt < (I224 48 (I 0 69).toInt.toNat).toInt from by first | assumption | omega), (show kW I (I224 52) pl.toInt (I224 48 (I 0 69).toInt.toNat).toInt w.toInt.toNat z234.toInt from by first | assumption | omega), (show (1 + z234.toInt) < 6 from by omega)⟩
            · intro h151
              have h151 : hh.toInt < (J144 29 (w.toInt.toNat)).toInt := h151
              intro z164 q164 _ hq164 hl164 hu164
              have hq164 : z164.toInt = 4 * w.toInt + 4294967296 * q164 := hq164
              try have hz164 : z164.toInt = 4 * w.toInt := by omega
              intro z166 q166 _ hq166 hl166 hu166
              have hq166 : z166.toInt = z164.toInt + hh.toInt + 4294967296 * q166 := hq166
              try have hz166 : z166.toInt = z164.toInt + hh.toInt := by omega
              refine And.intro (show f_in z166 160 from ⟨show 0 ≤ z166.toInt from by omega, show z166.toInt < 160 from by omega⟩) ?_
              have r167_3 : 0 ≤ (J144 30 (z166.toInt.toNat)).toInt ∧ (J144 30 (z166.toInt.toNat)).toInt ≤ 39 := hR144c 30 (z166.toInt.toNat)
              have e167_4 : (J144 30 (z166.toInt.toNat)).toInt = (I 30 (z166.toInt.toNat)).toInt := congrArg Int32.toInt (congrFun (hF144c 30 rfl) (z166.toInt.toNat))
              refine And.intro (show f_in (J144 30 (z166.toInt.toNat)) 40 from ⟨show 0 ≤ (J144 30 (z166.toInt.toNat)).toInt from by omega, show (J144 30 (z166.toInt.toNat)).toInt < 40 from by omega⟩) ?_
              have hR172 := mR_a (k := 51) (j := (J144 30 (z166.toInt.toNat)).toInt.toNat) (x := J144 0 74) hR144c (by exact f_rng _)
              have hF172 := f_fr_up (k := 51) (r := upd (J144 51) ((J144 30 (z166.toInt.toNat)).toInt.toNat) (J144 0 74)) hF144c rfl
              have hO172 := f_fo_ne (k := 51) (r := upd (J144 51) ((J144 30 (z166.toInt.toNat)).toInt.toNat) (J144 0 74)) hO144c (by decide)
              have hsS172 := f_depo_up sS_dep (k := 51) (r := upd (J144 51) ((J144 30 (z166.toInt.toNat)).toInt.toNat) (J144 0 74)) hsS144c rfl (by decide)
              have htA172 := f_depo_up tA_dep (k := 51) (r := upd (J144 51) ((J144 30 (z166.toInt.toNat)).toInt.toNat) (J144 0 74)) htA144c rfl (by decide)
              intro z181 q181 _ hq181 hl181 hu181
              have hq181 : z181.toInt = 200 + (J144 0 74).toInt + 4294967296 * q181 := hq181
              try have hz181 : z181.toInt = 200 + (J144 0 74).toInt := by omega
              have c182 : (J144 48 (J144 0 69).toInt.toNat).toInt = (J144 48 (I 0 69).toInt.toNat).toInt := by rw [f144]
              refine And.intro ⟨hR172, (show (J144 0 69).toInt ≤ 299 from by first | assumption | omega), (show (J144 48 (J144 0 69).toInt.toNat).toInt ≤ 29 from by first | assumption | omega)⟩ ?_
              intro I182 L182 hq182
              have hq182 : mR I182 ∧ f_fr [48, 49] (va_up J144 51 (upd (J144 51) ((J144 30 (z166.toInt.toNat)).toInt.toNat) (J144 0 74))) I182 ∧ L182 = L ∧ (I182 48 (J144 0 69).toInt.toNat).toInt = (J144 48 (J144 0 69).toInt.toNat).toInt + 1 := hq182
              obtain ⟨c182_0, c182_1, eL182, c182_3⟩ := hq182
              replace eL182 := eL182.symm
              subst eL182
              have hO182 := f_fo_fr hO172 c182_1 rfl
              have hsS182 := f_depo_fr sS_dep hsS172 c182_1 rfl rfl
              have htA182 := f_depo_fr tA_dep htA172 c182_1 rfl rfl
              have hF182 := f_fr_tr hF172 c182_1 rfl
              have r182_8 : 0 ≤ (I182 48 ((J144 0 69).toInt.toNat)).toInt ∧ (I182 48 ((J144 0 69).toInt.toNat)).toInt ≤ 30 := c182_0 48 ((J144 0 69).toInt.toNat)
              have d182 : (I182 48 (I 0 69).toInt.toNat).toInt = (J144 48 (I 0 69).toInt.toNat).toInt + 1 := by
                have e := c182_3
                rw [f144] at e
                exact e
              have s182 : I182 52 = J128 52 := (c182_1 52 rfl).trans u144_10
              have t182 : I182 0 69 = I 0 69 := (congrFun (c182_1 0 rfl) 69).trans u144_1
              have e187_10 : (I182 0 74).toInt = (J144 0 74).toInt := congrArg Int32.toInt (congrFun (c182_1 0 rfl) 74)
              intro z191 q191 _ hq191 hl191 hu191
              have hq191 : z191.toInt = (I182 0 74).toInt + 1 + 4294967296 * q191 := hq191
              try have hz191 : z191.toInt = (I182 0 74).toInt + 1 := by omega
              have hR192 := mR_f (k := 0) (j := 74) (x := z191) c182_0 (by exact f_rng _)
              have hF192 := f_fr_up (k := 0) (r := va_up (I182 0) 74 z191) hF182 rfl
              have hO192 := f_fo_up (j := 74) (x := z191) hO182 rfl
              have hsS192 := f_depo_up0 sS_dep (j := 74) (x := z191) hsS182 rfl rfl
              have htA192 := f_depo_up0 tA_dep (j := 74) (x := z191) htA182 rfl rfl
              intro z195 q195 _ hq195 hl195 hu195
              have hq195 : z195.toInt = hh.toInt + 1 + 4294967296 * q195 := hq195
              try have hz195 : z195.toInt = hh.toInt + 1 := by omega
              exact ⟨pl, w, z195, (by intro q9 h9; simp only [List.mem_cons, List.not_mem_nil, or_false] at h9; rcases h9 with h9 | h9 | h9 | h9 <;> subst h9 <;> repeat (first | exact List.mem_cons_self | apply List.mem_cons_of_mem)), rfl, rfl, hR192, hF192, hO192, hsS192, htA192, (show I182 0 69 = I 0 69 from by first | assumption | omega | rfl), (show 0 ≤ pl.toInt from by first | assumption | omega), (show pl.toInt = piled.toInt - 1 from by first | assumption | omega | rfl), (show w = J128 52 pl.toInt.toNat from by first | assumption | omega | rfl), (show 0 < piled.toInt from by first | assumption | omega), (show 0 ≤ z195.toInt from by first | assumption | omega), (show z195.toInt ≤ (I 29 w.toInt.toNat).toInt from by first | assumption | omega), (show z195.toInt ≤ 4 from by first | assumption | omega), (show (I182 48 (I 0 69).toInt.toNat).toInt = (J128 48 (I 0 69).toInt.toNat).toInt + z195.toInt from by first | assumption | omega | rfl), (show I182 52 = J128 52 from by first | assumption | omega | rfl), (show (4 - z195.toInt) < n144 from by omega)⟩
        refine f_wp_ok C f_cl flX12_ok fiX12_ok fjX12_ok (sn := none) (fun j h => by cases h) (cs := (f_cnl [(475, (2, 0, 11, pX12_means, qX12_means)), (478, (2, 1, 11, pX12_saysOf, qX12_saysOf))])) (cz := (fun _ => none)) (f_cnl_of (P := fun j S => f_cok pP l eP (f_rm 1) sP mP aP bP hP9 cP mY 71 a cy dC dI 5 _ _ (.invokevirtual j) true S) (List.forall_mem_cons.mpr ⟨f_cokV C (mX12_means hinj) (ci := 11) rfl (List.forall_mem_cons.mpr ⟨(mlX12_ok _ (List.mem_of_getElem? (i := 51) rfl)), kc_X12_means⟩) (by decide +kernel) ⟨Nat.le_of_ble_eq_true rfl, Nat.le_of_ble_eq_true rfl⟩, List.forall_mem_cons.mpr ⟨f_cokV C (mX12_saysOf hinj) (ci := 11) rfl (List.forall_mem_cons.mpr ⟨(mlX12_ok _ (List.mem_of_getElem? (i := 52) rfl)), kc_X12_saysOf⟩) (by decide +kernel) ⟨Nat.le_of_ble_eq_true rfl, Nat.le_of_ble_eq_true rfl⟩, fun _ h => absurd h List.not_mem_nil⟩⟩)) (fun j S h => by cases h) tX12_keepReading_ok (cut := (f_cnl [(144, (fun (ls' : fLs) (st' : List Value) (I' : fM) (L' : fN) => ∃ pl : Int32, ∃ w : Int32, ∃ hh : Int32, (∀ q ∈ ([(3, .int hh), (2, .int w), (1, .int pl), (0, .ref 0)] : fLs), q ∈ ls') ∧ st' = [] ∧ L' = L ∧ (mR I' ∧ f_fr [0, 45, 46, 47, 48, 49, 50, 51, 52] I I' ∧ f_fo [69, 71, 74] I I' ∧ sS I' ∧ tA I' ∧ (I' 0 69 = I 0 69) ∧ (0 ≤ pl.toInt) ∧ (pl.toInt = piled.toInt - 1) ∧ (w = J128 52 pl.toInt.toNat) ∧ (0 < piled.toInt) ∧ (0 ≤ hh.toInt) ∧ (hh.toInt ≤ (I 29 w.toInt.toNat).toInt) ∧ (hh.toInt ≤ 4) ∧ ((I' 48 (I 0 69).toInt.toNat).toInt = (J128 48 (I 0 69).toInt.toNat).toInt + hh.toInt) ∧ (I' 52 = J128 52) ∧ (4 - hh.toInt) < 5))), (273, (fun (ls' : fLs) (st' : List Value) (I' : fM) (L' : fN) => ∃ g : Int32, (∀ q ∈ ([(2, .int g), (0, .ref 0)] : fLs), q ∈ ls') ∧ st' = [] ∧ L' = L ∧ (mR I' ∧ f_fr [0, 45, 46, 47, 48, 49, 50, 51, 52] I I' ∧ f_fo [69, 71, 74] I I' ∧ sS I' ∧ tA I' ∧ (I' 0 69 = I 0 69) ∧ ((I 0 69).toInt ≤ 299) ∧ (0 ≤ g.toInt) ∧ (g.toInt ≤ (I 0 46).toInt) ∧ ((I 0 46).toInt - g.toInt) < 41)))])) (f_cnl_of (P := fun (tQ : Nat) (P : fLs → List Value → fM → fN → Prop) => ∀ ls' st' I' L', P ls' st' I' L' → f_W pP l eP (f_rm 1) sP mP aP bP hP9 cP mY 71 a cy dC dI 5 (f_K 0 (qX12_keepReading [.ref 0] I L)) tQ ls' st' I' L') (List.forall_mem_cons.mpr ⟨(fun ls' st' I' L' h => by obtain ⟨pl, w, hh, hs, e1, e3, h9⟩ := h; rw [e1, e3]; exact f_W_sub hs (lp144 5 pl w hh I' h9)), List.forall_mem_cons.mpr ⟨(fun ls' st' I' L' h => by obtain ⟨g, hs, e1, e3, h9⟩ := h; rw [e1, e3]; exact f_W_sub hs (lp273 41 g I' h9)), fun _ h => absurd h List.not_mem_nil⟩⟩)) 13 128 (f_seek 128 0 tX12_keepReading) (f_seek_ok 128 0 tX12_keepReading tX12_keepReading_ok) _ _ _ _ ?_
        apply And.intro
        · intro h129
          have h129 : piled.toInt ≤ 0 := h129
          exact ⟨Int32.ofInt 0, (by intro q9 h9; simp only [List.mem_cons, List.not_mem_nil, or_false] at h9; rcases h9 with h9 | h9 <;> subst h9 <;> repeat (first | exact List.mem_cons_self | apply List.mem_cons_of_mem)), rfl, rfl, hR128c, hF128c, hO128c, hsS128c, htA128c, (show J128 0 69 = I 0 69 from by first | assumption | omega | rfl), (show (I 0 69).toInt ≤ 299 from by first | assumption | omega), (show 0 ≤ (0 : Int) from by first | assumption | omega), (show (0 : Int) ≤ (I 0 46).toInt from by first | assumption | omega), (show ((I 0 46).toInt - (0 : Int)) < 41 from by omega)⟩
        · intro h129
          have h129 : 0 < piled.toInt := h129
          have p132 := kV_pop hR hsS htA u128_6 (by omega)
          intro z132 q132 _ hq132 hl132 hu132
          have hq132 : z132.toInt = piled.toInt + (-1) + 4294967296 * q132 := hq132
          try have hz132 : z132.toInt = piled.toInt + (-1) := by omega
          have q132 : 0 ≤ (I 29 (J128 52 z132.toInt.toNat).toInt.toNat).toInt := (hR 29 _).1
          refine And.intro (show f_in z132 40 from ⟨show 0 ≤ z132.toInt from by omega, show z132.toInt < 40 from by omega⟩) ?_
          have r140_1 : 0 ≤ (J128 52 (z132.toInt.toNat)).toInt ∧ (J128 52 (z132.toInt.toNat)).toInt ≤ 39 := hR128c 52 (z132.toInt.toNat)
          have r144_2 : 0 ≤ (J128 48 ((I 0 69).toInt.toNat)).toInt ∧ (J128 48 ((I 0 69).toInt.toNat)).toInt ≤ 30 := hR128c 48 ((I 0 69).toInt.toNat)
          exact ⟨z132, J128 52 (z132.toInt.toNat), Int32.ofInt 0, (by intro q9 h9; simp only [List.mem_cons, List.not_mem_nil, or_false] at h9; rcases h9 with h9 | h9 | h9 | h9 <;> subst h9 <;> repeat (first | exact List.mem_cons_self | apply List.mem_cons_of_mem)), rfl, rfl, hR128c, hF128c, hO128c, hsS128c, htA128c, (show J128 0 69 = I 0 69 from by first | assumption | omega | rfl), (show 0 ≤ z132.toInt from by first | assumption | omega), (show z132.toInt = piled.toInt - 1 from by first | assumption | omega | rfl), (show (J128 52 (z132.toInt.toNat)) = J128 52 z132.toInt.toNat from by first | assumption | omega | rfl), (show 0 < piled.toInt from by first | assumption | omega), (show 0 ≤ (0 : Int) from by first | assumption | omega), (show (0 : Int) ≤ (I 29 (J128 52 (z132.toInt.toNat)).toInt.toNat).toInt from by first | assumption | omega), (show (0 : Int) ≤ 4 from by first | assumption | omega), (show (J128 48 (I 0 69).toInt.toNat).toInt = (J128 48 (I 0 69).toInt.toNat).toInt + (0 : Int) from by first | assumption | omega | rfl), (show J128 52 = J128 52 from by first | assumption | exact rfl), (show (4 - (0 : Int)) < 5 from by omega)⟩
    have lp54 : ∀ (n54 : Nat), ∀ (e : Int32) (J54 : fM), mR J54 ∧ f_fr [0, 45, 46, 47, 48, 49, 50, 51, 52] I J54 ∧ f_fo [69, 71, 74] I J54 ∧ sS J54 ∧ tA J54 ∧ ((J54 0 69).toInt = (I 0 69).toInt) ∧ ((I 0 69).toInt ≤ 299) ∧ (0 ≤ e.toInt) ∧ (e.toInt ≤ (I 0 45).toInt) ∧ ((I 0 45).toInt - e.toInt) < n54 → f_W pP l eP (f_rm 1) sP mP aP bP hP9 cP mY 71 a cy dC dI 5 (f_K 0 (qX12_keepReading [.ref 0] I L)) 54 [(1, .int e), (0, .ref 0)] [] J54 L := by
      intro n54
      induction n54 with
      | zero =>
        intro e J54 h9
        obtain ⟨hR54c, hF54c, hO54c, hsS54c, htA54c, u54_1, u54_2, u54_3, u54_4, hm54⟩ := h9
        omega
      | succ n54 ih54 =>
        intro e J54 h9
        obtain ⟨hR54c, hF54c, hO54c, hsS54c, htA54c, u54_1, u54_2, u54_3, u54_4, hm54⟩ := h9
        refine f_wp_ok C f_cl flX12_ok fiX12_ok fjX12_ok (sn := none) (fun j h => by cases h) (cs := (f_cnl [(475, (2, 0, 11, pX12_means, qX12_means)), (478, (2, 1, 11, pX12_saysOf, qX12_saysOf))])) (cz := (fun _ => none)) (f_cnl_of (P := fun j S => f_cok pP l eP (f_rm 1) sP mP aP bP hP9 cP mY 71 a cy dC dI 5 _ _ (.invokevirtual j) true S) (List.forall_mem_cons.mpr ⟨f_cokV C (mX12_means hinj) (ci := 11) rfl (List.forall_mem_cons.mpr ⟨(mlX12_ok _ (List.mem_of_getElem? (i := 51) rfl)), kc_X12_means⟩) (by decide +kernel) ⟨Nat.le_of_ble_eq_true rfl, Nat.le_of_ble_eq_true rfl⟩, List.forall_mem_cons.mpr ⟨f_cokV C (mX12_saysOf hinj) (ci := 11) rfl (List.forall_mem_cons.mpr ⟨(mlX12_ok _ (List.mem_of_getElem? (i := 52) rfl)), kc_X12_saysOf⟩) (by decide +kernel) ⟨Nat.le_of_ble_eq_true rfl, Nat.le_of_ble_eq_true rfl⟩, fun _ h => absurd h List.not_mem_nil⟩⟩)) (fun j S h => by cases h) tX12_keepReading_ok (cut := (f_cnl [(54, (fun (ls' : fLs) (st' : List Value) (I' : fM) (L' : fN) => ∃ e : Int32, (∀ q ∈ ([(1, .int e), (0, .ref 0)] : fLs), q ∈ ls') ∧ st' = [] ∧ L' = L ∧ (mR I' ∧ f_fr [0, 45, 46, 47, 48, 49, 50, 51, 52] I I' ∧ f_fo [69, 71, 74] I I' ∧ sS I' ∧ tA I' ∧ ((I' 0 69).toInt = (I 0 69).toInt) ∧ ((I 0 69).toInt ≤ 299) ∧ (0 ≤ e.toInt) ∧ (e.toInt ≤ (I 0 45).toInt) ∧ ((I 0 45).toInt - e.toInt) < n54))), (128, (fun (ls' : fLs) (st' : List Value) (I' : fM) (L' : fN) => ∃ piled : Int32, (∀ q ∈ ([(1, .int piled), (0, .ref 0)] : fLs), q ∈ ls') ∧ st' = [] ∧ L' = L ∧ (mR I' ∧ f_fr [0, 45, 46, 47, 48, 49, 50, 51, 52] I I' ∧ f_fo [69, 71, 74] I I' ∧ sS I' ∧ tA I' ∧ (I' 0 69 = I 0 69) ∧ ((I 0 69).toInt ≤ 299) ∧ (0 ≤ piled.toInt) ∧ (0 ≤ (I' 48 (I 0 69).toInt.toNat).toInt) ∧ ((I' 48 (I 0 69).toInt.toNat).toInt ≤ 20) ∧ (kV I (I' 52) piled.toInt (I' 48 (I 0 69).toInt.toNat).toInt) ∧ (21 - (I' 48 (I 0 69).toInt.toNat).toInt) < 22)))])) (f_cnl_of (P := fun (tQ : Nat) (P : fLs → List Value → fM → fN → Prop) => ∀ ls' st' I' L', P ls' st' I' L' → f_W pP l eP (f_rm 1) sP mP aP bP hP9 cP mY 71 a cy dC dI 5 (f_K 0 (qX12_keepReading [.ref 0] I L)) tQ ls' st' I' L') (List.forall_mem_cons.mpr ⟨(fun ls' st' I' L' h => by obtain ⟨e, hs, e1, e3, h9⟩ := h; rw [e1, e3]; exact f_W_sub hs (ih54 e I' h9)), List.forall_mem_cons.mpr ⟨(fun ls' st' I' L' h => by obtain ⟨piled, hs, e1, e3, h9⟩ := h; rw [e1, e3]; exact f_W_sub hs (lp128 22 piled I' h9)), fun _ h => absurd h List.not_mem_nil⟩⟩)) 31 54 (f_seek 54 0 tX12_keepReading) (f_seek_ok 54 0 tX12_keepReading tX12_keepReading_ok) _ _ _ _ ?_
        have r56_1 : 0 ≤ (J54 0 45).toInt ∧ (J54 0 45).toInt ≤ 20 := hR54c 0 45
        have e56_2 : (J54 0 45).toInt = (I 0 45).toInt := congrArg Int32.toInt (hO54c 45 rfl)
        apply And.intro
        · intro h59
          have h59 : (J54 0 45).toInt ≤ e.toInt := h59
          have r93_3 : 0 ≤ (J54 0 69).toInt ∧ (J54 0 69).toInt ≤ 300 := hR54c 0 69
          refine And.intro (show f_in (J54 0 69) 300 from ⟨show 0 ≤ (J54 0 69).toInt from by omega, show (J54 0 69).toInt < 300 from by omega⟩) ?_
          have hR100 := mR_a (k := 47) (j := (J54 0 69).toInt.toNat) (x := J54 0 45) hR54c (show 0 ≤ (J54 0 45).toInt ∧ (J54 0 45).toInt ≤ 20 from ⟨by omega, by omega⟩)
          have hF100 := f_fr_up (k := 47) (r := upd (J54 47) ((J54 0 69).toInt.toNat) (J54 0 45)) hF54c rfl
          have hO100 := f_fo_ne (k := 47) (r := upd (J54 47) ((J54 0 69).toInt.toNat) (J54 0 45)) hO54c (by decide)
          have hsS100 := f_depo_up sS_dep (k := 47) (r := upd (J54 47) ((J54 0 69).toInt.toNat) (J54 0 45)) hsS54c rfl (by decide)
          have htA100 := f_depo_up tA_dep (k := 47) (r := upd (J54 47) ((J54 0 69).toInt.toNat) (J54 0 45)) htA54c rfl (by decide)
          refine And.intro (show f_in (J54 0 69) 300 from ⟨show 0 ≤ (J54 0 69).toInt from by omega, show (J54 0 69).toInt < 300 from by omega⟩) ?_
          have hR110 := mR_a (k := 48) (j := (J54 0 69).toInt.toNat) (x := Int32.ofInt 0) hR100 (show 0 ≤ 0 ∧ 0 ≤ 30 from ⟨by omega, by omega⟩)
          have hF110 := f_fr_up (k := 48) (r := upd (J54 48) ((J54 0 69).toInt.toNat) (Int32.ofInt 0)) hF100 rfl
          have hO110 := f_fo_ne (k := 48) (r := upd (J54 48) ((J54 0 69).toInt.toNat) (Int32.ofInt 0)) hO100 (by decide)
          have hsS110 := f_depo_up sS_dep (k := 48) (r := upd (J54 48) ((J54 0 69).toInt.toNat) (Int32.ofInt 0)) hsS100 rfl (by decide)
          have htA110 := f_depo_up tA_dep (k := 48) (r := upd (J54 48) ((J54 0 69).toInt.toNat) (Int32.ofInt 0)) htA100 rfl (by decide)
          have hR113 := mR_f (k := 0) (j := 74) (x := Int32.ofInt 0) hR110 (by exact f_rng _)
          have hF113 := f_fr_up (k := 0) (r := va_up (J54 0) 74 (Int32.ofInt 0)) hF110 rfl
          have hO113 := f_fo_up (j := 74) (x := Int32.ofInt 0) hO110 rfl
          have hsS113 := f_depo_up0 sS_dep (j := 74) (x := Int32.ofInt 0) hsS110 rfl rfl
          have htA113 := f_depo_up0 tA_dep (j := 74) (x := Int32.ofInt 0) htA110 rfl rfl
          have r124_4 : 0 ≤ (J54 0 55).toInt ∧ (J54 0 55).toInt ≤ 39 := hR113 0 55
          have e124_5 : (J54 0 55).toInt = (I 0 55).toInt := congrArg Int32.toInt (hO54c 55 rfl)
          refine And.intro (show f_in (Int32.ofInt 0) 40 from ⟨show 0 ≤ 0 from by omega, show 0 < 40 from by omega⟩) ?_
          have hR127 := mR_a (k := 52) (j := (Int32.ofInt 0).toInt.toNat) (x := J54 0 55) hR113 (show 0 ≤ (J54 0 55).toInt ∧ (J54 0 55).toInt ≤ 39 from ⟨by omega, by omega⟩)
          have hF127 := f_fr_up (k := 52) (r := upd (J54 52) ((Int32.ofInt 0).toInt.toNat) (J54 0 55)) hF113 rfl
          have hO127 := f_fo_ne (k := 52) (r := upd (J54 52) ((Int32.ofInt 0).toInt.toNat) (J54 0 55)) hO113 (by decide)
          have hsS127 := f_depo_up sS_dep (k := 52) (r := upd (J54 52) ((Int32.ofInt 0).toInt.toNat) (J54 0 55)) hsS113 rfl (by decide)
          have htA127 := f_depo_up tA_dep (k := 52) (r := upd (J54 52) ((Int32.ofInt 0).toInt.toNat) (J54 0 55)) htA113 rfl (by decide)
          have s127 : J54 0 69 = I 0 69 := Int32.toInt_inj.mp u54_1
          have z127 : ((upd (J54 48) (J54 0 69).toInt.toNat (Int32.ofInt 0)) (I 0 69).toInt.toNat).toInt = 0 := by rw [s127, pk_us]; rfl
          have k127 : kV I (upd (J54 52) 0 (J54 0 55)) (1 : Int) ((upd (J54 48) (J54 0 69).toInt.toNat (Int32.ofInt 0)) (I 0 69).toInt.toNat).toInt := by rw [z127]; exact kV_begin hR hsS (by rw [pk_us, hO54c 55 rfl])
          exact ⟨Int32.ofInt 1, (by intro q9 h9; simp only [List.mem_cons, List.not_mem_nil, or_false] at h9; rcases h9 with h9 | h9 <;> subst h9 <;> repeat (first | exact List.mem_cons_self | apply List.mem_cons_of_mem)), rfl, rfl, hR127, hF127, hO127, hsS127, htA127, (show J54 0 69 = I 0 69 from by first | assumption | omega | rfl), (show (I 0 69).toInt ≤ 299 from by first | assumption | omega), (show 0 ≤ (1 : Int) from by first | assumption | omega), (show 0 ≤ ((upd (J54 48) ((J54 0 69).toInt.toNat) (Int32.ofInt 0)) (I 0 69).toInt.toNat).toInt from by first | assumption | omega), (show ((upd (J54 48) ((J54 0 69).toInt.toNat) (Int32.ofInt 0)) (I 0 69).toInt.toNat).toInt ≤ 20 from by first | assumption | omega), (show kV I ((upd (J54 52) ((Int32.ofInt 0).toInt.toNat) (J54 0 55))) (1 : Int) ((upd (J54 48) ((J54 0 69).toInt.toNat) (Int32.ofInt 0)) (I 0 69).toInt.toNat).toInt from by first | assumption | omega), (show (21 - ((upd (J54 48) ((J54 0 69).toInt.toNat) (Int32.ofInt 0)) (I 0 69).toInt.toNat).toInt) < 22 from by omega)⟩
        · intro h59
          have h59 : e.toInt < (J54 0 45).toInt := h59
          have r69_3 : 0 ≤ (J54 0 69).toInt ∧ (J54 0 69).toInt ≤ 300 := hR54c 0 69
          intro z72 q72 _ hq72 hl72 hu72
          have hq72 : z72.toInt = 20 * (J54 0 69).toInt + 4294967296 * q72 := hq72
          try have hz72 : z72.toInt = 20 * (J54 0 69).toInt := by omega
          intro z74 q74 _ hq74 hl74 hu74
          have hq74 : z74.toInt = z72.toInt + e.toInt + 4294967296 * q74 := hq74
          try have hz74 : z74.toInt = z72.toInt + e.toInt := by omega
          refine And.intro (show f_in e 20 from ⟨show 0 ≤ e.toInt from by omega, show e.toInt < 20 from by omega⟩) ?_
          have r80_4 : -1 ≤ (J54 23 (e.toInt.toNat)).toInt ∧ (J54 23 (e.toInt.toNat)).toInt ≤ 19 := hR54c 23 (e.toInt.toNat)
          have e80_5 : (J54 23 (e.toInt.toNat)).toInt = (I 23 (e.toInt.toNat)).toInt := congrArg Int32.toInt (congrFun (hF54c 23 rfl) (e.toInt.toNat))
          refine And.intro (show f_in z74 6000 from ⟨show 0 ≤ z74.toInt from by omega, show z74.toInt < 6000 from by omega⟩) ?_
          have hR81 := mR_a (k := 46) (j := z74.toInt.toNat) (x := J54 23 (e.toInt.toNat)) hR54c (by exact f_rng _)
          have hF81 := f_fr_up (k := 46) (r := upd (J54 46) (z74.toInt.toNat) (J54 23 (e.toInt.toNat))) hF54c rfl
          have hO81 := f_fo_ne (k := 46) (r := upd (J54 46) (z74.toInt.toNat) (J54 23 (e.toInt.toNat))) hO54c (by decide)
          have hsS81 := f_depo_up sS_dep (k := 46) (r := upd (J54 46) (z74.toInt.toNat) (J54 23 (e.toInt.toNat))) hsS54c rfl (by decide)
          have htA81 := f_depo_up tA_dep (k := 46) (r := upd (J54 46) (z74.toInt.toNat) (J54 23 (e.toInt.toNat))) htA54c rfl (by decide)
          intro z82 q82 _ hq82 hl82 hu82
          have hq82 : z82.toInt = e.toInt + 1 + 4294967296 * q82 := hq82
          try have hz82 : z82.toInt = e.toInt + 1 := by omega
          exact ⟨z82, (by intro q9 h9; simp only [List.mem_cons, List.not_mem_nil, or_false] at h9; rcases h9 with h9 | h9 <;> subst h9 <;> repeat (first | exact List.mem_cons_self | apply List.mem_cons_of_mem)), rfl, rfl, hR81, hF81, hO81, hsS81, htA81, (show (J54 0 69).toInt = (I 0 69).toInt from by first | assumption | omega | rfl), (show (I 0 69).toInt ≤ 299 from by first | assumption | omega), (show 0 ≤ z82.toInt from by first | assumption | omega), (show z82.toInt ≤ (I 0 45).toInt from by first | assumption | omega), (show ((I 0 45).toInt - z82.toInt) < n54 from by omega)⟩
    have lp18 : ∀ (n18 : Nat), ∀ (i : Int32) (J18 : fM), mR J18 ∧ f_fr [0, 45, 46, 47, 48, 49, 50, 51, 52] I J18 ∧ f_fo [69, 71, 74] I J18 ∧ sS J18 ∧ tA J18 ∧ ((J18 0 69).toInt = (I 0 69).toInt) ∧ ((I 0 69).toInt ≤ 299) ∧ (0 ≤ i.toInt) ∧ (i.toInt ≤ (I 0 53).toInt) ∧ ((I 0 53).toInt - i.toInt) < n18 → f_W pP l eP (f_rm 1) sP mP aP bP hP9 cP mY 71 a cy dC dI 5 (f_K 0 (qX12_keepReading [.ref 0] I L)) 18 [(1, .int i), (0, .ref 0)] [] J18 L := by
      intro n18
      induction n18 with
      | zero =>
        intro i J18 h9
        obtain ⟨hR18c, hF18c, hO18c, hsS18c, htA18c, u18_1, u18_2, u18_3, u18_4, hm18⟩ := h9
        omega
      | succ n18 ih18 =>
        intro i J18 h9
        obtain ⟨hR18c, hF18c, hO18c, hsS18c, htA18c, u18_1, u18_2, u18_3, u18_4, hm18⟩ := h9
        refine f_wp_ok C f_cl flX12_ok fiX12_ok fjX12_ok (sn := none) (fun j h => by cases h) (cs := (f_cnl [(475, (2, 0, 11, pX12_means, qX12_means)), (478, (2, 1, 11, pX12_saysOf, qX12_saysOf))])) (cz := (fun _ => none)) (f_cnl_of (P := fun j S => f_cok pP l eP (f_rm 1) sP mP aP bP hP9 cP mY 71 a cy dC dI 5 _ _ (.invokevirtual j) true S) (List.forall_mem_cons.mpr ⟨f_cokV C (mX12_means hinj) (ci := 11) rfl (List.forall_mem_cons.mpr ⟨(mlX12_ok _ (List.mem_of_getElem? (i := 51) rfl)), kc_X12_means⟩) (by decide +kernel) ⟨Nat.le_of_ble_eq_true rfl, Nat.le_of_ble_eq_true rfl⟩, List.forall_mem_cons.mpr ⟨f_cokV C (mX12_saysOf hinj) (ci := 11) rfl (List.forall_mem_cons.mpr ⟨(mlX12_ok _ (List.mem_of_getElem? (i := 52) rfl)), kc_X12_saysOf⟩) (by decide +kernel) ⟨Nat.le_of_ble_eq_true rfl, Nat.le_of_ble_eq_true rfl⟩, fun _ h => absurd h List.not_mem_nil⟩⟩)) (fun j S h => by cases h) tX12_keepReading_ok (cut := (f_cnl [(18, (fun (ls' : fLs) (st' : List Value) (I' : fM) (L' : fN) => ∃ i : Int32, (∀ q ∈ ([(1, .int i), (0, .ref 0)] : fLs), q ∈ ls') ∧ st' = [] ∧ L' = L ∧ (mR I' ∧ f_fr [0, 45, 46, 47, 48, 49, 50, 51, 52] I I' ∧ f_fo [69, 71, 74] I I' ∧ sS I' ∧ tA I' ∧ ((I' 0 69).toInt = (I 0 69).toInt) ∧ ((I 0 69).toInt ≤ 299) ∧ (0 ≤ i.toInt) ∧ (i.toInt ≤ (I 0 53).toInt) ∧ ((I 0 53).toInt - i.toInt) < n18))), (54, (fun (ls' : fLs) (st' : List Value) (I' : fM) (L' : fN) => ∃ e : Int32, (∀ q ∈ ([(1, .int e), (0, .ref 0)] : fLs), q ∈ ls') ∧ st' = [] ∧ L' = L ∧ (mR I' ∧ f_fr [0, 45, 46, 47, 48, 49, 50, 51, 52] I I' ∧ f_fo [69, 71, 74] I I' ∧ sS I' ∧ tA I' ∧ ((I' 0 69).toInt = (I 0 69).toInt) ∧ ((I 0 69).toInt ≤ 299) ∧ (0 ≤ e.toInt) ∧ (e.toInt ≤ (I 0 45).toInt) ∧ ((I 0 45).toInt - e.toInt) < 21)))])) (f_cnl_of (P := fun (tQ : Nat) (P : fLs → List Value → fM → fN → Prop) => ∀ ls' st' I' L', P ls' st' I' L' → f_W pP l eP (f_rm 1) sP mP aP bP hP9 cP mY 71 a cy dC dI 5 (f_K 0 (qX12_keepReading [.ref 0] I L)) tQ ls' st' I' L') (List.forall_mem_cons.mpr ⟨(fun ls' st' I' L' h => by obtain ⟨i, hs, e1, e3, h9⟩ := h; rw [e1, e3]; exact f_W_sub hs (ih18 i I' h9)), List.forall_mem_cons.mpr ⟨(fun ls' st' I' L' h => by obtain ⟨e, hs, e1, e3, h9⟩ := h; rw [e1, e3]; exact f_W_sub hs (lp54 21 e I' h9)), fun _ h => absurd h List.not_mem_nil⟩⟩)) 22 18 (f_seek 18 0 tX12_keepReading) (f_seek_ok 18 0 tX12_keepReading tX12_keepReading_ok) _ _ _ _ ?_
        have r20_1 : 0 ≤ (J18 0 53).toInt ∧ (J18 0 53).toInt ≤ 10 := hR18c 0 53
        have e20_2 : (J18 0 53).toInt = (I 0 53).toInt := congrArg Int32.toInt (hO18c 53 rfl)
        apply And.intro
        · intro h23
          have h23 : (J18 0 53).toInt ≤ i.toInt := h23
          have r54_3 : 0 ≤ (J18 0 69).toInt ∧ (J18 0 69).toInt ≤ 300 := hR18c 0 69
          exact ⟨Int32.ofInt 0, (by intro q9 h9; simp only [List.mem_cons, List.not_mem_nil, or_false] at h9; rcases h9 with h9 | h9 <;> subst h9 <;> repeat (first | exact List.mem_cons_self | apply List.mem_cons_of_mem)), rfl, rfl, hR18c, hF18c, hO18c, hsS18c, htA18c, (show (J18 0 69).toInt = (I 0 69).toInt from by first | assumption | omega | rfl), (show (I 0 69).toInt ≤ 299 from by first | assumption | omega), (show 0 ≤ (0 : Int) from by first | assumption | omega), (show (0 : Int) ≤ (I 0 45).toInt from by first | assumption | omega), (show ((I 0 45).toInt - (0 : Int)) < 21 from by omega)⟩
        · intro h23
          have h23 : i.toInt < (J18 0 53).toInt := h23
          have r33_3 : 0 ≤ (J18 0 69).toInt ∧ (J18 0 69).toInt ≤ 300 := hR18c 0 69
          intro z36 q36 _ hq36 hl36 hu36
          have hq36 : z36.toInt = 8 * (J18 0 69).toInt + 4294967296 * q36 := hq36
          try have hz36 : z36.toInt = 8 * (J18 0 69).toInt := by omega
          intro z38 q38 _ hq38 hl38 hu38
          have hq38 : z38.toInt = z36.toInt + i.toInt + 4294967296 * q38 := hq38
          try have hz38 : z38.toInt = z36.toInt + i.toInt := by omega
          refine And.intro (show f_in i 10 from ⟨show 0 ≤ i.toInt from by omega, show i.toInt < 10 from by omega⟩) ?_
          have r44_4 : 0 ≤ (J18 37 (i.toInt.toNat)).toInt ∧ (J18 37 (i.toInt.toNat)).toInt ≤ 2 := hR18c 37 (i.toInt.toNat)
          have e44_5 : (J18 37 (i.toInt.toNat)).toInt = (I 37 (i.toInt.toNat)).toInt := congrArg Int32.toInt (congrFun (hF18c 37 rfl) (i.toInt.toNat))
          refine And.intro (show f_in z38 2400 from ⟨show 0 ≤ z38.toInt from by omega, show z38.toInt < 2400 from by omega⟩) ?_
          have hR45 := mR_a (k := 45) (j := z38.toInt.toNat) (x := J18 37 (i.toInt.toNat)) hR18c (by exact f_rng _)
          have hF45 := f_fr_up (k := 45) (r := upd (J18 45) (z38.toInt.toNat) (J18 37 (i.toInt.toNat))) hF18c rfl
          have hO45 := f_fo_ne (k := 45) (r := upd (J18 45) (z38.toInt.toNat) (J18 37 (i.toInt.toNat))) hO18c (by decide)
          have hsS45 := f_depo_up sS_dep (k := 45) (r := upd (J18 45) (z38.toInt.toNat) (J18 37 (i.toInt.toNat))) hsS18c rfl (by decide)
          have htA45 := f_depo_up tA_dep (k := 45) (r := upd (J18 45) (z38.toInt.toNat) (J18 37 (i.toInt.toNat))) htA18c rfl (by decide)
          intro z46 q46 _ hq46 hl46 hu46
          have hq46 : z46.toInt = i.toInt + 1 + 4294967296 * q46 := hq46
          try have hz46 : z46.toInt = i.toInt + 1 := by omega
          exact ⟨z46, (by intro q9 h9; simp only [List.mem_cons, List.not_mem_nil, or_false] at h9; rcases h9 with h9 | h9 <;> subst h9 <;> repeat (first | exact List.mem_cons_self | apply List.mem_cons_of_mem)), rfl, rfl, hR45, hF45, hO45, hsS45, htA45, (show (J18 0 69).toInt = (I 0 69).toInt from by first | assumption | omega | rfl), (show (I 0 69).toInt ≤ 299 from by first | assumption | omega), (show 0 ≤ z46.toInt from by first | assumption | omega), (show z46.toInt ≤ (I 0 53).toInt from by first | assumption | omega), (show ((I 0 53).toInt - z46.toInt) < n18 from by omega)⟩
    refine f_wp_ok C f_cl flX12_ok fiX12_ok fjX12_ok (sn := none) (fun j h => by cases h) (cs := (f_cnl [(475, (2, 0, 11, pX12_means, qX12_means)), (478, (2, 1, 11, pX12_saysOf, qX12_saysOf))])) (cz := (fun _ => none)) (f_cnl_of (P := fun j S => f_cok pP l eP (f_rm 1) sP mP aP bP hP9 cP mY 71 a cy dC dI 5 _ _ (.invokevirtual j) true S) (List.forall_mem_cons.mpr ⟨f_cokV C (mX12_means hinj) (ci := 11) rfl (List.forall_mem_cons.mpr ⟨(mlX12_ok _ (List.mem_of_getElem? (i := 51) rfl)), kc_X12_means⟩) (by decide +kernel) ⟨Nat.le_of_ble_eq_true rfl, Nat.le_of_ble_eq_true rfl⟩, List.forall_mem_cons.mpr ⟨f_cokV C (mX12_saysOf hinj) (ci := 11) rfl (List.forall_mem_cons.mpr ⟨(mlX12_ok _ (List.mem_of_getElem? (i := 52) rfl)), kc_X12_saysOf⟩) (by decide +kernel) ⟨Nat.le_of_ble_eq_true rfl, Nat.le_of_ble_eq_true rfl⟩, fun _ h => absurd h List.not_mem_nil⟩⟩)) (fun j S h => by cases h) tX12_keepReading_ok (cut := (f_cnl [(18, (fun (ls' : fLs) (st' : List Value) (I' : fM) (L' : fN) => ∃ i : Int32, (∀ q ∈ ([(1, .int i), (0, .ref 0)] : fLs), q ∈ ls') ∧ st' = [] ∧ L' = L ∧ (mR I' ∧ f_fr [0, 45, 46, 47, 48, 49, 50, 51, 52] I I' ∧ f_fo [69, 71, 74] I I' ∧ sS I' ∧ tA I' ∧ ((I' 0 69).toInt = (I 0 69).toInt) ∧ ((I 0 69).toInt ≤ 299) ∧ (0 ≤ i.toInt) ∧ (i.toInt ≤ (I 0 53).toInt) ∧ ((I 0 53).toInt - i.toInt) < 11)))])) (f_cnl_of (P := fun (tQ : Nat) (P : fLs → List Value → fM → fN → Prop) => ∀ ls' st' I' L', P ls' st' I' L' → f_W pP l eP (f_rm 1) sP mP aP bP hP9 cP mY 71 a cy dC dI 5 (f_K 0 (qX12_keepReading [.ref 0] I L)) tQ ls' st' I' L') (List.forall_mem_cons.mpr ⟨(fun ls' st' I' L' h => by obtain ⟨i, hs, e1, e3, h9⟩ := h; rw [e1, e3]; exact f_W_sub hs (lp18 11 i I' h9)), fun _ h => absurd h List.not_mem_nil⟩)) 11 0 tX12_keepReading tX12_keepReading_ok _ _ _ _ ?_
    have r1_1 : 0 ≤ (I 0 69).toInt ∧ (I 0 69).toInt ≤ 300 := hR 0 69
    apply And.intro
    · intro h7
      have h7 : ¬ (I 0 69).toInt = 300 := h7
      have r18_2 : 0 ≤ (I 0 53).toInt ∧ (I 0 53).toInt ≤ 10 := hR 0 53
      exact ⟨Int32.ofInt 0, (by intro q9 h9; simp only [List.mem_cons, List.not_mem_nil, or_false] at h9; rcases h9 with h9 | h9 <;> subst h9 <;> repeat (first | exact List.mem_cons_self | apply List.mem_cons_of_mem)), rfl, rfl, hR, hF0, hO0, hsS, htA, (show (I 0 69).toInt = (I 0 69).toInt from by first | assumption | omega | rfl), (show (I 0 69).toInt ≤ 299 from by first | assumption | omega), (show 0 ≤ (0 : Int) from by first | assumption | omega), (show (0 : Int) ≤ (I 0 53).toInt from by first | assumption | omega), (show ((I 0 53).toInt - (0 : Int)) < 11 from by omega)⟩
    · intro h7
      have h7 : (I 0 69).toInt = 300 := h7
      refine And.intro (Or.inr rfl) ?_
      have hR12 := mR_f (k := 0) (j := 71) (x := Int32.ofInt 1) hR (by exact f_rng _)
      have hF12 := f_fr_up (k := 0) (r := va_up (I 0) 71 (Int32.ofInt 1)) hF0 rfl
      have hO12 := f_fo_up (j := 71) (x := Int32.ofInt 1) hO0 rfl
      have hsS12 := f_depo_up0 sS_dep (j := 71) (x := Int32.ofInt 1) hsS rfl rfl
      have htA12 := f_depo_up0 tA_dep (j := 71) (x := Int32.ofInt 1) htA rfl rfl
      have huN12 := f_depo_up0 uN_dep (j := 71) (x := Int32.ofInt 1) huN rfl rfl
      exact ⟨hR12, hsS12, htA12, hO12, hF12, rfl⟩
