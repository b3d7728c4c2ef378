/-- so many ends lie there when m more were laid, if they all find room -/
def lcn (c m : Int) : Int := if 20 < c + m then c else c + m
def mv (b : Nat) (x y : Int32) : Prop := (x.toInt = -1 ∧ y.toInt = -1) ∨ (0 ≤ x.toInt ∧ y.toInt = b + x.toInt)
/-- the ends that are laid hang together, and one hangs on none -/
def sn (P C B : Nat → Int32) (n : Int) : Prop := osl P C B 0 n ∧ (0 < n → ∃ i : Nat, (i : Int) < n ∧ (P i).toInt = -1)
theorem sn_lay {P C B P' C' B' P0 C0 B0 : Nat → Int32} {n s : Nat} {m : Int} (hm : 0 ≤ m) (h : sn P C B n) (h0 : osl P0 C0 B0 s m) (hr : 0 < m → ∃ i : Nat, (i : Int) < m ∧ (P0 (s + i)).toInt = -1)
    (hu : ∀ j, j < n → P' j = P j ∧ C' j = C j ∧ B' j = B j) (hv : ∀ j : Nat, (j : Int) < m → mv n (P0 (s + j)) (P' (n + j)) ∧ mv n (C0 (s + j)) (C' (n + j)) ∧ mv n (B0 (s + j)) (B' (n + j))) : sn P' C' B' (n + m) := by
  obtain ⟨⟨h1, rk, h2⟩, h3⟩ := h
  obtain ⟨g1, rg, g2⟩ := h0
  refine ⟨⟨fun i hi => ?_, fun i => if i < n then rk i else rg (i - n), fun i hi hB => ?_⟩, fun hp => ?_⟩
  · rw [Nat.zero_add]
    by_cases e : i < n
    · obtain ⟨a1, a2, a3, a4, a5⟩ := h1 i (by omega)
      rw [Nat.zero_add] at a1 a2 a3 a4 a5
      rw [(hu i e).1, (hu i e).2.1, (hu i e).2.2]
      refine ⟨by omega, by omega, by omega, fun q => ?_, fun q => ⟨(a5 q).1, ?_⟩⟩
      · have := a4 q
        rw [Nat.zero_add] at this ⊢
        rw [(hu _ (by omega)).1]
        exact this
      · have := (a5 q).2
        rw [Nat.zero_add] at this ⊢
        rw [(hu _ (by omega)).1]
        exact this
    · obtain ⟨j, rfl⟩ : ∃ j, i = n + j := ⟨i - n, by omega⟩
      obtain ⟨a1, a2, a3, a4, a5⟩ := g1 j (by omega)
      obtain ⟨b1, b2, b3⟩ := hv j (by omega)
      refine ⟨by rcases b1 with b | b <;> omega, by rcases b2 with b | b <;> omega, by rcases b3 with b | b <;> omega, fun q => ?_, fun q => ?_⟩
      · rw [Nat.zero_add]
        rcases b2 with b | b
        · omega
        · obtain ⟨c1, -, -⟩ := hv (C0 (s + j)).toInt.toNat (by omega)
          have q2 := a4 b.1
          rw [show (C' (n + j)).toInt.toNat = n + (C0 (s + j)).toInt.toNat by omega]
          rcases c1 with c | c <;> omega
      · rw [Nat.zero_add]
        rcases b3 with b | b
        · omega
        · obtain ⟨c1, -, -⟩ := hv (B0 (s + j)).toInt.toNat (by omega)
          obtain ⟨q2, q3⟩ := a5 b.1
          rw [show (B' (n + j)).toInt.toNat = n + (B0 (s + j)).toInt.toNat by omega]
          rcases c1 with c | c <;> rcases b1 with d | d <;> constructor <;> omega
  · rw [Nat.zero_add] at hB ⊢
    by_cases e : i < n
    · rw [(hu i e).2.2] at hB ⊢
      have a3 := (h1 i (by omega)).2.2.1
      have q := h2 i (by omega) (by rw [Nat.zero_add]; exact hB)
      rw [Nat.zero_add] at a3 q
      show (if _ then _ else _) < (if _ then _ else _)
      rw [if_pos (by omega), if_pos e]
      exact q
    · obtain ⟨j, rfl⟩ : ∃ j, i = n + j := ⟨i - n, by omega⟩
      obtain ⟨-, -, b3⟩ := hv j (by omega)
      rcases b3 with b | b
      · omega
      · have q := g2 j (by omega) b.1
        show (if _ then _ else _) < (if _ then _ else _)
        rw [if_neg (by omega), if_neg (by omega), show (B' (n + j)).toInt.toNat - n = (B0 (s + j)).toInt.toNat by omega, show n + j - n = j by omega]
        exact q
  · by_cases e : (0 : Int) < n
    · obtain ⟨i, hi, hi2⟩ := h3 e
      exact ⟨i, by omega, by rw [(hu i (by omega)).1]; exact hi2⟩
    · obtain ⟨i, hi, hi2⟩ := hr (by omega)
      obtain ⟨b1, -, -⟩ := hv i hi
      exact ⟨n + i, by omega, by rcases b1 with b | b <;> omega⟩
def tX7_lay : List (Instr × Nat) := [(.aload_n 0, 1), (.getfield 48, 3), (.istore_n 3, 1), (.aload_n 0, 1), (.getfield 38, 3), (.getfield 52, 3), (.iload_n 1, 1), (.iaload, 1), (.istore 4, 2), (.iload_n 3, 1), (.iload 4, 2), (.iadd, 1), (.bipush 20, 2), (.if_icmp .le 4, 3), (.return_, 1), (.iconst 0, 1), (.istore 5, 2), (.iload 5, 2), (.iload 4, 2), (.if_icmp .ge 119, 3), (.iload_n 1, 1), (.iconst 4, 1), (.imul, 1), (.iload 5, 2), (.iadd, 1), (.istore 6, 2), (.aload_n 0, 1), (.getfield 13, 3), (.aload_n 0, 1), (.getfield 48, 3), (.aload_n 0, 1), (.getfield 38, 3), (.getfield 57, 3), (.iload 6, 2), (.iaload, 1), (.iastore, 1), (.aload_n 0, 1), (.getfield 17, 3), (.aload_n 0, 1), (.getfield 48, 3), (.aload_n 0, 1), (.getfield 38, 3), (.getfield 58, 3), (.iload 6, 2), (.iaload, 1), (.iload_n 3, 1), (.invokestatic 59, 3), (.iastore, 1), (.aload_n 0, 1), (.getfield 20, 3), (.aload_n 0, 1), (.getfield 48, 3), (.aload_n 0, 1), (.getfield 38, 3), (.getfield 63, 3), (.iload 6, 2), (.iaload, 1), (.iload_n 3, 1), (.invokestatic 59, 3), (.iastore, 1), (.aload_n 0, 1), (.getfield 23, 3), (.aload_n 0, 1), (.getfield 48, 3), (.aload_n 0, 1), (.getfield 38, 3), (.getfield 64, 3), (.iload 6, 2), (.iaload, 1), (.iload_n 3, 1), (.invokestatic 59, 3), (.iastore, 1), (.aload_n 0, 1), (.getfield 26, 3), (.aload_n 0, 1), (.getfield 48, 3), (.iload_n 2, 1), (.iastore, 1), (.aload_n 0, 1), (.invokevirtual 65, 3), (.iinc 5 1, 3), (.goto (-120), 3), (.return_, 1)]
theorem tX7_lay_ok : f_chk cX7_lay 0 tX7_lay = true := by decide +kernel
def pX7_lay (av : List Value) (I : fM) (L : fN) : Prop := match av with
  | [.ref 31, .int s, .int w] => xR I ∧ xO I ∧ 0 ≤ s.toInt ∧ s.toInt ≤ 52 ∧ -1 ≤ w.toInt ∧ w.toInt ≤ 7
  | _ => False
def qX7_lay (av : List Value) (I : fM) (L : fN) (r : Value) (I' : fM) (L' : fN) : Prop := match av, r with
  | [.ref 31, .int s, .int w], .null => xR I' ∧ f_fr [31, 32, 33, 34, 35, 36, 38, 39] I I' ∧ L' = L ∧ (I' 31 9).toInt = lcn (I 31 9).toInt (I 16 s.toInt.toNat).toInt ∧ (sn (I 33) (I 34) (I 35) (I 31 9).toInt → sn (I' 33) (I' 34) (I' 35) (I' 31 9).toInt)
  | _, _ => False
set_option maxHeartbeats 4000000 in
set_option maxRecDepth 100000 in
theorem mX7_lay {l : Launch} {a : Nat → Nat} {cy dC : Nat → ClassId} {dI : Nat → Nat → Nat} (hinj : ∀ i j, i < 80 → j < 80 → a i = a j → i = j) : f_Met (xE a) l xY 80 a cy dC dI yX7_lay cX7_lay 7 0 1 pX7_lay qX7_lay := by
  refine f_met_of (xE_c a) hinj xY_hi (by decide) (fun av I L h => by unfold pX7_lay at h; split at h <;> first | exact Nat.le_of_ble_eq_true rfl | exact h.elim) ?_
  intro pP eP sP mP aP bP hP9 cP C av I L hp
  unfold pX7_lay at hp
  split at hp
  case h_2 => exact hp.elim
  case h_1 s w =>
    obtain ⟨hR, hxO, p2, p3, p4, p5⟩ := hp
    have hc : 0 ≤ (I 31 9).toInt ∧ (I 31 9).toInt ≤ 20 := hR 31 9
    have hz : 0 ≤ (I 16 s.toInt.toNat).toInt ∧ (I 16 s.toInt.toNat).toInt ≤ 4 := hR 16 _
    have hO := hxO s.toInt.toNat (by omega)
    have hF0 : f_fr [31, 32, 33, 34, 35, 36, 38, 39] I I := f_fr_rf
    have lp29 : ∀ (n29 : Nat), ∀ (b : Int32) (m : Int32) (i : Int32) (J29 : fM), xR J29 ∧ f_fr [31, 32, 33, 34, 35, 36, 38, 39] I J29 ∧ (b.toInt = (I 31 9).toInt) ∧ (m.toInt = (I 16 s.toInt.toNat).toInt) ∧ (b.toInt + m.toInt ≤ 20) ∧ (0 ≤ i.toInt) ∧ (i.toInt ≤ m.toInt) ∧ ((J29 31 9).toInt = b.toInt + i.toInt) ∧ ((∀ j, j < b.toInt.toNat → J29 33 j = I 33 j ∧ J29 34 j = I 34 j ∧ J29 35 j = I 35 j)) ∧ ((∀ j : Nat, (j : Int) < i.toInt → mv b.toInt.toNat (I 21 (4 * s.toInt.toNat + j)) (J29 33 (b.toInt.toNat + j)) ∧ mv b.toInt.toNat (I 22 (4 * s.toInt.toNat + j)) (J29 34 (b.toInt.toNat + j)) ∧ mv b.toInt.toNat (I 23 (4 * s.toInt.toNat + j)) (J29 35 (b.toInt.toNat + j)))) ∧ (m.toInt - i.toInt) < n29 → f_W pP l eP (f_rm 1) sP mP aP bP hP9 cP xY 80 a cy dC dI 7 (f_K 0 (qX7_lay [.ref 31, .int s, .int w] I L)) 29 [(5, .int i), (4, .int m), (3, .int b), (2, .int w), (1, .int s), (0, .ref 31)] [] J29 L := by
      intro n29
      induction n29 with
      | zero =>
        intro b m i J29 h9
        obtain ⟨hR29c, hF29c, u29_1, u29_2, u29_3, u29_4, u29_5, u29_6, u29_7, u29_8, hm29⟩ := h9
        omega
      | succ n29 ih29 =>
        intro b m i J29 h9
        obtain ⟨hR29c, hF29c, u29_1, u29_2, u29_3, u29_4, u29_5, u29_6, u29_7, u29_8, hm29⟩ := h9
        refine f_wp_ok C f_cl flX7_ok fiX7_ok fjX7_ok (sn := none) (fun j h => by cases h) (cs := (f_cnl [(65, (1, 0, 7, pX7_stretch, qX7_stretch))])) (cz := (f_cnl [(59, (2, 1, 7, pX7_moved, qX7_moved))])) (f_cnl_of (P := fun j S => f_cok pP l eP (f_rm 1) sP mP aP bP hP9 cP xY 80 a cy dC dI 7 _ _ (.invokevirtual j) true S) (List.forall_mem_cons.mpr ⟨f_cokV C (mX7_stretch hinj) (ci := 7) rfl (List.forall_mem_cons.mpr ⟨(mlX7_ok _ (List.mem_of_getElem? (i := 2) rfl)), kc_X7_stretch⟩) (by decide +kernel) ⟨Nat.le_of_ble_eq_true rfl, Nat.le_of_ble_eq_true rfl⟩, fun _ h => absurd h List.not_mem_nil⟩)) (f_cnl_of (P := fun j S => f_cok pP l eP (f_rm 1) sP mP aP bP hP9 cP xY 80 a cy dC dI 7 _ _ (.invokestatic j) false S) (List.forall_mem_cons.mpr ⟨f_cokS C (mX7_moved hinj) (List.forall_mem_cons.mpr ⟨(mlX7_ok _ (List.mem_of_getElem? (i := 1) rfl)), kc_X7_moved⟩) (by decide +kernel) ⟨Nat.le_of_ble_eq_true rfl, Nat.le_of_ble_eq_true rfl⟩, fun _ h => absurd h List.not_mem_nil⟩)) tX7_lay_ok (cut := (f_cnl [(29, (fun (ls' : fLs) (st' : List Value) (I' : fM) (L' : fN) => ∃ b : Int32, ∃ m : Int32, ∃ i : Int32, (∀ q ∈ ([(5, .int i), (4, .int m), (3, .int b), (2, .int w), (1, .int s), (0, .ref 31)] : fLs), q ∈ ls') ∧ st' = [] ∧ L' = L ∧ (xR I' ∧ f_fr [31, 32, 33, 34, 35, 36, 38, 39] I I' ∧ (b.toInt = (I 31 9).toInt) ∧ (m.toInt = (I 16 s.toInt.toNat).toInt) ∧ (b.toInt + m.toInt ≤ 20) ∧ (0 ≤ i.toInt) ∧ (i.toInt ≤ m.toInt) ∧ ((I' 31 9).toInt = b.toInt + i.toInt) ∧ ((∀ j, j < b.toInt.toNat → I' 33 j = I 33 j ∧ I' 34 j = I 34 j ∧ I' 35 j = I 35 j)) ∧ ((∀ j : Nat, (j : Int) < i.toInt → mv b.toInt.toNat (I 21 (4 * s.toInt.toNat + j)) (I' 33 (b.toInt.toNat + j)) ∧ mv b.toInt.toNat (I 22 (4 * s.toInt.toNat + j)) (I' 34 (b.toInt.toNat + j)) ∧ mv b.toInt.toNat (I 23 (4 * s.toInt.toNat + j)) (I' 35 (b.toInt.toNat + j)))) ∧ (m.toInt - i.toInt) < n29)))])) (f_cnl_of (P := fun (tQ : Nat) (P : fLs → List Value → fM → fN → Prop) => ∀ ls' st' I' L', P ls' st' I' L' → f_W pP l eP (f_rm 1) sP mP aP bP hP9 cP xY 80 a cy dC dI 7 (f_K 0 (qX7_lay [.ref 31, .int s, .int w] I L)) tQ ls' st' I' L') (List.forall_mem_cons.mpr ⟨(fun ls' st' I' L' h => by obtain ⟨b, m, i, hs, e1, e3, h9⟩ := h; rw [e1, e3]; exact f_W_sub hs (ih29 b m i I' h9)), fun _ h => absurd h List.not_mem_nil⟩)) 68 29 (f_seek 29 0 tX7_lay) (f_seek_ok 29 0 tX7_lay tX7_lay_ok) _ _ _ _ ?_
        have e21 : J29 21 = I 21 := hF29c 21 rfl
        have e22 : J29 22 = I 22 := hF29c 22 rfl
        have e23 : J29 23 = I 23 := hF29c 23 rfl
        apply And.intro
        · intro h33
          have h33 : m.toInt ≤ i.toInt := h33
          exact ⟨hR29c, hF29c, rfl, (show (J29 31 9).toInt = lcn (I 31 9).toInt (I 16 s.toInt.toNat).toInt from by unfold lcn; rw [if_neg (by omega)]; omega), (fun q => by have q9 := sn_lay (n := b.toInt.toNat) (by omega) (by rw [show ((b.toInt.toNat : Nat) : Int) = (I 31 9).toInt by omega]; exact q) hO.1 hO.2 u29_7 (fun j hj => u29_8 j (by omega)); rw [show (J29 31 9).toInt = ((b.toInt.toNat : Nat) : Int) + (I 16 s.toInt.toNat).toInt by omega]; exact q9)⟩
        · intro h33
          have h33 : i.toInt < m.toInt := h33
          intro z38 q38 _ hq38 hl38 hu38
          have hq38 : z38.toInt = s.toInt * 4 + 4294967296 * q38 := hq38
          try have hz38 : z38.toInt = s.toInt * 4 := by omega
          intro z41 q41 _ hq41 hl41 hu41
          have hq41 : z41.toInt = z38.toInt + i.toInt + 4294967296 * q41 := hq41
          try have hz41 : z41.toInt = z38.toInt + i.toInt := by omega
          have n41 : z41.toInt.toNat = 4 * s.toInt.toNat + i.toInt.toNat := by omega
          have o41 := hO.1.1 i.toInt.toNat (by omega)
          have r49_1 : 0 ≤ (J29 31 9).toInt ∧ (J29 31 9).toInt ≤ 20 := hR29c 31 9
          refine And.intro (show f_in z41 212 from ⟨show 0 ≤ z41.toInt from by omega, show z41.toInt < 212 from by omega⟩) ?_
          have r61_2 : 0 ≤ (J29 20 (z41.toInt.toNat)).toInt ∧ (J29 20 (z41.toInt.toNat)).toInt ≤ 9 := hR29c 20 (z41.toInt.toNat)
          have e61_3 : (J29 20 (z41.toInt.toNat)).toInt = (I 20 (z41.toInt.toNat)).toInt := congrArg Int32.toInt (congrFun (hF29c 20 rfl) (z41.toInt.toNat))
          refine And.intro (show f_in (J29 31 9) 20 from ⟨show 0 ≤ (J29 31 9).toInt from by omega, show (J29 31 9).toInt < 20 from by omega⟩) ?_
          have hR62 := xR_a (k := 32) (j := (J29 31 9).toInt.toNat) (x := J29 20 (z41.toInt.toNat)) hR29c (show 0 ≤ (J29 20 (z41.toInt.toNat)).toInt ∧ (J29 20 (z41.toInt.toNat)).toInt ≤ 9 from ⟨by omega, by omega⟩)
          have hF62 := f_fr_up (k := 32) (r := upd (J29 32) ((J29 31 9).toInt.toNat) (J29 20 (z41.toInt.toNat))) hF29c rfl
          refine And.intro (show f_in z41 212 from ⟨show 0 ≤ z41.toInt from by omega, show z41.toInt < 212 from by omega⟩) ?_
          have r80_4 : -1 ≤ (J29 21 (z41.toInt.toNat)).toInt ∧ (J29 21 (z41.toInt.toNat)).toInt ≤ 3 := hR62 21 (z41.toInt.toNat)
          have e80_5 : (J29 21 (z41.toInt.toNat)).toInt = (I 21 (z41.toInt.toNat)).toInt := congrArg Int32.toInt (congrFun (hF29c 21 rfl) (z41.toInt.toNat))
          have v80 : (J29 21 z41.toInt.toNat).toInt < m.toInt := by rw [n41, e21, u29_2]; exact o41.1
          refine And.intro ⟨(show -1 ≤ (J29 21 (z41.toInt.toNat)).toInt from by first | assumption | omega), (show (J29 21 (z41.toInt.toNat)).toInt ≤ 3 from by first | assumption | omega), (show 0 ≤ b.toInt from by first | assumption | omega), (show b.toInt ≤ 20 from by first | assumption | omega)⟩ ?_
          intro x82 I82 L82 hq82
          have hq82 : I82 = (va_up J29 32 (upd (J29 32) ((J29 31 9).toInt.toNat) (J29 20 (z41.toInt.toNat)))) ∧ L82 = L ∧ ((((J29 21 (z41.toInt.toNat)).toInt = -1 ∧ x82.toInt = -1) ∨ (0 ≤ (J29 21 (z41.toInt.toNat)).toInt ∧ x82.toInt = b.toInt + (J29 21 (z41.toInt.toNat)).toInt))) := hq82
          obtain ⟨eI82, eL82, c82_2⟩ := hq82
          replace eI82 := eI82.symm
          subst eI82
          replace eL82 := eL82.symm
          subst eL82
          have v82 : mv b.toInt.toNat (I 21 (4 * s.toInt.toNat + i.toInt.toNat)) x82 := by have q := c82_2; rw [n41, e21] at q; unfold mv; omega
          refine And.intro (show f_in (J29 31 9) 20 from ⟨show 0 ≤ (J29 31 9).toInt from by omega, show (J29 31 9).toInt < 20 from by omega⟩) ?_
          have hR85 := xR_a (k := 33) (j := (J29 31 9).toInt.toNat) (x := x82) hR62 (show -1 ≤ x82.toInt ∧ x82.toInt ≤ 19 from ⟨by omega, by omega⟩)
          have hF85 := f_fr_up (k := 33) (r := upd (J29 33) ((J29 31 9).toInt.toNat) x82) hF62 rfl
          refine And.intro (show f_in z41 212 from ⟨show 0 ≤ z41.toInt from by omega, show z41.toInt < 212 from by omega⟩) ?_
          have r103_6 : -1 ≤ (J29 22 (z41.toInt.toNat)).toInt ∧ (J29 22 (z41.toInt.toNat)).toInt ≤ 3 := hR85 22 (z41.toInt.toNat)
          have e103_7 : (J29 22 (z41.toInt.toNat)).toInt = (I 22 (z41.toInt.toNat)).toInt := congrArg Int32.toInt (congrFun (hF29c 22 rfl) (z41.toInt.toNat))
          have v103 : (J29 22 z41.toInt.toNat).toInt < m.toInt := by rw [n41, e22, u29_2]; exact o41.2.1
          refine And.intro ⟨(show -1 ≤ (J29 22 (z41.toInt.toNat)).toInt from by first | assumption | omega), (show (J29 22 (z41.toInt.toNat)).toInt ≤ 3 from by first | assumption | omega), (show 0 ≤ b.toInt from by first | assumption | omega), (show b.toInt ≤ 20 from by first | assumption | omega)⟩ ?_
          intro x105 I105 L105 hq105
          have hq105 : I105 = (va_up (va_up J29 32 (upd (J29 32) ((J29 31 9).toInt.toNat) (J29 20 (z41.toInt.toNat)))) 33 (upd (J29 33) ((J29 31 9).toInt.toNat) x82)) ∧ L105 = L ∧ ((((J29 22 (z41.toInt.toNat)).toInt = -1 ∧ x105.toInt = -1) ∨ (0 ≤ (J29 22 (z41.toInt.toNat)).toInt ∧ x105.toInt = b.toInt + (J29 22 (z41.toInt.toNat)).toInt))) := hq105
          obtain ⟨eI105, eL105, c105_2⟩ := hq105
          replace eI105 := eI105.symm
          subst eI105
          replace eL105 := eL105.symm
          subst eL105
          have v105 : mv b.toInt.toNat (I 22 (4 * s.toInt.toNat + i.toInt.toNat)) x105 := by have q := c105_2; rw [n41, e22] at q; unfold mv; omega
          refine And.intro (show f_in (J29 31 9) 20 from ⟨show 0 ≤ (J29 31 9).toInt from by omega, show (J29 31 9).toInt < 20 from by omega⟩) ?_
          have hR108 := xR_a (k := 34) (j := (J29 31 9).toInt.toNat) (x := x105) hR85 (show -1 ≤ x105.toInt ∧ x105.toInt ≤ 19 from ⟨by omega, by omega⟩)
          have hF108 := f_fr_up (k := 34) (r := upd (J29 34) ((J29 31 9).toInt.toNat) x105) hF85 rfl
          refine And.intro (show f_in z41 212 from ⟨show 0 ≤ z41.toInt from by omega, show z41.toInt < 212 from by omega⟩) ?_
          have r126_8 : -1 ≤ (J29 23 (z41.toInt.toNat)).toInt ∧ (J29 23 (z41.toInt.toNat)).toInt ≤ 3 := hR108 23 (z41.toInt.toNat)
          have e126_9 : (J29 23 (z41.toInt.toNat)).toInt = (I 23 (z41.toInt.toNat)).toInt := congrArg Int32.toInt (congrFun (hF29c 23 rfl) (z41.toInt.toNat))
          have v126 : (J29 23 z41.toInt.toNat).toInt < m.toInt := by rw [n41, e23, u29_2]; exact o41.2.2.1
          refine And.intro ⟨(show -1 ≤ (J29 23 (z41.toInt.toNat)).toInt from by first | assumption | omega), (show (J29 23 (z41.toInt.toNat)).toInt ≤ 3 from by first | assumption | omega), (show 0 ≤ b.toInt from by first | assumption | omega), (show b.toInt ≤ 20 from by first | assumption | omega)⟩ ?_
          intro x128 I128 L128 hq128
          have hq128 : I128 = (va_up (va_up (va_up J29 32 (upd (J29 32) ((J29 31 9).toInt.toNat) (J29 20 (z41.toInt.toNat)))) 33 (upd (J29 33) ((J29 31 9).toInt.toNat) x82)) 34 (upd (J29 34) ((J29 31 9).toInt.toNat) x105)) ∧ L128 = L ∧ ((((J29 23 (z41.toInt.toNat)).toInt = -1 ∧ x128.toInt = -1) ∨ (0 ≤ (J29 23 (z41.toInt.toNat)).toInt ∧ x128.toInt = b.toInt + (J29 23 (z41.toInt.toNat)).toInt))) := hq128
          obtain ⟨eI128, eL128, c128_2⟩ := hq128
          replace eI128 := eI128.symm
          subst eI128
          replace eL128 := eL128.symm
          subst eL128
          have v128 : mv b.toInt.toNat (I 23 (4 * s.toInt.toNat + i.toInt.toNat)) x128 := by have q := c128_2; rw [n41, e23] at q; unfold mv; omega
          refine And.intro (show f_in (J29 31 9) 20 from ⟨show 0 ≤ (J29 31 9).toInt from by omega, show (J29 31 9).toInt < 20 from by omega⟩) ?_
          have hR131 := xR_a (k := 35) (j := (J29 31 9).toInt.toNat) (x := x128) hR108 (show -1 ≤ x128.toInt ∧ x128.toInt ≤ 19 from ⟨by omega, by omega⟩)
          have hF131 := f_fr_up (k := 35) (r := upd (J29 35) ((J29 31 9).toInt.toNat) x128) hF108 rfl
          refine And.intro (show f_in (J29 31 9) 20 from ⟨show 0 ≤ (J29 31 9).toInt from by omega, show (J29 31 9).toInt < 20 from by omega⟩) ?_
          have hR141 := xR_a (k := 36) (j := (J29 31 9).toInt.toNat) (x := w) hR131 (show -1 ≤ w.toInt ∧ w.toInt ≤ 7 from ⟨by omega, by omega⟩)
          have hF141 := f_fr_up (k := 36) (r := upd (J29 36) ((J29 31 9).toInt.toNat) w) hF131 rfl
          refine And.intro ⟨hR141, (show (J29 31 9).toInt < 20 from by first | assumption | omega)⟩ ?_
          intro I143 L143 hq143
          have hq143 : xR I143 ∧ f_fr [31, 38, 39] (va_up (va_up (va_up (va_up (va_up J29 32 (upd (J29 32) ((J29 31 9).toInt.toNat) (J29 20 (z41.toInt.toNat)))) 33 (upd (J29 33) ((J29 31 9).toInt.toNat) x82)) 34 (upd (J29 34) ((J29 31 9).toInt.toNat) x105)) 35 (upd (J29 35) ((J29 31 9).toInt.toNat) x128)) 36 (upd (J29 36) ((J29 31 9).toInt.toNat) w)) I143 ∧ L143 = L ∧ (I143 31 9).toInt = (J29 31 9).toInt + 1 := hq143
          obtain ⟨c143_0, c143_1, eL143, c143_3⟩ := hq143
          replace eL143 := eL143.symm
          subst eL143
          have hF143 := f_fr_tr hF141 c143_1 rfl
          have k9 : (J29 31 9).toInt.toNat = b.toInt.toNat + i.toInt.toNat := by omega
          have m33 : I143 33 = upd (J29 33) (J29 31 9).toInt.toNat x82 := c143_1 33 rfl
          have m34 : I143 34 = upd (J29 34) (J29 31 9).toInt.toNat x105 := c143_1 34 rfl
          have m35 : I143 35 = upd (J29 35) (J29 31 9).toInt.toNat x128 := c143_1 35 rfl
          rw [k9] at m33 m34 m35
          have q7 : ∀ j, j < b.toInt.toNat → I143 33 j = I 33 j ∧ I143 34 j = I 34 j ∧ I143 35 j = I 35 j := by
            intro j hj
            rw [m33, m34, m35, pk_un (by omega), pk_un (by omega), pk_un (by omega)]
            exact u29_7 j hj
          intro z146 q146 _ hq146 hl146 hu146
          have hq146 : z146.toInt = i.toInt + 1 + 4294967296 * q146 := hq146
          try have hz146 : z146.toInt = i.toInt + 1 := by omega
          have q8 : ∀ j : Nat, (j : Int) < z146.toInt → mv b.toInt.toNat (I 21 (4 * s.toInt.toNat + j)) (I143 33 (b.toInt.toNat + j)) ∧ mv b.toInt.toNat (I 22 (4 * s.toInt.toNat + j)) (I143 34 (b.toInt.toNat + j)) ∧ mv b.toInt.toNat (I 23 (4 * s.toInt.toNat + j)) (I143 35 (b.toInt.toNat + j)) := by
            intro j hj
            rw [m33, m34, m35]
            by_cases e : j = i.toInt.toNat
            · subst e
              rw [pk_us, pk_us, pk_us]
              exact ⟨v82, v105, v128⟩
            · rw [pk_un (by omega), pk_un (by omega), pk_un (by omega)]
              exact u29_8 j (by omega)
          have r29_10 : 0 ≤ (I143 31 9).toInt ∧ (I143 31 9).toInt ≤ 20 := c143_0 31 9
          exact ⟨b, m, z146, (by intro q9 h9; simp only [List.mem_cons, List.not_mem_nil, or_false] at h9; rcases h9 with h9 | h9 | h9 | h9 | h9 | h9 <;> subst h9 <;> repeat (first | exact List.mem_cons_self | apply List.mem_cons_of_mem)), rfl, rfl, c143_0, hF143, (show b.toInt = (I 31 9).toInt from by first | assumption | omega | rfl), (show m.toInt = (I 16 s.toInt.toNat).toInt from by first | assumption | omega | rfl), (show b.toInt + m.toInt ≤ 20 from by first | assumption | omega), (show 0 ≤ z146.toInt from by first | assumption | omega), (show z146.toInt ≤ m.toInt from by first | assumption | omega), (show (I143 31 9).toInt = b.toInt + z146.toInt from by first | assumption | omega | rfl), (show (∀ j, j < b.toInt.toNat → I143 33 j = I 33 j ∧ I143 34 j = I 34 j ∧ I143 35 j = I 35 j) from by first | assumption | omega | exact fun _ _ => rfl | exact fun _ _ => ⟨rfl, rfl⟩ | exact fun _ _ => ⟨rfl, rfl, rfl⟩ | (intro j9 hj9; omega)), (show (∀ j : Nat, (j : Int) < z146.toInt → mv b.toInt.toNat (I 21 (4 * s.toInt.toNat + j)) (I143 33 (b.toInt.toNat + j)) ∧ mv b.toInt.toNat (I 22 (4 * s.toInt.toNat + j)) (I143 34 (b.toInt.toNat + j)) ∧ mv b.toInt.toNat (I 23 (4 * s.toInt.toNat + j)) (I143 35 (b.toInt.toNat + j))) from by first | assumption | omega | exact fun _ _ => rfl | exact fun _ _ => ⟨rfl, rfl⟩ | exact fun _ _ => ⟨rfl, rfl, rfl⟩ | (intro j9 hj9; omega)), (show (m.toInt - z146.toInt) < n29 from by omega)⟩
    refine f_wp_ok C f_cl flX7_ok fiX7_ok fjX7_ok (sn := none) (fun j h => by cases h) (cs := (f_cnl [(65, (1, 0, 7, pX7_stretch, qX7_stretch))])) (cz := (f_cnl [(59, (2, 1, 7, pX7_moved, qX7_moved))])) (f_cnl_of (P := fun j S => f_cok pP l eP (f_rm 1) sP mP aP bP hP9 cP xY 80 a cy dC dI 7 _ _ (.invokevirtual j) true S) (List.forall_mem_cons.mpr ⟨f_cokV C (mX7_stretch hinj) (ci := 7) rfl (List.forall_mem_cons.mpr ⟨(mlX7_ok _ (List.mem_of_getElem? (i := 2) rfl)), kc_X7_stretch⟩) (by decide +kernel) ⟨Nat.le_of_ble_eq_true rfl, Nat.le_of_ble_eq_true rfl⟩, fun _ h => absurd h List.not_mem_nil⟩)) (f_cnl_of (P := fun j S => f_cok pP l eP (f_rm 1) sP mP aP bP hP9 cP xY 80 a cy dC dI 7 _ _ (.invokestatic j) false S) (List.forall_mem_cons.mpr ⟨f_cokS C (mX7_moved hinj) (List.forall_mem_cons.mpr ⟨(mlX7_ok _ (List.mem_of_getElem? (i := 1) rfl)), kc_X7_moved⟩) (by decide +kernel) ⟨Nat.le_of_ble_eq_true rfl, Nat.le_of_ble_eq_true rfl⟩, fun _ h => absurd h List.not_mem_nil⟩)) tX7_lay_ok (cut := (f_cnl [(29, (fun (ls' : fLs) (st' : List Value) (I' : fM) (L' : fN) => ∃ b : Int32, ∃ m : Int32, ∃ i : Int32, (∀ q ∈ ([(5, .int i), (4, .int m), (3, .int b), (2, .int w), (1, .int s), (0, .ref 31)] : fLs), q ∈ ls') ∧ st' = [] ∧ L' = L ∧ (xR I' ∧ f_fr [31, 32, 33, 34, 35, 36, 38, 39] I I' ∧ (b.toInt = (I 31 9).toInt) ∧ (m.toInt = (I 16 s.toInt.toNat).toInt) ∧ (b.toInt + m.toInt ≤ 20) ∧ (0 ≤ i.toInt) ∧ (i.toInt ≤ m.toInt) ∧ ((I' 31 9).toInt = b.toInt + i.toInt) ∧ ((∀ j, j < b.toInt.toNat → I' 33 j = I 33 j ∧ I' 34 j = I 34 j ∧ I' 35 j = I 35 j)) ∧ ((∀ j : Nat, (j : Int) < i.toInt → mv b.toInt.toNat (I 21 (4 * s.toInt.toNat + j)) (I' 33 (b.toInt.toNat + j)) ∧ mv b.toInt.toNat (I 22 (4 * s.toInt.toNat + j)) (I' 34 (b.toInt.toNat + j)) ∧ mv b.toInt.toNat (I 23 (4 * s.toInt.toNat + j)) (I' 35 (b.toInt.toNat + j)))) ∧ (m.toInt - i.toInt) < 5)))])) (f_cnl_of (P := fun (tQ : Nat) (P : fLs → List Value → fM → fN → Prop) => ∀ ls' st' I' L', P ls' st' I' L' → f_W pP l eP (f_rm 1) sP mP aP bP hP9 cP xY 80 a cy dC dI 7 (f_K 0 (qX7_lay [.ref 31, .int s, .int w] I L)) tQ ls' st' I' L') (List.forall_mem_cons.mpr ⟨(fun ls' st' I' L' h => by obtain ⟨b, m, i, hs, e1, e3, h9⟩ := h; rw [e1, e3]; exact f_W_sub hs (lp29 5 b m i I' h9)), fun _ h => absurd h List.not_mem_nil⟩)) 19 0 tX7_lay tX7_lay_ok _ _ _ _ ?_
    have r1_1 : 0 ≤ (I 31 9).toInt ∧ (I 31 9).toInt ≤ 20 := hR 31 9
    refine And.intro (show f_in s 53 from ⟨show 0 ≤ s.toInt from by omega, show s.toInt < 53 from by omega⟩) ?_
    have r13_2 : 0 ≤ (I 16 (s.toInt.toNat)).toInt ∧ (I 16 (s.toInt.toNat)).toInt ≤ 4 := hR 16 (s.toInt.toNat)
    intro z19 q19 _ hq19 hl19 hu19
    have hq19 : z19.toInt = (I 31 9).toInt + (I 16 (s.toInt.toNat)).toInt + 4294967296 * q19 := hq19
    try have hz19 : z19.toInt = (I 31 9).toInt + (I 16 (s.toInt.toNat)).toInt := by omega
    apply And.intro
    · intro h22
      have h22 : z19.toInt ≤ 20 := h22
      exact ⟨I 31 9, I 16 (s.toInt.toNat), Int32.ofInt 0, (by intro q9 h9; simp only [List.mem_cons, List.not_mem_nil, or_false] at h9; rcases h9 with h9 | h9 | h9 | h9 | h9 | h9 <;> subst h9 <;> repeat (first | exact List.mem_cons_self | apply List.mem_cons_of_mem)), rfl, rfl, hR, hF0, (show (I 31 9).toInt = (I 31 9).toInt from by first | assumption | omega | rfl), (show (I 16 (s.toInt.toNat)).toInt = (I 16 s.toInt.toNat).toInt from by first | assumption | omega | rfl), (show (I 31 9).toInt + (I 16 (s.toInt.toNat)).toInt ≤ 20 from by first | assumption | omega), (show 0 ≤ (0 : Int) from by first | assumption | omega), (show (0 : Int) ≤ (I 16 (s.toInt.toNat)).toInt from by first | assumption | omega), (show (I 31 9).toInt = (I 31 9).toInt + (0 : Int) from by first | assumption | omega | rfl), (show (∀ j, j < (I 31 9).toInt.toNat → I 33 j = I 33 j ∧ I 34 j = I 34 j ∧ I 35 j = I 35 j) from by first | assumption | omega | exact fun _ _ => rfl | exact fun _ _ => ⟨rfl, rfl⟩ | exact fun _ _ => ⟨rfl, rfl, rfl⟩ | (intro j9 hj9; omega)), (show (∀ j : Nat, (j : Int) < (0 : Int) → mv (I 31 9).toInt.toNat (I 21 (4 * s.toInt.toNat + j)) (I 33 ((I 31 9).toInt.toNat + j)) ∧ mv (I 31 9).toInt.toNat (I 22 (4 * s.toInt.toNat + j)) (I 34 ((I 31 9).toInt.toNat + j)) ∧ mv (I 31 9).toInt.toNat (I 23 (4 * s.toInt.toNat + j)) (I 35 ((I 31 9).toInt.toNat + j))) from by first | assumption | omega | exact fun _ _ => rfl | exact fun _ _ => ⟨rfl, rfl⟩ | exact fun _ _ => ⟨rfl, rfl, rfl⟩ | (intro j9 hj9; omega)), (show ((I 16 (s.toInt.toNat)).toInt - (0 : Int)) < 5 from by omega)⟩
    · intro h22
      have h22 : 20 < z19.toInt := h22
      exact ⟨hR, hF0, rfl, (show (I 31 9).toInt = lcn (I 31 9).toInt (I 16 s.toInt.toNat).toInt from by unfold lcn; rw [if_pos (by omega)]), (fun q => q)⟩
