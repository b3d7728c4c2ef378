def tJ7_fill_bad5a : List (Instr × Nat) := [(.aload_n 0, 1), (.arraylength, 1), (.iload_n 1, 1), (.iload_n 2, 1), (.invokestatic 13, 3), (.iload_n 1, 1), (.istore 5, 2), (.iload 5, 2), (.iload_n 2, 1), (.if_icmp .ge 14, 3), (.aload_n 0, 1), (.iload 5, 2), (.lload_n 3, 1), (.lastore, 1), (.iinc 5 1, 3), (.goto (-14), 3), (.return_, 1)]
theorem tJ7_fill_bad5a_ok : f_chk cJ7_fill_bad5a 0 tJ7_fill_bad5a = true := by decide +kernel
def pJ7_fill_bad5a (av : List Value) (I : fM) (L : fN) : Prop := match av with
  | [.ref 70, .int f, .int t, .long v] => 0 ≤ f.toInt ∧ f.toInt ≤ t.toInt ∧ t.toInt ≤ 2400
  | _ => False
def qJ7_fill_bad5a (av : List Value) (I : fM) (L : fN) (r : Value) (I' : fM) (L' : fN) : Prop := match av, r with
  | [.ref 70, .int f, .int t, .long v], .null => I' = I ∧ f_fr [70] L L' ∧ (∀ j : Nat, (j < f.toInt.toNat ∨ t.toInt.toNat ≤ j) → L' 70 j = L 70 j) ∧ (∀ j : Nat, f.toInt.toNat ≤ j → j < t.toInt.toNat → L' 70 j = v)
  | _, _ => False
set_option maxHeartbeats 4000000 in
set_option maxRecDepth 100000 in
theorem mJ7_fill_bad5a {l : Launch} {a : Nat → Nat} {cy dC : Nat → ClassId} {dI : Nat → Nat → Nat} (hinj : ∀ i j, i < 80 → j < 80 → a i = a j → i = j) : f_Met (xE a) l xY 80 a cy dC dI yJ7_fill_bad5a cJ7_fill_bad5a 6 0 1 pJ7_fill_bad5a qJ7_fill_bad5a := by
  refine f_met_of (xE_c a) hinj xY_hi (by decide) (fun av I L h => by unfold pJ7_fill_bad5a at h; split at h <;> first | exact Nat.le_of_ble_eq_true rfl | exact h.elim) ?_
  intro pP eP sP mP aP bP hP9 cP C av I L hp
  unfold pJ7_fill_bad5a at hp
  split at hp
  case h_2 => exact hp.elim
  case h_1 f t v =>
    obtain ⟨p0, p1, p2⟩ := hp
    have hG0 : f_fr [70] L L := f_fr_rf
    have lp10 : ∀ (n10 : Nat), ∀ (i : Int32) (M10 : fN), f_fr [70] L M10 ∧ (f.toInt ≤ i.toInt) ∧ (i.toInt ≤ t.toInt) ∧ ((∀ j : Nat, (j < f.toInt.toNat ∨ t.toInt.toNat ≤ j) → M10 70 j = L 70 j)) ∧ ((∀ j : Nat, f.toInt.toNat ≤ j → (j : Int) < i.toInt → M10 70 j = v)) ∧ (t.toInt - i.toInt) < n10 → f_W pP l eP (f_rm 1) sP mP aP bP hP9 cP xY 80 a cy dC dI 6 (f_K 0 (qJ7_fill_bad5a [.ref 70, .int f, .int t, .long v] I L)) 10 [(5, .int i), (3, .long v), (2, .int t), (1, .int f), (0, .ref 70)] [] I M10 := by
      intro n10
      induction n10 with
      | zero =>
        intro i M10 h9
        obtain ⟨hG10c, u10_1, u10_2, u10_3, u10_4, hm10⟩ := h9
        omega
      | succ n10 ih10 =>
        intro i M10 h9
        obtain ⟨hG10c, u10_1, u10_2, u10_3, u10_4, hm10⟩ := h9
        refine f_wp_ok C f_cl flJ7_ok fiJ7_ok fjJ7_ok (sn := none) (fun j h => by cases h) (cs := (fun _ => none)) (cz := (f_cnl [(13, (3, 0, 0, pJ7_rangeCheck_23922, qJ7_rangeCheck_23922))])) (fun j S h => by cases h) (f_cnl_of (P := fun j S => f_cok pP l eP (f_rm 1) sP mP aP bP hP9 cP xY 80 a cy dC dI 6 _ _ (.invokestatic j) false S) (List.forall_mem_cons.mpr ⟨f_cokS C (mJ7_rangeCheck_23922 hinj) (List.forall_mem_cons.mpr ⟨(mlJ7_ok _ (List.mem_of_getElem? (i := 0) rfl)), kc_J7_rangeCheck_23922⟩) (by decide +kernel) ⟨Nat.le_of_ble_eq_true rfl, Nat.le_of_ble_eq_true rfl⟩, fun _ h => absurd h List.not_mem_nil⟩)) tJ7_fill_bad5a_ok (cut := (f_cnl [(10, (fun (ls' : fLs) (st' : List Value) (I' : fM) (L' : fN) => ∃ i : Int32, (∀ q ∈ ([(5, .int i), (3, .long v), (2, .int t), (1, .int f), (0, .ref 70)] : fLs), q ∈ ls') ∧ st' = [] ∧ I' = I ∧ (f_fr [70] L L' ∧ (f.toInt ≤ i.toInt) ∧ (i.toInt ≤ t.toInt) ∧ ((∀ j : Nat, (j < f.toInt.toNat ∨ t.toInt.toNat ≤ j) → L' 70 j = L 70 j)) ∧ ((∀ j : Nat, f.toInt.toNat ≤ j → (j : Int) < i.toInt → L' 70 j = v)) ∧ (t.toInt - i.toInt) < n10)))])) (f_cnl_of (P := fun (tQ : Nat) (P : fLs → List Value → fM → fN → Prop) => ∀ ls' st' I' L', P ls' st' I' L' → f_W pP l eP (f_rm 1) sP mP aP bP hP9 cP xY 80 a cy dC dI 6 (f_K 0 (qJ7_fill_bad5a [.ref 70, .int f, .int t, .long v] I L)) tQ ls' st' I' L') (List.forall_mem_cons.mpr ⟨(fun ls' st' I' L' h => by obtain ⟨i, hs, e1, e2, h9⟩ := h; rw [e1, e2]; exact f_W_sub hs (ih10 i L' h9)), fun _ h => absurd h List.not_mem_nil⟩)) 12 10 (f_seek 10 0 tJ7_fill_bad5a) (f_seek_ok 10 0 tJ7_fill_bad5a tJ7_fill_bad5a_ok) _ _ _ _ ?_
        apply And.intro
        · intro h13
          have h13 : t.toInt ≤ i.toInt := h13
          exact ⟨rfl, hG10c, (show (∀ j : Nat, (j < f.toInt.toNat ∨ t.toInt.toNat ≤ j) → M10 70 j = L 70 j) from by first | assumption | omega | rfl | exact fun _ _ => rfl | exact fun _ _ => ⟨rfl, rfl⟩ | exact fun _ _ => ⟨rfl, rfl, rfl⟩ | (intro j9 hj9; omega)), (fun j h1 h2 => u10_4 j h1 (by omega))⟩
        · intro h13
          have h13 : i.toInt < t.toInt := h13
          refine And.intro (show f_in i 2400 from ⟨show 0 ≤ i.toInt from by omega, show i.toInt < 2400 from by omega⟩) ?_
          have hG20 := f_fr_up (k := 70) (r := vp_updL (M10 70) (i.toInt.toNat) v) hG10c rfl
          intro z21 q21 _ hq21 hl21 hu21
          have hq21 : z21.toInt = i.toInt + 1 + 4294967296 * q21 := hq21
          try have hz21 : z21.toInt = i.toInt + 1 := by omega
          have q2 : ∀ j : Nat, (j < f.toInt.toNat ∨ t.toInt.toNat ≤ j) → (vp_updL (M10 70) i.toInt.toNat v) j = L 70 j := fun j hj => by rw [pk_uLn (by omega)]; exact u10_3 j hj
          have q3 : ∀ j : Nat, f.toInt.toNat ≤ j → (j : Int) < z21.toInt → (vp_updL (M10 70) i.toInt.toNat v) j = v := fun j hj hz => by
            by_cases e : j = i.toInt.toNat
            · rw [e, pk_uLs]
            · rw [pk_uLn e]
              exact u10_4 j hj (by omega)
          exact ⟨z21, (by intro q9 h9; simp only [List.mem_cons, List.not_mem_nil, or_false] at h9; rcases h9 with h9 | h9 | h9 | h9 | h9 <;> subst h9 <;> repeat (first | exact List.mem_cons_self | apply List.mem_cons_of_mem)), rfl, rfl, hG20, (show f.toInt ≤ z21.toInt from by first | assumption | omega), (show z21.toInt ≤ t.toInt from by first | assumption | omega), (show (∀ j : Nat, (j < f.toInt.toNat ∨ t.toInt.toNat ≤ j) → (vp_updL (M10 70) (i.toInt.toNat) v) j = L 70 j) from by first | assumption | omega | exact fun _ _ => rfl | exact fun _ _ => ⟨rfl, rfl⟩ | exact fun _ _ => ⟨rfl, rfl, rfl⟩ | (intro j9 hj9; omega)), (show (∀ j : Nat, f.toInt.toNat ≤ j → (j : Int) < z21.toInt → (vp_updL (M10 70) (i.toInt.toNat) v) j = v) from by first | assumption | omega | exact fun _ _ => rfl | exact fun _ _ => ⟨rfl, rfl⟩ | exact fun _ _ => ⟨rfl, rfl, rfl⟩ | (intro j9 hj9; omega)), (show (t.toInt - z21.toInt) < n10 from by omega)⟩
    refine f_wp_ok C f_cl flJ7_ok fiJ7_ok fjJ7_ok (sn := none) (fun j h => by cases h) (cs := (fun _ => none)) (cz := (f_cnl [(13, (3, 0, 0, pJ7_rangeCheck_23922, qJ7_rangeCheck_23922))])) (fun j S h => by cases h) (f_cnl_of (P := fun j S => f_cok pP l eP (f_rm 1) sP mP aP bP hP9 cP xY 80 a cy dC dI 6 _ _ (.invokestatic j) false S) (List.forall_mem_cons.mpr ⟨f_cokS C (mJ7_rangeCheck_23922 hinj) (List.forall_mem_cons.mpr ⟨(mlJ7_ok _ (List.mem_of_getElem? (i := 0) rfl)), kc_J7_rangeCheck_23922⟩) (by decide +kernel) ⟨Nat.le_of_ble_eq_true rfl, Nat.le_of_ble_eq_true rfl⟩, fun _ h => absurd h List.not_mem_nil⟩)) tJ7_fill_bad5a_ok (cut := (f_cnl [(10, (fun (ls' : fLs) (st' : List Value) (I' : fM) (L' : fN) => ∃ i : Int32, (∀ q ∈ ([(5, .int i), (3, .long v), (2, .int t), (1, .int f), (0, .ref 70)] : fLs), q ∈ ls') ∧ st' = [] ∧ I' = I ∧ (f_fr [70] L L' ∧ (f.toInt ≤ i.toInt) ∧ (i.toInt ≤ t.toInt) ∧ ((∀ j : Nat, (j < f.toInt.toNat ∨ t.toInt.toNat ≤ j) → L' 70 j = L 70 j)) ∧ ((∀ j : Nat, f.toInt.toNat ≤ j → (j : Int) < i.toInt → L' 70 j = v)) ∧ (t.toInt - i.toInt) < 2401)))])) (f_cnl_of (P := fun (tQ : Nat) (P : fLs → List Value → fM → fN → Prop) => ∀ ls' st' I' L', P ls' st' I' L' → f_W pP l eP (f_rm 1) sP mP aP bP hP9 cP xY 80 a cy dC dI 6 (f_K 0 (qJ7_fill_bad5a [.ref 70, .int f, .int t, .long v] I L)) tQ ls' st' I' L') (List.forall_mem_cons.mpr ⟨(fun ls' st' I' L' h => by obtain ⟨i, hs, e1, e2, h9⟩ := h; rw [e1, e2]; exact f_W_sub hs (lp10 2401 i L' h9)), fun _ h => absurd h List.not_mem_nil⟩)) 10 0 tJ7_fill_bad5a tJ7_fill_bad5a_ok _ _ _ _ ?_
    refine And.intro ⟨(show 0 ≤ f.toInt from by first | assumption | omega), (show f.toInt ≤ t.toInt from by first | assumption | omega), (show t.toInt ≤ (2400 : Int) from by first | assumption | omega)⟩ ?_
    intro I4 L4 hq4
    have hq4 : I4 = I ∧ L4 = L := hq4
    obtain ⟨eI4, eL4⟩ := hq4
    replace eI4 := eI4.symm
    subst eI4
    replace eL4 := eL4.symm
    subst eL4
    have q1 : ∀ j : Nat, f.toInt.toNat ≤ j → (j : Int) < f.toInt → L 70 j = v := fun j h1 h2 => by omega
    exact ⟨f, (by intro q9 h9; simp only [List.mem_cons, List.not_mem_nil, or_false] at h9; rcases h9 with h9 | h9 | h9 | h9 | h9 <;> subst h9 <;> repeat (first | exact List.mem_cons_self | apply List.mem_cons_of_mem)), rfl, rfl, hG0, (show f.toInt ≤ f.toInt from by first | assumption | omega), (show f.toInt ≤ t.toInt from by first | assumption | omega), (show (∀ j : Nat, (j < f.toInt.toNat ∨ t.toInt.toNat ≤ j) → L 70 j = L 70 j) from by first | assumption | omega | exact fun _ _ => rfl | exact fun _ _ => ⟨rfl, rfl⟩ | exact fun _ _ => ⟨rfl, rfl, rfl⟩ | (intro j9 hj9; omega)), (show (∀ j : Nat, f.toInt.toNat ≤ j → (j : Int) < f.toInt → L 70 j = v) from by first | assumption | omega | exact fun _ _ => rfl | exact fun _ _ => ⟨rfl, rfl⟩ | exact fun _ _ => ⟨rfl, rfl, rfl⟩ | (intro j9 hj9; omega)), (show (t.toInt - f.toInt) < 2401 from by omega)⟩
/-! the readings that are kept -/
def lcs (f : Nat → Int) : Nat → Int
  | 0 => 0
  | p + 1 => lcn (lcs f p) (f p)
theorem lcs_congr {f g : Nat → Int} : ∀ {n : Nat}, (∀ p, p < n → f p = g p) → lcs f n = lcs g n
  | 0, _ => rfl
  | n + 1, h => by
    show lcn _ _ = lcn _ _
    rw [lcs_congr (fun p hp => h p (by omega)), h n (by omega)]
theorem lcn_le {c m : Int} (h : c ≤ 20) : lcn c m ≤ 20 := by unfold lcn; split <;> omega
theorem lcs_le (f : Nat → Int) : ∀ n, lcs f n ≤ 20
  | 0 => by show (0 : Int) ≤ 20; decide
  | n + 1 => lcn_le (lcs_le f n)
def szs (I : fM) (ch : Nat → Int) (p : Nat) : Int := (I 16 ((I 26 p).toInt + ch p).toNat).toInt
/-- so many ends lie there, if of each place the tag ch p was chosen -/
def lca (I : fM) (ch : Nat → Int) : Int := lcn (lcs (szs I ch) (I 25 7).toInt.toNat) (I 16 (I 25 8).toInt.toNat).toInt
theorem lca_le (I : fM) (ch : Nat → Int) : lca I ch ≤ 20 := lcn_le (lcs_le _ _)
theorem lca_congr {I I' : fM} {ch ch' : Nat → Int} (h16 : I' 16 = I 16) (h25 : I' 25 = I 25) (h26 : I' 26 = I 26) (hc : ∀ p : Nat, (p : Int) < (I 25 7).toInt → ch' p = ch p) : lca I' ch' = lca I ch := by
  unfold lca
  rw [h16, h25]
  congr 1
  refine lcs_congr (fun p hp => ?_)
  unfold szs
  rw [h16, h26, hc p (by omega)]
def good (I : fM) (L : fN) (r : Nat) : Prop :=
  (∀ p : Nat, (p : Int) < (I 25 7).toInt → kb L r (48 + p) < (I 27 p).toInt) ∧ (∀ e : Nat, (e : Int) < lca I (fun p => kb L r (48 + p)) → kb L r e < lca I (fun p => kb L r (48 + p))) ∧
  (∀ e e' : Nat, (e : Int) < lca I (fun p => kb L r (48 + p)) → (e' : Int) < lca I (fun p => kb L r (48 + p)) → kb L r e = kb L r e' → e = e')
theorem good_congr {I I' : fM} {L L' : fN} {r : Nat} (hR : xR I) (h16 : I' 16 = I 16) (h25 : I' 25 = I 25) (h26 : I' 26 = I 26) (h27 : I' 27 = I 27) (hk : ∀ s, s < 64 → kb L' r s = kb L r s) (h : good I L r) : good I' L' r := by
  have hc : (I 25 7).toInt ≤ 8 := (hR 25 7).2
  have e : lca I' (fun p => kb L' r (48 + p)) = lca I (fun p => kb L r (48 + p)) := lca_congr h16 h25 h26 (fun p hp => hk _ (by omega))
  have e20 := lca_le I (fun p => kb L r (48 + p))
  unfold good
  rw [e, h25, h27]
  obtain ⟨h1, h2, h3⟩ := h
  refine ⟨fun p hp => ?_, fun x hx => ?_, fun x y hx hy q => ?_⟩
  · rw [hk _ (by omega)]; exact h1 p hp
  · rw [hk _ (by omega)]; exact h2 x hx
  · rw [hk _ (by omega), hk _ (by omega)] at q; exact h3 x y hx hy q
def xK (I : fM) (L : fN) : Prop := ∀ r : Nat, (r : Int) < (I 69 5).toInt → good I L r
/-- what is laid is what is picked -/
def kc (I : fM) : Prop := (∀ p : Nat, (p : Int) < (I 25 7).toInt → (I 28 p).toInt < (I 27 p).toInt) ∧ (I 31 9).toInt = lca I (fun p => (I 28 p).toInt)
/-- all ends are tied, no two to one -/
def ptie (P : Nat → Int32) (n : Int) : Prop := (∀ e : Nat, (e : Int) < n → 0 ≤ (P e).toInt ∧ (P e).toInt < n) ∧ ∀ e e' : Nat, (e : Int) < n → (e' : Int) < n → (P e).toInt = (P e').toInt → e = e'
theorem keep_fin {I J : fM} {L M : fN} {c : Int32} (hR : xR I) (hF : f_fr [69] I J) (hc : c.toInt = (I 69 5).toInt + 1) (hk : kc I) (hK : xK I L) (hp : ptie (I 37) (I 31 9).toInt)
    (ho : ∀ j, (j < 8 * (I 69 5).toInt.toNat ∨ 8 * (I 69 5).toInt.toNat + 8 ≤ j) → M 70 j = L 70 j) (he : ∀ s : Nat, (s : Int) < (I 31 9).toInt → kb M (I 69 5).toInt.toNat s = (I 37 s).toInt) (hq : ∀ s : Nat, (s : Int) < (I 25 7).toInt → kb M (I 69 5).toInt.toNat (48 + s) = (I 28 s).toInt) : xK (va_up J 69 (va_up (J 69) 5 c)) M := by
  intro r hr
  have hr : (r : Int) < c.toInt := hr
  have e16 : (va_up J 69 (va_up (J 69) 5 c)) 16 = I 16 := hF 16 rfl
  have e25 : (va_up J 69 (va_up (J 69) 5 c)) 25 = I 25 := hF 25 rfl
  have e26 : (va_up J 69 (va_up (J 69) 5 c)) 26 = I 26 := hF 26 rfl
  have e27 : (va_up J 69 (va_up (J 69) 5 c)) 27 = I 27 := hF 27 rfl
  by_cases e : r = (I 69 5).toInt.toNat
  · have hl : lca (va_up J 69 (va_up (J 69) 5 c)) (fun p => kb M r (48 + p)) = (I 31 9).toInt := by
      rw [hk.2]
      exact lca_congr e16 e25 e26 (fun p hp => by rw [e]; exact hq p hp)
    unfold good
    rw [hl, e25, e27]
    rw [e]
    refine ⟨fun p h => by rw [hq p h]; exact hk.1 p h, fun x h => by rw [he x h]; exact (hp.1 x h).2, fun x y hx hy q => ?_⟩
    rw [he x hx, he y hy] at q
    exact hp.2 x y hx hy q
  · refine good_congr hR e16 e25 e26 e27 (fun s hs => ?_) (hK r (by omega))
    unfold kb
    rw [ho _ (by omega)]
theorem bb_m1 : ∀ b : Nat, b < 8 → (bb (-1) b).toNat = 255 := by decide +kernel
def tX5_keep : List (Instr × Nat) := [(.aload_n 0, 1), (.getfield 43, 3), (.sipush 300, 3), (.if_icmp .lt 10, 3), (.aload_n 0, 1), (.iconst 1, 1), (.putfield 40, 3), (.iconst 1, 1), (.ireturn, 1), (.aload_n 0, 1), (.getfield 43, 3), (.bipush 8, 2), (.imul, 1), (.istore_n 1, 1), (.aload_n 0, 1), (.getfield 11, 3), (.iload_n 1, 1), (.iload_n 1, 1), (.bipush 8, 2), (.iadd, 1), (.ldc2_w 59, 3), (.invokestatic 61, 3), (.iconst 0, 1), (.istore_n 2, 1), (.iload_n 2, 1), (.aload_n 0, 1), (.getfield 31, 3), (.getfield 67, 3), (.if_icmp .ge 47, 3), (.aload_n 0, 1), (.getfield 11, 3), (.iload_n 1, 1), (.iconst 0, 1), (.iload_n 2, 1), (.iadd, 1), (.bipush 8, 2), (.idiv, 1), (.iadd, 1), (.dup2, 1), (.laload, 1), (.aload_n 0, 1), (.getfield 31, 3), (.getfield 68, 3), (.iload_n 2, 1), (.iaload, 1), (.sipush 255, 3), (.ixor, 1), (.i2l, 1), (.iload_n 2, 1), (.bipush 8, 2), (.irem, 1), (.bipush 8, 2), (.imul, 1), (.lshl, 1), (.lxor, 1), (.lastore, 1), (.iinc 2 1, 3), (.goto (-52), 3), (.iconst 0, 1), (.istore_n 2, 1), (.iload_n 2, 1), (.aload_n 0, 1), (.getfield 21, 3), (.getfield 71, 3), (.if_icmp .ge 40, 3), (.aload_n 0, 1), (.getfield 11, 3), (.iload_n 1, 1), (.bipush 6, 2), (.iadd, 1), (.dup2, 1), (.laload, 1), (.aload_n 0, 1), (.getfield 21, 3), (.getfield 72, 3), (.iload_n 2, 1), (.iaload, 1), (.sipush 255, 3), (.ixor, 1), (.i2l, 1), (.iload_n 2, 1), (.bipush 8, 2), (.imul, 1), (.lshl, 1), (.lxor, 1), (.lastore, 1), (.iinc 2 1, 3), (.goto (-45), 3), (.aload_n 0, 1), (.dup, 1), (.getfield 43, 3), (.iconst 1, 1), (.iadd, 1), (.putfield 43, 3), (.iconst 0, 1), (.ireturn, 1)]
theorem tX5_keep_ok : f_chk cX5_keep 0 tX5_keep = true := by decide +kernel
def pX5_keep (av : List Value) (I : fM) (L : fN) : Prop := match av with
  | [.ref 69] => xR I ∧ kc I ∧ xK I L ∧ ptie (I 37) (I 31 9).toInt
  | _ => False
def qX5_keep (av : List Value) (I : fM) (L : fN) (r : Value) (I' : fM) (L' : fN) : Prop := match av, r with
  | [.ref 69], .int x => xR I' ∧ f_fr [69] I I' ∧ f_fr [70] L L' ∧ xK I' L' ∧ (x.toInt = 0 ∨ x.toInt = 1)
  | _, _ => False
set_option maxHeartbeats 4000000 in
set_option maxRecDepth 100000 in
theorem mX5_keep {l : Launch} {a : Nat → Nat} {cy dC : Nat → ClassId} {dI : Nat → Nat → Nat} (hinj : ∀ i j, i < 80 → j < 80 → a i = a j → i = j) : f_Met (xE a) l xY 80 a cy dC dI yX5_keep cX5_keep 3 3 2 pX5_keep qX5_keep := by
  refine f_met_of (xE_c a) hinj xY_hi (by decide) (fun av I L h => by unfold pX5_keep at h; split at h <;> first | exact Nat.le_of_ble_eq_true rfl | exact h.elim) ?_
  intro pP eP sP mP aP bP hP9 cP C av I L hp
  unfold pX5_keep at hp
  split at hp
  case h_2 => exact hp.elim
  case h_1 =>
    obtain ⟨hR, p1, p2, p3⟩ := hp
    have hc : 0 ≤ (I 69 5).toInt ∧ (I 69 5).toInt ≤ 300 := hR 69 5
    have hn : 0 ≤ (I 31 9).toInt ∧ (I 31 9).toInt ≤ 20 := hR 31 9
    have ht : 0 ≤ (I 25 7).toInt ∧ (I 25 7).toInt ≤ 8 := hR 25 7
    have hF0 : f_fr [69] I I := f_fr_rf
    have hG0 : f_fr [70] L L := f_fr_rf
    have lp99 : ∀ (n99 : Nat), ∀ (f : Int32) (e : Int32) (J99 : fM) (M99 : fN), xR J99 ∧ f_fr [69] I J99 ∧ f_fr [70] L M99 ∧ (f.toInt = 8 * (I 69 5).toInt) ∧ ((J99 69 5).toInt = (I 69 5).toInt) ∧ ((I 69 5).toInt < 300) ∧ (0 ≤ e.toInt) ∧ (e.toInt ≤ (I 25 7).toInt) ∧ ((∀ j, (j < 8 * (I 69 5).toInt.toNat ∨ 8 * (I 69 5).toInt.toNat + 8 ≤ j) → M99 70 j = L 70 j)) ∧ ((∀ s : Nat, (s : Int) < (I 31 9).toInt → kb M99 (I 69 5).toInt.toNat s = (I 37 s).toInt)) ∧ ((∀ s : Nat, (s : Int) < e.toInt → kb M99 (I 69 5).toInt.toNat (48 + s) = (I 28 s).toInt)) ∧ ((∀ s : Nat, e.toInt ≤ (s : Int) → s < 8 → kb M99 (I 69 5).toInt.toNat (48 + s) = 255)) ∧ ((I 25 7).toInt - e.toInt) < n99 → f_W pP l eP (f_rm 2) sP mP aP bP hP9 cP xY 80 a cy dC dI 3 (f_K 3 (qX5_keep [.ref 69] I L)) 99 [(2, .int e), (1, .int f), (0, .ref 69)] [] J99 M99 := by
      intro n99
      induction n99 with
      | zero =>
        intro f e J99 M99 h9
        obtain ⟨hR99c, hF99c, hG99c, u99_1, u99_2, u99_3, u99_4, u99_5, u99_6, u99_7, u99_8, u99_9, hm99⟩ := h9
        omega
      | succ n99 ih99 =>
        intro f e J99 M99 h9
        obtain ⟨hR99c, hF99c, hG99c, u99_1, u99_2, u99_3, u99_4, u99_5, u99_6, u99_7, u99_8, u99_9, hm99⟩ := h9
        refine f_wp_ok C f_cl flX5_ok fiX5_ok fjX5_ok (sn := none) (fun j h => by cases h) (cs := (fun _ => none)) (cz := (f_cnl [(61, (4, 0, 0, pJ7_fill_bad5a, qJ7_fill_bad5a))])) (fun j S h => by cases h) (f_cnl_of (P := fun j S => f_cok pP l eP (f_rm 2) sP mP aP bP hP9 cP xY 80 a cy dC dI 3 _ _ (.invokestatic j) false S) (List.forall_mem_cons.mpr ⟨f_cokS C (mJ7_fill_bad5a hinj) (List.forall_mem_cons.mpr ⟨(mlX5_ok _ (List.mem_of_getElem? (i := 3) rfl)), kc_J7_fill_bad5a⟩) (by decide +kernel) ⟨Nat.le_of_ble_eq_true rfl, Nat.le_of_ble_eq_true rfl⟩, fun _ h => absurd h List.not_mem_nil⟩)) tX5_keep_ok (cut := (f_cnl [(99, (fun (ls' : fLs) (st' : List Value) (I' : fM) (L' : fN) => ∃ f : Int32, ∃ e : Int32, (∀ q ∈ ([(2, .int e), (1, .int f), (0, .ref 69)] : fLs), q ∈ ls') ∧ st' = [] ∧ (xR I' ∧ f_fr [69] I I' ∧ f_fr [70] L L' ∧ (f.toInt = 8 * (I 69 5).toInt) ∧ ((I' 69 5).toInt = (I 69 5).toInt) ∧ ((I 69 5).toInt < 300) ∧ (0 ≤ e.toInt) ∧ (e.toInt ≤ (I 25 7).toInt) ∧ ((∀ j, (j < 8 * (I 69 5).toInt.toNat ∨ 8 * (I 69 5).toInt.toNat + 8 ≤ j) → L' 70 j = L 70 j)) ∧ ((∀ s : Nat, (s : Int) < (I 31 9).toInt → kb L' (I 69 5).toInt.toNat s = (I 37 s).toInt)) ∧ ((∀ s : Nat, (s : Int) < e.toInt → kb L' (I 69 5).toInt.toNat (48 + s) = (I 28 s).toInt)) ∧ ((∀ s : Nat, e.toInt ≤ (s : Int) → s < 8 → kb L' (I 69 5).toInt.toNat (48 + s) = 255)) ∧ ((I 25 7).toInt - e.toInt) < n99)))])) (f_cnl_of (P := fun (tQ : Nat) (P : fLs → List Value → fM → fN → Prop) => ∀ ls' st' I' L', P ls' st' I' L' → f_W pP l eP (f_rm 2) sP mP aP bP hP9 cP xY 80 a cy dC dI 3 (f_K 3 (qX5_keep [.ref 69] I L)) tQ ls' st' I' L') (List.forall_mem_cons.mpr ⟨(fun ls' st' I' L' h => by obtain ⟨f, e, hs, e1, h9⟩ := h; rw [e1]; exact f_W_sub hs (ih99 f e I' L' h9)), fun _ h => absurd h List.not_mem_nil⟩)) 31 99 (f_seek 99 0 tX5_keep) (f_seek_ok 99 0 tX5_keep tX5_keep_ok) _ _ _ _ ?_
        have r104_1 : 0 ≤ (J99 25 7).toInt ∧ (J99 25 7).toInt ≤ 8 := hR99c 25 7
        have e104_2 : (J99 25 7).toInt = (I 25 7).toInt := congrArg Int32.toInt (congrFun (hF99c 25 rfl) 7)
        apply And.intro
        · intro h107
          have h107 : (J99 25 7).toInt ≤ e.toInt := h107
          have r149_3 : 0 ≤ (J99 69 5).toInt ∧ (J99 69 5).toInt ≤ 300 := hR99c 69 5
          intro z153 q153 _ hq153 hl153 hu153
          have hq153 : z153.toInt = (J99 69 5).toInt + 1 + 4294967296 * q153 := hq153
          try have hz153 : z153.toInt = (J99 69 5).toInt + 1 := by omega
          have hR154 := xR_f (k := 69) (j := 5) (x := z153) hR99c (show 0 ≤ z153.toInt ∧ z153.toInt ≤ 300 from ⟨by omega, by omega⟩)
          have hF154 := f_fr_up (k := 69) (r := va_up (J99 69) 5 z153) hF99c rfl
          exact ⟨Or.inl rfl, hR154, hF154, hG99c, (keep_fin hR hF99c (by omega) p1 p2 p3 u99_6 u99_7 (fun s h => u99_8 s (by omega))), (show ((0 : Int) = 0 ∨ (0 : Int) = 1) from by first | assumption | omega | rfl)⟩
        · intro h107
          have h107 : e.toInt < (J99 25 7).toInt := h107
          intro z117 q117 _ hq117 hl117 hu117
          have hq117 : z117.toInt = f.toInt + 6 + 4294967296 * q117 := hq117
          try have hz117 : z117.toInt = f.toInt + 6 := by omega
          have e117 : z117.toInt.toNat = 8 * (I 69 5).toInt.toNat + (48 + e.toInt.toNat) / 8 := by omega
          refine And.intro (show f_in z117 2400 from ⟨show 0 ≤ z117.toInt from by omega, show z117.toInt < 2400 from by omega⟩) ?_
          refine And.intro (show f_in e 8 from ⟨show 0 ≤ e.toInt from by omega, show e.toInt < 8 from by omega⟩) ?_
          have r128_3 : 0 ≤ (J99 28 (e.toInt.toNat)).toInt ∧ (J99 28 (e.toInt.toNat)).toInt ≤ 2 := hR99c 28 (e.toInt.toNat)
          have e128_4 : (J99 28 (e.toInt.toNat)).toInt = (I 28 (e.toInt.toNat)).toInt := congrArg Int32.toInt (congrFun (hF99c 28 rfl) (e.toInt.toNat))
          have e128 : J99 28 = I 28 := hF99c 28 rfl
          intro z137 q137 _ hq137 hl137 hu137
          have hq137 : z137.toInt = e.toInt * 8 + 4294967296 * q137 := hq137
          try have hz137 : z137.toInt = e.toInt * 8 := by omega
          refine And.intro (show f_in z117 2400 from ⟨show 0 ≤ z117.toInt from by omega, show z117.toInt < 2400 from by omega⟩) ?_
          have hG140 := f_fr_up (k := 70) (r := vp_updL (M99 70) (z117.toInt.toNat) ((M99 70 (z117.toInt.toNat)) ^^^ ((((J99 28 (e.toInt.toNat)) ^^^ (Int32.ofInt 255)).toInt64) <<< (z137.toInt64 &&& 63)))) hG99c rfl
          have k140 := kb_put (M := M99) (M' := (va_up M99 70 (vp_updL (M99 70) (z117.toInt.toNat) ((M99 70 (z117.toInt.toNat)) ^^^ ((((J99 28 (e.toInt.toNat)) ^^^ (Int32.ofInt 255)).toInt64) <<< (z137.toInt64 &&& 63)))))) (r := (I 69 5).toInt.toNat) (s := 48 + e.toInt.toNat) (p := J99 28 e.toInt.toNat) (c := z137) (by omega) (by omega) (by omega) (by omega) (u99_9 e.toInt.toNat (by omega) (by omega)) (by show vp_updL (M99 70) z117.toInt.toNat (M99 70 z117.toInt.toNat ^^^ _) = _; rw [e117])
          intro z141 q141 _ hq141 hl141 hu141
          have hq141 : z141.toInt = e.toInt + 1 + 4294967296 * q141 := hq141
          try have hz141 : z141.toInt = e.toInt + 1 := by omega
          have f6 : ∀ j, (j < 8 * (I 69 5).toInt.toNat ∨ 8 * (I 69 5).toInt.toNat + 8 ≤ j) → ((vp_updL (M99 70) (z117.toInt.toNat) ((M99 70 (z117.toInt.toNat)) ^^^ ((((J99 28 (e.toInt.toNat)) ^^^ (Int32.ofInt 255)).toInt64) <<< (z137.toInt64 &&& 63))))) j = L 70 j := fun j hj => (k140.2.2 j hj).trans (u99_6 j hj)
          have f7 : ∀ s : Nat, (s : Int) < (I 31 9).toInt → kb (va_up M99 70 (vp_updL (M99 70) (z117.toInt.toNat) ((M99 70 (z117.toInt.toNat)) ^^^ ((((J99 28 (e.toInt.toNat)) ^^^ (Int32.ofInt 255)).toInt64) <<< (z137.toInt64 &&& 63))))) (I 69 5).toInt.toNat s = (I 37 s).toInt := fun s h => by rw [k140.2.1 s (by omega)]; exact u99_7 s h
          have f8 : ∀ s : Nat, (s : Int) < z141.toInt → kb (va_up M99 70 (vp_updL (M99 70) (z117.toInt.toNat) ((M99 70 (z117.toInt.toNat)) ^^^ ((((J99 28 (e.toInt.toNat)) ^^^ (Int32.ofInt 255)).toInt64) <<< (z137.toInt64 &&& 63))))) (I 69 5).toInt.toNat (48 + s) = (I 28 s).toInt := fun s hs => by
            by_cases q : s = e.toInt.toNat
            · rw [q, k140.1, e128]
            · rw [k140.2.1 _ (by omega)]
              exact u99_8 s (by omega)
          have f9 : ∀ s : Nat, z141.toInt ≤ (s : Int) → s < 8 → kb (va_up M99 70 (vp_updL (M99 70) (z117.toInt.toNat) ((M99 70 (z117.toInt.toNat)) ^^^ ((((J99 28 (e.toInt.toNat)) ^^^ (Int32.ofInt 255)).toInt64) <<< (z137.toInt64 &&& 63))))) (I 69 5).toInt.toNat (48 + s) = 255 := fun s h1 h2 => by
            rw [k140.2.1 _ (by omega)]
            exact u99_9 s (by omega) h2
          have r99_5 : 0 ≤ (J99 69 5).toInt ∧ (J99 69 5).toInt ≤ 300 := hR99c 69 5
          exact ⟨f, z141, (by intro q9 h9; simp only [List.mem_cons, List.not_mem_nil, or_false] at h9; rcases h9 with h9 | h9 | h9 <;> subst h9 <;> repeat (first | exact List.mem_cons_self | apply List.mem_cons_of_mem)), rfl, hR99c, hF99c, hG140, (show f.toInt = 8 * (I 69 5).toInt from by first | assumption | omega | rfl), (show (J99 69 5).toInt = (I 69 5).toInt from by first | assumption | omega | rfl), (show (I 69 5).toInt < 300 from by first | assumption | omega), (show 0 ≤ z141.toInt from by first | assumption | omega), (show z141.toInt ≤ (I 25 7).toInt from by first | assumption | omega), (show (∀ j, (j < 8 * (I 69 5).toInt.toNat ∨ 8 * (I 69 5).toInt.toNat + 8 ≤ j) → (vp_updL (M99 70) (z117.toInt.toNat) ((M99 70 (z117.toInt.toNat)) ^^^ ((((J99 28 (e.toInt.toNat)) ^^^ (Int32.ofInt 255)).toInt64) <<< (z137.toInt64 &&& 63)))) j = L 70 j) from by first | assumption | omega | exact fun _ _ => rfl | exact fun _ _ => ⟨rfl, rfl⟩ | exact fun _ _ => ⟨rfl, rfl, rfl⟩ | (intro j9 hj9; omega)), (show (∀ s : Nat, (s : Int) < (I 31 9).toInt → kb (va_up M99 70 (vp_updL (M99 70) (z117.toInt.toNat) ((M99 70 (z117.toInt.toNat)) ^^^ ((((J99 28 (e.toInt.toNat)) ^^^ (Int32.ofInt 255)).toInt64) <<< (z137.toInt64 &&& 63))))) (I 69 5).toInt.toNat s = (I 37 s).toInt) from by first | assumption | omega | exact fun _ _ => rfl | exact fun _ _ => ⟨rfl, rfl⟩ | exact fun _ _ => ⟨rfl, rfl, rfl⟩ | (intro j9 hj9; omega)), (show (∀ s : Nat, (s : Int) < z141.toInt → kb (va_up M99 70 (vp_updL (M99 70) (z117.toInt.toNat) ((M99 70 (z117.toInt.toNat)) ^^^ ((((J99 28 (e.toInt.toNat)) ^^^ (Int32.ofInt 255)).toInt64) <<< (z137.toInt64 &&& 63))))) (I 69 5).toInt.toNat (48 + s) = (I 28 s).toInt) from by first | assumption | omega | exact fun _ _ => rfl | exact fun _ _ => ⟨rfl, rfl⟩ | exact fun _ _ => ⟨rfl, rfl, rfl⟩ | (intro j9 hj9; omega)), (show (∀ s : Nat, z141.toInt ≤ (s : Int) → s < 8 → kb (va_up M99 70 (vp_updL (M99 70) (z117.toInt.toNat) ((M99 70 (z117.toInt.toNat)) ^^^ ((((J99 28 (e.toInt.toNat)) ^^^ (Int32.ofInt 255)).toInt64) <<< (z137.toInt64 &&& 63))))) (I 69 5).toInt.toNat (48 + s) = 255) from by first | assumption | omega | exact fun _ _ => rfl | exact fun _ _ => ⟨rfl, rfl⟩ | exact fun _ _ => ⟨rfl, rfl, rfl⟩ | (intro j9 hj9; omega)), (show ((I 25 7).toInt - z141.toInt) < n99 from by omega)⟩
    have lp42 : ∀ (n42 : Nat), ∀ (f : Int32) (e : Int32) (J42 : fM) (M42 : fN), xR J42 ∧ f_fr [69] I J42 ∧ f_fr [70] L M42 ∧ (f.toInt = 8 * (I 69 5).toInt) ∧ ((J42 69 5).toInt = (I 69 5).toInt) ∧ ((I 69 5).toInt < 300) ∧ (0 ≤ e.toInt) ∧ (e.toInt ≤ (I 31 9).toInt) ∧ ((∀ j, (j < 8 * (I 69 5).toInt.toNat ∨ 8 * (I 69 5).toInt.toNat + 8 ≤ j) → M42 70 j = L 70 j)) ∧ ((∀ s : Nat, (s : Int) < e.toInt → kb M42 (I 69 5).toInt.toNat s = (I 37 s).toInt)) ∧ ((∀ s : Nat, e.toInt ≤ (s : Int) → s < 64 → kb M42 (I 69 5).toInt.toNat s = 255)) ∧ ((I 31 9).toInt - e.toInt) < n42 → f_W pP l eP (f_rm 2) sP mP aP bP hP9 cP xY 80 a cy dC dI 3 (f_K 3 (qX5_keep [.ref 69] I L)) 42 [(2, .int e), (1, .int f), (0, .ref 69)] [] J42 M42 := by
      intro n42
      induction n42 with
      | zero =>
        intro f e J42 M42 h9
        obtain ⟨hR42c, hF42c, hG42c, u42_1, u42_2, u42_3, u42_4, u42_5, u42_6, u42_7, u42_8, hm42⟩ := h9
        omega
      | succ n42 ih42 =>
        intro f e J42 M42 h9
        obtain ⟨hR42c, hF42c, hG42c, u42_1, u42_2, u42_3, u42_4, u42_5, u42_6, u42_7, u42_8, hm42⟩ := h9
        refine f_wp_ok C f_cl flX5_ok fiX5_ok fjX5_ok (sn := none) (fun j h => by cases h) (cs := (fun _ => none)) (cz := (f_cnl [(61, (4, 0, 0, pJ7_fill_bad5a, qJ7_fill_bad5a))])) (fun j S h => by cases h) (f_cnl_of (P := fun j S => f_cok pP l eP (f_rm 2) sP mP aP bP hP9 cP xY 80 a cy dC dI 3 _ _ (.invokestatic j) false S) (List.forall_mem_cons.mpr ⟨f_cokS C (mJ7_fill_bad5a hinj) (List.forall_mem_cons.mpr ⟨(mlX5_ok _ (List.mem_of_getElem? (i := 3) rfl)), kc_J7_fill_bad5a⟩) (by decide +kernel) ⟨Nat.le_of_ble_eq_true rfl, Nat.le_of_ble_eq_true rfl⟩, fun _ h => absurd h List.not_mem_nil⟩)) tX5_keep_ok (cut := (f_cnl [(42, (fun (ls' : fLs) (st' : List Value) (I' : fM) (L' : fN) => ∃ f : Int32, ∃ e : Int32, (∀ q ∈ ([(2, .int e), (1, .int f), (0, .ref 69)] : fLs), q ∈ ls') ∧ st' = [] ∧ (xR I' ∧ f_fr [69] I I' ∧ f_fr [70] L L' ∧ (f.toInt = 8 * (I 69 5).toInt) ∧ ((I' 69 5).toInt = (I 69 5).toInt) ∧ ((I 69 5).toInt < 300) ∧ (0 ≤ e.toInt) ∧ (e.toInt ≤ (I 31 9).toInt) ∧ ((∀ j, (j < 8 * (I 69 5).toInt.toNat ∨ 8 * (I 69 5).toInt.toNat + 8 ≤ j) → L' 70 j = L 70 j)) ∧ ((∀ s : Nat, (s : Int) < e.toInt → kb L' (I 69 5).toInt.toNat s = (I 37 s).toInt)) ∧ ((∀ s : Nat, e.toInt ≤ (s : Int) → s < 64 → kb L' (I 69 5).toInt.toNat s = 255)) ∧ ((I 31 9).toInt - e.toInt) < n42))), (99, (fun (ls' : fLs) (st' : List Value) (I' : fM) (L' : fN) => ∃ f : Int32, ∃ e : Int32, (∀ q ∈ ([(2, .int e), (1, .int f), (0, .ref 69)] : fLs), q ∈ ls') ∧ st' = [] ∧ (xR I' ∧ f_fr [69] I I' ∧ f_fr [70] L L' ∧ (f.toInt = 8 * (I 69 5).toInt) ∧ ((I' 69 5).toInt = (I 69 5).toInt) ∧ ((I 69 5).toInt < 300) ∧ (0 ≤ e.toInt) ∧ (e.toInt ≤ (I 25 7).toInt) ∧ ((∀ j, (j < 8 * (I 69 5).toInt.toNat ∨ 8 * (I 69 5).toInt.toNat + 8 ≤ j) → L' 70 j = L 70 j)) ∧ ((∀ s : Nat, (s : Int) < (I 31 9).toInt → kb L' (I 69 5).toInt.toNat s = (I 37 s).toInt)) ∧ ((∀ s : Nat, (s : Int) < e.toInt → kb L' (I 69 5).toInt.toNat (48 + s) = (I 28 s).toInt)) ∧ ((∀ s : Nat, e.toInt ≤ (s : Int) → s < 8 → kb L' (I 69 5).toInt.toNat (48 + s) = 255)) ∧ ((I 25 7).toInt - e.toInt) < 9)))])) (f_cnl_of (P := fun (tQ : Nat) (P : fLs → List Value → fM → fN → Prop) => ∀ ls' st' I' L', P ls' st' I' L' → f_W pP l eP (f_rm 2) sP mP aP bP hP9 cP xY 80 a cy dC dI 3 (f_K 3 (qX5_keep [.ref 69] I L)) tQ ls' st' I' L') (List.forall_mem_cons.mpr ⟨(fun ls' st' I' L' h => by obtain ⟨f, e, hs, e1, h9⟩ := h; rw [e1]; exact f_W_sub hs (ih42 f e I' L' h9)), List.forall_mem_cons.mpr ⟨(fun ls' st' I' L' h => by obtain ⟨f, e, hs, e1, h9⟩ := h; rw [e1]; exact f_W_sub hs (lp99 9 f e I' L' h9)), fun _ h => absurd h List.not_mem_nil⟩⟩)) 37 42 (f_seek 42 0 tX5_keep) (f_seek_ok 42 0 tX5_keep tX5_keep_ok) _ _ _ _ ?_
        have r47_1 : 0 ≤ (J42 31 9).toInt ∧ (J42 31 9).toInt ≤ 20 := hR42c 31 9
        have e47_2 : (J42 31 9).toInt = (I 31 9).toInt := congrArg Int32.toInt (congrFun (hF42c 31 rfl) 9)
        apply And.intro
        · intro h50
          have h50 : (J42 31 9).toInt ≤ e.toInt := h50
          have d9 : ∀ s : Nat, (0 : Int) ≤ (s : Int) → s < 8 → kb M42 (I 69 5).toInt.toNat (48 + s) = 255 := fun s _ h => u42_8 _ (by omega) (by omega)
          have d7 : ∀ s : Nat, (s : Int) < (I 31 9).toInt → kb M42 (I 69 5).toInt.toNat s = (I 37 s).toInt := fun s h => u42_7 s (by omega)
          have r99_3 : 0 ≤ (J42 69 5).toInt ∧ (J42 69 5).toInt ≤ 300 := hR42c 69 5
          exact ⟨f, Int32.ofInt 0, (by intro q9 h9; simp only [List.mem_cons, List.not_mem_nil, or_false] at h9; rcases h9 with h9 | h9 | h9 <;> subst h9 <;> repeat (first | exact List.mem_cons_self | apply List.mem_cons_of_mem)), rfl, hR42c, hF42c, hG42c, (show f.toInt = 8 * (I 69 5).toInt from by first | assumption | omega | rfl), (show (J42 69 5).toInt = (I 69 5).toInt from by first | assumption | omega | rfl), (show (I 69 5).toInt < 300 from by first | assumption | omega), (show 0 ≤ (0 : Int) from by first | assumption | omega), (show (0 : Int) ≤ (I 25 7).toInt from by first | assumption | omega), (show (∀ j, (j < 8 * (I 69 5).toInt.toNat ∨ 8 * (I 69 5).toInt.toNat + 8 ≤ j) → M42 70 j = L 70 j) from by first | assumption | omega | exact fun _ _ => rfl | exact fun _ _ => ⟨rfl, rfl⟩ | exact fun _ _ => ⟨rfl, rfl, rfl⟩ | (intro j9 hj9; omega)), (show (∀ s : Nat, (s : Int) < (I 31 9).toInt → kb M42 (I 69 5).toInt.toNat s = (I 37 s).toInt) from by first | assumption | omega | exact fun _ _ => rfl | exact fun _ _ => ⟨rfl, rfl⟩ | exact fun _ _ => ⟨rfl, rfl, rfl⟩ | (intro j9 hj9; omega)), (show (∀ s : Nat, (s : Int) < (0 : Int) → kb M42 (I 69 5).toInt.toNat (48 + s) = (I 28 s).toInt) from by first | assumption | omega | exact fun _ _ => rfl | exact fun _ _ => ⟨rfl, rfl⟩ | exact fun _ _ => ⟨rfl, rfl, rfl⟩ | (intro j9 hj9; omega)), (show (∀ s : Nat, (0 : Int) ≤ (s : Int) → s < 8 → kb M42 (I 69 5).toInt.toNat (48 + s) = 255) from by first | assumption | omega | exact fun _ _ => rfl | exact fun _ _ => ⟨rfl, rfl⟩ | exact fun _ _ => ⟨rfl, rfl, rfl⟩ | (intro j9 hj9; omega)), (show ((I 25 7).toInt - (0 : Int)) < 9 from by omega)⟩
        · intro h50
          have h50 : e.toInt < (J42 31 9).toInt := h50
          intro z60 q60 _ hq60 hl60 hu60
          have hq60 : z60.toInt = 0 + e.toInt + 4294967296 * q60 := hq60
          try have hz60 : z60.toInt = 0 + e.toInt := by omega
          refine And.intro (by decide) ?_
          try have d63 : (z60 / (Int32.ofInt 8)).toInt = z60.toInt / 8 := t_div (show 0 ≤ z60.toInt from by omega) (show 0 < 8 from by omega)
          intro z64 q64 _ hq64 hl64 hu64
          have hq64 : z64.toInt = f.toInt + (z60 / (Int32.ofInt 8)).toInt + 4294967296 * q64 := hq64
          try have hz64 : z64.toInt = f.toInt + (z60 / (Int32.ofInt 8)).toInt := by omega
          have e64 : z64.toInt.toNat = 8 * (I 69 5).toInt.toNat + e.toInt.toNat / 8 := by omega
          refine And.intro (show f_in z64 2400 from ⟨show 0 ≤ z64.toInt from by omega, show z64.toInt < 2400 from by omega⟩) ?_
          refine And.intro (show f_in e 20 from ⟨show 0 ≤ e.toInt from by omega, show e.toInt < 20 from by omega⟩) ?_
          have r75_3 : -1 ≤ (J42 37 (e.toInt.toNat)).toInt ∧ (J42 37 (e.toInt.toNat)).toInt ≤ 19 := hR42c 37 (e.toInt.toNat)
          have e75_4 : (J42 37 (e.toInt.toNat)).toInt = (I 37 (e.toInt.toNat)).toInt := congrArg Int32.toInt (congrFun (hF42c 37 rfl) (e.toInt.toNat))
          have e75 : J42 37 = I 37 := hF42c 37 rfl
          have g75 := p3.1 e.toInt.toNat (by omega)
          refine And.intro (by decide) ?_
          try have d84 : (e - e / (Int32.ofInt 8) * (Int32.ofInt 8)).toInt = e.toInt % 8 := t_rem (show 0 ≤ e.toInt from by omega) (show 0 < 8 from by omega)
          intro z87 q87 _ hq87 hl87 hu87
          have hq87 : z87.toInt = (e - e / (Int32.ofInt 8) * (Int32.ofInt 8)).toInt * 8 + 4294967296 * q87 := hq87
          try have hz87 : z87.toInt = (e - e / (Int32.ofInt 8) * (Int32.ofInt 8)).toInt * 8 := by omega
          refine And.intro (show f_in z64 2400 from ⟨show 0 ≤ z64.toInt from by omega, show z64.toInt < 2400 from by omega⟩) ?_
          have hG90 := f_fr_up (k := 70) (r := vp_updL (M42 70) (z64.toInt.toNat) ((M42 70 (z64.toInt.toNat)) ^^^ ((((J42 37 (e.toInt.toNat)) ^^^ (Int32.ofInt 255)).toInt64) <<< (z87.toInt64 &&& 63)))) hG42c rfl
          have k90 := kb_put (M := M42) (M' := (va_up M42 70 (vp_updL (M42 70) (z64.toInt.toNat) ((M42 70 (z64.toInt.toNat)) ^^^ ((((J42 37 (e.toInt.toNat)) ^^^ (Int32.ofInt 255)).toInt64) <<< (z87.toInt64 &&& 63)))))) (r := (I 69 5).toInt.toNat) (s := e.toInt.toNat) (p := J42 37 e.toInt.toNat) (c := z87) (by omega) (by rw [e75]; exact g75.1) (by rw [e75]; omega) (by omega) (u42_8 e.toInt.toNat (by omega) (by omega)) (by show vp_updL (M42 70) z64.toInt.toNat (M42 70 z64.toInt.toNat ^^^ _) = _; rw [e64])
          intro z91 q91 _ hq91 hl91 hu91
          have hq91 : z91.toInt = e.toInt + 1 + 4294967296 * q91 := hq91
          try have hz91 : z91.toInt = e.toInt + 1 := by omega
          have b6 : ∀ j, (j < 8 * (I 69 5).toInt.toNat ∨ 8 * (I 69 5).toInt.toNat + 8 ≤ j) → ((vp_updL (M42 70) (z64.toInt.toNat) ((M42 70 (z64.toInt.toNat)) ^^^ ((((J42 37 (e.toInt.toNat)) ^^^ (Int32.ofInt 255)).toInt64) <<< (z87.toInt64 &&& 63))))) j = L 70 j := fun j hj => (k90.2.2 j hj).trans (u42_6 j hj)
          have b7 : ∀ s : Nat, (s : Int) < z91.toInt → kb (va_up M42 70 (vp_updL (M42 70) (z64.toInt.toNat) ((M42 70 (z64.toInt.toNat)) ^^^ ((((J42 37 (e.toInt.toNat)) ^^^ (Int32.ofInt 255)).toInt64) <<< (z87.toInt64 &&& 63))))) (I 69 5).toInt.toNat s = (I 37 s).toInt := fun s hs => by
            by_cases q : s = e.toInt.toNat
            · rw [q, k90.1, e75]
            · rw [k90.2.1 s q]
              exact u42_7 s (by omega)
          have b8 : ∀ s : Nat, z91.toInt ≤ (s : Int) → s < 64 → kb (va_up M42 70 (vp_updL (M42 70) (z64.toInt.toNat) ((M42 70 (z64.toInt.toNat)) ^^^ ((((J42 37 (e.toInt.toNat)) ^^^ (Int32.ofInt 255)).toInt64) <<< (z87.toInt64 &&& 63))))) (I 69 5).toInt.toNat s = 255 := fun s h1 h2 => by
            rw [k90.2.1 s (by omega)]
            exact u42_8 s (by omega) h2
          have r42_5 : 0 ≤ (J42 69 5).toInt ∧ (J42 69 5).toInt ≤ 300 := hR42c 69 5
          exact ⟨f, z91, (by intro q9 h9; simp only [List.mem_cons, List.not_mem_nil, or_false] at h9; rcases h9 with h9 | h9 | h9 <;> subst h9 <;> repeat (first | exact List.mem_cons_self | apply List.mem_cons_of_mem)), rfl, hR42c, hF42c, hG90, (show f.toInt = 8 * (I 69 5).toInt from by first | assumption | omega | rfl), (show (J42 69 5).toInt = (I 69 5).toInt from by first | assumption | omega | rfl), (show (I 69 5).toInt < 300 from by first | assumption | omega), (show 0 ≤ z91.toInt from by first | assumption | omega), (show z91.toInt ≤ (I 31 9).toInt from by first | assumption | omega), (show (∀ j, (j < 8 * (I 69 5).toInt.toNat ∨ 8 * (I 69 5).toInt.toNat + 8 ≤ j) → (vp_updL (M42 70) (z64.toInt.toNat) ((M42 70 (z64.toInt.toNat)) ^^^ ((((J42 37 (e.toInt.toNat)) ^^^ (Int32.ofInt 255)).toInt64) <<< (z87.toInt64 &&& 63)))) j = L 70 j) from by first | assumption | omega | exact fun _ _ => rfl | exact fun _ _ => ⟨rfl, rfl⟩ | exact fun _ _ => ⟨rfl, rfl, rfl⟩ | (intro j9 hj9; omega)), (show (∀ s : Nat, (s : Int) < z91.toInt → kb (va_up M42 70 (vp_updL (M42 70) (z64.toInt.toNat) ((M42 70 (z64.toInt.toNat)) ^^^ ((((J42 37 (e.toInt.toNat)) ^^^ (Int32.ofInt 255)).toInt64) <<< (z87.toInt64 &&& 63))))) (I 69 5).toInt.toNat s = (I 37 s).toInt) from by first | assumption | omega | exact fun _ _ => rfl | exact fun _ _ => ⟨rfl, rfl⟩ | exact fun _ _ => ⟨rfl, rfl, rfl⟩ | (intro j9 hj9; omega)), (show (∀ s : Nat, z91.toInt ≤ (s : Int) → s < 64 → kb (va_up M42 70 (vp_updL (M42 70) (z64.toInt.toNat) ((M42 70 (z64.toInt.toNat)) ^^^ ((((J42 37 (e.toInt.toNat)) ^^^ (Int32.ofInt 255)).toInt64) <<< (z87.toInt64 &&& 63))))) (I 69 5).toInt.toNat s = 255) from by first | assumption | omega | exact fun _ _ => rfl | exact fun _ _ => ⟨rfl, rfl⟩ | exact fun _ _ => ⟨rfl, rfl, rfl⟩ | (intro j9 hj9; omega)), (show ((I 31 9).toInt - z91.toInt) < n42 from by omega)⟩
    refine f_wp_ok C f_cl flX5_ok fiX5_ok fjX5_ok (sn := none) (fun j h => by cases h) (cs := (fun _ => none)) (cz := (f_cnl [(61, (4, 0, 0, pJ7_fill_bad5a, qJ7_fill_bad5a))])) (fun j S h => by cases h) (f_cnl_of (P := fun j S => f_cok pP l eP (f_rm 2) sP mP aP bP hP9 cP xY 80 a cy dC dI 3 _ _ (.invokestatic j) false S) (List.forall_mem_cons.mpr ⟨f_cokS C (mJ7_fill_bad5a hinj) (List.forall_mem_cons.mpr ⟨(mlX5_ok _ (List.mem_of_getElem? (i := 3) rfl)), kc_J7_fill_bad5a⟩) (by decide +kernel) ⟨Nat.le_of_ble_eq_true rfl, Nat.le_of_ble_eq_true rfl⟩, fun _ h => absurd h List.not_mem_nil⟩)) tX5_keep_ok (cut := (f_cnl [(42, (fun (ls' : fLs) (st' : List Value) (I' : fM) (L' : fN) => ∃ f : Int32, ∃ e : Int32, (∀ q ∈ ([(2, .int e), (1, .int f), (0, .ref 69)] : fLs), q ∈ ls') ∧ st' = [] ∧ (xR I' ∧ f_fr [69] I I' ∧ f_fr [70] L L' ∧ (f.toInt = 8 * (I 69 5).toInt) ∧ ((I' 69 5).toInt = (I 69 5).toInt) ∧ ((I 69 5).toInt < 300) ∧ (0 ≤ e.toInt) ∧ (e.toInt ≤ (I 31 9).toInt) ∧ ((∀ j, (j < 8 * (I 69 5).toInt.toNat ∨ 8 * (I 69 5).toInt.toNat + 8 ≤ j) → L' 70 j = L 70 j)) ∧ ((∀ s : Nat, (s : Int) < e.toInt → kb L' (I 69 5).toInt.toNat s = (I 37 s).toInt)) ∧ ((∀ s : Nat, e.toInt ≤ (s : Int) → s < 64 → kb L' (I 69 5).toInt.toNat s = 255)) ∧ ((I 31 9).toInt - e.toInt) < 21)))])) (f_cnl_of (P := fun (tQ : Nat) (P : fLs → List Value → fM → fN → Prop) => ∀ ls' st' I' L', P ls' st' I' L' → f_W pP l eP (f_rm 2) sP mP aP bP hP9 cP xY 80 a cy dC dI 3 (f_K 3 (qX5_keep [.ref 69] I L)) tQ ls' st' I' L') (List.forall_mem_cons.mpr ⟨(fun ls' st' I' L' h => by obtain ⟨f, e, hs, e1, h9⟩ := h; rw [e1]; exact f_W_sub hs (lp42 21 f e I' L' h9)), fun _ h => absurd h List.not_mem_nil⟩)) 22 0 tX5_keep tX5_keep_ok _ _ _ _ ?_
    have r1_1 : 0 ≤ (I 69 5).toInt ∧ (I 69 5).toInt ≤ 300 := hR 69 5
    apply And.intro
    · intro h7
      have h7 : (I 69 5).toInt < 300 := h7
      intro z23 q23 _ hq23 hl23 hu23
      have hq23 : z23.toInt = (I 69 5).toInt * 8 + 4294967296 * q23 := hq23
      try have hz23 : z23.toInt = (I 69 5).toInt * 8 := by omega
      intro z33 q33 _ hq33 hl33 hu33
      have hq33 : z33.toInt = z23.toInt + 8 + 4294967296 * q33 := hq33
      try have hz33 : z33.toInt = z23.toInt + 8 := by omega
      refine And.intro ⟨(show 0 ≤ z23.toInt from by first | assumption | omega), (show z23.toInt ≤ z33.toInt from by first | assumption | omega), (show z33.toInt ≤ 2400 from by first | assumption | omega)⟩ ?_
      intro I37 L37 hq37
      have hq37 : I37 = I ∧ f_fr [70] L L37 ∧ ((∀ j : Nat, (j < z23.toInt.toNat ∨ z33.toInt.toNat ≤ j) → L37 70 j = L 70 j)) ∧ ((∀ j : Nat, z23.toInt.toNat ≤ j → j < z33.toInt.toNat → L37 70 j = (-1 : Int64))) := hq37
      obtain ⟨eI37, c37_1, c37_2, c37_3⟩ := hq37
      replace eI37 := eI37.symm
      subst eI37
      have hG37 := f_fr_tr hG0 c37_1 rfl
      have a6 : ∀ j, (j < 8 * (I 69 5).toInt.toNat ∨ 8 * (I 69 5).toInt.toNat + 8 ≤ j) → L37 70 j = L 70 j := fun j hj => c37_2 j (by omega)
      have a8 : ∀ s : Nat, (0 : Int) ≤ (s : Int) → s < 64 → kb L37 (I 69 5).toInt.toNat s = 255 := fun s _ hs => by
        unfold kb
        rw [c37_3 _ (by omega) (by omega)]
        have := bb_m1 (s % 8) (by omega)
        exact congrArg Int.ofNat this
      have r42_2 : 0 ≤ (I 31 9).toInt ∧ (I 31 9).toInt ≤ 20 := hR 31 9
      exact ⟨z23, Int32.ofInt 0, (by intro q9 h9; simp only [List.mem_cons, List.not_mem_nil, or_false] at h9; rcases h9 with h9 | h9 | h9 <;> subst h9 <;> repeat (first | exact List.mem_cons_self | apply List.mem_cons_of_mem)), rfl, hR, hF0, hG37, (show z23.toInt = 8 * (I 69 5).toInt from by first | assumption | omega | rfl), (show (I 69 5).toInt = (I 69 5).toInt from by first | assumption | omega | rfl), (show (I 69 5).toInt < 300 from by first | assumption | omega), (show 0 ≤ (0 : Int) from by first | assumption | omega), (show (0 : Int) ≤ (I 31 9).toInt from by first | assumption | omega), (show (∀ j, (j < 8 * (I 69 5).toInt.toNat ∨ 8 * (I 69 5).toInt.toNat + 8 ≤ j) → L37 70 j = L 70 j) from by first | assumption | omega | exact fun _ _ => rfl | exact fun _ _ => ⟨rfl, rfl⟩ | exact fun _ _ => ⟨rfl, rfl, rfl⟩ | (intro j9 hj9; omega)), (show (∀ s : Nat, (s : Int) < (0 : Int) → kb L37 (I 69 5).toInt.toNat s = (I 37 s).toInt) from by first | assumption | omega | exact fun _ _ => rfl | exact fun _ _ => ⟨rfl, rfl⟩ | exact fun _ _ => ⟨rfl, rfl, rfl⟩ | (intro j9 hj9; omega)), (show (∀ s : Nat, (0 : Int) ≤ (s : Int) → s < 64 → kb L37 (I 69 5).toInt.toNat s = 255) from by first | assumption | omega | exact fun _ _ => rfl | exact fun _ _ => ⟨rfl, rfl⟩ | exact fun _ _ => ⟨rfl, rfl, rfl⟩ | (intro j9 hj9; omega)), (show ((I 31 9).toInt - (0 : Int)) < 21 from by omega)⟩
    · intro h7
      have h7 : 300 ≤ (I 69 5).toInt := h7
      refine And.intro (Or.inr rfl) ?_
      have hR12 := xR_f (k := 69) (j := 6) (x := Int32.ofInt 1) hR (by exact f_rng _)
      have hF12 := f_fr_up (k := 69) (r := va_up (I 69) 6 (Int32.ofInt 1)) hF0 rfl
      exact ⟨Or.inr rfl, hR12, hF12, hG0, (fun r hr => good_congr hR rfl rfl rfl rfl (fun _ _ => rfl) (p2 r hr)), (show ((1 : Int) = 0 ∨ (1 : Int) = 1) from by first | assumption | omega | rfl)⟩
