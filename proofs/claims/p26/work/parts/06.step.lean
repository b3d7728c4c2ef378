/-! ONE INSTRUCTION over flat memory, as a predicate on what comes behind it -/
/-- a call's contract: how many arguments, 0 void 1 int 2 long 3 boolean, the class of the receiver, what must hold, what then holds -/
abbrev fS : Type := Nat × Nat × Nat × (List Value → fM → fN → Prop) × (List Value → fM → fN → Value → fM → fN → Prop)
def f_K (rk : Nat) (P : Value → fM → fN → Prop) (r : Option Value) (I : fM) (L : fN) : Prop := match rk, r with
  | 0, none => P .null I L
  | 1, some (.int x) => P (.int x) I L
  | 2, some (.long x) => P (.long x) I L
  | 3, some (.int x) => P (.int x) I L
  | _, _ => False
def f_call (na rk : Nat) (pre : List Value → fM → fN → Prop) (post : List Value → fM → fN → Value → fM → fN → Prop) (nx : List Value → fM → fN → Prop) (st : List Value) (I : fM) (L : fN) : Prop :=
  if na ≤ st.length ∧ ((st.drop na).map Value.category).sum ≤ 8 then
    pre (st.take na).reverse I L ∧ (match rk with
      | 0 => ∀ (I' : fM) (L' : fN), post (st.take na).reverse I L .null I' L' → nx (st.drop na) I' L'
      | 2 => ∀ (x : Int64) (I' : fM) (L' : fN), post (st.take na).reverse I L (.long x) I' L' → nx (.long x :: st.drop na) I' L'
      | _ => ∀ (x : Int32) (I' : fM) (L' : fN), post (st.take na).reverse I L (.int x) I' L' → nx (.int x :: st.drop na) I' L')
  else False
def f_get (Y : fY) (fr : Nat → Option (Nat × Nat × Nat)) (j k : Nat) (I : fM) (L : fN) (nx : Value → Prop) : Prop := match fr j, Y k with
  | some (ci, sl, _), .inr (ci', ds) => (match ds[sl]? with
    | some d => if ci = ci' then nx (f_slot d (I k sl) (L k sl)) else False
    | none => False)
  | _, _ => False
def f_put (Y : fY) (fr : Nat → Option (Nat × Nat × Nat)) (j k : Nat) (v : Value) (I : fM) (L : fN) (nx : fM → fN → Prop) : Prop := match fr j, Y k with
  | some (ci, sl, w), .inr (ci', ds) => if ci = ci' then (match ds[sl]?, w, v with
    | some (0, _), 1, .int x => nx (va_up I k (va_up (I k) sl x)) L
    | some (1, _), 2, .int x => (x = 0 ∨ x = 1) ∧ nx (va_up I k (va_up (I k) sl x)) L
    | some (2, _), 3, .long x => nx I (va_up L k (va_up (L k) sl x))
    | some (4, _), 4, .ref q => q < 1000 ∧ nx (va_up I k (va_up (I k) sl (Int32.ofNat q))) L
    | _, _, _ => False) else False
  | _, _ => False
def f_in (i : Int32) (n : Nat) : Prop := 0 ≤ i.toInt ∧ i.toInt < (n : Int)
theorem f_in_vp {i : Int32} {n : Nat} (h : f_in i n) : vp_in i n := vp_in_iff.mpr h
/-- a number that may wrap around -/
def f_ar (e : Int32) (v : Int) (k : Int32 → Prop) : Prop := ∀ (z : Int32) (q : Int), z = e → z.toInt = v + 4294967296 * q → -2147483648 ≤ z.toInt → z.toInt ≤ 2147483647 → k z
theorem f_rng (x : Int32) : -2147483648 ≤ x.toInt ∧ x.toInt ≤ 2147483647 := ⟨Int32.le_toInt x, by have h := Int32.toInt_lt x; omega⟩
theorem f_bm (v : Int) : ∃ q : Int, v.bmod (2 ^ 32) = v + 4294967296 * q := by
  refine ⟨(v.bmod (2 ^ 32) - v) / 4294967296, ?_⟩
  rw [Int.bmod_def]
  split <;> omega
theorem f_ar_el {e : Int32} {v : Int} {k : Int32 → Prop} (h : f_ar e v k) (hm : ∃ q : Int, e.toInt = v + 4294967296 * q) : k e := by
  obtain ⟨q, hq⟩ := hm
  exact h e q rfl hq (f_rng e).1 (f_rng e).2
theorem f_add_q (x y : Int32) : ∃ q : Int, (x + y).toInt = x.toInt + y.toInt + 4294967296 * q := by rw [Int32.toInt_add]; exact f_bm _
theorem f_sub_q (x y : Int32) : ∃ q : Int, (x - y).toInt = x.toInt - y.toInt + 4294967296 * q := by rw [Int32.toInt_sub]; exact f_bm _
theorem f_mul_q (x y : Int32) : ∃ q : Int, (x * y).toInt = x.toInt * y.toInt + 4294967296 * q := by rw [Int32.toInt_mul]; exact f_bm _
theorem f_neg_q (x : Int32) : ∃ q : Int, (-x).toInt = -x.toInt + 4294967296 * q := by rw [Int32.toInt_neg]; exact f_bm _
theorem f_inc_q (x : Int32) (d : Int) : ∃ q : Int, (x + Int32.ofInt d).toInt = x.toInt + d + 4294967296 * q := by
  obtain ⟨q1, h1⟩ := f_add_q x (Int32.ofInt d)
  obtain ⟨q2, h2⟩ := f_bm d
  rw [Int32.toInt_ofInt] at h1
  refine ⟨q1 + q2, ?_⟩
  rw [h1, show (Int32.size : Nat) = 2 ^ 32 from rfl, h2]
  omega
theorem f_ci {n : Int} (h1 : -2147483648 ≤ n) (h2 : n ≤ 2147483647) : (Int32.ofInt n).toInt = n := by
  rw [Int32.toInt_ofInt, show (Int32.size : Nat) = 2 ^ 32 from rfl, Int.bmod_def]
  split <;> omega
/-- a jump's target -/
def f_br (pc : Nat) (off : Int) (k : Nat → Prop) : Prop := match (pc : Int) + off with
  | .ofNat t => k t
  | .negSucc _ => False
theorem f_br_inv {pc : Nat} {off : Int} {k : Nat → Prop} (h : f_br pc off k) : ∃ t : Nat, (pc : Int) + off = (t : Int) ∧ k t := by
  unfold f_br at h; split at h
  · next t e => exact ⟨t, e, h⟩
  · exact h.elim
def f_step (Y : fY) (fr : Nat → Option (Nat × Nat × Nat)) (cs cz : Nat → Option fS) (cn : Nat → Option Int32) (cm : Nat → Option Int64) (sn : Option Nat) (nL rk : Nat) (K : Option Value → fM → fN → Prop)
    (nx : fLs → List Value → fM → fN → Prop) (jp : Nat → fLs → List Value → fM → fN → Prop) (pc : Nat) (i : Instr) (ls : fLs) (st : List Value) (I : fM) (L : fN) : Prop :=
  match i with
  | .aload n => f_lda n ls (fun v => nx ls (v :: st) I L)
  | .aload_n n => f_lda n.val ls (fun v => nx ls (v :: st) I L)
  | .iload n => f_ldi n ls (fun x => nx ls (.int x :: st) I L)
  | .iload_n n => f_ldi n.val ls (fun x => nx ls (.int x :: st) I L)
  | .lload n => f_ldl n ls (fun x => nx ls (.long x :: st) I L)
  | .lload_n n => f_ldl n.val ls (fun x => nx ls (.long x :: st) I L)
  | .istore n => f_1i st (fun x r => if n < nL then nx (f_st n (.int x) ls) r I L else False)
  | .istore_n n => f_1i st (fun x r => if n.val < nL then nx (f_st n.val (.int x) ls) r I L else False)
  | .lstore n => f_1l st (fun x r => if n + 1 < nL then nx (f_st2 n (.long x) ls) r I L else False)
  | .lstore_n n => f_1l st (fun x r => if n.val + 1 < nL then nx (f_st2 n.val (.long x) ls) r I L else False)
  | .astore n => f_1r st (fun q r => if n < nL then nx (f_st n (.ref q) ls) r I L else False)
  | .astore_n n => f_1r st (fun q r => if n.val < nL then nx (f_st n.val (.ref q) ls) r I L else False)
  | .iinc n d => f_ldi n ls (fun x => if n < nL then f_ar (x + Int32.ofInt d) (x.toInt + d) (fun z => nx (f_st n (.int z) ls) st I L) else False)
  | .aconst_null => nx ls (.null :: st) I L
  | .iconst n => nx ls (.int (Int32.ofInt n) :: st) I L
  | .bipush n => if (Int8.ofInt n).toInt32 = Int32.ofInt n then nx ls (.int (Int32.ofInt n) :: st) I L else False
  | .sipush n => if (Int16.ofInt n).toInt32 = Int32.ofInt n then nx ls (.int (Int32.ofInt n) :: st) I L else False
  | .lconst n => nx ls (.long (Int64.ofNat n.val) :: st) I L
  | .ldc j => (match cn j with | some v => nx ls (.int v :: st) I L | none => if sn = some j then nx ls (.ref 1000 :: st) I L else False)
  | .ldc_w j => (match cn j with | some v => nx ls (.int v :: st) I L | none => False)
  | .ldc2_w j => (match cm j with | some v => nx ls (.long v :: st) I L | none => False)
  | .iadd => f_2i st (fun x y r => f_ar (x + y) (x.toInt + y.toInt) (fun z => nx ls (.int z :: r) I L))
  | .isub => f_2i st (fun x y r => f_ar (x - y) (x.toInt - y.toInt) (fun z => nx ls (.int z :: r) I L))
  | .imul => f_2i st (fun x y r => f_ar (x * y) (x.toInt * y.toInt) (fun z => nx ls (.int z :: r) I L))
  | .iand => f_2i st (fun x y r => nx ls (.int (x &&& y) :: r) I L)
  | .ior => f_2i st (fun x y r => nx ls (.int (x ||| y) :: r) I L)
  | .ixor => f_2i st (fun x y r => nx ls (.int (x ^^^ y) :: r) I L)
  | .ishl => f_2i st (fun x y r => nx ls (.int (x <<< (y &&& 31)) :: r) I L)
  | .ishr => f_2i st (fun x y r => nx ls (.int (x >>> (y &&& 31)) :: r) I L)
  | .iushr => f_2i st (fun x y r => nx ls (.int ((x.toUInt32 >>> (y.toUInt32 &&& Int32.toUInt32 31)).toInt32) :: r) I L)
  | .idiv => f_2i st (fun x y r => ¬ y = 0 ∧ nx ls (.int (x / y) :: r) I L)
  | .irem => f_2i st (fun x y r => ¬ y = 0 ∧ nx ls (.int (x - x / y * y) :: r) I L)
  | .ineg => f_1i st (fun x r => f_ar (-x) (-x.toInt) (fun z => nx ls (.int z :: r) I L))
  | .ladd => f_2l st (fun x y r => nx ls (.long (x + y) :: r) I L)
  | .lsub => f_2l st (fun x y r => nx ls (.long (x - y) :: r) I L)
  | .lmul => f_2l st (fun x y r => nx ls (.long (x * y) :: r) I L)
  | .land => f_2l st (fun x y r => nx ls (.long (x &&& y) :: r) I L)
  | .lor => f_2l st (fun x y r => nx ls (.long (x ||| y) :: r) I L)
  | .lxor => f_2l st (fun x y r => nx ls (.long (x ^^^ y) :: r) I L)
  | .lshl => f_li st (fun x y r => nx ls (.long (x <<< (y.toInt64 &&& 63)) :: r) I L)
  | .lshr => f_li st (fun x y r => nx ls (.long (x >>> (y.toInt64 &&& 63)) :: r) I L)
  | .lcmp => f_2l st (fun x y r => nx ls (.int (lg_cmp x y) :: r) I L)
  | .i2l => f_1i st (fun x r => nx ls (.long x.toInt64 :: r) I L)
  | .l2i => f_1l st (fun x r => nx ls (.int x.toInt32 :: r) I L)
  | .i2b => f_1i st (fun x r => nx ls (.int x.toInt8.toInt32 :: r) I L)
  | .i2c => f_1i st (fun x r => nx ls (.int (x.toUInt32 % 65536).toInt32 :: r) I L)
  | .dup => (match st with | v :: r => if v.category = 1 then nx ls (v :: v :: r) I L else False | _ => False)
  | .dup2 => (match st with | v :: u :: r => if v.category = 1 ∧ u.category = 1 then nx ls (v :: u :: v :: u :: r) I L else False | _ => False)
  | .pop => (match st with | v :: r => if v.category = 1 then nx ls r I L else False | _ => False)
  | .getfield j => f_1r st (fun k r => f_get Y fr j k I L (fun v => nx ls (v :: r) I L))
  | .putfield j => (match st with | v :: .ref k :: r => f_put Y fr j k v I L (fun I' L' => nx ls r I' L') | _ => False)
  | .iaload => f_ir st (fun k i r => match Y k with | .inl (0, n) => f_in i n ∧ nx ls (.int (I k i.toNatClampNeg) :: r) I L | _ => False)
  | .laload => f_ir st (fun k i r => match Y k with | .inl (1, n) => f_in i n ∧ nx ls (.long (L k i.toNatClampNeg) :: r) I L | _ => False)
  | .baload => f_ir st (fun k i r => match Y k with
    | .inl (2, n) => f_in i n ∧ nx ls (.int (I k i.toNatClampNeg) :: r) I L
    | .inl (3, n) => f_in i n ∧ nx ls (.int (I k i.toNatClampNeg) :: r) I L
    | _ => False)
  | .aaload => f_ir st (fun k i r => match Y k with
    | .inl (t + 4, n) => f_in i n ∧ ∀ j : Nat, i.toNatClampNeg = j → nx ls (.ref (t + 4 + 7 * j) :: r) I L
    | _ => False)
  | .iastore => f_iir st (fun k i x r => match Y k with | .inl (0, n) => f_in i n ∧ nx ls r (va_up I k (upd (I k) i.toNatClampNeg x)) L | _ => False)
  | .lastore => f_lir st (fun k i x r => match Y k with | .inl (1, n) => f_in i n ∧ nx ls r I (va_up L k (vp_updL (L k) i.toNatClampNeg x)) | _ => False)
  | .bastore => f_iir st (fun k i x r => match Y k with
    | .inl (2, n) => f_in i n ∧ nx ls r (va_up I k (upd (I k) i.toNatClampNeg (vp_nar .byte x))) L
    | .inl (3, n) => f_in i n ∧ nx ls r (va_up I k (upd (I k) i.toNatClampNeg (vp_nar .boolean x))) L
    | _ => False)
  | .arraylength => f_1r st (fun k r => match Y k with
    | .inl (0, n) => nx ls (.int (Int32.ofNat n) :: r) I L
    | .inl (1, n) => nx ls (.int (Int32.ofNat n) :: r) I L
    | _ => False)
  | .if_icmp .eq off => f_2i st (fun x y r => f_br pc off (fun t => (x.toInt = y.toInt → jp t ls r I L) ∧ (¬ x.toInt = y.toInt → nx ls r I L)))
  | .if_icmp .ne off => f_2i st (fun x y r => f_br pc off (fun t => (¬ x.toInt = y.toInt → jp t ls r I L) ∧ (x.toInt = y.toInt → nx ls r I L)))
  | .if_icmp .lt off => f_2i st (fun x y r => f_br pc off (fun t => (x.toInt < y.toInt → jp t ls r I L) ∧ (y.toInt ≤ x.toInt → nx ls r I L)))
  | .if_icmp .ge off => f_2i st (fun x y r => f_br pc off (fun t => (y.toInt ≤ x.toInt → jp t ls r I L) ∧ (x.toInt < y.toInt → nx ls r I L)))
  | .if_icmp .gt off => f_2i st (fun x y r => f_br pc off (fun t => (y.toInt < x.toInt → jp t ls r I L) ∧ (x.toInt ≤ y.toInt → nx ls r I L)))
  | .if_icmp .le off => f_2i st (fun x y r => f_br pc off (fun t => (x.toInt ≤ y.toInt → jp t ls r I L) ∧ (y.toInt < x.toInt → nx ls r I L)))
  | .ifCond .eq off => f_1i st (fun x r => f_br pc off (fun t => (x.toInt = 0 → jp t ls r I L) ∧ (¬ x.toInt = 0 → nx ls r I L)))
  | .ifCond .ne off => f_1i st (fun x r => f_br pc off (fun t => (¬ x.toInt = 0 → jp t ls r I L) ∧ (x.toInt = 0 → nx ls r I L)))
  | .ifCond .lt off => f_1i st (fun x r => f_br pc off (fun t => (x.toInt < 0 → jp t ls r I L) ∧ (0 ≤ x.toInt → nx ls r I L)))
  | .ifCond .ge off => f_1i st (fun x r => f_br pc off (fun t => (0 ≤ x.toInt → jp t ls r I L) ∧ (x.toInt < 0 → nx ls r I L)))
  | .ifCond .gt off => f_1i st (fun x r => f_br pc off (fun t => (0 < x.toInt → jp t ls r I L) ∧ (x.toInt ≤ 0 → nx ls r I L)))
  | .ifCond .le off => f_1i st (fun x r => f_br pc off (fun t => (x.toInt ≤ 0 → jp t ls r I L) ∧ (0 < x.toInt → nx ls r I L)))
  | .ifnull off => (match st with | .ref _ :: r => nx ls r I L | .null :: r => f_br pc off (fun t => jp t ls r I L) | _ => False)
  | .ifnonnull off => (match st with | .ref _ :: r => f_br pc off (fun t => jp t ls r I L) | .null :: r => nx ls r I L | _ => False)
  | .goto off => f_br pc off (fun t => jp t ls st I L)
  | .tableswitch dflt lo hi offs => f_1i st (fun x r => (x.toInt < lo ∨ hi < x.toInt → f_br pc dflt (fun t => jp t ls r I L)) ∧ (¬ x.toInt < lo → ¬ hi < x.toInt → ∃ off, offs[(x.toInt - lo).toNat]? = some off ∧ f_br pc off (fun t => jp t ls r I L)))
  | .ireturn => (match st with
    | [.int x] => (match rk with | 1 => K (some (.int x)) I L | 3 => (x = 0 ∨ x = 1) ∧ K (some (.int x)) I L | _ => False)
    | _ => False)
  | .lreturn => (match st with
    | [.long x] => (match rk with | 2 => K (some (.long x)) I L | _ => False)
    | _ => False)
  | .return_ => (match st with
    | [] => (match rk with | 0 => K none I L | _ => False)
    | _ => False)
  | .invokevirtual j => (match cs j with
    | some (na, rk', ci, pre, post) => (match (st.take na).reverse with
      | .ref k :: _ => (match Y k with
        | .inr (ci', _) => if ci = ci' then f_call na rk' pre post (fun st' I' L' => nx ls st' I' L') st I L else False
        | _ => False)
      | _ => False)
    | none => False)
  | .invokestatic j => (match cz j with
    | some (na, rk', _, pre, post) => f_call na rk' pre post (fun st' I' L' => nx ls st' I' L') st I L
    | none => False)
  | _ => False
/-- how long an instruction is; 0 where it isn't said -/
def f_len : Instr → Nat
  | .aload _ | .iload _ | .lload _ | .istore _ | .lstore _ | .astore _ | .bipush _ | .ldc _ => 2
  | .iinc _ _ | .sipush _ | .ldc_w _ | .ldc2_w _ | .getfield _ | .putfield _ | .if_icmp _ _ | .ifCond _ _ | .ifnull _ | .ifnonnull _ | .goto _ | .invokevirtual _ | .invokestatic _ => 3
  | .tableswitch _ _ _ _ | .new _ | .invokespecial _ => 0
  | _ => 1
def f_chk (cc : ByteArray) : Nat → List (Instr × Nat) → Bool
  | _, [] => true
  | pc, (i, n) :: r => decide (decode cc pc = .ok (i, n)) && (f_len i == 0 || f_len i == n) && f_chk cc (pc + n) r
def f_seek (t : Nat) : Nat → List (Instr × Nat) → List (Instr × Nat)
  | _, [] => []
  | pc, (i, n) :: r => if pc = t then (i, n) :: r else f_seek t (pc + n) r
theorem f_seek_ok {cc : ByteArray} (t : Nat) : ∀ (pc : Nat) (code : List (Instr × Nat)), f_chk cc pc code = true → f_chk cc t (f_seek t pc code) = true
  | _, [], _ => rfl
  | pc, (i, n) :: r, h => by
    unfold f_seek
    by_cases e : pc = t
    · rw [if_pos e, ← e]; exact h
    · rw [if_neg e]
      simp only [f_chk, Bool.and_eq_true] at h
      exact f_seek_ok t (pc + n) r h.2
/-- what must hold at pc so that the method goes through to its end, or to a cut -/
def f_wp (Y : fY) (fr : Nat → Option (Nat × Nat × Nat)) (cs cz : Nat → Option fS) (cn : Nat → Option Int32) (cm : Nat → Option Int64) (sn : Option Nat) (nL rk : Nat) (K : Option Value → fM → fN → Prop) (full : List (Instr × Nat)) (cut : Nat → Option (fLs → List Value → fM → fN → Prop)) : Nat → Nat → List (Instr × Nat) → fLs → List Value → fM → fN → Prop
  | 0, _, _, _, _, _, _ => False
  | _ + 1, _, [], _, _, _, _ => False
  | n + 1, pc, (i, len) :: r, ls, st, I, L => f_step Y fr cs cz cn cm sn nL rk K
      (fun ls st I L => match cut (pc + len) with
        | some P => P ls st I L
        | none => f_wp Y fr cs cz cn cm sn nL rk K full cut n (pc + len) r ls st I L)
      (fun t ls st I L => match cut t with
        | some P => P ls st I L
        | none => f_wp Y fr cs cz cn cm sn nL rk K full cut n t (f_seek t 0 full) ls st I L) pc i ls st I L
