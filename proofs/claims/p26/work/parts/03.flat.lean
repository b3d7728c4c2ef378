/-! FLAT MEMORY: the cells of a made world by number; ints I k j and longs L k j; references are numbers of cells -/
abbrev fM : Type := Nat → Nat → Int32
abbrev fN : Type := Nat → Nat → Int64
abbrev fLs : Type := List (Nat × Value)
abbrev fYd : Type := (Nat × Nat) ⊕ (Nat × List (Nat × Nat))
abbrev fY : Type := Nat → fYd
/-- a value with cells by number, as the machine has it -/
def f_tr (a : Nat → Nat) : Value → Value
  | .ref k => .ref (a k)
  | v => v
theorem f_tr_cat (a : Nat → Nat) (v : Value) : (f_tr a v).category = v.category := by cases v <;> rfl
def f_trl (a : Nat → Nat) (ls : fLs) : fLs := ls.map (fun q => (q.1, f_tr a q.2))
/-- a field: 0 int, 1 boolean, 2 long, 3 a fixed cell, else a cell by its number -/
def f_slot (d : Nat × Nat) (i : Int32) (w : Int64) : Value := match d with
  | (0, _) => .int i
  | (1, _) => .int i
  | (2, _) => .long w
  | (3, t) => .ref t
  | (_, _) => .ref i.toNatClampNeg
def f_fs (a : Nat → Nat) (i : Nat → Int32) (w : Nat → Int64) (ds : List (Nat × Nat)) : List Value := ds.mapIdx (fun j d => f_tr a (f_slot d (i j) (w j)))
theorem f_fs_at (a : Nat → Nat) (i : Nat → Int32) (w : Nat → Int64) {ds : List (Nat × Nat)} {j : Nat} {d : Nat × Nat} (h : ds[j]? = some d) : (f_fs a i w ds)[j]? = some (f_tr a (f_slot d (i j) (w j))) := by
  simp [f_fs, List.getElem?_mapIdx, h]
theorem f_fs_setI (a : Nat → Nat) (i : Nat → Int32) (w : Nat → Int64) {ds : List (Nat × Nat)} {j : Nat} {d : Nat × Nat} (h : ds[j]? = some d) (x : Int32) : (f_fs a i w ds).set j (f_tr a (f_slot d x (w j))) = f_fs a (va_up i j x) w ds := by
  apply List.ext_getElem?
  intro k
  by_cases hk : j = k
  · subst hk
    have hl : j < (f_fs a i w ds).length := by
      simp only [f_fs, List.length_mapIdx]
      exact (List.getElem?_eq_some_iff.mp h).1
    rw [List.getElem?_set_self hl, f_fs_at a _ w h, va_up_self]
  · rw [List.getElem?_set_ne hk]
    simp only [f_fs, List.getElem?_mapIdx]
    rw [va_up_ne _ _ (fun e => hk e.symm)]
theorem f_fs_setL (a : Nat → Nat) (i : Nat → Int32) (w : Nat → Int64) {ds : List (Nat × Nat)} {j : Nat} {d : Nat × Nat} (h : ds[j]? = some d) (x : Int64) : (f_fs a i w ds).set j (f_tr a (f_slot d (i j) x)) = f_fs a i (va_up w j x) ds := by
  apply List.ext_getElem?
  intro k
  by_cases hk : j = k
  · subst hk
    have hl : j < (f_fs a i w ds).length := by
      simp only [f_fs, List.length_mapIdx]
      exact (List.getElem?_eq_some_iff.mp h).1
    rw [List.getElem?_set_self hl, f_fs_at a i _ h, va_up_self]
  · rw [List.getElem?_set_ne hk]
    simp only [f_fs, List.getElem?_mapIdx]
    rw [va_up_ne _ _ (fun e => hk e.symm)]
/-- a cell by its layout: arrays .inl (0 int, 1 long, 2 byte, 3 boolean, else of references: cells t, t + 7, ..; length), objects .inr (number of the class, fields) -/
def f_cell (Y : fY) (a : Nat → Nat) (cy : Nat → ClassId) (k : Nat) (i : Nat → Int32) (w : Nat → Int64) : va_E := match Y k with
  | .inl (0, n) => .inl (cy 0, n, .inl i)
  | .inl (1, n) => .inl (cy 1, n, .inr (.inl w))
  | .inl (2, n) => .inl (cy 2, n, .inl i)
  | .inl (3, n) => .inl (cy 3, n, .inl i)
  | .inl (t, n) => .inl (cy 4, n, .inr (.inr (.inr (.inr (fun j => some (a (t + 7 * j)))))))
  | .inr (ci, ds) => .inr (ci, f_fs a i w ds)
def f_w (Y : fY) (NC : Nat) (a : Nat → Nat) (cy : Nat → ClassId) (I : fM) (L : fN) : va_W := (List.range NC).map (fun k => (a k, f_cell Y a cy k (I k) (L k)))
theorem f_w_at (Y : fY) {NC : Nat} (a : Nat → Nat) (cy : Nat → ClassId) (I : fM) (L : fN) {k : Nat} (hk : k < NC) : (f_w Y NC a cy I L)[k]? = some (a k, f_cell Y a cy k (I k) (L k)) := by
  simp [f_w, hk]
theorem f_w_inv {Y : fY} {NC : Nat} {a : Nat → Nat} {cy : Nat → ClassId} {I : fM} {L : fN} {k : Nat} {q : Nat × va_E} (h : (f_w Y NC a cy I L)[k]? = some q) : k < NC ∧ q.1 = a k := by
  have hl := (List.getElem?_eq_some_iff.mp h).1
  simp only [f_w, List.length_map, List.length_range] at hl
  rw [f_w_at Y a cy I L hl] at h
  cases h
  exact ⟨hl, rfl⟩
theorem f_up_id {α : Type} (f : Nat → α) (k : Nat) : va_up f k (f k) = f := by
  funext j
  by_cases h : j = k
  · subst h; rw [va_up_self]
  · rw [va_up_ne _ _ h]
theorem f_w_setI (Y : fY) {NC : Nat} (a : Nat → Nat) (cy : Nat → ClassId) (I : fM) (L : fN) {k : Nat} (hk : k < NC) (i : Nat → Int32) : (f_w Y NC a cy I L).set k (a k, f_cell Y a cy k i (L k)) = f_w Y NC a cy (va_up I k i) L := by
  apply List.ext_getElem?
  intro j
  by_cases h : k = j
  · subst h
    rw [List.getElem?_set_self (by simp [f_w, hk]), f_w_at Y a cy _ _ hk, va_up_self]
  · rw [List.getElem?_set_ne h]
    by_cases hj : j < NC
    · rw [f_w_at Y a cy _ _ hj, f_w_at Y a cy _ _ hj, va_up_ne _ _ (fun e => h e.symm)]
    · rw [List.getElem?_eq_none (by simp [f_w]; omega), List.getElem?_eq_none (by simp [f_w]; omega)]
theorem f_w_setL (Y : fY) {NC : Nat} (a : Nat → Nat) (cy : Nat → ClassId) (I : fM) (L : fN) {k : Nat} (hk : k < NC) (w : Nat → Int64) : (f_w Y NC a cy I L).set k (a k, f_cell Y a cy k (I k) w) = f_w Y NC a cy I (va_up L k w) := by
  apply List.ext_getElem?
  intro j
  by_cases h : k = j
  · subst h
    rw [List.getElem?_set_self (by simp [f_w, hk]), f_w_at Y a cy _ _ hk, va_up_self]
  · rw [List.getElem?_set_ne h]
    by_cases hj : j < NC
    · rw [f_w_at Y a cy _ _ hj, f_w_at Y a cy _ _ hj, va_up_ne _ _ (fun e => h e.symm)]
    · rw [List.getElem?_eq_none (by simp [f_w]; omega), List.getElem?_eq_none (by simp [f_w]; omega)]
def f_A (NC : Nat) (a : Nat → Nat) : Nat → Prop := fun q => ∃ k, k < NC ∧ a k = q
theorem f_w_D (Y : fY) {NC : Nat} {a : Nat → Nat} (cy : Nat → ClassId) (I : fM) (L : fN) (hinj : ∀ i j, i < NC → j < NC → a i = a j → i = j) : va_D (f_A NC a) (f_w Y NC a cy I L) := by
  refine ⟨fun i j x y hi hj hxy => ?_, fun k q hk => ?_⟩
  · obtain ⟨h1, h2⟩ := f_w_inv hi
    obtain ⟨h3, h4⟩ := f_w_inv hj
    exact hinj i j h1 h3 (by rw [← h2, ← h4]; exact hxy)
  · obtain ⟨h1, h2⟩ := f_w_inv hk
    exact ⟨k, h1, h2.symm⟩
def f_tys (cy : Nat → ClassId) : List (ClassId × FieldType) := [(cy 0, .int), (cy 1, .long), (cy 2, .byte), (cy 3, .boolean), (cy 4, .object RX2)]
/-- the words that every method here has: those of the tables that stay good -/
def fT : List Cond := lw_tbl.filter goodWord
theorem fT_in {w : Cond} (h : w ∈ lw_tbl) (hg : goodWord w = true) : w ∈ fT := List.mem_filter.mpr ⟨h, hg⟩
theorem fT_good {w : Cond} (h : w ∈ fT) : (w.onTables && w.keeps) = true ∨ ∃ ty, w = .arrayClass ty := good_of_word (List.mem_filter.mp h).2
/-- locals -/
def f_lk (i : Nat) (ls : fLs) : Option Value := (ls.find? (fun q => q.1 == i)).map (fun q => q.2)
def f_st (i : Nat) (v : Value) (ls : fLs) : fLs := (i, v) :: ls.filter (fun q => !(q.1 == i) && !(q.1 + 1 == i && q.2.category == 2))
def f_st2 (i : Nat) (v : Value) (ls : fLs) : fLs := (i, v) :: ls.filter (fun q => !(q.1 == i) && (!(q.1 == i + 1) && !(q.1 + 1 == i && q.2.category == 2)))
theorem f_lk_has {a : Nat → Nat} {la : Array Slot} {nL : Nat} {ls : fLs} {i : Nat} {v : Value} (h : lv_has la nL (f_trl a ls)) (hk : f_lk i ls = some v) : la[i]? = some (.val (f_tr a v)) := by
  unfold f_lk at hk
  cases hf : ls.find? (fun q => q.1 == i) with
  | none => rw [hf] at hk; cases hk
  | some q =>
    rw [hf] at hk
    cases hk
    have h1 := List.mem_of_find?_eq_some hf
    have h2 : q.1 = i := by simpa using List.find?_some hf
    subst h2
    exact h.2.2 (q.1, f_tr a q.2) (List.mem_map.mpr ⟨q, h1, rfl⟩)
theorem f_trl_filter (a : Nat → Nat) (ls : fLs) (g : Nat → Nat → Bool) : (f_trl a ls).filter (fun q => g q.1 q.2.category) = f_trl a (ls.filter (fun q => g q.1 q.2.category)) := by
  unfold f_trl
  rw [List.filter_map]
  congr 1
  apply List.filter_congr
  intro q _
  simp [f_tr_cat]
theorem f_st_tr (a : Nat → Nat) (i : Nat) (v : Value) (ls : fLs) : (i, f_tr a v) :: (f_trl a ls).filter (fun q => !(q.1 == i) && !(q.1 + 1 == i && q.2.category == 2)) = f_trl a (f_st i v ls) := by
  rw [f_trl_filter a ls (fun x y => !(x == i) && !(x + 1 == i && y == 2))]
  rfl
theorem f_st2_tr (a : Nat → Nat) (i : Nat) (v : Value) (ls : fLs) : (i, f_tr a v) :: (f_trl a ls).filter (fun q => !(q.1 == i) && (!(q.1 == i + 1) && !(q.1 + 1 == i && q.2.category == 2))) = f_trl a (f_st2 i v ls) := by
  rw [f_trl_filter a ls (fun x y => !(x == i) && (!(x == i + 1) && !(x + 1 == i && y == 2)))]
  rfl
theorem f_args_tr (a : Nat → Nat) : ∀ (n : Nat) (vs : List Value), lv_args n (vs.map (f_tr a)) = f_trl a (lv_args n vs)
  | _, [] => rfl
  | n, v :: vs => by
    show (n, f_tr a v) :: lv_args (if (f_tr a v).category = 2 then n + 2 else n + 1) (vs.map (f_tr a)) = (n, f_tr a v) :: f_trl a (lv_args (if v.category = 2 then n + 2 else n + 1) vs)
    rw [f_tr_cat, f_args_tr a _ vs]
/-- pops -/
def f_ldi (n : Nat) (ls : fLs) (k : Int32 → Prop) : Prop := match f_lk n ls with
  | some (.int x) => k x
  | _ => False
def f_ldl (n : Nat) (ls : fLs) (k : Int64 → Prop) : Prop := match f_lk n ls with
  | some (.long x) => k x
  | _ => False
def f_lda (n : Nat) (ls : fLs) (k : Value → Prop) : Prop := match f_lk n ls with
  | some (.ref q) => k (.ref q)
  | some .null => k .null
  | _ => False
def f_1i (st : List Value) (k : Int32 → List Value → Prop) : Prop := match st with
  | .int x :: r => k x r
  | _ => False
def f_2i (st : List Value) (k : Int32 → Int32 → List Value → Prop) : Prop := match st with
  | .int y :: .int x :: r => k x y r
  | _ => False
def f_1l (st : List Value) (k : Int64 → List Value → Prop) : Prop := match st with
  | .long x :: r => k x r
  | _ => False
def f_2l (st : List Value) (k : Int64 → Int64 → List Value → Prop) : Prop := match st with
  | .long y :: .long x :: r => k x y r
  | _ => False
def f_li (st : List Value) (k : Int64 → Int32 → List Value → Prop) : Prop := match st with
  | .int y :: .long x :: r => k x y r
  | _ => False
def f_1r (st : List Value) (k : Nat → List Value → Prop) : Prop := match st with
  | .ref q :: r => k q r
  | _ => False
def f_ir (st : List Value) (k : Nat → Int32 → List Value → Prop) : Prop := match st with
  | .int i :: .ref q :: r => k q i r
  | _ => False
def f_iir (st : List Value) (k : Nat → Int32 → Int32 → List Value → Prop) : Prop := match st with
  | .int x :: .int i :: .ref q :: r => k q i x r
  | _ => False
def f_lir (st : List Value) (k : Nat → Int32 → Int64 → List Value → Prop) : Prop := match st with
  | .long x :: .int i :: .ref q :: r => k q i x r
  | _ => False
theorem f_ldi_inv {n : Nat} {ls : fLs} {k : Int32 → Prop} (h : f_ldi n ls k) : ∃ x, f_lk n ls = some (.int x) ∧ k x := by
  unfold f_ldi at h; split at h
  · next x e => exact ⟨x, e, h⟩
  · exact h.elim
theorem f_ldl_inv {n : Nat} {ls : fLs} {k : Int64 → Prop} (h : f_ldl n ls k) : ∃ x, f_lk n ls = some (.long x) ∧ k x := by
  unfold f_ldl at h; split at h
  · next x e => exact ⟨x, e, h⟩
  · exact h.elim
theorem f_lda_inv {n : Nat} {ls : fLs} {k : Value → Prop} (h : f_lda n ls k) : (∃ x, f_lk n ls = some (.ref x) ∧ k (.ref x)) ∨ (f_lk n ls = some .null ∧ k .null) := by
  unfold f_lda at h; split at h
  · next x e => exact Or.inl ⟨x, e, h⟩
  · next e => exact Or.inr ⟨e, h⟩
  · exact h.elim
theorem f_1i_inv {st : List Value} {k : Int32 → List Value → Prop} (h : f_1i st k) : ∃ x r, st = .int x :: r ∧ k x r := by
  unfold f_1i at h; split at h
  · exact ⟨_, _, rfl, h⟩
  · exact h.elim
theorem f_2i_inv {st : List Value} {k : Int32 → Int32 → List Value → Prop} (h : f_2i st k) : ∃ x y r, st = .int y :: .int x :: r ∧ k x y r := by
  unfold f_2i at h; split at h
  · exact ⟨_, _, _, rfl, h⟩
  · exact h.elim
theorem f_1l_inv {st : List Value} {k : Int64 → List Value → Prop} (h : f_1l st k) : ∃ x r, st = .long x :: r ∧ k x r := by
  unfold f_1l at h; split at h
  · exact ⟨_, _, rfl, h⟩
  · exact h.elim
theorem f_2l_inv {st : List Value} {k : Int64 → Int64 → List Value → Prop} (h : f_2l st k) : ∃ x y r, st = .long y :: .long x :: r ∧ k x y r := by
  unfold f_2l at h; split at h
  · exact ⟨_, _, _, rfl, h⟩
  · exact h.elim
theorem f_li_inv {st : List Value} {k : Int64 → Int32 → List Value → Prop} (h : f_li st k) : ∃ x y r, st = .int y :: .long x :: r ∧ k x y r := by
  unfold f_li at h; split at h
  · exact ⟨_, _, _, rfl, h⟩
  · exact h.elim
theorem f_1r_inv {st : List Value} {k : Nat → List Value → Prop} (h : f_1r st k) : ∃ q r, st = .ref q :: r ∧ k q r := by
  unfold f_1r at h; split at h
  · exact ⟨_, _, rfl, h⟩
  · exact h.elim
theorem f_ir_inv {st : List Value} {k : Nat → Int32 → List Value → Prop} (h : f_ir st k) : ∃ q i r, st = .int i :: .ref q :: r ∧ k q i r := by
  unfold f_ir at h; split at h
  · exact ⟨_, _, _, rfl, h⟩
  · exact h.elim
theorem f_iir_inv {st : List Value} {k : Nat → Int32 → Int32 → List Value → Prop} (h : f_iir st k) : ∃ q i x r, st = .int x :: .int i :: .ref q :: r ∧ k q i x r := by
  unfold f_iir at h; split at h
  · exact ⟨_, _, _, _, rfl, h⟩
  · exact h.elim
theorem f_lir_inv {st : List Value} {k : Nat → Int32 → Int64 → List Value → Prop} (h : f_lir st k) : ∃ q i x r, st = .long x :: .int i :: .ref q :: r ∧ k q i x r := by
  unfold f_lir at h; split at h
  · exact ⟨_, _, _, _, rfl, h⟩
  · exact h.elim
def f_frok (own : String) (fr : Nat → Option (Nat × Nat × Nat)) : Prop := ∀ j ci sl w, fr j = some (ci, sl, w) → ∃ (C : String) (T : u_T) (N : Nat), vwCl[ci]? = some (C, T, N) ∧ sl < N ∧ Cond.fieldLink own j (T sl).1 (T sl).2.1 (T sl).2.2.1 ∈ fT ∧
  (w = 0 ∨ ((T sl).2.2.2 = false ∧ ∃ ty, parseFieldDescriptor (T sl).2.2.1 = some ty ∧ ((w = 1 ∧ ty = .int) ∨ (w = 2 ∧ ty = .boolean) ∨ (w = 3 ∧ ty = .long) ∨ (w = 4 ∧ ∃ n, ty = .object n))))
def f_clok : Prop := ∀ (ci : Nat) (C : String) (T : u_T) (N : Nat), vwCl[ci]? = some (C, T, N) → (∀ w ∈ u_ws C T N, w ∈ fT) ∧ ∃ ty0 : Nat → FieldType, (∀ k, k < N → parseFieldDescriptor (T k).2.2.1 = some (ty0 k)) ∧ (∀ a, a < N → ∀ b, b < N → a ≠ b → (T a).2.1 ≠ (T b).2.1)
/-- fields of a constant pool, by a list that a program decides -/
def f_frl (fl : List (Nat × Nat × Nat × Nat)) : Nat → Option (Nat × Nat × Nat) := fun j => (fl.find? (fun q => q.1 == j)).map (fun q => q.2)
def f_fc (own : String) (q : Nat × Nat × Nat × Nat) : Cond := match vwCl[q.2.1]? with
  | some (_, T, _) => Cond.fieldLink own q.1 (T q.2.2.1).1 (T q.2.2.1).2.1 (T q.2.2.1).2.2.1
  | none => Cond.initialized own
def f_frc1 (q : Nat × Nat × Nat × Nat) : Bool := match vwCl[q.2.1]? with
  | some (_, T, N) => decide (q.2.2.1 < N) && (q.2.2.2 == 0 || (!(T q.2.2.1).2.2.2 && (match q.2.2.2, parseFieldDescriptor (T q.2.2.1).2.2.1 with
      | 1, some .int => true
      | 2, some .boolean => true
      | 3, some .long => true
      | 4, some (.object _) => true
      | _, _ => false)))
  | none => false
theorem f_frok_of {own : String} {fl : List (Nat × Nat × Nat × Nat)} (hm : ∀ w ∈ fl.map (f_fc own), w ∈ fT) (h : fl.all f_frc1 = true) : f_frok own (f_frl fl) := by
  intro j ci sl w hj
  unfold f_frl at hj
  cases hf : fl.find? (fun q => q.1 == j) with
  | none => rw [hf] at hj; cases hj
  | some q =>
    rw [hf] at hj
    have h1 := List.mem_of_find?_eq_some hf
    have h2 : q.1 = j := by simpa using List.find?_some hf
    have h3 := List.all_eq_true.mp h q h1
    have h4 := hm _ (List.mem_map.mpr ⟨q, h1, rfl⟩)
    obtain ⟨q1, q2, q3, q4⟩ := q
    cases hj
    dsimp only at h2
    subst h2
    unfold f_frc1 at h3
    unfold f_fc at h4
    dsimp only at h3 h4
    split at h3
    · next C T N hc =>
      rw [hc] at h4
      simp only [Bool.and_eq_true, decide_eq_true_eq, Bool.or_eq_true, beq_iff_eq, Bool.not_eq_true'] at h3
      obtain ⟨g1, g4⟩ := h3
      refine ⟨C, T, N, hc, g1, h4, ?_⟩
      rcases g4 with g4 | ⟨g4, g5⟩
      · exact Or.inl g4
      · refine Or.inr ⟨g4, ?_⟩
        split at g5
        · next e1 e2 => exact ⟨_, e2, Or.inl ⟨rfl, rfl⟩⟩
        · next e1 e2 => exact ⟨_, e2, Or.inr (Or.inl ⟨rfl, rfl⟩)⟩
        · next e1 e2 => exact ⟨_, e2, Or.inr (Or.inr (Or.inl ⟨rfl, rfl⟩))⟩
        · next e1 e2 => exact ⟨_, e2, Or.inr (Or.inr (Or.inr ⟨rfl, _, rfl⟩))⟩
        · cases g5
    · cases h3
def f_cnl {α : Type} (fl : List (Nat × α)) : Nat → Option α := fun j => (fl.find? (fun q => q.1 == j)).map (fun q => q.2)
theorem f_cnl_of {α : Type} {fl : List (Nat × α)} {P : Nat → α → Prop} (h : ∀ q ∈ fl, P q.1 q.2) : ∀ j v, f_cnl fl j = some v → P j v := by
  intro j v hj
  unfold f_cnl at hj
  cases hf : fl.find? (fun q => q.1 == j) with
  | none => rw [hf] at hj; cases hj
  | some q =>
    rw [hf] at hj
    have h1 := List.mem_of_find?_eq_some hf
    have h2 : q.1 = j := by simpa using List.find?_some hf
    cases hj
    subst h2
    exact h q h1
theorem f_pos {ws : List Cond} (ps : List Nat) (h : ws = ps.filterMap (fun i => tables_1[i]?)) (hg : ws.all goodWord = true) : ∀ w ∈ ws, w ∈ fT := by
  intro w hw
  have h1 := List.all_eq_true.mp hg w hw
  rw [h] at hw
  obtain ⟨i, -, hi⟩ := List.mem_filterMap.mp hw
  exact fT_in (List.mem_append_right _ (List.mem_of_getElem? hi)) h1
theorem f_sel {y : MethodName} {n : Nat} (i : Nat) (h : lw_privs[i]? = some (y, n)) : Cond.selects y.cls y y ∈ fT :=
  fT_in (List.mem_append_left _ (List.mem_map.mpr ⟨(y, n), List.mem_of_getElem? h, rfl⟩)) rfl
/-- what a method answers: 0 nothing, 1 int, 2 long, else boolean -/
def f_rt : Nat → Option FieldType
  | 0 => none
  | 1 => some .int
  | 2 => some .long
  | _ => some .boolean
