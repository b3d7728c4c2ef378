/-! THE STEP IS SOUND -/
theorem f_if {b : Prop} [Decidable b] {P : Prop} (h : if b then P else False) : b ∧ P := by
  by_cases q : b
  · rw [if_pos q] at h; exact ⟨q, h⟩
  · rw [if_neg q] at h; exact h.elim
theorem f_lk_idx {ls : fLs} {a : Nat → Nat} {n : Nat} {v : Value} (h : f_lk n ls = some v) : ∃ k : Nat, (f_trl a ls)[k]? = some (n, f_tr a v) := by
  unfold f_lk at h
  cases hf : ls.find? (fun q => q.1 == n) with
  | none => rw [hf] at h; cases h
  | some q =>
    rw [hf] at h
    cases h
    have h1 := List.mem_of_find?_eq_some hf
    have h2 : q.1 = n := by simpa using List.find?_some hf
    subst h2
    exact List.getElem?_of_mem (List.mem_map.mpr ⟨q, h1, rfl⟩)
theorem f_get_inv {Y : fY} {fr : Nat → Option (Nat × Nat × Nat)} {j k : Nat} {I : fM} {L : fN} {nx : Value → Prop} (h : f_get Y fr j k I L nx) :
    ∃ (ci sl w : Nat) (ds : List (Nat × Nat)) (d : Nat × Nat), fr j = some (ci, sl, w) ∧ Y k = .inr (ci, ds) ∧ ds[sl]? = some d ∧ nx (f_slot d (I k sl) (L k sl)) := by
  unfold f_get at h
  split at h
  · next ci sl w ci' ds hf hy =>
    split at h
    · next d hd =>
      have h3 := f_if h
      clear h
      obtain ⟨e, h⟩ := h3
      subst e
      exact ⟨_, _, _, _, _, hf, hy, hd, h⟩
    · exact h.elim
  · exact h.elim
theorem f_put_inv {Y : fY} {fr : Nat → Option (Nat × Nat × Nat)} {j k : Nat} {v : Value} {I : fM} {L : fN} {nx : fM → fN → Prop} (h : f_put Y fr j k v I L nx) :
    ∃ (ci sl w : Nat) (ds : List (Nat × Nat)) (d : Nat × Nat), fr j = some (ci, sl, w) ∧ Y k = .inr (ci, ds) ∧ ds[sl]? = some d ∧
      ((d.1 = 0 ∧ w = 1 ∧ ∃ x, v = .int x ∧ nx (va_up I k (va_up (I k) sl x)) L) ∨ (d.1 = 1 ∧ w = 2 ∧ ∃ x, v = .int x ∧ (x = 0 ∨ x = 1) ∧ nx (va_up I k (va_up (I k) sl x)) L) ∨
       (d.1 = 2 ∧ w = 3 ∧ ∃ x, v = .long x ∧ nx I (va_up L k (va_up (L k) sl x))) ∨ (d.1 = 4 ∧ w = 4 ∧ ∃ q, v = .ref q ∧ q < 1000 ∧ nx (va_up I k (va_up (I k) sl (Int32.ofNat q))) L)) := by
  unfold f_put at h
  split at h
  · next ci sl w ci' ds hf hy =>
    have h3 := f_if h
    clear h
    obtain ⟨e, h⟩ := h3
    subst e
    split at h
    · next z x hd => exact ⟨_, _, _, _, _, hf, hy, hd, Or.inl ⟨rfl, rfl, x, rfl, h⟩⟩
    · next z x hd => exact ⟨_, _, _, _, _, hf, hy, hd, Or.inr (Or.inl ⟨rfl, rfl, x, rfl, h⟩)⟩
    · next z x hd => exact ⟨_, _, _, _, _, hf, hy, hd, Or.inr (Or.inr (Or.inl ⟨rfl, rfl, x, rfl, h⟩))⟩
    · next z q hd => exact ⟨_, _, _, _, _, hf, hy, hd, Or.inr (Or.inr (Or.inr ⟨rfl, rfl, q, rfl, h⟩))⟩
    · exact h.elim
  · exact h.elim
theorem f_cell_o {Y : fY} {k ci : Nat} {ds : List (Nat × Nat)} (h : Y k = .inr (ci, ds)) (a : Nat → Nat) (cy : Nat → ClassId) (i : Nat → Int32) (w : Nat → Int64) : f_cell Y a cy k i w = .inr (ci, f_fs a i w ds) := by
  unfold f_cell; rw [h]; try rfl
theorem f_cell_0 {Y : fY} {k n : Nat} (h : Y k = .inl (0, n)) (a : Nat → Nat) (cy : Nat → ClassId) (i : Nat → Int32) (w : Nat → Int64) : f_cell Y a cy k i w = .inl (cy 0, n, .inl i) := by
  unfold f_cell; rw [h]; try rfl
theorem f_cell_1 {Y : fY} {k n : Nat} (h : Y k = .inl (1, n)) (a : Nat → Nat) (cy : Nat → ClassId) (i : Nat → Int32) (w : Nat → Int64) : f_cell Y a cy k i w = .inl (cy 1, n, .inr (.inl w)) := by
  unfold f_cell; rw [h]; try rfl
theorem f_cell_2 {Y : fY} {k n : Nat} (h : Y k = .inl (2, n)) (a : Nat → Nat) (cy : Nat → ClassId) (i : Nat → Int32) (w : Nat → Int64) : f_cell Y a cy k i w = .inl (cy 2, n, .inl i) := by
  unfold f_cell; rw [h]; try rfl
theorem f_cell_3 {Y : fY} {k n : Nat} (h : Y k = .inl (3, n)) (a : Nat → Nat) (cy : Nat → ClassId) (i : Nat → Int32) (w : Nat → Int64) : f_cell Y a cy k i w = .inl (cy 3, n, .inl i) := by
  unfold f_cell; rw [h]; try rfl
theorem f_cell_4 {Y : fY} {k n t : Nat} (h : Y k = .inl (t + 4, n)) (a : Nat → Nat) (cy : Nat → ClassId) (i : Nat → Int32) (w : Nat → Int64) : f_cell Y a cy k i w = .inl (cy 4, n, .inr (.inr (.inr (.inr (fun j => some (a (t + 4 + 7 * j))))))) := by
  unfold f_cell; rw [h]; try rfl
def f_Q (Y : fY) (NC : Nat) (a : Nat → Nat) (cy : Nat → ClassId) (dC : Nat → ClassId) (dI : Nat → Nat → Nat) (K : Option Value → fM → fN → Prop) : Array Value → State → Outcome → State → Prop := fun _ st oc t =>
  (∃ (r : Option Value) (I : fM) (L : fN), oc = .returned (r.map (f_tr a)) ∧ K r I L ∧ va_P (dC, dI) vwCl (f_w Y NC a cy I L) t.heap ∧ va_K (dC, dI) vwCl (f_tys cy) t) ∧ va_F (f_A NC a) st t
def f_W (p : Program) (l : Launch) (e : Env) (R : Room) (s : State) (m : MethodId) (args : Array Value) (below : List Frame) (meth : Method) (c : Code) (Y : fY) (NC : Nat) (a : Nat → Nat) (cy : Nat → ClassId) (dC : Nat → ClassId) (dI : Nat → Nat → Nat) (nL : Nat) (K : Option Value → fM → fN → Prop) (pc : Nat) (ls : fLs) (st : List Value) (I : fM) (L : fN) : Prop :=
  ∀ (H : Heap) (locs : List Loc) (la : Array Slot), va_P (dC, dI) vwCl (f_w Y NC a cy I L) H → va_S (f_A NC a) s.heap H locs → lv_has la nL (f_trl a ls) → W p l e R s m args below meth c H locs 0 0 (MQ below (f_Q Y NC a cy dC dI K) args s 0 0 (f_A NC a)) (F0 m pc la (st.map (f_tr a)))
/-- facts of the start that no method changes (constants outside the world) -/
def f_Ec (E : State → Prop) (NC : Nat) (a : Nat → Nat) : Prop := (∀ (s U : State) (H : Heap) (locs : List Loc), E s → va_S (f_A NC a) s.heap H locs → U.heap = H → s.WarmedH U.vm → E U) ∧ ∀ (U : State) (g : JFrame) (mk : MethodId) (a' : Array Value), E U → E (U.calling g mk a')
def f_Cx (E : State → Prop) (p : Program) (s : State) (m : MethodId) (args : Array Value) (meth : Method) (c : Code) (Y : fY) (NC : Nat) (a : Nat → Nat) (cy : Nat → ClassId) (dC : Nat → ClassId) (dI : Nat → Nat → Nat) (nL : Nat) (cc : ByteArray) (own : String) (rk : Nat) : Prop :=
  p.tables.exec = Jvm.exec ∧ c.code = cc ∧ c.maxLocals = nL ∧ s.vm.findClass own = some m.cls ∧ (∀ w ∈ fT, w.before args s = true) ∧ meth.locks = false ∧ meth.sig.returnType = f_rt rk ∧ va_K (dC, dI) vwCl (f_tys cy) s ∧ (∀ i j, i < NC → j < NC → a i = a j → i = j) ∧ (∀ k, NC ≤ k → Y k = .inr (99, [])) ∧ E s ∧ f_Ec E NC a
/-- a call goes through, by its contract -/
def f_cok (p : Program) (l : Launch) (e : Env) (R : Room) (s : State) (m : MethodId) (args : Array Value) (below : List Frame) (meth : Method) (c : Code) (Y : fY) (NC : Nat) (a : Nat → Nat) (cy : Nat → ClassId) (dC : Nat → ClassId) (dI : Nat → Nat → Nat) (nL : Nat) (K : Option Value → fM → fN → Prop) (cc : ByteArray) (i : Instr) (v : Bool) (S : fS) : Prop :=
  ∀ pc : Nat, decode cc pc = .ok (i, 3) → ∀ (ls : fLs) (av rest : List Value) (I : fM) (L : fN), av.length = S.1 → (rest.map Value.category).sum ≤ 8 → (v = true → ∃ (k : Nat) (vs : List Value) (ds : List (Nat × Nat)), av = .ref k :: vs ∧ Y k = .inr (S.2.2.1, ds)) → S.2.2.2.1 av I L →
    (∀ r I' L', f_K S.2.1 (S.2.2.2.2 av I L) r I' L' → f_W p l e R s m args below meth c Y NC a cy dC dI nL K (pc + 3) ls (r.toList ++ rest) I' L') → f_W p l e R s m args below meth c Y NC a cy dC dI nL K pc ls (av.reverse ++ rest) I L
theorem f_call_ok {p : Program} {l : Launch} {e : Env} {R : Room} {s : State} {m : MethodId} {args : Array Value} {below : List Frame} {meth : Method} {c : Code} {Y : fY} {NC : Nat} {a : Nat → Nat} {cy : Nat → ClassId} {dC : Nat → ClassId} {dI : Nat → Nat → Nat} {nL : Nat} {K : Option Value → fM → fN → Prop} {cc : ByteArray} {i : Instr} {v : Bool}
    {na rk ci : Nat} {pre : List Value → fM → fN → Prop} {post : List Value → fM → fN → Value → fM → fN → Prop} (hc : f_cok p l e R s m args below meth c Y NC a cy dC dI nL K cc i v (na, rk, ci, pre, post)) {pc : Nat} (hd : decode cc pc = .ok (i, 3)) {ls : fLs} {st : List Value} {I : fM} {L : fN} {nx : List Value → fM → fN → Prop}
    (hnx : ∀ st I L, nx st I L → f_W p l e R s m args below meth c Y NC a cy dC dI nL K (pc + 3) ls st I L) (hv : v = true → ∃ (k : Nat) (vs : List Value) (ds : List (Nat × Nat)), (st.take na).reverse = .ref k :: vs ∧ Y k = .inr (ci, ds)) (h : f_call na rk pre post nx st I L) : f_W p l e R s m args below meth c Y NC a cy dC dI nL K pc ls st I L := by
  unfold f_call at h
  obtain ⟨⟨h1, h2⟩, hp, hk⟩ := f_if h
  have hst : st = ((st.take na).reverse).reverse ++ st.drop na := by rw [List.reverse_reverse, List.take_append_drop]
  rw [hst]
  refine hc pc hd ls _ _ I L (by rw [List.length_reverse, List.length_take]; exact Nat.min_eq_left h1) h2 hv hp (fun r I' L' hr => ?_)
  dsimp only at hr
  unfold f_K at hr
  split at hr
  · exact hnx _ _ _ (hk I' L' hr)
  · exact hnx _ _ _ (hk _ I' L' hr)
  · exact hnx _ _ _ (hk _ I' L' hr)
  · exact hnx _ _ _ (hk _ I' L' hr)
  · exact hr.elim
set_option maxHeartbeats 4000000 in
theorem f_step_ok {p : Program} {l : Launch} {e : Env} {R : Room} {s : State} {m : MethodId} {args : Array Value} {below : List Frame} {meth : Method} {c : Code} {Y : fY} {NC : Nat} {a : Nat → Nat} {cy : Nat → ClassId} {dC : Nat → ClassId} {dI : Nat → Nat → Nat} {nL : Nat} {K : Option Value → fM → fN → Prop} {cc : ByteArray} {own : String} {rk : Nat}
    {E : State → Prop} (C : f_Cx E p s m args meth c Y NC a cy dC dI nL cc own rk) (hcl : f_clok) {fr : Nat → Option (Nat × Nat × Nat)} (hfr : f_frok own fr) {cs cz : Nat → Option fS} {cn : Nat → Option Int32} {cm : Nat → Option Int64} (hcn : ∀ j v, cn j = some v → Cond.constant own j v ∈ fT) (hcm : ∀ j v, cm j = some v → Cond.constantLong own j v ∈ fT) {sn : Option Nat} (hsn : ∀ j, sn = some j → ∃ tx, vk_R own j tx (a 1000) s)
    (hcs : ∀ j S, cs j = some S → f_cok p l e R s m args below meth c Y NC a cy dC dI nL K cc (.invokevirtual j) true S) (hcz : ∀ j S, cz j = some S → f_cok p l e R s m args below meth c Y NC a cy dC dI nL K cc (.invokestatic j) false S)
    {pc : Nat} {i : Instr} {len : Nat} (hd : decode cc pc = .ok (i, len)) (hlen : f_len i = 0 ∨ f_len i = len) {nx : fLs → List Value → fM → fN → Prop} {jp : Nat → fLs → List Value → fM → fN → Prop}
    (hnx : ∀ ls st I L, nx ls st I L → f_W p l e R s m args below meth c Y NC a cy dC dI nL K (pc + len) ls st I L) (hjp : ∀ t ls st I L, jp t ls st I L → f_W p l e R s m args below meth c Y NC a cy dC dI nL K t ls st I L)
    {ls : fLs} {st : List Value} {I : fM} {L : fN} (h : f_step Y fr cs cz cn cm sn nL rk K nx jp pc i ls st I L) : f_W p l e R s m args below meth c Y NC a cy dC dI nL K pc ls st I L := by
  obtain ⟨hx, hb, hml, hown, hts, hlocks, hr, hK, hinj, hY, hE, hEc⟩ := C
  have hobj : ∀ {k ci : Nat} {ds : List (Nat × Nat)} {sl : Nat} {d : Nat × Nat}, Y k = .inr (ci, ds) → ds[sl]? = some d → k < NC := by
    intro k ci ds sl d h1 h2
    rcases Nat.lt_or_ge k NC with q | q
    · exact q
    · rw [hY k q] at h1
      cases h1
      simp at h2
  have harr : ∀ {k : Nat} {t : Nat × Nat}, Y k = .inl t → k < NC := by
    intro k t h1
    rcases Nat.lt_or_ge k NC with q | q
    · exact q
    · rw [hY k q] at h1
      cases h1
  cases i
  case aload n =>
    have e : 2 = len := hlen.resolve_left (fun h => absurd (show 2 = 0 from h) (by decide)); subst e
    have h : f_lda n ls (fun v => nx ls (v :: st) I L) := h
    rcases f_lda_inv h with ⟨x, hk, h⟩ | ⟨hk, h⟩
    · intro H locs la hP hS hl; exact lv_aload hx hb hd (f_lk_has hl hk) (hnx _ _ _ _ h H locs la hP hS hl)
    · intro H locs la hP hS hl; exact lv_aloadN hx hb hd (f_lk_has hl hk) (hnx _ _ _ _ h H locs la hP hS hl)
  case aload_n n =>
    have e : 1 = len := hlen.resolve_left (fun h => absurd (show 1 = 0 from h) (by decide)); subst e
    have h : f_lda n.val ls (fun v => nx ls (v :: st) I L) := h
    rcases f_lda_inv h with ⟨x, hk, h⟩ | ⟨hk, h⟩
    · intro H locs la hP hS hl; exact lv_aload_n hx hb hd rfl (f_lk_has hl hk) (hnx _ _ _ _ h H locs la hP hS hl)
    · intro H locs la hP hS hl; exact lv_aload_nN hx hb hd rfl (f_lk_has hl hk) (hnx _ _ _ _ h H locs la hP hS hl)
  case iload n =>
    have e : 2 = len := hlen.resolve_left (fun h => absurd (show 2 = 0 from h) (by decide)); subst e
    have h3 := f_ldi_inv h; clear h; obtain ⟨x, hk, h⟩ := h3
    intro H locs la hP hS hl; exact lv_iload hx hb hd (f_lk_has hl hk) (hnx _ _ _ _ h H locs la hP hS hl)
  case iload_n n =>
    have e : 1 = len := hlen.resolve_left (fun h => absurd (show 1 = 0 from h) (by decide)); subst e
    have h3 := f_ldi_inv h; clear h; obtain ⟨x, hk, h⟩ := h3
    intro H locs la hP hS hl; exact lv_iload_n hx hb hd rfl (f_lk_has hl hk) (hnx _ _ _ _ h H locs la hP hS hl)
  case lload n =>
    have e : 2 = len := hlen.resolve_left (fun h => absurd (show 2 = 0 from h) (by decide)); subst e
    have h3 := f_ldl_inv h; clear h; obtain ⟨x, hk, h⟩ := h3
    intro H locs la hP hS hl; exact lv_lload hx hb hd (f_lk_has hl hk) (hnx _ _ _ _ h H locs la hP hS hl)
  case lload_n n =>
    have e : 1 = len := hlen.resolve_left (fun h => absurd (show 1 = 0 from h) (by decide)); subst e
    have h3 := f_ldl_inv h; clear h; obtain ⟨x, hk, h⟩ := h3
    intro H locs la hP hS hl; exact lv_lload_n hx hb hd rfl (f_lk_has hl hk) (hnx _ _ _ _ h H locs la hP hS hl)
  case istore n =>
    have e : 2 = len := hlen.resolve_left (fun h => absurd (show 2 = 0 from h) (by decide)); subst e
    have h3 := f_1i_inv h; clear h; obtain ⟨x, r, rfl, h⟩ := h3
    obtain ⟨hn, h⟩ := f_if h
    intro H locs la hP hS hl; exact lv_istore hx hb hd hl hn (f_st_tr a n (.int x) ls) (fun la' hl' => hnx _ _ _ _ h H locs la' hP hS hl')
  case istore_n n =>
    have e : 1 = len := hlen.resolve_left (fun h => absurd (show 1 = 0 from h) (by decide)); subst e
    have h3 := f_1i_inv h; clear h; obtain ⟨x, r, rfl, h⟩ := h3
    obtain ⟨hn, h⟩ := f_if h
    intro H locs la hP hS hl; exact lv_istore_n hx hb hd rfl hl hn (f_st_tr a n.val (.int x) ls) (fun la' hl' => hnx _ _ _ _ h H locs la' hP hS hl')
  case lstore n =>
    have e : 2 = len := hlen.resolve_left (fun h => absurd (show 2 = 0 from h) (by decide)); subst e
    have h3 := f_1l_inv h; clear h; obtain ⟨x, r, rfl, h⟩ := h3
    obtain ⟨hn, h⟩ := f_if h
    intro H locs la hP hS hl; exact lv_lstore hx hb hd hl hn (f_st2_tr a n (.long x) ls) (fun la' hl' => hnx _ _ _ _ h H locs la' hP hS hl')
  case lstore_n n =>
    have e : 1 = len := hlen.resolve_left (fun h => absurd (show 1 = 0 from h) (by decide)); subst e
    have h3 := f_1l_inv h; clear h; obtain ⟨x, r, rfl, h⟩ := h3
    obtain ⟨hn, h⟩ := f_if h
    intro H locs la hP hS hl; exact lv_lstore_n hx hb hd rfl hl hn (f_st2_tr a n.val (.long x) ls) (fun la' hl' => hnx _ _ _ _ h H locs la' hP hS hl')
  case astore n =>
    have e : 2 = len := hlen.resolve_left (fun h => absurd (show 2 = 0 from h) (by decide)); subst e
    have h3 := f_1r_inv h; clear h; obtain ⟨x, r, rfl, h⟩ := h3
    obtain ⟨hn, h⟩ := f_if h
    intro H locs la hP hS hl; exact lv_astore hx hb hd hl hn (f_st_tr a n (.ref x) ls) (fun la' hl' => hnx _ _ _ _ h H locs la' hP hS hl')
  case astore_n n =>
    have e : 1 = len := hlen.resolve_left (fun h => absurd (show 1 = 0 from h) (by decide)); subst e
    have h3 := f_1r_inv h; clear h; obtain ⟨x, r, rfl, h⟩ := h3
    obtain ⟨hn, h⟩ := f_if h
    intro H locs la hP hS hl; exact lv_astore_n hx hb hd rfl hl hn (f_st_tr a n.val (.ref x) ls) (fun la' hl' => hnx _ _ _ _ h H locs la' hP hS hl')
  case iinc n d =>
    have e : 3 = len := hlen.resolve_left (fun h => absurd (show 3 = 0 from h) (by decide)); subst e
    have h3 := f_ldi_inv h; clear h; obtain ⟨x, hk, h⟩ := h3
    obtain ⟨hn, h⟩ := f_if h
    obtain ⟨k, hk⟩ := f_lk_idx (a := a) hk
    have h := f_ar_el h (f_inc_q x d)
    intro H locs la hP hS hl; exact lv_iinc (v := x + Int32.ofInt d) hx hb hd hl hk rfl hn (f_st_tr a n (.int (x + Int32.ofInt d)) ls) (fun la' hl' => hnx _ _ _ _ h H locs la' hP hS hl')
  case aconst_null =>
    have e : 1 = len := hlen.resolve_left (fun h => absurd (show 1 = 0 from h) (by decide)); subst e
    intro H locs la hP hS hl; exact lv_null hx hb hd (hnx _ _ _ _ h H locs la hP hS hl)
  case iconst n =>
    have e : 1 = len := hlen.resolve_left (fun h => absurd (show 1 = 0 from h) (by decide)); subst e
    intro H locs la hP hS hl; exact lv_iconst hx hb hd rfl (hnx _ _ _ _ h H locs la hP hS hl)
  case bipush n =>
    have e : 2 = len := hlen.resolve_left (fun h => absurd (show 2 = 0 from h) (by decide)); subst e
    have h3 := f_if h; clear h; obtain ⟨e8, h⟩ := h3
    intro H locs la hP hS hl; exact lv_bipush hx hb hd e8 (hnx _ _ _ _ h H locs la hP hS hl)
  case sipush n =>
    have e : 3 = len := hlen.resolve_left (fun h => absurd (show 3 = 0 from h) (by decide)); subst e
    have h3 := f_if h; clear h; obtain ⟨e8, h⟩ := h3
    intro H locs la hP hS hl; exact lv_sipush hx hb hd e8 (hnx _ _ _ _ h H locs la hP hS hl)
  case lconst n =>
    have e : 1 = len := hlen.resolve_left (fun h => absurd (show 1 = 0 from h) (by decide)); subst e
    intro H locs la hP hS hl; exact lv_lconst hx hb hd rfl (hnx _ _ _ _ h H locs la hP hS hl)
  case ldc j =>
    have e : 2 = len := hlen.resolve_left (fun h => absurd (show 2 = 0 from h) (by decide)); subst e
    unfold f_step at h; dsimp only at h
    split at h
    · next v hv => intro H locs la hP hS hl; exact lv_ldc hx hb hown (hts _ (hcn _ _ hv)) hd (hnx _ _ _ _ h H locs la hP hS hl)
    · have h3 := f_if h; clear h; obtain ⟨es, h⟩ := h3
      obtain ⟨tx, hR⟩ := hsn j es
      intro H locs la hP hS hl; exact va_ldcS hx hb hown hR hd (hnx _ _ _ _ h H locs la hP hS hl)
  case ldc_w j =>
    have e : 3 = len := hlen.resolve_left (fun h => absurd (show 3 = 0 from h) (by decide)); subst e
    unfold f_step at h; dsimp only at h
    split at h
    · next v hv => intro H locs la hP hS hl; exact lv_ldcw hx hb hown (hts _ (hcn _ _ hv)) hd (hnx _ _ _ _ h H locs la hP hS hl)
    · exact h.elim
  case ldc2_w j =>
    have e : 3 = len := hlen.resolve_left (fun h => absurd (show 3 = 0 from h) (by decide)); subst e
    unfold f_step at h; dsimp only at h
    split at h
    · next v hv => intro H locs la hP hS hl; exact lv_ldc2 hx hb hown (hts _ (hcm _ _ hv)) hd (hnx _ _ _ _ h H locs la hP hS hl)
    · exact h.elim
  case iadd =>
    have e : 1 = len := hlen.resolve_left (fun h => absurd (show 1 = 0 from h) (by decide)); subst e
    have h3 := f_2i_inv h; clear h; obtain ⟨x, y, r, rfl, h⟩ := h3
    have h := f_ar_el h (f_add_q x y)
    intro H locs la hP hS hl; exact lv_iadd hx hb hd (hnx _ _ _ _ h H locs la hP hS hl)
  case isub =>
    have e : 1 = len := hlen.resolve_left (fun h => absurd (show 1 = 0 from h) (by decide)); subst e
    have h3 := f_2i_inv h; clear h; obtain ⟨x, y, r, rfl, h⟩ := h3
    have h := f_ar_el h (f_sub_q x y)
    intro H locs la hP hS hl; exact lv_isub hx hb hd (hnx _ _ _ _ h H locs la hP hS hl)
  case imul =>
    have e : 1 = len := hlen.resolve_left (fun h => absurd (show 1 = 0 from h) (by decide)); subst e
    have h3 := f_2i_inv h; clear h; obtain ⟨x, y, r, rfl, h⟩ := h3
    have h := f_ar_el h (f_mul_q x y)
    intro H locs la hP hS hl; exact lv_imul hx hb hd (hnx _ _ _ _ h H locs la hP hS hl)
  case iand =>
    have e : 1 = len := hlen.resolve_left (fun h => absurd (show 1 = 0 from h) (by decide)); subst e
    have h3 := f_2i_inv h; clear h; obtain ⟨x, y, r, rfl, h⟩ := h3
    intro H locs la hP hS hl; exact lv_iand hx hb hd (hnx _ _ _ _ h H locs la hP hS hl)
  case ior =>
    have e : 1 = len := hlen.resolve_left (fun h => absurd (show 1 = 0 from h) (by decide)); subst e
    have h3 := f_2i_inv h; clear h; obtain ⟨x, y, r, rfl, h⟩ := h3
    intro H locs la hP hS hl; exact lv_ior hx hb hd (hnx _ _ _ _ h H locs la hP hS hl)
  case ixor =>
    have e : 1 = len := hlen.resolve_left (fun h => absurd (show 1 = 0 from h) (by decide)); subst e
    have h3 := f_2i_inv h; clear h; obtain ⟨x, y, r, rfl, h⟩ := h3
    intro H locs la hP hS hl; exact lv_ixor hx hb hd (hnx _ _ _ _ h H locs la hP hS hl)
  case ishl =>
    have e : 1 = len := hlen.resolve_left (fun h => absurd (show 1 = 0 from h) (by decide)); subst e
    have h3 := f_2i_inv h; clear h; obtain ⟨x, y, r, rfl, h⟩ := h3
    intro H locs la hP hS hl; exact lv_ishl hx hb hd (hnx _ _ _ _ h H locs la hP hS hl)
  case ishr =>
    have e : 1 = len := hlen.resolve_left (fun h => absurd (show 1 = 0 from h) (by decide)); subst e
    have h3 := f_2i_inv h; clear h; obtain ⟨x, y, r, rfl, h⟩ := h3
    intro H locs la hP hS hl; exact lv_ishr hx hb hd (hnx _ _ _ _ h H locs la hP hS hl)
  case iushr =>
    have e : 1 = len := hlen.resolve_left (fun h => absurd (show 1 = 0 from h) (by decide)); subst e
    have h3 := f_2i_inv h; clear h; obtain ⟨x, y, r, rfl, h⟩ := h3
    intro H locs la hP hS hl; exact lv_iushr hx hb hd rfl (hnx _ _ _ _ h H locs la hP hS hl)
  case idiv =>
    have e : 1 = len := hlen.resolve_left (fun h => absurd (show 1 = 0 from h) (by decide)); subst e
    have h3 := f_2i_inv h; clear h; obtain ⟨x, y, r, rfl, hne, h⟩ := h3
    intro H locs la hP hS hl; exact lv_idiv hx hb hd hne (hnx _ _ _ _ h H locs la hP hS hl)
  case irem =>
    have e : 1 = len := hlen.resolve_left (fun h => absurd (show 1 = 0 from h) (by decide)); subst e
    have h3 := f_2i_inv h; clear h; obtain ⟨x, y, r, rfl, hne, h⟩ := h3
    intro H locs la hP hS hl; exact lv_irem hx hb hd hne (hnx _ _ _ _ h H locs la hP hS hl)
  case ineg =>
    have e : 1 = len := hlen.resolve_left (fun h => absurd (show 1 = 0 from h) (by decide)); subst e
    have h3 := f_1i_inv h; clear h; obtain ⟨x, r, rfl, h⟩ := h3
    have h := f_ar_el h (f_neg_q x)
    intro H locs la hP hS hl; exact lv_ineg hx hb hd (hnx _ _ _ _ h H locs la hP hS hl)
  case ladd =>
    have e : 1 = len := hlen.resolve_left (fun h => absurd (show 1 = 0 from h) (by decide)); subst e
    have h3 := f_2l_inv h; clear h; obtain ⟨x, y, r, rfl, h⟩ := h3
    intro H locs la hP hS hl; exact lv_ladd hx hb hd (hnx _ _ _ _ h H locs la hP hS hl)
  case lsub =>
    have e : 1 = len := hlen.resolve_left (fun h => absurd (show 1 = 0 from h) (by decide)); subst e
    have h3 := f_2l_inv h; clear h; obtain ⟨x, y, r, rfl, h⟩ := h3
    intro H locs la hP hS hl; exact lv_lsub hx hb hd (hnx _ _ _ _ h H locs la hP hS hl)
  case lmul =>
    have e : 1 = len := hlen.resolve_left (fun h => absurd (show 1 = 0 from h) (by decide)); subst e
    have h3 := f_2l_inv h; clear h; obtain ⟨x, y, r, rfl, h⟩ := h3
    intro H locs la hP hS hl; exact lv_lmul hx hb hd (hnx _ _ _ _ h H locs la hP hS hl)
  case land =>
    have e : 1 = len := hlen.resolve_left (fun h => absurd (show 1 = 0 from h) (by decide)); subst e
    have h3 := f_2l_inv h; clear h; obtain ⟨x, y, r, rfl, h⟩ := h3
    intro H locs la hP hS hl; exact lv_land hx hb hd (hnx _ _ _ _ h H locs la hP hS hl)
  case lor =>
    have e : 1 = len := hlen.resolve_left (fun h => absurd (show 1 = 0 from h) (by decide)); subst e
    have h3 := f_2l_inv h; clear h; obtain ⟨x, y, r, rfl, h⟩ := h3
    intro H locs la hP hS hl; exact lv_lor hx hb hd (hnx _ _ _ _ h H locs la hP hS hl)
  case lxor =>
    have e : 1 = len := hlen.resolve_left (fun h => absurd (show 1 = 0 from h) (by decide)); subst e
    have h3 := f_2l_inv h; clear h; obtain ⟨x, y, r, rfl, h⟩ := h3
    intro H locs la hP hS hl; exact lv_lxor hx hb hd (hnx _ _ _ _ h H locs la hP hS hl)
  case lshl =>
    have e : 1 = len := hlen.resolve_left (fun h => absurd (show 1 = 0 from h) (by decide)); subst e
    have h3 := f_li_inv h; clear h; obtain ⟨x, y, r, rfl, h⟩ := h3
    intro H locs la hP hS hl; exact lv_lshl hx hb hd rfl (hnx _ _ _ _ h H locs la hP hS hl)
  case lshr =>
    have e : 1 = len := hlen.resolve_left (fun h => absurd (show 1 = 0 from h) (by decide)); subst e
    have h3 := f_li_inv h; clear h; obtain ⟨x, y, r, rfl, h⟩ := h3
    intro H locs la hP hS hl; exact lv_lshr hx hb hd rfl (hnx _ _ _ _ h H locs la hP hS hl)
  case lcmp =>
    have e : 1 = len := hlen.resolve_left (fun h => absurd (show 1 = 0 from h) (by decide)); subst e
    have h3 := f_2l_inv h; clear h; obtain ⟨x, y, r, rfl, h⟩ := h3
    intro H locs la hP hS hl; exact W.lcmp hx hb hd (hnx _ _ _ _ h H locs la hP hS hl)
  case i2l =>
    have e : 1 = len := hlen.resolve_left (fun h => absurd (show 1 = 0 from h) (by decide)); subst e
    have h3 := f_1i_inv h; clear h; obtain ⟨x, r, rfl, h⟩ := h3
    intro H locs la hP hS hl; exact lv_i2l hx hb hd rfl (hnx _ _ _ _ h H locs la hP hS hl)
  case l2i =>
    have e : 1 = len := hlen.resolve_left (fun h => absurd (show 1 = 0 from h) (by decide)); subst e
    have h3 := f_1l_inv h; clear h; obtain ⟨x, r, rfl, h⟩ := h3
    intro H locs la hP hS hl; exact lv_l2i hx hb hd rfl (hnx _ _ _ _ h H locs la hP hS hl)
  case i2b =>
    have e : 1 = len := hlen.resolve_left (fun h => absurd (show 1 = 0 from h) (by decide)); subst e
    have h3 := f_1i_inv h; clear h; obtain ⟨x, r, rfl, h⟩ := h3
    intro H locs la hP hS hl; exact lv_i2b hx hb hd rfl (hnx _ _ _ _ h H locs la hP hS hl)
  case i2c =>
    have e : 1 = len := hlen.resolve_left (fun h => absurd (show 1 = 0 from h) (by decide)); subst e
    have h3 := f_1i_inv h; clear h; obtain ⟨x, r, rfl, h⟩ := h3
    intro H locs la hP hS hl; exact lv_i2c hx hb hd rfl (hnx _ _ _ _ h H locs la hP hS hl)
  case dup =>
    have e : 1 = len := hlen.resolve_left (fun h => absurd (show 1 = 0 from h) (by decide)); subst e
    cases st with
    | nil => exact h.elim
    | cons v r =>
      obtain ⟨hv, h⟩ := f_if h
      intro H locs la hP hS hl; exact lv_dup hx hb hd (by rw [f_tr_cat]; exact hv) (hnx _ _ _ _ h H locs la hP hS hl)
  case pop =>
    have e : 1 = len := hlen.resolve_left (fun h => absurd (show 1 = 0 from h) (by decide)); subst e
    cases st with
    | nil => exact h.elim
    | cons v r =>
      obtain ⟨hv, h⟩ := f_if h
      intro H locs la hP hS hl; exact lv_pop hx hb hd (va := f_tr a v) (by rw [f_tr_cat]; exact hv) (hnx _ _ _ _ h H locs la hP hS hl)
  case dup2 =>
    have e : 1 = len := hlen.resolve_left (fun h => absurd (show 1 = 0 from h) (by decide)); subst e
    cases st with
    | nil => exact h.elim
    | cons v r =>
      cases r with
      | nil => exact h.elim
      | cons u r =>
        obtain ⟨⟨hv, hu⟩, h⟩ := f_if h
        intro H locs la hP hS hl; exact lv_dup2_11 hx hb hd (by rw [f_tr_cat]; exact hv) (by rw [f_tr_cat]; exact hu) (hnx _ _ _ _ h H locs la hP hS hl)
  case getfield j =>
    have e : 3 = len := hlen.resolve_left (fun h => absurd (show 3 = 0 from h) (by decide)); subst e
    have h3 := f_1r_inv h; clear h; obtain ⟨k, r, rfl, h⟩ := h3
    have h3 := f_get_inv h; clear h; obtain ⟨ci, sl, w, ds, d, hf, hy, hds, h⟩ := h3
    obtain ⟨C, T, N, hc, hN, hlk, -⟩ := hfr _ _ _ _ hf
    have hkN := hobj hy hds
    intro H locs la hP hS hl
    have he : (f_w Y NC a cy I L)[k]? = some (a k, .inr (ci, f_fs a (I k) (L k) ds)) := by rw [f_w_at Y a cy I L hkN, f_cell_o hy]
    exact va_get hx hb hts (hcl ci C T N hc).1 hown hK hP k he hc sl hN (hts _ hlk) (fun _ h9 => h9) (f_fs_at a _ _ hds) hd (hnx _ _ _ _ h H locs la hP hS hl)
  case putfield j =>
    have e : 3 = len := hlen.resolve_left (fun h => absurd (show 3 = 0 from h) (by decide)); subst e
    cases st with
    | nil => exact h.elim
    | cons v r =>
      cases r with
      | nil => exact h.elim
      | cons u r =>
        cases u with
        | ref k =>
          have h3 := f_put_inv h; clear h; obtain ⟨ci, sl, w, ds, d, hf, hy, hds, h⟩ := h3
          obtain ⟨C, T, N, hc, hN, hlk, hw⟩ := hfr _ _ _ _ hf
          obtain ⟨hin, ty0, hty, hnm⟩ := hcl ci C T N hc
          have hkN := hobj hy hds
          intro H locs la hP hS hl
          have he : (f_w Y NC a cy I L)[k]? = some (a k, .inr (ci, f_fs a (I k) (L k) ds)) := by rw [f_w_at Y a cy I L hkN, f_cell_o hy]
          have hlen2 : sl < (f_fs a (I k) (L k) ds).length := by simp only [f_fs, List.length_mapIdx]; exact (List.getElem?_eq_some_iff.mp hds).1
          have goI : ∀ (x : Int32) (vv : Value), f_tr a (f_slot d x (L k sl)) = vv → nx ls r (va_up I k (va_up (I k) sl x)) L → ∀ (H1 : Heap) (locs1 : List Loc), va_P (dC, dI) vwCl ((f_w Y NC a cy I L).set k (a k, .inr (ci, (f_fs a (I k) (L k) ds).set sl vv))) H1 → va_S (f_A NC a) s.heap H1 locs1 → W p l e R s m args below meth c H1 locs1 0 0 (MQ below (f_Q Y NC a cy dC dI K) args s 0 0 (f_A NC a)) (F0 m (pc + 3) la (r.map (f_tr a))) := by
            intro x vv ev h H1 locs1 hP1 hS1
            rw [← ev, f_fs_setI a (I k) (L k) hds x, ← f_cell_o hy a cy, f_w_setI Y a cy I L hkN] at hP1
            exact hnx _ _ _ _ h H1 locs1 la hP1 hS1 hl
          rcases h with ⟨h0, hw0, x, rfl, h⟩ | ⟨h0, hw0, x, rfl, hx01, h⟩ | ⟨h0, hw0, x, rfl, h⟩ | ⟨h0, hw0, q, rfl, hq, h⟩
          · obtain ⟨hfin, ty, hpd, hkind⟩ := hw.resolve_left (by omega)
            obtain rfl : ty = .int := by rcases hkind with ⟨_, e⟩ | ⟨e, _⟩ | ⟨e, _⟩ | ⟨e, _⟩ <;> first | exact e | (exfalso; omega)
            exact va_put hx hb hts hin ty0 hty hnm hown hK hP (f_w_D Y cy I L hinj) hS k he hc sl hN (hts _ hlk) (fun _ h9 => h9) hfin hpd rfl rfl hlen2 hd (fun H1 locs1 hP1 _ hS1 => goI x (.int x) (by obtain ⟨d1, d2⟩ := d; simp only at h0; subst h0; rfl) h H1 locs1 hP1 hS1)
          · obtain ⟨hfin, ty, hpd, hkind⟩ := hw.resolve_left (by omega)
            obtain rfl : ty = .boolean := by rcases hkind with ⟨e, _⟩ | ⟨_, e⟩ | ⟨e, _⟩ | ⟨e, _⟩ <;> first | exact e | (exfalso; omega)
            exact va_put hx hb hts hin ty0 hty hnm hown hK hP (f_w_D Y cy I L hinj) hS k he hc sl hN (hts _ hlk) (fun _ h9 => h9) hfin hpd (by rcases hx01 with rfl | rfl <;> rfl) (by rcases hx01 with rfl | rfl <;> rfl) hlen2 hd (fun H1 locs1 hP1 _ hS1 => goI x (.int x) (by obtain ⟨d1, d2⟩ := d; simp only at h0; subst h0; rfl) h H1 locs1 hP1 hS1)
          · obtain ⟨hfin, ty, hpd, hkind⟩ := hw.resolve_left (by omega)
            obtain rfl : ty = .long := by rcases hkind with ⟨e, _⟩ | ⟨e, _⟩ | ⟨_, e⟩ | ⟨e, _⟩ <;> first | exact e | (exfalso; omega)
            refine va_put hx hb hts hin ty0 hty hnm hown hK hP (f_w_D Y cy I L hinj) hS k he hc sl hN (hts _ hlk) (fun _ h9 => h9) hfin hpd rfl rfl hlen2 hd (fun H1 locs1 hP1 _ hS1 => ?_)
            have ev : f_tr a (f_slot d (I k sl) x) = .long x := by obtain ⟨d1, d2⟩ := d; simp only at h0; subst h0; rfl
            rw [show (f_tr a (Value.long x)) = f_tr a (f_slot d (I k sl) x) from ev.symm, f_fs_setL a (I k) (L k) hds x, ← f_cell_o hy a cy, f_w_setL Y a cy I L hkN] at hP1
            exact hnx _ _ _ _ h H1 locs1 la hP1 hS1 hl
          · obtain ⟨hfin, ty, hpd, hkind⟩ := hw.resolve_left (by omega)
            obtain ⟨nn, rfl⟩ : ∃ nn, ty = .object nn := by rcases hkind with ⟨e, _⟩ | ⟨e, _⟩ | ⟨e, _⟩ | ⟨_, e⟩ <;> first | exact e | (exfalso; omega)
            exact va_put hx hb hts hin ty0 hty hnm hown hK hP (f_w_D Y cy I L hinj) hS k he hc sl hN (hts _ hlk) (fun _ h9 => h9) hfin hpd rfl rfl hlen2 hd (fun H1 locs1 hP1 _ hS1 => goI (Int32.ofNat q) (.ref (a q)) (by obtain ⟨d1, d2⟩ := d; simp only at h0; subst h0; show Value.ref (a (nI q).toNatClampNeg) = _; rw [nI_clamp (Nat.lt_trans hq (by decide))]) h H1 locs1 hP1 hS1)
        | _ => exact h.elim
  case iaload =>
    have e : 1 = len := hlen.resolve_left (fun h => absurd (show 1 = 0 from h) (by decide)); subst e
    have h3 := f_ir_inv h; clear h; obtain ⟨k, i, r, rfl, h⟩ := h3
    split at h
    · next n hy => intro H locs la hP hS hl; exact va_iald hx hb hK hP k 0 (by rw [f_w_at Y a cy I L (harr hy), f_cell_0 hy]) rfl (f_in_vp h.1) hd (hnx _ _ _ _ h.2 H locs la hP hS hl)
    · exact h.elim
  case laload =>
    have e : 1 = len := hlen.resolve_left (fun h => absurd (show 1 = 0 from h) (by decide)); subst e
    have h3 := f_ir_inv h; clear h; obtain ⟨k, i, r, rfl, h⟩ := h3
    split at h
    · next n hy => intro H locs la hP hS hl; exact va_lald hx hb hK hP k 1 (by rw [f_w_at Y a cy I L (harr hy), f_cell_1 hy]) rfl (f_in_vp h.1) hd (hnx _ _ _ _ h.2 H locs la hP hS hl)
    · exact h.elim
  case baload =>
    have e : 1 = len := hlen.resolve_left (fun h => absurd (show 1 = 0 from h) (by decide)); subst e
    have h3 := f_ir_inv h; clear h; obtain ⟨k, i, r, rfl, h⟩ := h3
    split at h
    · next n hy => intro H locs la hP hS hl; exact va_bald hx hb hK hP k 2 (by rw [f_w_at Y a cy I L (harr hy), f_cell_2 hy]) rfl (f_in_vp h.1) hd (hnx _ _ _ _ h.2 H locs la hP hS hl)
    · next n hy => intro H locs la hP hS hl; exact va_zald hx hb hK hP k 3 (by rw [f_w_at Y a cy I L (harr hy), f_cell_3 hy]) rfl (f_in_vp h.1) hd (hnx _ _ _ _ h.2 H locs la hP hS hl)
    · exact h.elim
  case aaload =>
    have e : 1 = len := hlen.resolve_left (fun h => absurd (show 1 = 0 from h) (by decide)); subst e
    have h3 := f_ir_inv h; clear h; obtain ⟨k, i, r, rfl, h⟩ := h3
    split at h
    · next t n hy => intro H locs la hP hS hl; exact va_aldq (f := fun j => some (a (t + 4 + 7 * j))) hx hb hK hP k 4 (by rw [f_w_at Y a cy I L (harr hy), f_cell_4 hy]) rfl (f_in_vp h.1) hd (hnx _ _ _ _ (h.2 _ rfl) H locs la hP hS hl)
    · exact h.elim
  case iastore =>
    have e : 1 = len := hlen.resolve_left (fun h => absurd (show 1 = 0 from h) (by decide)); subst e
    have h3 := f_iir_inv h; clear h; obtain ⟨k, i, x, r, rfl, h⟩ := h3
    split at h
    · next n hy =>
      intro H locs la hP hS hl
      exact va_iast hx hb hK hP (f_w_D Y cy I L hinj) hS k 0 (by rw [f_w_at Y a cy I L (harr hy), f_cell_0 hy]) rfl (f_in_vp h.1) hd (fun H1 locs1 hP1 _ hS1 => hnx _ _ _ _ h.2 H1 locs1 la (by rw [← f_w_setI Y a cy I L (harr hy), f_cell_0 hy]; exact hP1) hS1 hl)
    · exact h.elim
  case lastore =>
    have e : 1 = len := hlen.resolve_left (fun h => absurd (show 1 = 0 from h) (by decide)); subst e
    have h3 := f_lir_inv h; clear h; obtain ⟨k, i, x, r, rfl, h⟩ := h3
    split at h
    · next n hy =>
      intro H locs la hP hS hl
      exact va_last hx hb hK hP (f_w_D Y cy I L hinj) hS k 1 (by rw [f_w_at Y a cy I L (harr hy), f_cell_1 hy]) rfl (f_in_vp h.1) hd (fun H1 locs1 hP1 _ hS1 => hnx _ _ _ _ h.2 H1 locs1 la (by rw [← f_w_setL Y a cy I L (harr hy), f_cell_1 hy]; exact hP1) hS1 hl)
    · exact h.elim
  case bastore =>
    have e : 1 = len := hlen.resolve_left (fun h => absurd (show 1 = 0 from h) (by decide)); subst e
    have h3 := f_iir_inv h; clear h; obtain ⟨k, i, x, r, rfl, h⟩ := h3
    split at h
    · next n hy =>
      intro H locs la hP hS hl
      exact va_bast hx hb hK hP (f_w_D Y cy I L hinj) hS k 2 (by rw [f_w_at Y a cy I L (harr hy), f_cell_2 hy]) rfl (f_in_vp h.1) hd (fun H1 locs1 hP1 _ hS1 => hnx _ _ _ _ h.2 H1 locs1 la (by rw [← f_w_setI Y a cy I L (harr hy), f_cell_2 hy]; exact hP1) hS1 hl)
    · next n hy =>
      intro H locs la hP hS hl
      exact va_zast hx hb hK hP (f_w_D Y cy I L hinj) hS k 3 (by rw [f_w_at Y a cy I L (harr hy), f_cell_3 hy]) rfl (f_in_vp h.1) hd (fun H1 locs1 hP1 _ hS1 => hnx _ _ _ _ h.2 H1 locs1 la (by rw [← f_w_setI Y a cy I L (harr hy), f_cell_3 hy]; exact hP1) hS1 hl)
    · exact h.elim
  case arraylength =>
    have e : 1 = len := hlen.resolve_left (fun h => absurd (show 1 = 0 from h) (by decide)); subst e
    have h3 := f_1r_inv h; clear h; obtain ⟨k, r, rfl, h⟩ := h3
    split at h
    · next n hy => intro H locs la hP hS hl; exact va_alen (x := (n, .inl (I k))) hx hb hK hP k 0 (by rw [f_w_at Y a cy I L (harr hy), f_cell_0 hy]) (ty := .int) rfl rfl hd (hnx _ _ _ _ h H locs la hP hS hl)
    · next n hy => intro H locs la hP hS hl; exact va_alen (x := (n, .inr (.inl (L k)))) hx hb hK hP k 1 (by rw [f_w_at Y a cy I L (harr hy), f_cell_1 hy]) (ty := .long) rfl rfl hd (hnx _ _ _ _ h H locs la hP hS hl)
    · exact h.elim
  case if_icmp cond off =>
    have e : 3 = len := hlen.resolve_left (fun h => absurd (show 3 = 0 from h) (by decide)); subst e
    cases cond
    case eq =>
      have h3 := f_2i_inv h; clear h; obtain ⟨x, y, r, rfl, h⟩ := h3
      obtain ⟨t, ht, h1, h2⟩ := f_br_inv h
      intro H locs la hP hS hl; exact lv_icmp_eq hx hb hd ht (fun q => hjp _ _ _ _ _ (h1 (congrArg Int32.toInt q)) H locs la hP hS hl) (fun q => hnx _ _ _ _ (h2 (fun e => q (Int32.toInt_inj.mp e))) H locs la hP hS hl)
    case ne =>
      have h3 := f_2i_inv h; clear h; obtain ⟨x, y, r, rfl, h⟩ := h3
      obtain ⟨t, ht, h1, h2⟩ := f_br_inv h
      intro H locs la hP hS hl; exact lv_icmp_ne hx hb hd ht (fun q => hjp _ _ _ _ _ (h1 (fun e => q (Int32.toInt_inj.mp e))) H locs la hP hS hl) (fun q => hnx _ _ _ _ (h2 (congrArg Int32.toInt q)) H locs la hP hS hl)
    case lt =>
      have h3 := f_2i_inv h; clear h; obtain ⟨x, y, r, rfl, h⟩ := h3
      obtain ⟨t, ht, h1, h2⟩ := f_br_inv h
      intro H locs la hP hS hl; exact lv_icmp_lt hx hb hd ht (fun q => hjp _ _ _ _ _ (h1 (Int32.lt_iff_toInt_lt.mp q)) H locs la hP hS hl) (fun q => hnx _ _ _ _ (h2 (Int.not_lt.mp (fun e => q (Int32.lt_iff_toInt_lt.mpr e)))) H locs la hP hS hl)
    case ge =>
      have h3 := f_2i_inv h; clear h; obtain ⟨x, y, r, rfl, h⟩ := h3
      obtain ⟨t, ht, h1, h2⟩ := f_br_inv h
      intro H locs la hP hS hl; exact lv_icmp_ge hx hb hd ht (fun q => hjp _ _ _ _ _ (h1 (Int32.le_iff_toInt_le.mp q)) H locs la hP hS hl) (fun q => hnx _ _ _ _ (h2 (Int.not_le.mp (fun e => q (Int32.le_iff_toInt_le.mpr e)))) H locs la hP hS hl)
    case gt =>
      have h3 := f_2i_inv h; clear h; obtain ⟨x, y, r, rfl, h⟩ := h3
      obtain ⟨t, ht, h1, h2⟩ := f_br_inv h
      intro H locs la hP hS hl; exact lv_icmp_gt hx hb hd ht (fun q => hjp _ _ _ _ _ (h1 (Int32.lt_iff_toInt_lt.mp q)) H locs la hP hS hl) (fun q => hnx _ _ _ _ (h2 (Int.not_lt.mp (fun e => q (Int32.lt_iff_toInt_lt.mpr e)))) H locs la hP hS hl)
    case le =>
      have h3 := f_2i_inv h; clear h; obtain ⟨x, y, r, rfl, h⟩ := h3
      obtain ⟨t, ht, h1, h2⟩ := f_br_inv h
      intro H locs la hP hS hl; exact lv_icmp_le hx hb hd ht (fun q => hjp _ _ _ _ _ (h1 (Int32.le_iff_toInt_le.mp q)) H locs la hP hS hl) (fun q => hnx _ _ _ _ (h2 (Int.not_le.mp (fun e => q (Int32.le_iff_toInt_le.mpr e)))) H locs la hP hS hl)
  case ifCond cond off =>
    have e : 3 = len := hlen.resolve_left (fun h => absurd (show 3 = 0 from h) (by decide)); subst e
    cases cond
    case eq =>
      have h3 := f_1i_inv h; clear h; obtain ⟨x, r, rfl, h⟩ := h3
      obtain ⟨t, ht, h1, h2⟩ := f_br_inv h
      intro H locs la hP hS hl; exact lv_if_eq hx hb hd ht (fun q => hjp _ _ _ _ _ (h1 (congrArg Int32.toInt q)) H locs la hP hS hl) (fun q => hnx _ _ _ _ (h2 (fun e => q (Int32.toInt_inj.mp e))) H locs la hP hS hl)
    case ne =>
      have h3 := f_1i_inv h; clear h; obtain ⟨x, r, rfl, h⟩ := h3
      obtain ⟨t, ht, h1, h2⟩ := f_br_inv h
      intro H locs la hP hS hl; exact lv_if_ne hx hb hd ht (fun q => hjp _ _ _ _ _ (h1 (fun e => q (Int32.toInt_inj.mp e))) H locs la hP hS hl) (fun q => hnx _ _ _ _ (h2 (congrArg Int32.toInt q)) H locs la hP hS hl)
    case lt =>
      have h3 := f_1i_inv h; clear h; obtain ⟨x, r, rfl, h⟩ := h3
      obtain ⟨t, ht, h1, h2⟩ := f_br_inv h
      intro H locs la hP hS hl; exact lv_if_lt hx hb hd ht (fun q => hjp _ _ _ _ _ (h1 (Int32.lt_iff_toInt_lt.mp q)) H locs la hP hS hl) (fun q => hnx _ _ _ _ (h2 (Int.not_lt.mp (fun e => q (Int32.lt_iff_toInt_lt.mpr e)))) H locs la hP hS hl)
    case ge =>
      have h3 := f_1i_inv h; clear h; obtain ⟨x, r, rfl, h⟩ := h3
      obtain ⟨t, ht, h1, h2⟩ := f_br_inv h
      intro H locs la hP hS hl; exact lv_if_ge hx hb hd ht (fun q => hjp _ _ _ _ _ (h1 (Int32.le_iff_toInt_le.mp q)) H locs la hP hS hl) (fun q => hnx _ _ _ _ (h2 (Int.not_le.mp (fun e => q (Int32.le_iff_toInt_le.mpr e)))) H locs la hP hS hl)
    case gt =>
      have h3 := f_1i_inv h; clear h; obtain ⟨x, r, rfl, h⟩ := h3
      obtain ⟨t, ht, h1, h2⟩ := f_br_inv h
      intro H locs la hP hS hl; exact lv_if_gt hx hb hd ht (fun q => hjp _ _ _ _ _ (h1 (Int32.lt_iff_toInt_lt.mp q)) H locs la hP hS hl) (fun q => hnx _ _ _ _ (h2 (Int.not_lt.mp (fun e => q (Int32.lt_iff_toInt_lt.mpr e)))) H locs la hP hS hl)
    case le =>
      have h3 := f_1i_inv h; clear h; obtain ⟨x, r, rfl, h⟩ := h3
      obtain ⟨t, ht, h1, h2⟩ := f_br_inv h
      intro H locs la hP hS hl; exact lv_if_le hx hb hd ht (fun q => hjp _ _ _ _ _ (h1 (Int32.le_iff_toInt_le.mp q)) H locs la hP hS hl) (fun q => hnx _ _ _ _ (h2 (Int.not_le.mp (fun e => q (Int32.le_iff_toInt_le.mpr e)))) H locs la hP hS hl)
  case ifnull off =>
    have e : 3 = len := hlen.resolve_left (fun h => absurd (show 3 = 0 from h) (by decide)); subst e
    cases st with
    | nil => exact h.elim
    | cons v r =>
      cases v with
      | ref q => intro H locs la hP hS hl; exact lv_ifnull hx hb hd (hnx _ _ _ _ h H locs la hP hS hl)
      | null => obtain ⟨t, ht, h⟩ := f_br_inv h; intro H locs la hP hS hl; exact lv_ifnullN hx hb hd ht (hjp _ _ _ _ _ h H locs la hP hS hl)
      | _ => exact h.elim
  case ifnonnull off =>
    have e : 3 = len := hlen.resolve_left (fun h => absurd (show 3 = 0 from h) (by decide)); subst e
    cases st with
    | nil => exact h.elim
    | cons v r =>
      cases v with
      | ref q => obtain ⟨t, ht, h⟩ := f_br_inv h; intro H locs la hP hS hl; exact lv_ifnonnull hx hb hd ht (hjp _ _ _ _ _ h H locs la hP hS hl)
      | null => intro H locs la hP hS hl; exact lv_ifnonnullN hx hb hd (hnx _ _ _ _ h H locs la hP hS hl)
      | _ => exact h.elim
  case goto off =>
    have e : 3 = len := hlen.resolve_left (fun h => absurd (show 3 = 0 from h) (by decide)); subst e
    have h3 := f_br_inv h; clear h; obtain ⟨t, ht, h⟩ := h3
    intro H locs la hP hS hl; exact lv_goto hx hb hd ht (hjp _ _ _ _ _ h H locs la hP hS hl)
  case tableswitch dflt lo hi offs =>
    have h3 := f_1i_inv h; clear h; obtain ⟨x, r, rfl, h1, h2⟩ := h3
    intro H locs la hP hS hl
    by_cases q1 : x.toInt < lo
    · obtain ⟨t, ht, h⟩ := f_br_inv (h1 (Or.inl q1))
      exact lv_tableOut hx hb hd (Or.inl q1) ht (hjp _ _ _ _ _ h H locs la hP hS hl)
    · by_cases q2 : hi < x.toInt
      · obtain ⟨t, ht, h⟩ := f_br_inv (h1 (Or.inr q2))
        exact lv_tableOut hx hb hd (Or.inr q2) ht (hjp _ _ _ _ _ h H locs la hP hS hl)
      · obtain ⟨off, ho, h⟩ := h2 q1 q2
        obtain ⟨t, ht, h⟩ := f_br_inv h
        exact lv_tableIn hx hb hd q1 q2 ho ht (hjp _ _ _ _ _ h H locs la hP hS hl)
  case ireturn =>
    have e : 1 = len := hlen.resolve_left (fun h => absurd (show 1 = 0 from h) (by decide)); subst e
    unfold f_step at h; dsimp only at h
    split at h
    · next x =>
      split at h
      · intro H locs la hP hS hl; exact W.iret hx hb hr (fun t ht hW => ⟨⟨some (.int x), I, L, rfl, h, by rw [ht]; exact hP, va_K.moved hW.alike hK⟩, hS.F ht⟩) hS.2.2 hd
      · obtain ⟨hx01, h⟩ := h
        intro H locs la hP hS hl; exact W.zret hx hb hr (by rcases hx01 with rfl | rfl <;> rfl) (fun t ht hW => ⟨⟨some (.int x), I, L, rfl, h, by rw [ht]; exact hP, va_K.moved hW.alike hK⟩, hS.F ht⟩) hS.2.2 hd
      · exact h.elim
    · exact h.elim
  case lreturn =>
    have e : 1 = len := hlen.resolve_left (fun h => absurd (show 1 = 0 from h) (by decide)); subst e
    unfold f_step at h; dsimp only at h
    split at h
    · next x =>
      split at h
      · intro H locs la hP hS hl; exact W.lret hx hb hr (fun t ht hW => ⟨⟨some (.long x), I, L, rfl, h, by rw [ht]; exact hP, va_K.moved hW.alike hK⟩, hS.F ht⟩) hS.2.2 hd
      · exact h.elim
    · exact h.elim
  case return_ =>
    have e : 1 = len := hlen.resolve_left (fun h => absurd (show 1 = 0 from h) (by decide)); subst e
    unfold f_step at h; dsimp only at h
    split at h
    · split at h
      · intro H locs la hP hS hl; exact W.vret hx hb hr (fun t ht hW => ⟨⟨none, I, L, rfl, h, by rw [ht]; exact hP, va_K.moved hW.alike hK⟩, hS.F ht⟩) hS.2.2 hd
      · exact h.elim
    · exact h.elim
  case invokevirtual j =>
    have e : 3 = len := hlen.resolve_left (fun h => absurd (show 3 = 0 from h) (by decide)); subst e
    unfold f_step at h; dsimp only at h
    split at h
    · next na rk' ci pre post hcj =>
      split at h
      · next k vs hav =>
        split at h
        · next ci' ds hy =>
          have h3 := f_if h
          clear h
          obtain ⟨e, h⟩ := h3
          subst e
          exact f_call_ok (hcs j _ hcj) hd (fun st I L h => hnx ls st I L h) (fun _ => ⟨k, vs, ds, hav, hy⟩) h
        · exact h.elim
      · exact h.elim
    · exact h.elim
  case invokestatic j =>
    have e : 3 = len := hlen.resolve_left (fun h => absurd (show 3 = 0 from h) (by decide)); subst e
    unfold f_step at h; dsimp only at h
    split at h
    · next na rk' ci pre post hcj =>
      exact f_call_ok (hcz j _ hcj) hd (fun st I L h => hnx ls st I L h) (fun q => by cases q) h
    · exact h.elim
  all_goals exact h.elim
theorem f_wp_ok {p : Program} {l : Launch} {e : Env} {R : Room} {s : State} {m : MethodId} {args : Array Value} {below : List Frame} {meth : Method} {c : Code} {Y : fY} {NC : Nat} {a : Nat → Nat} {cy : Nat → ClassId} {dC : Nat → ClassId} {dI : Nat → Nat → Nat} {nL : Nat} {K : Option Value → fM → fN → Prop} {cc : ByteArray} {own : String} {rk : Nat}
    {E : State → Prop} (C : f_Cx E p s m args meth c Y NC a cy dC dI nL cc own rk) (hcl : f_clok) {fr : Nat → Option (Nat × Nat × Nat)} (hfr : f_frok own fr) {cs cz : Nat → Option fS} {cn : Nat → Option Int32} {cm : Nat → Option Int64} (hcn : ∀ j v, cn j = some v → Cond.constant own j v ∈ fT) (hcm : ∀ j v, cm j = some v → Cond.constantLong own j v ∈ fT) {sn : Option Nat} (hsn : ∀ j, sn = some j → ∃ tx, vk_R own j tx (a 1000) s)
    (hcs : ∀ j S, cs j = some S → f_cok p l e R s m args below meth c Y NC a cy dC dI nL K cc (.invokevirtual j) true S) (hcz : ∀ j S, cz j = some S → f_cok p l e R s m args below meth c Y NC a cy dC dI nL K cc (.invokestatic j) false S)
    {full : List (Instr × Nat)} (hfull : f_chk cc 0 full = true) {cut : Nat → Option (fLs → List Value → fM → fN → Prop)} (hcut : ∀ t P, cut t = some P → ∀ ls st I L, P ls st I L → f_W p l e R s m args below meth c Y NC a cy dC dI nL K t ls st I L) :
    ∀ (n pc : Nat) (code : List (Instr × Nat)), f_chk cc pc code = true → ∀ (ls : fLs) (st : List Value) (I : fM) (L : fN), f_wp Y fr cs cz cn cm sn nL rk K full cut n pc code ls st I L → f_W p l e R s m args below meth c Y NC a cy dC dI nL K pc ls st I L := by
  intro n
  induction n with
  | zero => intro pc code _ ls st I L h; exact h.elim
  | succ n ih =>
    intro pc code hc ls st I L h
    cases code with
    | nil => exact h.elim
    | cons x r =>
      obtain ⟨i, len⟩ := x
      simp only [f_chk, Bool.and_eq_true, decide_eq_true_eq, Bool.or_eq_true, beq_iff_eq] at hc
      obtain ⟨⟨hd, hl⟩, hr⟩ := hc
      unfold f_wp at h
      refine f_step_ok C hcl hfr hcn hcm hsn hcs hcz hd hl ?_ ?_ h
      · intro ls st I L h
        split at h
        · next P hP => exact hcut _ P hP ls st I L h
        · exact ih _ _ hr ls st I L h
      · intro t ls st I L h
        split at h
        · next P hP => exact hcut _ P hP ls st I L h
        · exact ih _ _ (f_seek_ok t 0 full hfull) ls st I L h
