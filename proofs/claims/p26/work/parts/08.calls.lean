/-! METHODS BY CONTRACT over flat memory, and their calls -/
def f_rm (n : Nat) : Room := { frames := n, cells := 0, slots := 0, locals := 60 * n }
def f_Met (E : State → Prop) (l : Launch) (Y : fY) (NC : Nat) (a : Nat → Nat) (cy : Nat → ClassId) (dC : Nat → ClassId) (dI : Nat → Nat → Nat) (y : MethodName) (cc : ByteArray) (nL rk lv : Nat) (pre : List Value → fM → fN → Prop) (post : List Value → fM → fN → Value → fM → fN → Prop) : Prop :=
  ∀ (av : List Value) (I : fM) (L : fN), pre av I L → Met l y (Cond.code y cc nL (f_rt rk) :: fT) (f_rm lv) (va_Pc (av.map (f_tr a)) (fun U => va_P (dC, dI) vwCl (f_w Y NC a cy I L) U.heap ∧ va_K (dC, dI) vwCl (f_tys cy) U ∧ E U)) (f_Q Y NC a cy dC dI (f_K rk (post av I L))) 0 0 (f_A NC a)
theorem f_sl_len (a : Nat → Nat) : ∀ av : List Value, (lg_sl (av.map (f_tr a))).length = (lg_sl av).length
  | [] => rfl
  | v :: vs => by
    have h := f_sl_len a vs
    simp only [lg_sl, List.map_cons, List.flatMap_cons, List.length_append, f_tr_cat] at h ⊢
    rw [h]
    by_cases q : v.category = 2 <;> simp [q]
theorem f_met_of {E : State → Prop} {l : Launch} {Y : fY} {NC : Nat} {a : Nat → Nat} {cy : Nat → ClassId} {dC : Nat → ClassId} {dI : Nat → Nat → Nat} {y : MethodName} {cc : ByteArray} {nL rk lv : Nat} {pre : List Value → fM → fN → Prop} {post : List Value → fM → fN → Value → fM → fN → Prop}
    (hEc : f_Ec E NC a) (hinj : ∀ i j, i < NC → j < NC → a i = a j → i = j) (hY : ∀ k, NC ≤ k → Y k = .inr (99, [])) (hplain : plainName y.cls = true) (hargs : ∀ av I L, pre av I L → (lg_sl av).length ≤ nL)
    (body : ∀ p e s m args below meth c, f_Cx E p s m args meth c Y NC a cy dC dI nL cc y.cls rk → ∀ av I L, pre av I L → f_W p l e (f_rm lv) s m args below meth c Y NC a cy dC dI nL (f_K rk (post av I L)) 0 (lv_args 0 av) [] I L) : f_Met E l Y NC a cy dC dI y cc nL rk lv pre post := by
  intro av I L hpre
  refine Met.ofW (cc := cc) (maxL := nL) (ret := f_rt rk) hplain rfl ?_
  intro p e s m args below meth c s₁ B hml hv
  obtain ⟨rfl, hP, hK, hE⟩ := hv
  have hts := atoms_spec (ws := Cond.code y cc nL (f_rt rk) :: fT) B.pre
  have hC : f_Cx E p s m (av.map (f_tr a)).toArray meth c Y NC a cy dC dI nL cc y.cls rk := ⟨B.exec, B.bytes, hml, findClass_of_methodNamed B.named, fun w h => hts w (List.mem_cons_of_mem _ h), B.notSynchronized, B.returns, hK, hinj, hY, hE, hEc⟩
  have hb := body p e s m _ below meth c hC av I L hpre
  have hl := lv_entry (av.map (f_tr a)) (n := nL) (by rw [f_sl_len]; exact hargs av I L hpre)
  rw [lg_entry_eq]
  exact hb s.heap [] _ hP va_S.rf (by rw [← f_args_tr]; exact hl)
theorem f_goodV {own : String} {idx : Nat} {y : MethodName} {cc : ByteArray} {nL : Nat} {ret : Option FieldType} (h : ∀ w ∈ ([.methodLink own idx y, .instanceMethod y, .selects y.cls y y, .initialized y.cls, .code y cc nL ret] : List Cond), w ∈ fT) : GoodIn fT (wsV own idx y.cls y (Cond.code y cc nL ret :: fT)) := by
  intro w hw
  have hm : w ∈ fT := by
    unfold wsV at hw
    rcases List.mem_append.mp hw with h1 | h1
    · refine h w ?_
      simp only [List.mem_cons, List.not_mem_nil, or_false] at h1 ⊢
      rcases h1 with h1 | h1 | h1 | h1 <;> simp [h1]
    · rcases List.mem_cons.mp h1 with h1 | h1
      · exact h w (by simp [h1])
      · exact h1
  exact ⟨hm, fT_good hm⟩
theorem f_goodS {own : String} {idx : Nat} {y : MethodName} {cc : ByteArray} {nL : Nat} {ret : Option FieldType} (h : ∀ w ∈ ([.methodLink own idx y, .static y, .initialized y.cls, .code y cc nL ret] : List Cond), w ∈ fT) : GoodIn fT (va_wsS own idx y (Cond.code y cc nL ret :: fT)) := by
  intro w hw
  have hm : w ∈ fT := by
    unfold va_wsS at hw
    rcases List.mem_append.mp hw with h1 | h1
    · refine h w ?_
      simp only [List.mem_cons, List.not_mem_nil, or_false] at h1 ⊢
      rcases h1 with h1 | h1 | h1 <;> simp [h1]
    · rcases List.mem_cons.mp h1 with h1 | h1
      · exact h w (by simp [h1])
      · exact h1
  exact ⟨hm, fT_good hm⟩
theorem f_back {p : Program} {l : Launch} {e : Env} {R : Room} {s : State} {m : MethodId} {args : Array Value} {below : List Frame} {meth : Method} {c : Code} {Y : fY} {NC : Nat} {a : Nat → Nat} {cy : Nat → ClassId} {dC : Nat → ClassId} {dI : Nat → Nat → Nat} {nL : Nat} {K : Option Value → fM → fN → Prop} {pc : Nat} {ls : fLs} {st0 : List Value} {rest : List Value} {H : Heap} {locs : List Loc} {la : Array Slot} {Kc : Option Value → fM → fN → Prop} {ac : Array Value}
    (run : va_Run p l e R s m args below meth c H locs 0 0 0 0 (F0 m pc la st0) (rest.map (f_tr a)) (f_Q Y NC a cy dC dI Kc ac) (f_A NC a)) (hS : va_S (f_A NC a) s.heap H locs) (hl : lv_has la nL (f_trl a ls))
    (hk : ∀ r I' L', Kc r I' L' → f_W p l e R s m args below meth c Y NC a cy dC dI nL K (pc + 3) ls (r.toList ++ rest) I' L') : W p l e R s m args below meth c H locs 0 0 (MQ below (f_Q Y NC a cy dC dI K) args s 0 0 (f_A NC a)) (F0 m pc la st0) := by
  intro T hT X
  obtain ⟨v, st₀, t, T', L', h0, X', hL', e1, e2, ⟨⟨r, I', L'', hv, hKr, hP1, -⟩, hz, hkeep⟩, hgo⟩ := run T hT X
  rw [h0] at hz hkeep
  have hS1 : va_S (f_A NC a) s.heap T'.heap (locs ++ L') := ⟨Nat.le_trans hS.1 (by rw [e1]; exact hz), fun q h1 h2 => by rw [e1, hkeep q (Nat.lt_of_lt_of_le h1 hS.1) h2]; exact hS.2.1 q h1 h2, fun q hq => by
    rcases List.mem_append.mp hq with h | h
    · exact hS.2.2 q h
    · exact hL' q h⟩
  cases hv
  obtain ⟨t2, a1, b1⟩ := hk r I' L'' hKr T'.heap (locs ++ L') la (by rw [e1]; exact hP1) hS1 hl T' rfl X'
  refine ⟨t2, hgo t2 ?_, b1⟩
  cases r <;> exact a1
theorem f_cokV {p : Program} {l : Launch} {e : Env} {R : Room} {s : State} {m : MethodId} {args : Array Value} {below : List Frame} {meth : Method} {c : Code} {Y : fY} {NC : Nat} {a : Nat → Nat} {cy : Nat → ClassId} {dC : Nat → ClassId} {dI : Nat → Nat → Nat} {nL : Nat} {K : Option Value → fM → fN → Prop} {cc : ByteArray} {own : String} {rk0 : Nat}
    {E : State → Prop} (C : f_Cx E p s m args meth c Y NC a cy dC dI nL cc own rk0) {y : MethodName} {cc' : ByteArray} {nL' rk lv n ci idx : Nat} {pre : List Value → fM → fN → Prop} {post : List Value → fM → fN → Value → fM → fN → Prop} {T : u_T} {N : Nat}
    (hM : f_Met E l Y NC a cy dC dI y cc' nL' rk lv pre post) (hci : vwCl[ci]? = some (y.cls, T, N)) (hw : ∀ w ∈ ([.methodLink own idx y, .instanceMethod y, .selects y.cls y y, .initialized y.cls, .code y cc' nL' (f_rt rk)] : List Cond), w ∈ fT)
    (hy : y.cls ≠ "java/lang/invoke/MethodHandle" ∧ y.cls ≠ "java/lang/invoke/VarHandle" ∧ (parseMethodDescriptor y.desc).map (fun d => d.parameters.length) = some n) (hR : lv + 1 ≤ R.frames ∧ 8 + (nL' + 11) + 60 * lv ≤ R.locals) :
    f_cok p l e R s m args below meth c Y NC a cy dC dI nL K cc (.invokevirtual idx) true (n + 1, rk, ci, pre, post) := by
  obtain ⟨hx, hb, hml, hown, hts, hlocks, hr, hK, hinj, hY, hE, hEc⟩ := C
  intro pc hd ls av rest I L hlen hsum hv hpre hk
  obtain ⟨k, vs, ds, rfl, hyk⟩ := hv rfl
  dsimp only at hlen hyk hpre hk
  have hkN : k < NC := by
    rcases Nat.lt_or_ge k NC with q | q
    · exact q
    · rw [hY k q] at hyk
      cases hyk
      simp [vwCl] at hci
  intro H locs la hP hS hl
  have he : (f_w Y NC a cy I L)[k]? = some (a k, .inr (ci, f_fs a (I k) (L k) ds)) := by rw [f_w_at Y a cy I L hkN, f_cell_o hyk]
  refine f_back (rest := rest) (ls := ls) (va_runV (As := vs.map (f_tr a)) (b := a k) (rest := rest.map (f_tr a)) ⟨hx, hb, hml, hown, hts⟩ (hM (.ref k :: vs) I L hpre) (cwV n hts (f_goodV hw) rfl rfl rfl ⟨rfl, hy⟩ hR) ⟨fun a' U g mk q => by obtain ⟨q0, qP, qK, qE⟩ := q; exact ⟨q0, qP, va_K.moved (u := U) (U := U.calling g mk a') (Vm.Alike.refl U.vm) qK, hEc.2 U g mk a' qE⟩, va_recv hK hP hci he, fun U hU hW => ⟨rfl, by rw [hU]; exact hP, va_K.moved hW.alike hK, hEc.1 s U H locs hE hS hU hW⟩⟩ rfl (by simpa using hlen) hl.1 (by simp [F0, f_tr]) (lv_room (by rw [List.map_map]; simpa [Function.comp_def, f_tr_cat] using hsum)) hd ⟨Nat.zero_le _, Nat.zero_le _⟩) hS hl hk
theorem f_cokS {p : Program} {l : Launch} {e : Env} {R : Room} {s : State} {m : MethodId} {args : Array Value} {below : List Frame} {meth : Method} {c : Code} {Y : fY} {NC : Nat} {a : Nat → Nat} {cy : Nat → ClassId} {dC : Nat → ClassId} {dI : Nat → Nat → Nat} {nL : Nat} {K : Option Value → fM → fN → Prop} {cc : ByteArray} {own : String} {rk0 : Nat}
    {E : State → Prop} (C : f_Cx E p s m args meth c Y NC a cy dC dI nL cc own rk0) {y : MethodName} {cc' : ByteArray} {nL' rk lv n ci idx : Nat} {pre : List Value → fM → fN → Prop} {post : List Value → fM → fN → Value → fM → fN → Prop}
    (hM : f_Met E l Y NC a cy dC dI y cc' nL' rk lv pre post) (hw : ∀ w ∈ ([.methodLink own idx y, .static y, .initialized y.cls, .code y cc' nL' (f_rt rk)] : List Cond), w ∈ fT)
    (hy : y.cls ≠ "java/lang/invoke/MethodHandle" ∧ y.cls ≠ "java/lang/invoke/VarHandle" ∧ (parseMethodDescriptor y.desc).map (fun d => d.parameters.length) = some n) (hR : lv + 1 ≤ R.frames ∧ 8 + (nL' + 11) + 60 * lv ≤ R.locals) :
    f_cok p l e R s m args below meth c Y NC a cy dC dI nL K cc (.invokestatic idx) false (n, rk, ci, pre, post) := by
  obtain ⟨hx, hb, hml, hown, hts, hlocks, hr, hK, hinj, hY, hE, hEc⟩ := C
  intro pc hd ls av rest I L hlen hsum hv hpre hk
  dsimp only at hlen hpre hk
  intro H locs la hP hS hl
  refine f_back (rest := rest) (ls := ls) (va_runS (As := av.map (f_tr a)) (rest := rest.map (f_tr a)) ⟨hx, hb, hml, hown, hts⟩ (hM av I L hpre) (va_cwS n hts (f_goodS hw) rfl rfl rfl hy hR) ⟨fun a' U g mk q => by obtain ⟨q0, qP, qK, qE⟩ := q; exact ⟨q0, qP, va_K.moved (u := U) (U := U.calling g mk a') (Vm.Alike.refl U.vm) qK, hEc.2 U g mk a' qE⟩, fun U hU hW => ⟨rfl, by rw [hU]; exact hP, va_K.moved hW.alike hK, hEc.1 s U H locs hE hS hU hW⟩⟩ rfl (by simpa using hlen) hl.1 (by simp [F0]) (lv_room (by rw [List.map_map]; simpa [Function.comp_def, f_tr_cat] using hsum)) hd ⟨Nat.zero_le _, Nat.zero_le _⟩) hS hl hk
/-- System.arraycopy between two arrays of ints, or of longs -/
def p_copy (Y : fY) (av : List Value) (_ : fM) (_ : fN) : Prop := match av with
  | [.ref ks, .int sp, .ref kd, .int dp, .int n] => ∃ t n0 n1 : Nat, (t = 0 ∨ t = 1) ∧ Y ks = .inl (t, n0) ∧ Y kd = .inl (t, n1) ∧ 0 ≤ sp.toInt ∧ 0 ≤ dp.toInt ∧ 0 ≤ n.toInt ∧ sp.toInt + n.toInt ≤ n0 ∧ dp.toInt + n.toInt ≤ n1
  | _ => False
def q_copy (Y : fY) (av : List Value) (I : fM) (L : fN) (r : Value) (I' : fM) (L' : fN) : Prop := match av, r with
  | [.ref ks, .int sp, .ref kd, .int dp, .int n], .null => (match Y kd with
    | .inl (0, _) => I' = va_up I kd (va_cpy (I ks) (I kd) sp.toNatClampNeg dp.toNatClampNeg n.toNatClampNeg) ∧ L' = L
    | _ => I' = I ∧ L' = va_up L kd (va_cpy (L ks) (L kd) sp.toNatClampNeg dp.toNatClampNeg n.toNatClampNeg))
  | _, _ => False
theorem f_nneg {x : Int32} (h : 0 ≤ x.toInt) : ¬ x < 0 := fun q => by
  have h1 := Int32.lt_iff_toInt_lt.mp q
  have h2 : (0 : Int32).toInt = 0 := rfl
  omega
theorem f_cokC {p : Program} {l : Launch} {e : Env} {R : Room} {s : State} {m : MethodId} {args : Array Value} {below : List Frame} {meth : Method} {c : Code} {Y : fY} {NC : Nat} {a : Nat → Nat} {cy : Nat → ClassId} {dC : Nat → ClassId} {dI : Nat → Nat → Nat} {nL : Nat} {K : Option Value → fM → fN → Prop} {cc : ByteArray} {own : String} {rk0 : Nat}
    {E : State → Prop} (C : f_Cx E p s m args meth c Y NC a cy dC dI nL cc own rk0) {idx ci : Nat} (hl : Cond.methodLink own idx arraycopyName ∈ fT) (hw : ∀ w ∈ ([.native arraycopyName, .static arraycopyName, .initialized "java/lang/System"] : List Cond), w ∈ fT) (hR : 1 ≤ R.frames ∧ 8 + (nativeFrameWords "java/lang/System" "arraycopy" 5 + 11) ≤ R.locals) :
    f_cok p l e R s m args below meth c Y NC a cy dC dI nL K cc (.invokestatic idx) false (5, 0, ci, p_copy Y, q_copy Y) := by
  obtain ⟨hx, hb, hml, hown, hts, hlocks, hr, hK, hinj, hY, hE, hEc⟩ := C
  intro pc hd ls av rest I L hlen hsum hv hpre hk
  dsimp only at hlen hpre hk
  unfold p_copy at hpre
  split at hpre
  · next ks sp kd dp n =>
    obtain ⟨t, n0, n1, ht, hy0, hy1, b1, b2, b3, b4, b5⟩ := hpre
    have hlt : ∀ {k : Nat} {t : Nat × Nat}, Y k = .inl t → k < NC := by
      intro k t h1
      rcases Nat.lt_or_ge k NC with q | q
      · exact q
      · rw [hY k q] at h1
        cases h1
    have c4 : sp.toNatClampNeg + n.toNatClampNeg ≤ n0 := by
      show sp.toInt.toNat + n.toInt.toNat ≤ n0
      omega
    have c5 : dp.toNatClampNeg + n.toNatClampNeg ≤ n1 := by
      show dp.toInt.toNat + n.toInt.toNat ≤ n1
      omega
    have hs2 : ((rest.map (f_tr a)).map fun v => v.category).sum ≤ 8 := by rw [List.map_map]; simpa [Function.comp_def, f_tr_cat] using hsum
    intro H locs la hP hS hl2
    have hw0 := hts _ (hw _ (List.mem_of_getElem? (i := 0) rfl))
    have hw1 := hts _ (hw _ (List.mem_of_getElem? (i := 1) rfl))
    have hw2 := hts _ (hw _ (List.mem_of_getElem? (i := 2) rfl))
    rcases ht with rfl | rfl
    · refine va_copyi (rest := rest.map (f_tr a)) hx hb (hml.trans hl2.1.symm) hown (hts _ hl) hw0 hw1 hw2 hK hP (f_w_D Y cy I L hinj) hS ks kd 0 0 (by rw [f_w_at Y a cy I L (hlt hy0), f_cell_0 hy0]) (by rw [f_w_at Y a cy I L (hlt hy1), f_cell_0 hy1]) rfl rfl rfl (f_nneg b1) (f_nneg b2) (f_nneg b3) c4 c5 (fun _ _ => rfl) hR.1 (by omega) hd (fun H1 locs1 hP1 _ hS1 => ?_)
      refine hk none (va_up I kd (va_cpy (I ks) (I kd) sp.toNatClampNeg dp.toNatClampNeg n.toNatClampNeg)) L ?_ H1 locs1 la (by rw [← f_w_setI Y a cy I L (hlt hy1), f_cell_0 hy1]; exact hP1) hS1 hl2
      show (match Y kd with | .inl (0, _) => _ | _ => _)
      rw [hy1]
      exact ⟨rfl, rfl⟩
    · refine va_copyl (rest := rest.map (f_tr a)) hx hb (hml.trans hl2.1.symm) hown (hts _ hl) hw0 hw1 hw2 hK hP (f_w_D Y cy I L hinj) hS ks kd 1 1 (by rw [f_w_at Y a cy I L (hlt hy0), f_cell_1 hy0]) (by rw [f_w_at Y a cy I L (hlt hy1), f_cell_1 hy1]) rfl rfl rfl (f_nneg b1) (f_nneg b2) (f_nneg b3) c4 c5 (fun _ _ => rfl) hR.1 (by omega) hd (fun H1 locs1 hP1 _ hS1 => ?_)
      refine hk none I (va_up L kd (va_cpy (L ks) (L kd) sp.toNatClampNeg dp.toNatClampNeg n.toNatClampNeg)) ?_ H1 locs1 la (by rw [← f_w_setL Y a cy I L (hlt hy1), f_cell_1 hy1]; exact hP1) hS1 hl2
      show (match Y kd with | .inl (0, _) => _ | _ => _)
      rw [hy1]
      exact ⟨rfl, rfl⟩
  · exact hpre.elim
