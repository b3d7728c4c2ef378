/-! String.indexOf on the constant text of the signs -/
theorem sx_gets {p : Program} {l : Launch} {e : Env} {R : Room} {s : State} {m : MethodId} {args : Array Value} {below : List Frame} {meth : Method} {c : Code} {a : Nat → Nat} {cy : Nat → ClassId} {dC : Nat → ClassId} {dI : Nat → Nat → Nat} {nL : Nat} {K : Option Value → fM → fN → Prop} {cc : ByteArray} {rk : Nat} (C : f_Cx (xE a) p s m args meth c xY 80 a cy dC dI nL cc RJ0 rk) {pc : Nat} (hd : decode cc pc = .ok (.getstatic 38, 3)) {ls : fLs} {st : List Value} {I : fM} {L : fN} (k : f_W p l e R s m args below meth c xY 80 a cy dC dI nL K (pc + 3) ls (.int 1 :: st) I L) : f_W p l e R s m args below meth c xY 80 a cy dC dI nL K pc ls (st) I L := by
  obtain ⟨hx, hb, hml, hown, hts, hlocks, hr, hK, hinj, hY, hE, hEc⟩ := C
  intro H locs la hP hS hl
  exact va_gets hx hb hE.2.2 hS hown (hts _ fk_38) (fun _ h => h) hd (k H locs la hP hS hl)
theorem sx_val {p : Program} {l : Launch} {e : Env} {R : Room} {s : State} {m : MethodId} {args : Array Value} {below : List Frame} {meth : Method} {c : Code} {a : Nat → Nat} {cy : Nat → ClassId} {dC : Nat → ClassId} {dI : Nat → Nat → Nat} {nL : Nat} {K : Option Value → fM → fN → Prop} {cc : ByteArray} {rk : Nat} (C : f_Cx (xE a) p s m args meth c xY 80 a cy dC dI nL cc RJ0 rk) {pc : Nat} (hd : decode cc pc = .ok (.getfield 9, 3)) {ls : fLs} {st : List Value} {I : fM} {L : fN} (k : f_W p l e R s m args below meth c xY 80 a cy dC dI nL K (pc + 3) ls (.ref 1001 :: st) I L) : f_W p l e R s m args below meth c xY 80 a cy dC dI nL K pc ls (.ref 1000 :: st) I L := by
  obtain ⟨hx, hb, hml, hown, hts, hlocks, hr, hK, hinj, hY, hE, hEc⟩ := C
  intro H locs la hP hS hl
  exact vk_getf hx hb (hE.1.1 0 (by decide)).2.2.1 hS hown (hts _ fk_9) (fun _ h => h) hd (k H locs la hP hS hl)
theorem sx_cod {p : Program} {l : Launch} {e : Env} {R : Room} {s : State} {m : MethodId} {args : Array Value} {below : List Frame} {meth : Method} {c : Code} {a : Nat → Nat} {cy : Nat → ClassId} {dC : Nat → ClassId} {dI : Nat → Nat → Nat} {nL : Nat} {K : Option Value → fM → fN → Prop} {cc : ByteArray} {rk : Nat} (C : f_Cx (xE a) p s m args meth c xY 80 a cy dC dI nL cc RJ0 rk) {pc : Nat} (hd : decode cc pc = .ok (.getfield 15, 3)) {ls : fLs} {st : List Value} {I : fM} {L : fN} (k : f_W p l e R s m args below meth c xY 80 a cy dC dI nL K (pc + 3) ls (.int 0 :: st) I L) : f_W p l e R s m args below meth c xY 80 a cy dC dI nL K pc ls (.ref 1000 :: st) I L := by
  obtain ⟨hx, hb, hml, hown, hts, hlocks, hr, hK, hinj, hY, hE, hEc⟩ := C
  intro H locs la hP hS hl
  exact vk_getf hx hb (hE.1.1 0 (by decide)).2.1 hS hown (hts _ fk_15) (fun _ h => h) hd (k H locs la hP hS hl)
theorem sx_len {p : Program} {l : Launch} {e : Env} {R : Room} {s : State} {m : MethodId} {args : Array Value} {below : List Frame} {meth : Method} {c : Code} {a : Nat → Nat} {cy : Nat → ClassId} {dC : Nat → ClassId} {dI : Nat → Nat → Nat} {nL : Nat} {K : Option Value → fM → fN → Prop} {cc : ByteArray} {rk : Nat} {own : String} (C : f_Cx (xE a) p s m args meth c xY 80 a cy dC dI nL cc own rk) {pc : Nat} (hd : decode cc pc = .ok (.arraylength, 1)) {ls : fLs} {st : List Value} {I : fM} {L : fN} (k : f_W p l e R s m args below meth c xY 80 a cy dC dI nL K (pc + 1) ls (.int (Int32.ofNat 5) :: st) I L) : f_W p l e R s m args below meth c xY 80 a cy dC dI nL K pc ls (.ref 1001 :: st) I L := by
  obtain ⟨hx, hb, hml, hown, hts, hlocks, hr, hK, hinj, hY, hE, hEc⟩ := C
  intro H locs la hP hS hl
  exact va_tlen hx hb (hE.1.1 0 (by decide)).2.2.2 hS rfl hd (k H locs la hP hS hl)
theorem sx_bal {p : Program} {l : Launch} {e : Env} {R : Room} {s : State} {m : MethodId} {args : Array Value} {below : List Frame} {meth : Method} {c : Code} {a : Nat → Nat} {cy : Nat → ClassId} {dC : Nat → ClassId} {dI : Nat → Nat → Nat} {nL : Nat} {K : Option Value → fM → fN → Prop} {cc : ByteArray} {rk : Nat} {own : String} (C : f_Cx (xE a) p s m args meth c xY 80 a cy dC dI nL cc own rk) {pc : Nat} (hd : decode cc pc = .ok (.baload, 1)) {ls : fLs} {st : List Value} {I : fM} {L : fN} {i : Int32} (hi : f_in i 5) (k : f_W p l e R s m args below meth c xY 80 a cy dC dI nL K (pc + 1) ls (.int (([59, 40, 41, 47, 92] : List Int32).getD i.toNatClampNeg 0) :: st) I L) : f_W p l e R s m args below meth c xY 80 a cy dC dI nL K pc ls (.int i :: .ref 1001 :: st) I L := by
  obtain ⟨hx, hb, hml, hown, hts, hlocks, hr, hK, hinj, hY, hE, hEc⟩ := C
  intro H locs la hP hS hl
  exact va_tb hx hb (hE.1.1 0 (by decide)).2.2.2 hS (f_in_vp hi) rfl hd (k H locs la hP hS hl)
theorem f_cokX {p : Program} {l : Launch} {e : Env} {R : Room} {s : State} {m : MethodId} {args : Array Value} {below : List Frame} {meth : Method} {c : Code} {a : Nat → Nat} {cy : Nat → ClassId} {dC : Nat → ClassId} {dI : Nat → Nat → Nat} {nL : Nat} {K : Option Value → fM → fN → Prop} {cc : ByteArray} {own : String} {rk0 : Nat} (C : f_Cx (xE a) p s m args meth c xY 80 a cy dC dI nL cc own rk0) {y : MethodName} {cc' : ByteArray} {nL' rk lv n idx : Nat} {pre : List Value → fM → fN → Prop} {post : List Value → fM → fN → Value → fM → fN → Prop} {ret : Option FieldType} (hcls : y.cls = RJ0)
    (hM : ∀ (av : List Value) (I : fM) (L : fN), pre av I L → Met l y (Cond.code y cc' nL' ret :: fT) (f_rm lv) (va_Pc (av.map (f_tr a)) (fun U => va_P (dC, dI) vwCl (f_w xY 80 a cy I L) U.heap ∧ va_K (dC, dI) vwCl (f_tys cy) U ∧ xE a U)) (f_Q xY 80 a cy dC dI (f_K rk (post av I L))) 0 0 (f_A 80 a)) (hp : ∀ av I L, pre av I L → ∃ vs, av = .ref 1000 :: vs)
    (hw : ∀ w ∈ ([.methodLink own idx y, .instanceMethod y, .selects y.cls y y, .initialized y.cls, .code y cc' nL' ret] : List Cond), w ∈ fT) (hy : y.cls ≠ "java/lang/invoke/MethodHandle" ∧ y.cls ≠ "java/lang/invoke/VarHandle" ∧ (parseMethodDescriptor y.desc).map (fun d => d.parameters.length) = some n) (hR : lv + 1 ≤ R.frames ∧ 8 + (nL' + 11) + 60 * lv ≤ R.locals) :
    f_cok p l e R s m args below meth c xY 80 a cy dC dI nL K cc (.invokevirtual idx) true (n + 1, rk, 99, pre, post) := by
  obtain ⟨hx, hb, hml, hown, hts, hlocks, hr, hK, hinj, hY, hE, hEc⟩ := C
  intro pc hd ls av rest I L hlen hsum hv hpre hk
  dsimp only at hlen hpre hk
  obtain ⟨vs, rfl⟩ := hp av I L hpre
  intro H locs la hP hS hl
  refine f_back (rest := rest) (ls := ls) (va_runV (As := vs.map (f_tr a)) (b := a 1000) (rest := rest.map (f_tr a)) ⟨hx, hb, hml, hown, hts⟩ (hM (.ref 1000 :: vs) I L hpre) (cwV n hts (f_goodV hw) rfl rfl rfl ⟨rfl, hy⟩ hR) ⟨fun a' U g mk q => by obtain ⟨q0, qP, qK, qE⟩ := q; exact ⟨q0, qP, va_K.moved (u := U) (U := U.calling g mk a') (Vm.Alike.refl U.vm) qK, hEc.2 U g mk a' qE⟩, (by rw [hcls]; exact vk_recv hE.1 (i := 0) (by decide) hS), fun U hU hW => ⟨rfl, by rw [hU]; exact hP, va_K.moved hW.alike hK, hEc.1 s U H locs hE hS hU hW⟩⟩ rfl (by simpa using hlen) hl.1 (by simp [F0, f_tr]) (lv_room (by rw [List.map_map]; simpa [Function.comp_def, f_tr_cat] using hsum)) hd ⟨Nat.zero_le _, Nat.zero_le _⟩) hS hl hk
def pJ0_coder_7d493 (av : List Value) (I : fM) (L : fN) : Prop := match av with
  | [.ref 1000] => True
  | _ => False
def qJ0_coder_7d493 (av : List Value) (I : fM) (L : fN) (r : Value) (I' : fM) (L' : fN) : Prop := match av, r with
  | [.ref 1000], .int x => I' = I ∧ L' = L ∧ x = 0
  | _, _ => False
theorem mJ0_coder_7d493 {l : Launch} {a : Nat → Nat} {cy dC : Nat → ClassId} {dI : Nat → Nat → Nat} (hinj : ∀ i j, i < 80 → j < 80 → a i = a j → i = j) (av : List Value) (I : fM) (L : fN) (h : pJ0_coder_7d493 av I L) : Met l yJ0_coder_7d493 (Cond.code yJ0_coder_7d493 cJ0_coder_7d493 1 (some .byte) :: fT) (f_rm 0) (va_Pc (av.map (f_tr a)) (fun U => va_P (dC, dI) vwCl (f_w xY 80 a cy I L) U.heap ∧ va_K (dC, dI) vwCl (f_tys cy) U ∧ xE a U)) (f_Q xY 80 a cy dC dI (f_K 1 (qJ0_coder_7d493 av I L))) 0 0 (f_A 80 a) := by
  unfold pJ0_coder_7d493 at h
  split at h
  case h_2 => exact h.elim
  refine Met.ofW (cc := cJ0_coder_7d493) (maxL := 1) (ret := some .byte) (by decide) rfl ?_
  intro p e s m args below meth c s₁ B hml hv
  obtain ⟨rfl, hP, hK, hE⟩ := hv
  have hts := atoms_spec (ws := Cond.code yJ0_coder_7d493 cJ0_coder_7d493 1 (some .byte) :: fT) B.pre
  have hown := findClass_of_methodNamed B.named
  have hl := lv_entry [Value.ref (a 1000)] (n := 1) (Nat.le_refl 1)
  rw [lg_entry_eq]
  have hS : va_S (f_A 80 a) s.heap s.heap [] := va_S.rf
  refine va_gets B.exec B.bytes hE.2.2 hS hown (hts _ (List.mem_cons_of_mem _ fk_38)) (fun _ h => h) (show decode cJ0_coder_7d493 0 = .ok (.getstatic 38, 3) by decide +kernel) ?_
  refine lv_if_eq B.exec B.bytes (show decode cJ0_coder_7d493 3 = .ok (.ifCond .eq 10, 3) by decide +kernel) (tgt := 13) rfl (fun q => absurd q (by decide)) (fun _ => ?_)
  refine lv_aload_n B.exec B.bytes (show decode cJ0_coder_7d493 6 = .ok (.aload_n 0, 1) by decide +kernel) rfl (hl.2.2 _ (List.mem_of_getElem? (i := 0) rfl)) ?_
  refine vk_getf B.exec B.bytes (hE.1.1 0 (by decide)).2.1 hS hown (hts _ (List.mem_cons_of_mem _ fk_15)) (fun _ h => h) (show decode cJ0_coder_7d493 7 = .ok (.getfield 15, 3) by decide +kernel) ?_
  refine lv_goto B.exec B.bytes (show decode cJ0_coder_7d493 10 = .ok (.goto 4, 3) by decide +kernel) (tgt := 14) rfl ?_
  exact W.zret B.exec B.bytes B.returns rfl (fun t ht hW => ⟨⟨some (.int 0), I, L, rfl, ⟨rfl, rfl, rfl⟩, by rw [ht]; exact hP, va_K.moved hW.alike hK⟩, hS.F ht⟩) hS.2.2 (show decode cJ0_coder_7d493 14 = .ok (.ireturn, 1) by decide +kernel)
def pJ0_isLatin1_aae02 (av : List Value) (I : fM) (L : fN) : Prop := match av with
  | [.ref 1000] => True
  | _ => False
def qJ0_isLatin1_aae02 (av : List Value) (I : fM) (L : fN) (r : Value) (I' : fM) (L' : fN) : Prop := match av, r with
  | [.ref 1000], .int x => I' = I ∧ L' = L ∧ x.toInt = 1
  | _, _ => False
theorem mJ0_isLatin1_aae02 {l : Launch} {a : Nat → Nat} {cy dC : Nat → ClassId} {dI : Nat → Nat → Nat} (hinj : ∀ i j, i < 80 → j < 80 → a i = a j → i = j) (av : List Value) (I : fM) (L : fN) (h : pJ0_isLatin1_aae02 av I L) : Met l yJ0_isLatin1_aae02 (Cond.code yJ0_isLatin1_aae02 cJ0_isLatin1_aae02 1 (some .boolean) :: fT) (f_rm 0) (va_Pc (av.map (f_tr a)) (fun U => va_P (dC, dI) vwCl (f_w xY 80 a cy I L) U.heap ∧ va_K (dC, dI) vwCl (f_tys cy) U ∧ xE a U)) (f_Q xY 80 a cy dC dI (f_K 3 (qJ0_isLatin1_aae02 av I L))) 0 0 (f_A 80 a) := by
  unfold pJ0_isLatin1_aae02 at h
  split at h
  case h_2 => exact h.elim
  refine Met.ofW (cc := cJ0_isLatin1_aae02) (maxL := 1) (ret := some .boolean) (by decide) rfl ?_
  intro p e s m args below meth c s₁ B hml hv
  obtain ⟨rfl, hP, hK, hE⟩ := hv
  have hts := atoms_spec (ws := Cond.code yJ0_isLatin1_aae02 cJ0_isLatin1_aae02 1 (some .boolean) :: fT) B.pre
  have hown := findClass_of_methodNamed B.named
  have hl := lv_entry [Value.ref (a 1000)] (n := 1) (Nat.le_refl 1)
  rw [lg_entry_eq]
  have hS : va_S (f_A 80 a) s.heap s.heap [] := va_S.rf
  refine va_gets B.exec B.bytes hE.2.2 hS hown (hts _ (List.mem_cons_of_mem _ fk_38)) (fun _ h => h) (show decode cJ0_isLatin1_aae02 0 = .ok (.getstatic 38, 3) by decide +kernel) ?_
  refine lv_if_eq B.exec B.bytes (show decode cJ0_isLatin1_aae02 3 = .ok (.ifCond .eq 14, 3) by decide +kernel) (tgt := 17) rfl (fun q => absurd q (by decide)) (fun _ => ?_)
  refine lv_aload_n B.exec B.bytes (show decode cJ0_isLatin1_aae02 6 = .ok (.aload_n 0, 1) by decide +kernel) rfl (hl.2.2 _ (List.mem_of_getElem? (i := 0) rfl)) ?_
  refine vk_getf B.exec B.bytes (hE.1.1 0 (by decide)).2.1 hS hown (hts _ (List.mem_cons_of_mem _ fk_15)) (fun _ h => h) (show decode cJ0_isLatin1_aae02 7 = .ok (.getfield 15, 3) by decide +kernel) ?_
  refine lv_if_ne B.exec B.bytes (show decode cJ0_isLatin1_aae02 10 = .ok (.ifCond .ne 7, 3) by decide +kernel) (tgt := 17) rfl (fun q => absurd rfl q) (fun _ => ?_)
  refine lv_iconst B.exec B.bytes (show decode cJ0_isLatin1_aae02 13 = .ok (.iconst 1, 1) by decide +kernel) rfl ?_
  refine lv_goto B.exec B.bytes (show decode cJ0_isLatin1_aae02 14 = .ok (.goto 4, 3) by decide +kernel) (tgt := 18) rfl ?_
  exact W.zret B.exec B.bytes B.returns rfl (fun t ht hW => ⟨⟨some (.int (Int32.ofInt 1)), I, L, rfl, ⟨rfl, rfl, rfl⟩, by rw [ht]; exact hP, va_K.moved hW.alike hK⟩, hS.F ht⟩) hS.2.2 (show decode cJ0_isLatin1_aae02 18 = .ok (.ireturn, 1) by decide +kernel)
def tJ0_length_8abf5 : List (Instr × Nat) := [(.aload_n 0, 1), (.getfield 9, 3), (.arraylength, 1), (.aload_n 0, 1), (.invokevirtual 335, 3), (.ishr, 1), (.ireturn, 1)]
theorem tJ0_length_8abf5_ok : f_chk cJ0_length_8abf5 0 tJ0_length_8abf5 = true := by decide +kernel
def pJ0_length_8abf5 (av : List Value) (I : fM) (L : fN) : Prop := match av with
  | [.ref 1000] => True
  | _ => False
def qJ0_length_8abf5 (av : List Value) (I : fM) (L : fN) (r : Value) (I' : fM) (L' : fN) : Prop := match av, r with
  | [.ref 1000], .int x => I' = I ∧ L' = L
  | _, _ => False
set_option maxHeartbeats 4000000 in
set_option maxRecDepth 100000 in
theorem mJ0_length_8abf5 {l : Launch} {a : Nat → Nat} {cy dC : Nat → ClassId} {dI : Nat → Nat → Nat} (hinj : ∀ i j, i < 80 → j < 80 → a i = a j → i = j) : f_Met (xE a) l xY 80 a cy dC dI yJ0_length_8abf5 cJ0_length_8abf5 1 1 1 pJ0_length_8abf5 qJ0_length_8abf5 := by
  refine f_met_of (xE_c a) hinj xY_hi (by decide) (fun av I L h => by unfold pJ0_length_8abf5 at h; split at h <;> first | exact Nat.le_of_ble_eq_true rfl | exact h.elim) ?_
  intro pP eP sP mP aP bP hP9 cP C av I L hp
  unfold pJ0_length_8abf5 at hp
  split at hp
  case h_2 => exact hp.elim
  case h_1 =>
    have h5 : f_W pP l eP (f_rm 1) sP mP aP bP hP9 cP xY 80 a cy dC dI 1 (f_K 1 (qJ0_length_8abf5 [.ref 1000] I L)) 5 [(0, .ref 1000)] [.int (Int32.ofNat 5)] I L := by
      refine f_wp_ok C f_cl flJ0_ok fiJ0_ok fjJ0_ok (sn := none) (fun j h => by cases h) (cs := (f_cnl [(335, (1, 1, 99, pJ0_coder_7d493, qJ0_coder_7d493))])) (cz := (fun _ => none)) (f_cnl_of (P := fun j S => f_cok pP l eP (f_rm 1) sP mP aP bP hP9 cP xY 80 a cy dC dI 1 _ _ (.invokevirtual j) true S) (List.forall_mem_cons.mpr ⟨f_cokX C rfl (mJ0_coder_7d493 hinj) (fun av I L h => by unfold pJ0_coder_7d493 at h; split at h <;> first | exact ⟨_, rfl⟩ | exact h.elim) (List.forall_mem_cons.mpr ⟨(mlJ0_ok _ (List.mem_of_getElem? (i := 0) rfl)), kc_J0_coder_7d493⟩) (by decide +kernel) ⟨Nat.le_of_ble_eq_true rfl, Nat.le_of_ble_eq_true rfl⟩, fun _ h => absurd h List.not_mem_nil⟩)) (fun j S h => by cases h) tJ0_length_8abf5_ok (cut := (fun _ => none)) (fun t P h => by cases h) 10 5 (f_seek 5 0 tJ0_length_8abf5) (f_seek_ok 5 0 tJ0_length_8abf5 tJ0_length_8abf5_ok) _ _ _ _ ?_
      refine And.intro trivial ?_
      intro x I1 L1 h1
      obtain ⟨rfl, rfl, -⟩ := h1
      exact ⟨rfl, rfl⟩
    have h1 : f_W pP l eP (f_rm 1) sP mP aP bP hP9 cP xY 80 a cy dC dI 1 (f_K 1 (qJ0_length_8abf5 [.ref 1000] I L)) 1 [(0, .ref 1000)] [.ref 1000] I L := sx_val C (by decide +kernel) (sx_len C (by decide +kernel) h5)
    refine f_wp_ok C f_cl flJ0_ok fiJ0_ok fjJ0_ok (sn := none) (fun j h => by cases h) (cs := (f_cnl [(335, (1, 1, 99, pJ0_coder_7d493, qJ0_coder_7d493))])) (cz := (fun _ => none)) (f_cnl_of (P := fun j S => f_cok pP l eP (f_rm 1) sP mP aP bP hP9 cP xY 80 a cy dC dI 1 _ _ (.invokevirtual j) true S) (List.forall_mem_cons.mpr ⟨f_cokX C rfl (mJ0_coder_7d493 hinj) (fun av I L h => by unfold pJ0_coder_7d493 at h; split at h <;> first | exact ⟨_, rfl⟩ | exact h.elim) (List.forall_mem_cons.mpr ⟨(mlJ0_ok _ (List.mem_of_getElem? (i := 0) rfl)), kc_J0_coder_7d493⟩) (by decide +kernel) ⟨Nat.le_of_ble_eq_true rfl, Nat.le_of_ble_eq_true rfl⟩, fun _ h => absurd h List.not_mem_nil⟩)) (fun j S h => by cases h) tJ0_length_8abf5_ok (cut := (f_cnl [(1, (fun (ls' : fLs) (st' : List Value) (I' : fM) (L' : fN) => ls' = [(0, .ref 1000)] ∧ st' = [.ref 1000] ∧ I' = I ∧ L' = L))])) (f_cnl_of (P := fun (tQ : Nat) (P : fLs → List Value → fM → fN → Prop) => ∀ ls' st' I' L', P ls' st' I' L' → f_W pP l eP (f_rm 1) sP mP aP bP hP9 cP xY 80 a cy dC dI 1 (f_K 1 (qJ0_length_8abf5 [.ref 1000] I L)) tQ ls' st' I' L') (List.forall_mem_cons.mpr ⟨(fun ls' st' I' L' h => by obtain ⟨rfl, rfl, rfl, rfl⟩ := h; exact h1), fun _ h => absurd h List.not_mem_nil⟩)) 10 0 tJ0_length_8abf5 tJ0_length_8abf5_ok _ _ _ _ ?_
    exact ⟨rfl, rfl, rfl, rfl⟩
def tJ1_canEncode_9a6ad : List (Instr × Nat) := [(.iload_n 0, 1), (.ifCond .lt 14, 3), (.iload_n 0, 1), (.sipush 255, 3), (.if_icmp .gt 7, 3), (.iconst 1, 1), (.goto 4, 3), (.iconst 0, 1), (.ireturn, 1)]
theorem tJ1_canEncode_9a6ad_ok : f_chk cJ1_canEncode_9a6ad 0 tJ1_canEncode_9a6ad = true := by decide +kernel
def pJ1_canEncode_9a6ad (av : List Value) (I : fM) (L : fN) : Prop := match av with
  | [.int c] => True
  | _ => False
def qJ1_canEncode_9a6ad (av : List Value) (I : fM) (L : fN) (r : Value) (I' : fM) (L' : fN) : Prop := match av, r with
  | [.int c], .int x => I' = I ∧ L' = L
  | _, _ => False
set_option maxHeartbeats 4000000 in
set_option maxRecDepth 100000 in
theorem mJ1_canEncode_9a6ad {l : Launch} {a : Nat → Nat} {cy dC : Nat → ClassId} {dI : Nat → Nat → Nat} (hinj : ∀ i j, i < 80 → j < 80 → a i = a j → i = j) : f_Met (xE a) l xY 80 a cy dC dI yJ1_canEncode_9a6ad cJ1_canEncode_9a6ad 1 3 0 pJ1_canEncode_9a6ad qJ1_canEncode_9a6ad := by
  refine f_met_of (xE_c a) hinj xY_hi (by decide) (fun av I L h => by unfold pJ1_canEncode_9a6ad at h; split at h <;> first | exact Nat.le_of_ble_eq_true rfl | exact h.elim) ?_
  intro pP eP sP mP aP bP hP9 cP C av I L hp
  unfold pJ1_canEncode_9a6ad at hp
  split at hp
  case h_2 => exact hp.elim
  case h_1 c =>
    have p0 := hp
    refine f_wp_ok C f_cl flJ1_ok fiJ1_ok fjJ1_ok (sn := none) (fun j h => by cases h) (cs := (fun _ => none)) (cz := (fun _ => none)) (fun j S h => by cases h) (fun j S h => by cases h) tJ1_canEncode_9a6ad_ok (cut := (fun _ => none)) (fun t P h => by cases h) 11 0 tJ1_canEncode_9a6ad tJ1_canEncode_9a6ad_ok _ _ _ _ ?_
    apply And.intro
    · intro h1
      have h1 : c.toInt < 0 := h1
      exact ⟨Or.inl rfl, rfl, rfl⟩
    · intro h1
      have h1 : 0 ≤ c.toInt := h1
      apply And.intro
      · intro h8
        have h8 : 255 < c.toInt := h8
        exact ⟨Or.inl rfl, rfl, rfl⟩
      · intro h8
        have h8 : c.toInt ≤ 255 := h8
        exact ⟨Or.inr rfl, rfl, rfl⟩
def jJ1_char (c f t : Int32) (I0 : fM) (L0 : fN) (n : Nat) (ls : fLs) (st : List Value) (I : fM) (L : fN) : Prop := ∃ (b i : Int32), (∀ q ∈ ([(5, .int i), (4, .int b), (3, .int t), (2, .int f), (1, .int c), (0, .ref 1001)] : fLs), q ∈ ls) ∧ st = [] ∧ 0 ≤ i.toInt ∧ 5 - i.toInt < n ∧ i.toInt ≤ 5 ∧ I = I0 ∧ L = L0
def tJ1_indexOfChar_4cfef : List (Instr × Nat) := [(.iload_n 1, 1), (.i2b, 1), (.istore 4, 2), (.iload_n 2, 1), (.istore 5, 2), (.iload 5, 2), (.iload_n 3, 1), (.if_icmp .ge 21, 3), (.aload_n 0, 1), (.iload 5, 2), (.baload, 1), (.iload 4, 2), (.if_icmp .ne 6, 3), (.iload 5, 2), (.ireturn, 1), (.iinc 5 1, 3), (.goto (-21), 3), (.iconst (-1), 1), (.ireturn, 1)]
theorem tJ1_indexOfChar_4cfef_ok : f_chk cJ1_indexOfChar_4cfef 0 tJ1_indexOfChar_4cfef = true := by decide +kernel
def pJ1_indexOfChar_4cfef (av : List Value) (I : fM) (L : fN) : Prop := match av with
  | [.ref 1001, .int c, .int f, .int t] => 0 ≤ f.toInt ∧ f.toInt ≤ 5 ∧ t.toInt ≤ 5
  | _ => False
def qJ1_indexOfChar_4cfef (av : List Value) (I : fM) (L : fN) (r : Value) (I' : fM) (L' : fN) : Prop := match av, r with
  | [.ref 1001, .int c, .int f, .int t], .int x => I' = I ∧ L' = L
  | _, _ => False
set_option maxHeartbeats 4000000 in
set_option maxRecDepth 100000 in
theorem mJ1_indexOfChar_4cfef {l : Launch} {a : Nat → Nat} {cy dC : Nat → ClassId} {dI : Nat → Nat → Nat} (hinj : ∀ i j, i < 80 → j < 80 → a i = a j → i = j) : f_Met (xE a) l xY 80 a cy dC dI yJ1_indexOfChar_4cfef cJ1_indexOfChar_4cfef 6 1 1 pJ1_indexOfChar_4cfef qJ1_indexOfChar_4cfef := by
  refine f_met_of (xE_c a) hinj xY_hi (by decide) (fun av I L h => by unfold pJ1_indexOfChar_4cfef at h; split at h <;> first | exact Nat.le_of_ble_eq_true rfl | exact h.elim) ?_
  intro pP eP sP mP aP bP hP9 cP C av I L hp
  unfold pJ1_indexOfChar_4cfef at hp
  split at hp
  case h_2 => exact hp.elim
  case h_1 c f t =>
    obtain ⟨h0, h1, h2⟩ := hp
    have sub : ∀ (b i : Int32) (ls' : fLs), (∀ q ∈ ([(5, .int i), (4, .int b), (3, .int t), (2, .int f), (1, .int c), (0, .ref 1001)] : fLs), q ∈ ls') → ∀ pc st, f_W pP l eP (f_rm 1) sP mP aP bP hP9 cP xY 80 a cy dC dI 6 (f_K 1 (qJ1_indexOfChar_4cfef [.ref 1001, .int c, .int f, .int t] I L)) pc [(5, .int i), (4, .int b), (3, .int t), (2, .int f), (1, .int c), (0, .ref 1001)] st I L → f_W pP l eP (f_rm 1) sP mP aP bP hP9 cP xY 80 a cy dC dI 6 (f_K 1 (qJ1_indexOfChar_4cfef [.ref 1001, .int c, .int f, .int t] I L)) pc ls' st I L := fun b i ls' h pc st k => f_W_sub h k
    have lp : ∀ (nn : Nat) (ls' : fLs) (st' : List Value) (I' : fM) (L' : fN), jJ1_char c f t I L nn ls' st' I' L' → f_W pP l eP (f_rm 1) sP mP aP bP hP9 cP xY 80 a cy dC dI 6 (f_K 1 (qJ1_indexOfChar_4cfef [.ref 1001, .int c, .int f, .int t] I L)) 7 ls' st' I' L' := by
      intro n
      induction n with
      | zero =>
        intro ls' st' I' L' h
        obtain ⟨b, i, -, -, h3, hm, h4, -⟩ := h
        omega
      | succ n ih =>
        intro ls' st' I' L' h
        obtain ⟨b, i, hs, rfl, h3, hm, h4, hI, hL⟩ := h
        replace hI := hI.symm
        replace hL := hL.symm
        subst hI
        subst hL
        refine sub b i ls' hs 7 [] ?_
        have k17 : ∀ v : Int32, i.toInt < 5 → f_W pP l eP (f_rm 1) sP mP aP bP hP9 cP xY 80 a cy dC dI 6 (f_K 1 (qJ1_indexOfChar_4cfef [.ref 1001, .int c, .int f, .int t] I L)) 17 [(5, .int i), (4, .int b), (3, .int t), (2, .int f), (1, .int c), (0, .ref 1001)] [.int v] I L := by
          intro v hi
          refine f_wp_ok C f_cl flJ1_ok fiJ1_ok fjJ1_ok (sn := none) (fun j h => by cases h) (cs := (fun _ => none)) (cz := (fun _ => none)) (fun j S h => by cases h) (fun j S h => by cases h) tJ1_indexOfChar_4cfef_ok (cut := (f_cnl [(7, jJ1_char c f t I L n)])) (f_cnl_of (P := fun (tQ : Nat) (P : fLs → List Value → fM → fN → Prop) => ∀ ls' st' I' L', P ls' st' I' L' → f_W pP l eP (f_rm 1) sP mP aP bP hP9 cP xY 80 a cy dC dI 6 (f_K 1 (qJ1_indexOfChar_4cfef [.ref 1001, .int c, .int f, .int t] I L)) tQ ls' st' I' L') (List.forall_mem_cons.mpr ⟨ih, fun _ h => absurd h List.not_mem_nil⟩)) 20 17 (f_seek 17 0 tJ1_indexOfChar_4cfef) (f_seek_ok 17 0 tJ1_indexOfChar_4cfef tJ1_indexOfChar_4cfef_ok) _ _ _ _ ?_
          apply And.intro
          · intro h5
            intro z q hz hq hl hu
            exact ⟨b, z, fun q hq => by simp only [List.mem_cons, List.not_mem_nil, or_false] at hq; rcases hq with h9 | h9 | h9 | h9 | h9 | h9 <;> subst h9 <;> repeat (first | exact List.mem_cons_self | apply List.mem_cons_of_mem), rfl, by omega, by omega, by omega, rfl, rfl⟩
          · intro h5
            exact ⟨rfl, rfl⟩
        refine f_wp_ok C f_cl flJ1_ok fiJ1_ok fjJ1_ok (sn := none) (fun j h => by cases h) (cs := (fun _ => none)) (cz := (fun _ => none)) (fun j S h => by cases h) (fun j S h => by cases h) tJ1_indexOfChar_4cfef_ok (cut := (f_cnl [(16, (fun (ls' : fLs) (st' : List Value) (I1 : fM) (L1 : fN) => i.toInt < 5 ∧ ls' = [(5, .int i), (4, .int b), (3, .int t), (2, .int f), (1, .int c), (0, .ref 1001)] ∧ st' = [.int i, .ref 1001] ∧ I1 = I ∧ L1 = L))])) (f_cnl_of (P := fun (tQ : Nat) (P : fLs → List Value → fM → fN → Prop) => ∀ ls' st' I' L', P ls' st' I' L' → f_W pP l eP (f_rm 1) sP mP aP bP hP9 cP xY 80 a cy dC dI 6 (f_K 1 (qJ1_indexOfChar_4cfef [.ref 1001, .int c, .int f, .int t] I L)) tQ ls' st' I' L') (List.forall_mem_cons.mpr ⟨(fun ls' st' I1 L1 h => by obtain ⟨h9, rfl, rfl, rfl, rfl⟩ := h; exact sx_bal C (show decode cJ1_indexOfChar_4cfef 16 = .ok (.baload, 1) by decide +kernel) ⟨h3, h9⟩ (k17 _ h9)), fun _ h => absurd h List.not_mem_nil⟩)) 20 7 (f_seek 7 0 tJ1_indexOfChar_4cfef) (f_seek_ok 7 0 tJ1_indexOfChar_4cfef tJ1_indexOfChar_4cfef_ok) _ _ _ _ ?_
        apply And.intro
        · intro h5
          exact ⟨rfl, rfl⟩
        · intro h5
          have h5 : i.toInt < t.toInt := h5
          exact ⟨by omega, rfl, rfl, rfl, rfl⟩
    refine f_wp_ok C f_cl flJ1_ok fiJ1_ok fjJ1_ok (sn := none) (fun j h => by cases h) (cs := (fun _ => none)) (cz := (fun _ => none)) (fun j S h => by cases h) (fun j S h => by cases h) tJ1_indexOfChar_4cfef_ok (cut := (f_cnl [(7, jJ1_char c f t I L 6)])) (f_cnl_of (P := fun (tQ : Nat) (P : fLs → List Value → fM → fN → Prop) => ∀ ls' st' I' L', P ls' st' I' L' → f_W pP l eP (f_rm 1) sP mP aP bP hP9 cP xY 80 a cy dC dI 6 (f_K 1 (qJ1_indexOfChar_4cfef [.ref 1001, .int c, .int f, .int t] I L)) tQ ls' st' I' L') (List.forall_mem_cons.mpr ⟨lp 6, fun _ h => absurd h List.not_mem_nil⟩)) 20 0 tJ1_indexOfChar_4cfef tJ1_indexOfChar_4cfef_ok _ _ _ _ ?_
    exact ⟨_, f, fun q hq => by simp only [List.mem_cons, List.not_mem_nil, or_false] at hq; rcases hq with h9 | h9 | h9 | h9 | h9 | h9 <;> subst h9 <;> repeat (first | exact List.mem_cons_self | apply List.mem_cons_of_mem), rfl, h0, by omega, h1, rfl, rfl⟩
def tJ1_indexOf_4cfef : List (Instr × Nat) := [(.iload_n 1, 1), (.invokestatic 88, 3), (.ifCond .ne 5, 3), (.iconst (-1), 1), (.ireturn, 1), (.iload_n 2, 1), (.iconst 0, 1), (.invokestatic 92, 3), (.istore_n 2, 1), (.iload_n 3, 1), (.aload_n 0, 1), (.arraylength, 1), (.invokestatic 38, 3), (.istore_n 3, 1), (.iload_n 2, 1), (.iload_n 3, 1), (.if_icmp .lt 5, 3), (.iconst (-1), 1), (.ireturn, 1), (.aload_n 0, 1), (.iload_n 1, 1), (.iload_n 2, 1), (.iload_n 3, 1), (.invokestatic 95, 3), (.ireturn, 1)]
theorem tJ1_indexOf_4cfef_ok : f_chk cJ1_indexOf_4cfef 0 tJ1_indexOf_4cfef = true := by decide +kernel
def pJ1_indexOf_4cfef (av : List Value) (I : fM) (L : fN) : Prop := match av with
  | [.ref 1001, .int c, .int f, .int t] => f.toInt ≤ 5
  | _ => False
def qJ1_indexOf_4cfef (av : List Value) (I : fM) (L : fN) (r : Value) (I' : fM) (L' : fN) : Prop := match av, r with
  | [.ref 1001, .int c, .int f, .int t], .int x => I' = I ∧ L' = L
  | _, _ => False
set_option maxHeartbeats 4000000 in
set_option maxRecDepth 100000 in
theorem mJ1_indexOf_4cfef {l : Launch} {a : Nat → Nat} {cy dC : Nat → ClassId} {dI : Nat → Nat → Nat} (hinj : ∀ i j, i < 80 → j < 80 → a i = a j → i = j) : f_Met (xE a) l xY 80 a cy dC dI yJ1_indexOf_4cfef cJ1_indexOf_4cfef 4 1 2 pJ1_indexOf_4cfef qJ1_indexOf_4cfef := by
  refine f_met_of (xE_c a) hinj xY_hi (by decide) (fun av I L h => by unfold pJ1_indexOf_4cfef at h; split at h <;> first | exact Nat.le_of_ble_eq_true rfl | exact h.elim) ?_
  intro pP eP sP mP aP bP hP9 cP C av I L hp
  unfold pJ1_indexOf_4cfef at hp
  split at hp
  case h_2 => exact hp.elim
  case h_1 c f t =>
    have k18 : ∀ f' : Int32, 0 ≤ f'.toInt → f'.toInt ≤ 5 → f_W pP l eP (f_rm 2) sP mP aP bP hP9 cP xY 80 a cy dC dI 4 (f_K 1 (qJ1_indexOf_4cfef [.ref 1001, .int c, .int f, .int t] I L)) 18 [(2, .int f'), (0, .ref 1001), (1, .int c), (3, .int t)] [.int (Int32.ofNat 5), .int t] I L := by
      intro f' g0 g5
      refine f_wp_ok C f_cl flJ1_ok fiJ1_ok fjJ1_ok (sn := none) (fun j h => by cases h) (cs := (fun _ => none)) (cz := (f_cnl [(88, (1, 3, 0, pJ1_canEncode_9a6ad, qJ1_canEncode_9a6ad)), (92, (2, 1, 0, pJ9_max_7cf53, qJ9_max_7cf53)), (38, (2, 1, 0, pJ9_min_7cf53, qJ9_min_7cf53)), (95, (4, 1, 0, pJ1_indexOfChar_4cfef, qJ1_indexOfChar_4cfef))])) (fun j S h => by cases h) (f_cnl_of (P := fun j S => f_cok pP l eP (f_rm 2) sP mP aP bP hP9 cP xY 80 a cy dC dI 4 _ _ (.invokestatic j) false S) (List.forall_mem_cons.mpr ⟨f_cokS C (mJ1_canEncode_9a6ad hinj) (List.forall_mem_cons.mpr ⟨(mlJ1_ok _ (List.mem_of_getElem? (i := 1) rfl)), kc_J1_canEncode_9a6ad⟩) (by decide +kernel) ⟨Nat.le_of_ble_eq_true rfl, Nat.le_of_ble_eq_true rfl⟩, List.forall_mem_cons.mpr ⟨f_cokMax C (mlJ1_ok _ (List.mem_of_getElem? (i := 2) rfl)) ⟨Nat.le_of_ble_eq_true rfl, Nat.le_of_ble_eq_true rfl⟩, List.forall_mem_cons.mpr ⟨f_cokMin C (mlJ1_ok _ (List.mem_of_getElem? (i := 0) rfl)) ⟨Nat.le_of_ble_eq_true rfl, Nat.le_of_ble_eq_true rfl⟩, List.forall_mem_cons.mpr ⟨f_cokS C (mJ1_indexOfChar_4cfef hinj) (List.forall_mem_cons.mpr ⟨(mlJ1_ok _ (List.mem_of_getElem? (i := 3) rfl)), kc_J1_indexOfChar_4cfef⟩) (by decide +kernel) ⟨Nat.le_of_ble_eq_true rfl, Nat.le_of_ble_eq_true rfl⟩, fun _ h => absurd h List.not_mem_nil⟩⟩⟩⟩)) tJ1_indexOf_4cfef_ok (cut := (fun _ => none)) (fun t P h => by cases h) 30 18 (f_seek 18 0 tJ1_indexOf_4cfef) (f_seek_ok 18 0 tJ1_indexOf_4cfef tJ1_indexOf_4cfef_ok) _ _ _ _ ?_
      refine And.intro trivial ?_
      intro x I1 L1 h1
      obtain ⟨rfl, rfl, -, h1, h2⟩ := h1
      have h2 : x.toInt ≤ 5 := h2
      apply And.intro
      · intro h5
        refine And.intro ⟨g0, g5, h2⟩ ?_
        intro y I2 L2 h3
        obtain ⟨rfl, rfl⟩ := h3
        exact ⟨rfl, rfl⟩
      · intro h5
        exact ⟨rfl, rfl⟩
    refine f_wp_ok C f_cl flJ1_ok fiJ1_ok fjJ1_ok (sn := none) (fun j h => by cases h) (cs := (fun _ => none)) (cz := (f_cnl [(88, (1, 3, 0, pJ1_canEncode_9a6ad, qJ1_canEncode_9a6ad)), (92, (2, 1, 0, pJ9_max_7cf53, qJ9_max_7cf53)), (38, (2, 1, 0, pJ9_min_7cf53, qJ9_min_7cf53)), (95, (4, 1, 0, pJ1_indexOfChar_4cfef, qJ1_indexOfChar_4cfef))])) (fun j S h => by cases h) (f_cnl_of (P := fun j S => f_cok pP l eP (f_rm 2) sP mP aP bP hP9 cP xY 80 a cy dC dI 4 _ _ (.invokestatic j) false S) (List.forall_mem_cons.mpr ⟨f_cokS C (mJ1_canEncode_9a6ad hinj) (List.forall_mem_cons.mpr ⟨(mlJ1_ok _ (List.mem_of_getElem? (i := 1) rfl)), kc_J1_canEncode_9a6ad⟩) (by decide +kernel) ⟨Nat.le_of_ble_eq_true rfl, Nat.le_of_ble_eq_true rfl⟩, List.forall_mem_cons.mpr ⟨f_cokMax C (mlJ1_ok _ (List.mem_of_getElem? (i := 2) rfl)) ⟨Nat.le_of_ble_eq_true rfl, Nat.le_of_ble_eq_true rfl⟩, List.forall_mem_cons.mpr ⟨f_cokMin C (mlJ1_ok _ (List.mem_of_getElem? (i := 0) rfl)) ⟨Nat.le_of_ble_eq_true rfl, Nat.le_of_ble_eq_true rfl⟩, List.forall_mem_cons.mpr ⟨f_cokS C (mJ1_indexOfChar_4cfef hinj) (List.forall_mem_cons.mpr ⟨(mlJ1_ok _ (List.mem_of_getElem? (i := 3) rfl)), kc_J1_indexOfChar_4cfef⟩) (by decide +kernel) ⟨Nat.le_of_ble_eq_true rfl, Nat.le_of_ble_eq_true rfl⟩, fun _ h => absurd h List.not_mem_nil⟩⟩⟩⟩)) tJ1_indexOf_4cfef_ok (cut := (f_cnl [(17, (fun (ls' : fLs) (st' : List Value) (I1 : fM) (L1 : fN) => ∃ f' : Int32, 0 ≤ f'.toInt ∧ f'.toInt ≤ 5 ∧ (∀ q ∈ ([(2, .int f'), (0, .ref 1001), (1, .int c), (3, .int t)] : fLs), q ∈ ls') ∧ st' = [.ref 1001, .int t] ∧ I1 = I ∧ L1 = L))])) (f_cnl_of (P := fun (tQ : Nat) (P : fLs → List Value → fM → fN → Prop) => ∀ ls' st' I' L', P ls' st' I' L' → f_W pP l eP (f_rm 2) sP mP aP bP hP9 cP xY 80 a cy dC dI 4 (f_K 1 (qJ1_indexOf_4cfef [.ref 1001, .int c, .int f, .int t] I L)) tQ ls' st' I' L') (List.forall_mem_cons.mpr ⟨(fun ls' st' I1 L1 h => by obtain ⟨f', g0, g5, hs, rfl, rfl, rfl⟩ := h; exact f_W_sub hs (sx_len C (show decode cJ1_indexOf_4cfef 17 = .ok (.arraylength, 1) by decide +kernel) (k18 f' g0 g5))), fun _ h => absurd h List.not_mem_nil⟩)) 30 0 tJ1_indexOf_4cfef tJ1_indexOf_4cfef_ok _ _ _ _ ?_
    refine And.intro trivial ?_
    intro x I1 L1 h1
    obtain ⟨rfl, rfl⟩ := h1
    apply And.intro
    · intro h5
      refine And.intro trivial ?_
      intro f' I2 L2 h2
      obtain ⟨rfl, rfl, h2, h3, h4⟩ := h2
      have h4 : (0 : Int) ≤ f'.toInt := h4
      refine ⟨f', h4, ?_, fun q hq => by simp only [List.mem_cons, List.not_mem_nil, or_false] at hq; rcases hq with h9 | h9 | h9 | h9 <;> subst h9 <;> repeat (first | exact List.mem_cons_self | apply List.mem_cons_of_mem), rfl, rfl, rfl⟩
      rcases h2 with q | q <;> rw [q]
      · exact hp
      · decide
    · intro h5
      exact ⟨rfl, rfl⟩
def tJ0_indexOf_7cf53 : List (Instr × Nat) := [(.aload_n 0, 1), (.invokevirtual 492, 3), (.ifCond .eq 19, 3), (.aload_n 0, 1), (.getfield 9, 3), (.iload_n 1, 1), (.iload_n 2, 1), (.aload_n 0, 1), (.invokevirtual 505, 3), (.invokestatic 637, 3), (.goto 16, 3), (.aload_n 0, 1), (.getfield 9, 3), (.iload_n 1, 1), (.iload_n 2, 1), (.aload_n 0, 1), (.invokevirtual 505, 3), (.invokestatic 640, 3), (.ireturn, 1)]
theorem tJ0_indexOf_7cf53_ok : f_chk cJ0_indexOf_7cf53 0 tJ0_indexOf_7cf53 = true := by decide +kernel
def pJ0_indexOf_7cf53 (av : List Value) (I : fM) (L : fN) : Prop := match av with
  | [.ref 1000, .int c, .int f] => f.toInt ≤ 5
  | _ => False
def qJ0_indexOf_7cf53 (av : List Value) (I : fM) (L : fN) (r : Value) (I' : fM) (L' : fN) : Prop := match av, r with
  | [.ref 1000, .int c, .int f], .int x => I' = I ∧ L' = L
  | _, _ => False
set_option maxHeartbeats 4000000 in
set_option maxRecDepth 100000 in
theorem mJ0_indexOf_7cf53 {l : Launch} {a : Nat → Nat} {cy dC : Nat → ClassId} {dI : Nat → Nat → Nat} (hinj : ∀ i j, i < 80 → j < 80 → a i = a j → i = j) : f_Met (xE a) l xY 80 a cy dC dI yJ0_indexOf_7cf53 cJ0_indexOf_7cf53 3 1 3 pJ0_indexOf_7cf53 qJ0_indexOf_7cf53 := by
  refine f_met_of (xE_c a) hinj xY_hi (by decide) (fun av I L h => by unfold pJ0_indexOf_7cf53 at h; split at h <;> first | exact Nat.le_of_ble_eq_true rfl | exact h.elim) ?_
  intro pP eP sP mP aP bP hP9 cP C av I L hp
  unfold pJ0_indexOf_7cf53 at hp
  split at hp
  case h_2 => exact hp.elim
  case h_1 c f =>
    have k11 : f_W pP l eP (f_rm 3) sP mP aP bP hP9 cP xY 80 a cy dC dI 3 (f_K 1 (qJ0_indexOf_7cf53 [.ref 1000, .int c, .int f] I L)) 11 [(0, .ref 1000), (1, .int c), (2, .int f)] [.ref 1001] I L := by
      refine f_wp_ok C f_cl flJ0_ok fiJ0_ok fjJ0_ok (sn := none) (fun j h => by cases h) (cs := (f_cnl [(492, (1, 3, 99, pJ0_isLatin1_aae02, qJ0_isLatin1_aae02)), (505, (1, 1, 99, pJ0_length_8abf5, qJ0_length_8abf5))])) (cz := (f_cnl [(637, (4, 1, 0, pJ1_indexOf_4cfef, qJ1_indexOf_4cfef))])) (f_cnl_of (P := fun j S => f_cok pP l eP (f_rm 3) sP mP aP bP hP9 cP xY 80 a cy dC dI 3 _ _ (.invokevirtual j) true S) (List.forall_mem_cons.mpr ⟨f_cokX C rfl (mJ0_isLatin1_aae02 hinj) (fun av I L h => by unfold pJ0_isLatin1_aae02 at h; split at h <;> first | exact ⟨_, rfl⟩ | exact h.elim) (List.forall_mem_cons.mpr ⟨(mlJ0_ok _ (List.mem_of_getElem? (i := 1) rfl)), kc_J0_isLatin1_aae02⟩) (by decide +kernel) ⟨Nat.le_of_ble_eq_true rfl, Nat.le_of_ble_eq_true rfl⟩, List.forall_mem_cons.mpr ⟨f_cokX C rfl (mJ0_length_8abf5 hinj) (fun av I L h => by unfold pJ0_length_8abf5 at h; split at h <;> first | exact ⟨_, rfl⟩ | exact h.elim) (List.forall_mem_cons.mpr ⟨(mlJ0_ok _ (List.mem_of_getElem? (i := 2) rfl)), kc_J0_length_8abf5⟩) (by decide +kernel) ⟨Nat.le_of_ble_eq_true rfl, Nat.le_of_ble_eq_true rfl⟩, fun _ h => absurd h List.not_mem_nil⟩⟩)) (f_cnl_of (P := fun j S => f_cok pP l eP (f_rm 3) sP mP aP bP hP9 cP xY 80 a cy dC dI 3 _ _ (.invokestatic j) false S) (List.forall_mem_cons.mpr ⟨f_cokS C (mJ1_indexOf_4cfef hinj) (List.forall_mem_cons.mpr ⟨(mlJ0_ok _ (List.mem_of_getElem? (i := 4) rfl)), kc_J1_indexOf_4cfef⟩) (by decide +kernel) ⟨Nat.le_of_ble_eq_true rfl, Nat.le_of_ble_eq_true rfl⟩, fun _ h => absurd h List.not_mem_nil⟩)) tJ0_indexOf_7cf53_ok (cut := (fun _ => none)) (fun t P h => by cases h) 30 11 (f_seek 11 0 tJ0_indexOf_7cf53) (f_seek_ok 11 0 tJ0_indexOf_7cf53 tJ0_indexOf_7cf53_ok) _ _ _ _ ?_
      refine And.intro trivial ?_
      intro x I1 L1 h1
      obtain ⟨rfl, rfl⟩ := h1
      refine And.intro hp ?_
      intro y I2 L2 h3
      obtain ⟨rfl, rfl⟩ := h3
      exact ⟨rfl, rfl⟩
    refine f_wp_ok C f_cl flJ0_ok fiJ0_ok fjJ0_ok (sn := none) (fun j h => by cases h) (cs := (f_cnl [(492, (1, 3, 99, pJ0_isLatin1_aae02, qJ0_isLatin1_aae02)), (505, (1, 1, 99, pJ0_length_8abf5, qJ0_length_8abf5))])) (cz := (f_cnl [(637, (4, 1, 0, pJ1_indexOf_4cfef, qJ1_indexOf_4cfef))])) (f_cnl_of (P := fun j S => f_cok pP l eP (f_rm 3) sP mP aP bP hP9 cP xY 80 a cy dC dI 3 _ _ (.invokevirtual j) true S) (List.forall_mem_cons.mpr ⟨f_cokX C rfl (mJ0_isLatin1_aae02 hinj) (fun av I L h => by unfold pJ0_isLatin1_aae02 at h; split at h <;> first | exact ⟨_, rfl⟩ | exact h.elim) (List.forall_mem_cons.mpr ⟨(mlJ0_ok _ (List.mem_of_getElem? (i := 1) rfl)), kc_J0_isLatin1_aae02⟩) (by decide +kernel) ⟨Nat.le_of_ble_eq_true rfl, Nat.le_of_ble_eq_true rfl⟩, List.forall_mem_cons.mpr ⟨f_cokX C rfl (mJ0_length_8abf5 hinj) (fun av I L h => by unfold pJ0_length_8abf5 at h; split at h <;> first | exact ⟨_, rfl⟩ | exact h.elim) (List.forall_mem_cons.mpr ⟨(mlJ0_ok _ (List.mem_of_getElem? (i := 2) rfl)), kc_J0_length_8abf5⟩) (by decide +kernel) ⟨Nat.le_of_ble_eq_true rfl, Nat.le_of_ble_eq_true rfl⟩, fun _ h => absurd h List.not_mem_nil⟩⟩)) (f_cnl_of (P := fun j S => f_cok pP l eP (f_rm 3) sP mP aP bP hP9 cP xY 80 a cy dC dI 3 _ _ (.invokestatic j) false S) (List.forall_mem_cons.mpr ⟨f_cokS C (mJ1_indexOf_4cfef hinj) (List.forall_mem_cons.mpr ⟨(mlJ0_ok _ (List.mem_of_getElem? (i := 4) rfl)), kc_J1_indexOf_4cfef⟩) (by decide +kernel) ⟨Nat.le_of_ble_eq_true rfl, Nat.le_of_ble_eq_true rfl⟩, fun _ h => absurd h List.not_mem_nil⟩)) tJ0_indexOf_7cf53_ok (cut := (f_cnl [(8, (fun (ls' : fLs) (st' : List Value) (I1 : fM) (L1 : fN) => ls' = [(0, .ref 1000), (1, .int c), (2, .int f)] ∧ st' = [.ref 1000] ∧ I1 = I ∧ L1 = L))])) (f_cnl_of (P := fun (tQ : Nat) (P : fLs → List Value → fM → fN → Prop) => ∀ ls' st' I' L', P ls' st' I' L' → f_W pP l eP (f_rm 3) sP mP aP bP hP9 cP xY 80 a cy dC dI 3 (f_K 1 (qJ0_indexOf_7cf53 [.ref 1000, .int c, .int f] I L)) tQ ls' st' I' L') (List.forall_mem_cons.mpr ⟨(fun ls' st' I1 L1 h => by obtain ⟨rfl, rfl, rfl, rfl⟩ := h; exact sx_val C (show decode cJ0_indexOf_7cf53 8 = .ok (.getfield 9, 3) by decide +kernel) k11), fun _ h => absurd h List.not_mem_nil⟩)) 30 0 tJ0_indexOf_7cf53 tJ0_indexOf_7cf53_ok _ _ _ _ ?_
    refine And.intro trivial ?_
    intro x I1 L1 h1
    obtain ⟨rfl, rfl, h1⟩ := h1
    apply And.intro
    · intro h5
      exfalso
      have h5 : x.toInt = 0 := h5
      omega
    · intro h5
      exact ⟨rfl, rfl, rfl, rfl⟩
def tJ0_indexOf_0f7a4 : List (Instr × Nat) := [(.aload_n 0, 1), (.iload_n 1, 1), (.iconst 0, 1), (.invokevirtual 633, 3), (.ireturn, 1)]
theorem tJ0_indexOf_0f7a4_ok : f_chk cJ0_indexOf_0f7a4 0 tJ0_indexOf_0f7a4 = true := by decide +kernel
def pJ0_indexOf_0f7a4 (av : List Value) (I : fM) (L : fN) : Prop := match av with
  | [.ref 1000, .int c] => True
  | _ => False
def qJ0_indexOf_0f7a4 (av : List Value) (I : fM) (L : fN) (r : Value) (I' : fM) (L' : fN) : Prop := match av, r with
  | [.ref 1000, .int c], .int x => I' = I ∧ L' = L
  | _, _ => False
set_option maxHeartbeats 4000000 in
set_option maxRecDepth 100000 in
theorem mJ0_indexOf_0f7a4 {l : Launch} {a : Nat → Nat} {cy dC : Nat → ClassId} {dI : Nat → Nat → Nat} (hinj : ∀ i j, i < 80 → j < 80 → a i = a j → i = j) : f_Met (xE a) l xY 80 a cy dC dI yJ0_indexOf_0f7a4 cJ0_indexOf_0f7a4 2 1 4 pJ0_indexOf_0f7a4 qJ0_indexOf_0f7a4 := by
  refine f_met_of (xE_c a) hinj xY_hi (by decide) (fun av I L h => by unfold pJ0_indexOf_0f7a4 at h; split at h <;> first | exact Nat.le_of_ble_eq_true rfl | exact h.elim) ?_
  intro pP eP sP mP aP bP hP9 cP C av I L hp
  unfold pJ0_indexOf_0f7a4 at hp
  split at hp
  case h_2 => exact hp.elim
  case h_1 c =>
    refine f_wp_ok C f_cl flJ0_ok fiJ0_ok fjJ0_ok (sn := none) (fun j h => by cases h) (cs := (f_cnl [(633, (3, 1, 99, pJ0_indexOf_7cf53, qJ0_indexOf_7cf53))])) (cz := (fun _ => none)) (f_cnl_of (P := fun j S => f_cok pP l eP (f_rm 4) sP mP aP bP hP9 cP xY 80 a cy dC dI 2 _ _ (.invokevirtual j) true S) (List.forall_mem_cons.mpr ⟨f_cokX C rfl (mJ0_indexOf_7cf53 hinj) (fun av I L h => by unfold pJ0_indexOf_7cf53 at h; split at h <;> first | exact ⟨_, rfl⟩ | exact h.elim) (List.forall_mem_cons.mpr ⟨(mlJ0_ok _ (List.mem_of_getElem? (i := 3) rfl)), kc_J0_indexOf_7cf53⟩) (by decide +kernel) ⟨Nat.le_of_ble_eq_true rfl, Nat.le_of_ble_eq_true rfl⟩, fun _ h => absurd h List.not_mem_nil⟩)) (fun j S h => by cases h) tJ0_indexOf_0f7a4_ok (cut := (fun _ => none)) (fun t P h => by cases h) 30 0 tJ0_indexOf_0f7a4 tJ0_indexOf_0f7a4_ok _ _ _ _ ?_
    refine And.intro (show (0 : Int) ≤ 5 by decide) ?_
    intro y I2 L2 h3
    obtain ⟨rfl, rfl⟩ := h3
    exact ⟨rfl, rfl⟩
