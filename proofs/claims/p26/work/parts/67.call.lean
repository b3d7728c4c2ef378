/-! a call on one world of several -/
theorem g_call {p : Program} {l : Launch} {e : Env} {R : Room} {s : State} {m : MethodId} {args : Array Value} {below : List Frame} {meth : Method} {c : Code} {H H0 : Heap} {locs : List Loc} {cells slots : Nat} {Q : State → Prop} {cy dC : Nat → ClassId} {dI : Nat → Nat → Nat} {cc : ByteArray} {own : String} {nL : Nat} {A : Nat → Prop} {pc : Nat} {ls : Array Slot} {rest : List Value}
    {Y : fY} {NC : Nat} {a : Nat → Nat} {E : State → Prop} {y : MethodName} {cc' : ByteArray} {nL' rk lv n ci idx k : Nat} {pre : List Value → fM → fN → Prop} {post : List Value → fM → fN → Value → fM → fN → Prop} {T : u_T} {N : Nat} {vs : List Value} {ds : List (Nat × Nat)} {I : fM} {L : fN}
    (S : CallFix p m c cc nL s args fT own) (hM : f_Met E l Y NC a cy dC dI y cc' nL' rk lv pre post) (hci : vwCl[ci]? = some (y.cls, T, N)) (hw : ∀ w ∈ ([.methodLink own idx y, .instanceMethod y, .selects y.cls y y, .initialized y.cls, .code y cc' nL' (f_rt rk)] : List Cond), w ∈ fT)
    (hy : y.cls ≠ "java/lang/invoke/MethodHandle" ∧ y.cls ≠ "java/lang/invoke/VarHandle" ∧ (parseMethodDescriptor y.desc).map (fun d => d.parameters.length) = some n) (hR : lv + 1 ≤ R.frames ∧ 8 + (nL' + 11) + 60 * lv ≤ R.locals) (hf : cells ≤ R.cells ∧ slots ≤ R.slots) (hn : vs.length = n)
    (hk : k < NC) (hyk : Y k = .inr (ci, ds)) (hpre : pre (.ref k :: vs) I L) (hE : ∀ U : State, U.heap = H → s.WarmedH U.vm → E U) (hEc : ∀ (U : State) (g : JFrame) (mk : MethodId) (a' : Array Value), E U → E (U.calling g mk a')) (hP : va_P (dC, dI) vwCl (f_w Y NC a cy I L) H) (hK : va_K (dC, dI) vwCl (f_tys cy) s)
    (hS : va_S A H0 H locs) (hF : ∀ q, f_A NC a q → A q) (hl : ls.size = nL) (hsum : (rest.map fun v => v.category).sum ≤ 8) (hd : decode cc pc = .ok (.invokevirtual idx, 3))
    (kk : ∀ (r : Option Value) (I' : fM) (L' : fN) (H1 : Heap) (locs1 : List Loc), f_K rk (post (.ref k :: vs) I L) r I' L' → va_P (dC, dI) vwCl (f_w Y NC a cy I' L') H1 → H.size ≤ H1.size → (∀ q : Nat, q < H.size → ¬ f_A NC a q → H1[q]? = H[q]?) → va_S A H0 H1 locs1 → W p l e R s m args below meth c H1 locs1 cells slots Q (F0 m (pc + 3) ls ((r.map (f_tr a)).toList ++ rest))) :
    W p l e R s m args below meth c H locs cells slots Q (F0 m pc ls ((vs.map (f_tr a)).reverse ++ .ref (a k) :: rest)) := by
  have hts : ∀ w ∈ fT, w.before args s = true := S.2.2.2.2
  have he : (f_w Y NC a cy I L)[k]? = some (a k, .inr (ci, f_fs a (I k) (L k) ds)) := by rw [f_w_at Y a cy I L hk, f_cell_o hyk]
  have run := va_runV (locs := locs) (cells := cells) (slots := slots) (below := below) (meth := meth) (e := e) (R := R) (As := vs.map (f_tr a)) (b := a k) (rest := rest) (g := F0 m pc ls ((vs.map (f_tr a)).reverse ++ .ref (a k) :: rest)) S (hM (.ref k :: vs) I L hpre) (cwV n hts (f_goodV hw) rfl rfl rfl ⟨rfl, hy⟩ hR) ⟨fun a' U g mk q => by obtain ⟨q0, qP, qK, qE⟩ := q; exact ⟨q0, qP, va_K.moved (u := U) (U := U.calling g mk a') (Vm.Alike.refl U.vm) qK, hEc U g mk a' qE⟩, va_recv hK hP hci he, fun U hU hW => ⟨rfl, by rw [hU]; exact hP, va_K.moved hW.alike hK, hE U hU hW⟩⟩ rfl (by simpa using hn) hl rfl (lv_room hsum) hd ⟨hf.1, hf.2⟩
  intro T0 hT X
  obtain ⟨v, st₀, t, T', L', h0, X', hL', e1, e2, ⟨⟨r, I', L'', hv, hKr, hP1, -⟩, hz, hkeep⟩, hgo⟩ := run T0 hT X
  rw [h0] at hz hkeep
  have hS1 : va_S A H0 T'.heap (locs ++ L') := ⟨Nat.le_trans hS.1 (by rw [e1]; exact hz), fun q h1 h2 => by rw [e1, hkeep q (Nat.lt_of_lt_of_le h1 hS.1) (fun h => h2 (hF q h))]; exact hS.2.1 q h1 h2, fun q hq => by
    rcases List.mem_append.mp hq with h | h
    · exact hS.2.2 q h
    · exact hF _ (hL' q h)⟩
  cases hv
  obtain ⟨t2, a1, b1⟩ := kk r I' L'' T'.heap (locs ++ L') hKr (by rw [e1]; exact hP1) (by rw [e1]; exact hz) (fun q h1 h2 => by rw [e1]; exact hkeep q h1 h2) hS1 T' rfl X'
  exact ⟨t2, hgo t2 a1, b1⟩
