/-! making: an object, and what its constructor lays into it -/
def g_Cx (p : Program) (s : State) (m : MethodId) (args : Array Value) (meth : Method) (c : Code) (cy dC : Nat → ClassId) (dI : Nat → Nat → Nat) (cc : ByteArray) (own : String) : Prop :=
  p.tables.exec = Jvm.exec ∧ c.code = cc ∧ s.vm.findClass own = some m.cls ∧ (∀ w ∈ fT, w.before args s = true) ∧ meth.name = "<init>" ∧ va_K (dC, dI) vwCl (f_tys cy) s
theorem g_cls {s : State} {cA cB : ClassId} {ty : FieldType} (h : va_RA s cA ty) (h2 : va_RA s cB ty) : cB = cA := by
  cases ty with
  | object C =>
    obtain ⟨_, _, _, _, _, h4⟩ := h
    obtain ⟨_, _, _, _, _, g4⟩ := h2
    exact Option.some.inj (g4.symm.trans h4)
  | _ => exact Option.some.inj (Eq.trans (Eq.symm h2) h)
theorem g_link {own : String} {fr : Nat → Option (Nat × Nat × Nat)} (h : f_frok own fr) {j ci sl w : Nat} (hj : fr j = some (ci, sl, w)) {C : String} {T : u_T} {N : Nat} (hc : vwCl[ci]? = some (C, T, N)) : sl < N ∧ Cond.fieldLink own j (T sl).1 (T sl).2.1 (T sl).2.2.1 ∈ fT := by
  obtain ⟨C', T', N', h1, h2, h3, -⟩ := h j ci sl w hj
  rw [hc] at h1
  cases h1
  exact ⟨h2, h3⟩
section
variable {p : Program} {l : Launch} {e : Env} {R : Room} {s : State} {m : MethodId} {args : Array Value} {below : List Frame} {meth : Method} {c : Code} {H H0 : Heap} {locs : List Loc} {cells slots : Nat} {Q : State → Prop} {cy dC : Nat → ClassId} {dI : Nat → Nat → Nat} {cc : ByteArray} {own : String} {A : Nat → Prop} {ws : va_W} {pc : Nat} {ls : Array Slot} {rest : List Value}
theorem g_newa (C : g_Cx p s m args meth c cy dC dI cc own) (hP : va_P (dC, dI) vwCl ws H) (hD : va_D A ws) (hS : va_S A H0 H locs) (hA : ∀ q, H0.size ≤ q → A q) {atype : ArrayType} {ty : FieldType} (hty : newarray.typeOf atype = ty) (i : Nat) {cA0 : ClassId} (hi : (f_tys cy)[i]? = some (cA0, ty)) (harr : Cond.arrayClass ty ∈ fT)
    {n : Int32} {N' : Nat} {a0 : vp_A} (ha : ∀ cA : ClassId, vp_cell cA a0 = arrV cA N' (fun _ => defaultValue ty)) (hn : ¬ n < 0) (hN : n.toNatClampNeg = N') (hbytes : N' * componentBytes ty ≤ 536870912) (hcells : cells + 1 ≤ R.cells) (hslots : slots + N' ≤ R.slots) (hdg : decode cc pc = .ok (.newarray atype, 2))
    (kk : ∀ (q : Nat) (H1 : Heap), va_P (dC, dI) vwCl (ws ++ [(q, .inl (cA0, a0))]) H1 → va_D A (ws ++ [(q, .inl (cA0, a0))]) → va_S A H0 H1 locs → W p l e R s m args below meth c H1 locs (cells + 1) (slots + N') Q (F0 m (pc + 2) ls (.ref q :: rest))) : W p l e R s m args below meth c H locs cells slots Q (F0 m pc ls (.int n :: rest)) := by
  obtain ⟨hx, hb, hown, hts, hin, hK⟩ := C
  refine va_newa hx hb (by rw [hty]; exact hts _ harr) hty hK hP hD hS hA ha hn hN hbytes hcells hslots hdg (fun q cA H1 hK1 hP1 hD1 hS1 => ?_)
  have e1 : cA = cA0 := g_cls (hK.2 i _ hi).2 (hK1.2 (f_tys cy).length (cA, ty) (by rw [List.getElem?_append_right (Nat.le_refl _), Nat.sub_self]; rfl)).2
  subst e1
  exact kk q H1 hP1 hD1 hS1
theorem g_putF (C : g_Cx p s m args meth c cy dC dI cc own) (hP : va_P (dC, dI) vwCl ws H) (hD : va_D A ws) (hS : va_S A H0 H locs) (q0 : Nat) {a ci k N j : Nat} {T : u_T} {fs : List Value} (he : ws[q0]? = some (a, .inr (ci, fs))) (hc : vwCl[ci]? = some (own, T, N)) (hl : k < N ∧ Cond.fieldLink own j (T k).1 (T k).2.1 (T k).2.2.1 ∈ fT) (hfin : (T k).2.2.2 = true) (hdecl : (T k).1 = own) {ty : FieldType} {v : Value} (hd : parseFieldDescriptor (T k).2.2.1 = some ty) (hn : narrow ty v = v) (hfit : fits ty v = true) (hlen : fs.length = N)
    (hdg : decode cc pc = .ok (.putfield j, 3)) (kk : ∀ (H1 : Heap) (locs1 : List Loc), va_P (dC, dI) vwCl (ws.set q0 (a, .inr (ci, fs.set k v))) H1 → va_D A (ws.set q0 (a, .inr (ci, fs.set k v))) → va_S A H0 H1 locs1 → W p l e R s m args below meth c H1 locs1 cells slots Q (F0 m (pc + 3) ls rest)) : W p l e R s m args below meth c H locs cells slots Q (F0 m pc ls (v :: .ref a :: rest)) := by
  obtain ⟨hx, hb, hown, hts, hin, hK⟩ := C
  obtain ⟨hw, ty0, h1, h2⟩ := f_cl ci _ _ _ hc
  exact va_putF hx hb hts hw ty0 h1 h2 hown hK hP hD hS q0 he hc k hl.1 (hts _ hl.2) (fun x h => h) hfin hin hdecl hd hn hfit (by rw [hlen]; exact hl.1) hdg kk
theorem g_put (C : g_Cx p s m args meth c cy dC dI cc own) (hP : va_P (dC, dI) vwCl ws H) (hD : va_D A ws) (hS : va_S A H0 H locs) (q0 : Nat) {a ci k N j : Nat} {T : u_T} {fs : List Value} (he : ws[q0]? = some (a, .inr (ci, fs))) (hc : vwCl[ci]? = some (own, T, N)) (hl : k < N ∧ Cond.fieldLink own j (T k).1 (T k).2.1 (T k).2.2.1 ∈ fT) (hfin : (T k).2.2.2 = false) {ty : FieldType} {v : Value} (hd : parseFieldDescriptor (T k).2.2.1 = some ty) (hn : narrow ty v = v) (hfit : fits ty v = true) (hlen : fs.length = N)
    (hdg : decode cc pc = .ok (.putfield j, 3)) (kk : ∀ (H1 : Heap) (locs1 : List Loc), va_P (dC, dI) vwCl (ws.set q0 (a, .inr (ci, fs.set k v))) H1 → va_D A (ws.set q0 (a, .inr (ci, fs.set k v))) → va_S A H0 H1 locs1 → W p l e R s m args below meth c H1 locs1 cells slots Q (F0 m (pc + 3) ls rest)) : W p l e R s m args below meth c H locs cells slots Q (F0 m pc ls (v :: .ref a :: rest)) := by
  obtain ⟨hx, hb, hown, hts, hin, hK⟩ := C
  obtain ⟨hw, ty0, h1, h2⟩ := f_cl ci _ _ _ hc
  exact va_put hx hb hts hw ty0 h1 h2 hown hK hP hD hS q0 he hc k hl.1 (hts _ hl.2) (fun x h => h) hfin hd hn hfit (by rw [hlen]; exact hl.1) hdg kk
/-- a new array into a field of the object that is made -/
theorem g_na (C : g_Cx p s m args meth c cy dC dI cc own) {h0 ci k N j : Nat} {T : u_T} {fs : List Value} {cs : va_W} (hlen : fs.length = N) (hP : va_P (dC, dI) vwCl ((h0, .inr (ci, fs)) :: cs) H) (hD : va_D A ((h0, .inr (ci, fs)) :: cs)) (hS : va_S A H0 H locs) (hA : ∀ q, H0.size ≤ q → A q) {atype : ArrayType} {ty : FieldType} (hty : newarray.typeOf atype = ty) (i : Nat) {cA0 : ClassId} (hi : (f_tys cy)[i]? = some (cA0, ty)) (harr : Cond.arrayClass ty ∈ fT)
    {n : Int32} {N' : Nat} {a0 : vp_A} (ha : ∀ cA : ClassId, vp_cell cA a0 = arrV cA N' (fun _ => defaultValue ty)) (hn : ¬ n < 0) (hN : n.toNatClampNeg = N') (hbytes : N' * componentBytes ty ≤ 536870912) (hcells : cells + 1 ≤ R.cells) (hslots : slots + N' ≤ R.slots) (hdg : decode cc pc = .ok (.newarray atype, 2))
    (hc : vwCl[ci]? = some (own, T, N)) (hl : k < N ∧ Cond.fieldLink own j (T k).1 (T k).2.1 (T k).2.2.1 ∈ fT) (hfin : (T k).2.2.2 = true) (hdecl : (T k).1 = own) {tf : FieldType} (hd : parseFieldDescriptor (T k).2.2.1 = some tf) (hn2 : ∀ q, narrow tf (.ref q) = .ref q) (hfit : ∀ q, fits tf (.ref q) = true) (hdg2 : decode cc (pc + 2) = .ok (.putfield j, 3))
    (kk : ∀ (q : Nat) (H1 : Heap) (locs1 : List Loc), (fs.set k (.ref q)).length = N → va_P (dC, dI) vwCl ((h0, .inr (ci, fs.set k (.ref q))) :: (cs ++ [(q, .inl (cA0, a0))])) H1 → va_D A ((h0, .inr (ci, fs.set k (.ref q))) :: (cs ++ [(q, .inl (cA0, a0))])) → va_S A H0 H1 locs1 → W p l e R s m args below meth c H1 locs1 (cells + 1) (slots + N') Q (F0 m (pc + 2 + 3) ls rest)) : W p l e R s m args below meth c H locs cells slots Q (F0 m pc ls (.int n :: .ref h0 :: rest)) := by
  refine g_newa C hP hD hS hA hty i hi harr ha hn hN hbytes hcells hslots hdg (fun q H1 hP1 hD1 hS1 => ?_)
  refine g_putF C hP1 hD1 hS1 0 rfl hc hl hfin hdecl hd (hn2 q) (hfit q) hlen hdg2 (fun H2 locs2 hP2 hD2 hS2 => ?_)
  exact kk q H2 locs2 (by rw [List.length_set]; exact hlen) hP2 hD2 hS2
theorem g_ph (C : g_Cx p s m args meth c cy dC dI cc own) {h0 ci k N j : Nat} {T : u_T} {fs : List Value} {cs : va_W} (hlen : fs.length = N) (hP : va_P (dC, dI) vwCl ((h0, .inr (ci, fs)) :: cs) H) (hD : va_D A ((h0, .inr (ci, fs)) :: cs)) (hS : va_S A H0 H locs) (hc : vwCl[ci]? = some (own, T, N)) (hl : k < N ∧ Cond.fieldLink own j (T k).1 (T k).2.1 (T k).2.2.1 ∈ fT) (hfin : (T k).2.2.2 = false) {ty : FieldType} {v : Value} (hd : parseFieldDescriptor (T k).2.2.1 = some ty) (hn : narrow ty v = v) (hfit : fits ty v = true) (hdg : decode cc pc = .ok (.putfield j, 3))
    (kk : ∀ (H1 : Heap) (locs1 : List Loc), (fs.set k v).length = N → va_P (dC, dI) vwCl ((h0, .inr (ci, fs.set k v)) :: cs) H1 → va_D A ((h0, .inr (ci, fs.set k v)) :: cs) → va_S A H0 H1 locs1 → W p l e R s m args below meth c H1 locs1 cells slots Q (F0 m (pc + 3) ls rest)) : W p l e R s m args below meth c H locs cells slots Q (F0 m pc ls (v :: .ref h0 :: rest)) :=
  g_put C hP hD hS 0 rfl hc hl hfin hd hn hfit hlen hdg (fun H1 locs1 hP1 hD1 hS1 => kk H1 locs1 (by rw [List.length_set]; exact hlen) hP1 hD1 hS1)
theorem g_pf (C : g_Cx p s m args meth c cy dC dI cc own) {h0 ci k N j : Nat} {T : u_T} {fs : List Value} {cs : va_W} (hlen : fs.length = N) (hP : va_P (dC, dI) vwCl ((h0, .inr (ci, fs)) :: cs) H) (hD : va_D A ((h0, .inr (ci, fs)) :: cs)) (hS : va_S A H0 H locs) (hc : vwCl[ci]? = some (own, T, N)) (hl : k < N ∧ Cond.fieldLink own j (T k).1 (T k).2.1 (T k).2.2.1 ∈ fT) (hfin : (T k).2.2.2 = true) (hdecl : (T k).1 = own) {ty : FieldType} {v : Value} (hd : parseFieldDescriptor (T k).2.2.1 = some ty) (hn : narrow ty v = v) (hfit : fits ty v = true) (hdg : decode cc pc = .ok (.putfield j, 3))
    (kk : ∀ (H1 : Heap) (locs1 : List Loc), (fs.set k v).length = N → va_P (dC, dI) vwCl ((h0, .inr (ci, fs.set k v)) :: cs) H1 → va_D A ((h0, .inr (ci, fs.set k v)) :: cs) → va_S A H0 H1 locs1 → W p l e R s m args below meth c H1 locs1 cells slots Q (F0 m (pc + 3) ls rest)) : W p l e R s m args below meth c H locs cells slots Q (F0 m pc ls (v :: .ref h0 :: rest)) :=
  g_putF C hP hD hS 0 rfl hc hl hfin hdecl hd hn hfit hlen hdg (fun H1 locs1 hP1 hD1 hS1 => kk H1 locs1 (by rw [List.length_set]; exact hlen) hP1 hD1 hS1)
/-- the cells of a call's object are put back among the others -/
theorem g_join {D : va_G} {cl : List vw_C} {x : Nat × va_E} {w1 : va_W} {H1 : Heap} (hP : va_P D cl (ws ++ [x]) H) (hD : va_D A (ws ++ [x])) (hk : ∀ q : Nat, q < H.size → ¬ va_A [x] H.size q → H1[q]? = H[q]?) (hF : ∀ q, va_A [x] H.size q → A q) (hP1 : va_P D cl w1 H1) (hD1 : va_D (va_A [x] H.size) w1) : va_P D cl (ws ++ w1) H1 ∧ va_D A (ws ++ w1) := by
  have apart : ∀ (k : Nat) (q : Nat × va_E), ws[k]? = some q → q.1 < H.size ∧ ¬ va_A [x] H.size q.1 := by
    intro k q hq
    have hk' : k < ws.length := (List.getElem?_eq_some_iff.mp hq).1
    have hq' : (ws ++ [x])[k]? = some q := by rw [List.getElem?_append_left hk']; exact hq
    have hlt := (hP k q hq').lt
    refine ⟨hlt, fun h => ?_⟩
    rcases h with ⟨k2, e, h⟩ | h
    · have h0 : k2 = 0 := by
        have := (List.getElem?_eq_some_iff.mp h).1
        simp at this
        exact this
      subst h0
      have hx : (ws ++ [x])[ws.length]? = some x := by rw [List.getElem?_append_right (Nat.le_refl _), Nat.sub_self]; rfl
      have ex : x = (q.1, e) := Option.some.inj h
      have := hD.1 k ws.length q x hq' hx (by rw [ex])
      omega
    · omega
  refine ⟨va_P.app (fun k q hq => ?_) hP1, va_D.app ⟨fun i j a b ha hb hab => ?_, fun k q hq => ?_⟩ (hD1.weaken (fun k q _ h => hF q.1 h)) (fun i j a b ha hb hab => ?_)⟩
  · have hk' : k < ws.length := (List.getElem?_eq_some_iff.mp hq).1
    obtain ⟨g1, g2⟩ := apart k q hq
    exact (hP k q (by rw [List.getElem?_append_left hk']; exact hq)).kept (hk q.1 g1 g2)
  · have hi : i < ws.length := (List.getElem?_eq_some_iff.mp ha).1
    have hj : j < ws.length := (List.getElem?_eq_some_iff.mp hb).1
    exact hD.1 i j a b (by rw [List.getElem?_append_left hi]; exact ha) (by rw [List.getElem?_append_left hj]; exact hb) hab
  · have hk' : k < ws.length := (List.getElem?_eq_some_iff.mp hq).1
    exact hD.2 k q (by rw [List.getElem?_append_left hk']; exact hq)
  · exact (apart i a ha).2 (by rw [hab]; exact hD1.2 j b hb)
end
