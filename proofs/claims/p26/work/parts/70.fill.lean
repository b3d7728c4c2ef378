/-! Arrays.fill on one array alone -/
def fY1 (n : Nat) : fY := fun k => match k with
  | 0 => .inl (0, n)
  | _ => .inr (99, [])
def jfill1 (n : Nat) (len v : Int32) (I0 : fM) (L0 : fN) (nn : Nat) (ls : fLs) (st : List Value) (I : fM) (L : fN) : Prop := ∃ (i : Int32), (ls = [(3, .int len), (2, .int i), (0, .ref 0), (1, .int v)] ∨ ls = [(2, .int i), (3, .int len), (0, .ref 0), (1, .int v)]) ∧ st = [] ∧ 0 ≤ i.toInt ∧ i.toInt ≤ len.toInt ∧ len.toInt - i.toInt < nn ∧ (∀ j : Nat, n ≤ j → I 0 j = I0 0 j) ∧ ∀ j : Nat, (j : Int) < i.toInt → I 0 j = v
def pfill1 (av : List Value) (_ : fM) (_ : fN) : Prop := match av with
  | [.ref 0, .int _] => True
  | _ => False
def qfill1 (n : Nat) (av : List Value) (I : fM) (_ : fN) (r : Value) (I' : fM) (_ : fN) : Prop := match av, r with
  | [.ref 0, .int v], .null => (∀ j : Nat, j < n → I' 0 j = v) ∧ (∀ j : Nat, n ≤ j → I' 0 j = I 0 j)
  | _, _ => False
set_option maxHeartbeats 4000000 in
set_option maxRecDepth 100000 in
theorem mfill1 {l : Launch} {a : Nat → Nat} {cy dC : Nat → ClassId} {dI : Nat → Nat → Nat} (n : Nat) (hn : n ≤ 1000) : f_Met (fun _ => True) l (fY1 n) 1 a cy dC dI yJ7_fill_53178 cJ7_fill_53178 4 0 0 pfill1 (qfill1 n) := by
  have hinj : ∀ i j, i < 1 → j < 1 → a i = a j → i = j := fun i j hi hj _ => by omega
  refine f_met_of (f_Ec_T 1 a) hinj (fun k hk => by cases k with | zero => omega | succ k => rfl) (by decide) (fun av I L h => by unfold pfill1 at h; split at h <;> first | exact Nat.le_of_ble_eq_true rfl | exact h.elim) ?_
  intro pP eP sP mP aP bP hP9 cP C av I L hp
  unfold pfill1 at hp
  split at hp
  case h_2 => exact hp.elim
  case h_1 v =>
    have e : (Int32.ofNat n).toInt = (n : Int) := nI_toInt (by omega)
    have lp : ∀ (nn : Nat) (ls' : fLs) (st' : List Value) (I' : fM) (L' : fN), jfill1 n (Int32.ofNat n) v I L nn ls' st' I' L' → f_W pP l eP (f_rm 0) sP mP aP bP hP9 cP (fY1 n) 1 a cy dC dI 4 (f_K 0 (qfill1 n [.ref 0, .int v] I L)) 5 ls' st' I' L' := by
      intro nn
      induction nn with
      | zero =>
        intro ls' st' I' L' h
        obtain ⟨i, -, -, h1, h2, hm, -⟩ := h
        omega
      | succ nn ih =>
        intro ls' st' I' L' h
        obtain ⟨i, hls, rfl, h1, h2, hm, hF, hj⟩ := h
        refine f_wp_ok C f_cl flJ7_ok fiJ7_ok fjJ7_ok (sn := none) (fun j h => by cases h) (cs := (fun _ => none)) (cz := (fun _ => none)) (fun j S h => by cases h) (fun j S h => by cases h) tJ7_fill_53178_ok (cut := (f_cnl [(5, jfill1 n (Int32.ofNat n) v I L nn)])) (f_cnl_of (P := fun (tQ : Nat) (P : fLs → List Value → fM → fN → Prop) => ∀ ls' st' I' L', P ls' st' I' L' → f_W pP l eP (f_rm 0) sP mP aP bP hP9 cP (fY1 n) 1 a cy dC dI 4 (f_K 0 (qfill1 n [.ref 0, .int v] I L)) tQ ls' st' I' L') (List.forall_mem_cons.mpr ⟨ih, fun _ h => absurd h List.not_mem_nil⟩)) 40 5 (f_seek 5 0 tJ7_fill_53178) (f_seek_ok 5 0 tJ7_fill_53178 tJ7_fill_53178_ok) _ _ _ _ ?_
        rcases hls with rfl | rfl
        all_goals
          apply And.intro
          · intro h3
            have h3 : (Int32.ofNat n).toInt ≤ i.toInt := h3
            exact ⟨fun j hjl => hj j (by omega), hF⟩
          · intro h3
            have h3 : i.toInt < (Int32.ofNat n).toInt := h3
            apply And.intro
            · exact ⟨h1, by omega⟩
            · intro z q hz hq hl hu
              have e9 : i.toNatClampNeg = i.toInt.toNat := rfl
              refine ⟨z, Or.inr rfl, rfl, by omega, by omega, by omega, fun j hjn => ?_, fun j hjz => ?_⟩
              · show upd (I' 0) i.toNatClampNeg v j = I 0 j
                rw [pk_un (by omega)]
                exact hF j hjn
              · show upd (I' 0) i.toNatClampNeg v j = v
                by_cases ej : j = i.toNatClampNeg
                · rw [ej, pk_us]
                · rw [pk_un ej]
                  refine hj j ?_
                  omega
    refine f_wp_ok C f_cl flJ7_ok fiJ7_ok fjJ7_ok (sn := none) (fun j h => by cases h) (cs := (fun _ => none)) (cz := (fun _ => none)) (fun j S h => by cases h) (fun j S h => by cases h) tJ7_fill_53178_ok (cut := (f_cnl [(5, jfill1 n (Int32.ofNat n) v I L 2000)])) (f_cnl_of (P := fun (tQ : Nat) (P : fLs → List Value → fM → fN → Prop) => ∀ ls' st' I' L', P ls' st' I' L' → f_W pP l eP (f_rm 0) sP mP aP bP hP9 cP (fY1 n) 1 a cy dC dI 4 (f_K 0 (qfill1 n [.ref 0, .int v] I L)) tQ ls' st' I' L') (List.forall_mem_cons.mpr ⟨lp 2000, fun _ h => absurd h List.not_mem_nil⟩)) 40 0 tJ7_fill_53178 tJ7_fill_53178_ok _ _ _ _ ?_
    have z0 : (Int32.ofInt 0).toInt = 0 := rfl
    exact ⟨Int32.ofInt 0, Or.inl rfl, rfl, by omega, by omega, by omega, fun j _ => rfl, fun j hj => by omega⟩
theorem g_set {A : Nat → Prop} {D : va_G} {cl : List vw_C} {ws : va_W} {H H1 : Heap} {q q0 : Nat} {e0 e1 : va_E} (hP : va_P D cl ws H) (hD : va_D A ws) (he : ws[q0]? = some (q, e0)) (h1 : va_at D cl (q, e1) H1) (hk : ∀ x : Nat, x < H.size → x ≠ q → H1[x]? = H[x]?) : va_P D cl (ws.set q0 (q, e1)) H1 := by
  intro k x hx
  have hq0 : q0 < ws.length := (List.getElem?_eq_some_iff.mp he).1
  by_cases e : q0 = k
  · subst e
    rw [List.getElem?_set_self hq0] at hx
    cases hx
    exact h1
  · rw [List.getElem?_set_ne e] at hx
    have ne : x.1 ≠ q := fun h => e (hD.1 q0 k _ _ he hx (by rw [h]))
    exact (hP k x hx).kept (hk x.1 (hP k x hx).lt ne)
theorem g_fill {p : Program} {l : Launch} {e : Env} {R : Room} {s : State} {m : MethodId} {args : Array Value} {below : List Frame} {meth : Method} {c : Code} {H H0 : Heap} {locs : List Loc} {cells slots : Nat} {Q : State → Prop} {cy dC : Nat → ClassId} {dI : Nat → Nat → Nat} {cc : ByteArray} {own : String} {nL : Nat} {A : Nat → Prop} {ws : va_W} {pc : Nat} {ls : Array Slot} {rest : List Value} {idx q q0 n : Nat} {v : Int32} {f : Nat → Int32}
    (S : CallFix p m c cc nL s args fT own) (hlk : Cond.methodLink own idx yJ7_fill_53178 ∈ fT) (hn : n ≤ 1000) (hR : 1 ≤ R.frames ∧ 23 ≤ R.locals) (hf : cells ≤ R.cells ∧ slots ≤ R.slots) (hK : va_K (dC, dI) vwCl (f_tys cy) s) (hP : va_P (dC, dI) vwCl ws H) (hD : va_D A ws) (hS : va_S A H0 H locs) (he : ws[q0]? = some (q, .inl (cy 0, n, .inl f))) (hl : ls.size = nL) (hsum : (rest.map fun v => v.category).sum ≤ 8) (hd : decode cc pc = .ok (.invokestatic idx, 3))
    (kk : ∀ (g : Nat → Int32) (H1 : Heap) (locs1 : List Loc), (∀ j : Nat, j < n → g j = v) → (∀ j : Nat, n ≤ j → g j = f j) → va_P (dC, dI) vwCl (ws.set q0 (q, .inl (cy 0, n, .inl g))) H1 → va_D A (ws.set q0 (q, .inl (cy 0, n, .inl g))) → va_S A H0 H1 locs1 → W p l e R s m args below meth c H1 locs1 cells slots Q (F0 m (pc + 3) ls rest)) :
    W p l e R s m args below meth c H locs cells slots Q (F0 m pc ls (.int v :: .ref q :: rest)) := by
  have hts : ∀ w ∈ fT, w.before args s = true := S.2.2.2.2
  have hAq : A q := hD.2 q0 _ he
  have hPc : va_P (dC, dI) vwCl (f_w (fY1 n) 1 (fun _ => q) cy (fun _ => f) (fun _ _ => 0)) H := by
    intro k x hx
    obtain ⟨h1, -⟩ := f_w_inv hx
    have : k = 0 := by omega
    subst this
    have hx : some (q, (Sum.inl (cy 0, n, .inl f) : va_E)) = some x := hx
    cases hx
    exact hP q0 _ he
  have run := va_runS (locs := locs) (cells := cells) (slots := slots) (below := below) (meth := meth) (e := e) (R := R) (As := [.ref q, .int v]) (rest := rest) (g := F0 m pc ls (.int v :: .ref q :: rest)) S (mfill1 (l := l) (a := fun _ => q) (cy := cy) (dC := dC) (dI := dI) n hn [.ref 0, .int v] (fun _ => f) (fun _ _ => 0) trivial) (va_cwS 2 hts (f_goodS (List.forall_mem_cons.mpr ⟨hlk, kc_J7_fill_53178⟩)) rfl rfl rfl (by decide +kernel) hR) ⟨fun a' U g mk q => by obtain ⟨q0, qP, qK, qE⟩ := q; exact ⟨q0, qP, va_K.moved (u := U) (U := U.calling g mk a') (Vm.Alike.refl U.vm) qK, trivial⟩, fun U hU hW => ⟨rfl, by rw [hU]; exact hPc, va_K.moved hW.alike hK, trivial⟩⟩ rfl rfl hl rfl (lv_room hsum) hd ⟨hf.1, hf.2⟩
  intro T0 hT X
  obtain ⟨v', st₀, t, T', L', h0, X', hL', e1, e2, ⟨⟨r, I', L'', hv, hKr, hP1, -⟩, hz, hkeep⟩, hgo⟩ := run T0 hT X
  rw [h0] at hz hkeep
  have hF : ∀ x, f_A 1 (fun _ => q) x → x = q := fun x ⟨k, _, e⟩ => e.symm
  have hS1 : va_S A H0 T'.heap (locs ++ L') := ⟨Nat.le_trans hS.1 (by rw [e1]; exact hz), fun x h1 h2 => by rw [e1, hkeep x (Nat.lt_of_lt_of_le h1 hS.1) (fun h => h2 (by rw [hF x h]; exact hAq))]; exact hS.2.1 x h1 h2, fun x hx => by
    rcases List.mem_append.mp hx with h | h
    · exact hS.2.2 x h
    · rw [hF _ (hL' x h)]; exact hAq⟩
  have hr0 : r = none := by cases r with | none => rfl | some w => exact hKr.elim
  subst hr0
  cases hv
  have hq : (∀ j : Nat, j < n → I' 0 j = v) ∧ (∀ j : Nat, n ≤ j → I' 0 j = f j) := hKr
  obtain ⟨t2, a1, b1⟩ := kk (I' 0) T'.heap (locs ++ L') hq.1 hq.2 (g_set hP hD he (by rw [e1]; exact hP1 0 (q, .inl (cy 0, n, .inl (I' 0))) rfl) (fun x h1 h2 => by rw [e1]; exact hkeep x h1 (fun h => h2 (hF x h)))) (hD.set he) hS1 T' rfl X'
  exact ⟨t2, hgo t2 a1, b1⟩
