theorem f_b01 {x : Int32} (h : x.toInt = 0 ∨ x.toInt = 1) : x = 0 ∨ x = 1 := by
  rcases h with h | h
  · exact Or.inl (Int32.toInt_inj.mp h)
  · exact Or.inr (Int32.toInt_inj.mp h)
theorem f_andc (x : Int32) {m : Int32} (k : Nat) (hm : m.toBitVec.toNat = 2 ^ k - 1) (hk : k ≤ 30) : 0 ≤ (x &&& m).toInt ∧ (x &&& m).toInt ≤ 2 ^ k - 1 := by
  have h := vp_in_iff.mp (pk_andIn x (m := m) k hm hk)
  have h2 : (x &&& m).toInt < ((2 ^ k : Nat) : Int) := h.2
  have e : ((2 ^ k : Nat) : Int) = (2 : Int) ^ k := by exact Int.natCast_pow 2 k
  exact ⟨h.1, by omega⟩
theorem f_ne0 {y : Int32} (h : y.toInt ≠ 0) : ¬ y = 0 := fun e => h (by rw [e]; rfl)
theorem f_dep_up {P : fM → Prop} {ds : List Nat} (hd : ∀ I I' : fM, (∀ k, ds.contains k = true → I' k = I k) → P I → P I') {I : fM} {k : Nat} {r : Nat → Int32} (h : P I) (hk : ds.contains k = false) : P (va_up I k r) :=
  hd I _ (fun j hj => va_up_ne _ _ (fun e => by rw [e, hk] at hj; cases hj)) h
theorem f_dep_fr {P : fM → Prop} {ds : List Nat} (hd : ∀ I I' : fM, (∀ k, ds.contains k = true → I' k = I k) → P I → P I') {I I' : fM} {ms : List Nat} (h : P I) (hf : f_fr ms I I') (hk : ds.all (fun k => !ms.contains k) = true) : P I' :=
  hd I I' (fun j hj => hf j (by
    have q := List.all_eq_true.mp hk j (List.contains_iff_mem.mp hj)
    simpa using q)) h
-- @inv xT [26, 27]
theorem xT_dep : ∀ I I' : fM, (∀ k, [26, 27].contains k = true → I' k = I k) → xT I → xT I' := by
  intro I I' h hT i
  rw [h 26 rfl, h 27 rfl]
  exact hT i
