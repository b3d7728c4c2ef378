/-! the constants outside the class's world: the text of the signs, and String's own static -/
def xE (a : Nat → Nat) (U : State) : Prop := vk_S 1 [5] [[59, 40, 41, 47, 92]] (fun _ => a 1000) (fun _ => a 1001) (f_A 80 a) U U.heap ∧ vk_R RX9 37 ";()/\\" (a 1000) U ∧ va_Z "java/lang/String" "COMPACT_STRINGS" "Z" (.int 1) (f_A 80 a) U U.heap
theorem xE_c (a : Nat → Nat) : f_Ec (xE a) 80 a := by
  refine ⟨fun s U H locs h hS hU hW => ?_, fun U g mk a' h => ?_⟩
  · obtain ⟨h1, h2, h3⟩ := h
    refine ⟨?_, vk_R.warm hW h2, ?_⟩
    · rw [hU]; exact vk_S.moved hW.alike (vk_S.kept h1 hS.2.1)
    · rw [hU]; exact va_Z.moved hW.alike (h3.kept hS.2.1)
  · obtain ⟨h1, h2, h3⟩ := h
    refine ⟨?_, vk_R.same rfl h2, ?_⟩
    · exact vk_S.moved (u := U) (U := U.calling g mk a') (Vm.Alike.refl U.vm) h1
    · exact va_Z.moved (u := U) (U := U.calling g mk a') (Vm.Alike.refl U.vm) h3
theorem f_Ec_T (NC : Nat) (a : Nat → Nat) : f_Ec (fun _ => True) NC a := ⟨fun _ _ _ _ _ _ _ _ => trivial, fun _ _ _ _ _ => trivial⟩
/-- fewer locals are enough -/
theorem f_W_sub {p : Program} {l : Launch} {e : Env} {R : Room} {s : State} {m : MethodId} {args : Array Value} {below : List Frame} {meth : Method} {c : Code} {Y : fY} {NC : Nat} {a : Nat → Nat} {cy : Nat → ClassId} {dC : Nat → ClassId} {dI : Nat → Nat → Nat} {nL : Nat} {K : Option Value → fM → fN → Prop} {pc : Nat} {ls ls2 : fLs} {st : List Value} {I : fM} {L : fN}
    (h : ∀ q ∈ ls2, q ∈ ls) (k : f_W p l e R s m args below meth c Y NC a cy dC dI nL K pc ls2 st I L) : f_W p l e R s m args below meth c Y NC a cy dC dI nL K pc ls st I L := by
  intro H locs la hP hS hl
  refine k H locs la hP hS ⟨hl.1, hl.2.1, fun q hq => hl.2.2 q ?_⟩
  obtain ⟨r, hr, rfl⟩ := List.mem_map.mp hq
  exact List.mem_map.mpr ⟨r, h r hr, rfl⟩
/-! what the class's cells hold at all times: ranges; what a method leaves as it was -/
def xB (k j : Nat) : Int × Int := match k with
  | 0 => (match j with | 11 => (0, 100000) | _ => (-2147483648, 2147483647))
  | 1 => (match j with | 1 => (0, 1600) | 3 => (0, 1600) | 5 => (0, 1600) | _ => (-2147483648, 2147483647))
  | 4 => (0, 11)
  | 5 => (match j with | 4 => (0, 5) | 5 => (0, 12) | _ => (-2147483648, 2147483647))
  | 10 => (match j with | 4 => (0, 5) | 5 => (0, 12) | _ => (-2147483648, 2147483647))
  | 8 => (0, 3)
  | 13 => (0, 3)
  | 15 => (match j with | 9 => (0, 5) | 10 => (0, 12) | _ => (-2147483648, 2147483647))
  | 16 => (0, 4)
  | 20 => (0, 9)
  | 21 => (-1, 3)
  | 22 => (-1, 3)
  | 23 => (-1, 3)
  | 24 => (0, 3)
  | 25 => (match j with | 7 => (0, 8) | 8 => (0, 52) | _ => (-2147483648, 2147483647))
  | 26 => (0, 52)
  | 27 => (0, 3)
  | 28 => (0, 2)
  | 31 => (match j with | 9 => (0, 20) | _ => (-2147483648, 2147483647))
  | 32 => (0, 9)
  | 33 => (-1, 19)
  | 34 => (-1, 19)
  | 35 => (-1, 19)
  | 36 => (-1, 7)
  | 37 => (-1, 19)
  | 40 => (match j with | 6 => (0, 8) | 7 => (0, 12) | _ => (-2147483648, 2147483647))
  | 41 => (0, 11)
  | 42 => (0, 11)
  | 43 => (0, 6)
  | 47 => (match j with | 6 => (0, 8) | 7 => (0, 12) | _ => (-2147483648, 2147483647))
  | 48 => (0, 11)
  | 49 => (0, 11)
  | 50 => (0, 6)
  | 54 => (match j with | 6 => (0, 8) | 7 => (0, 12) | _ => (-2147483648, 2147483647))
  | 55 => (0, 11)
  | 56 => (0, 11)
  | 57 => (0, 6)
  | 61 => (match j with | 6 => (0, 8) | 7 => (0, 12) | _ => (-2147483648, 2147483647))
  | 62 => (0, 11)
  | 63 => (0, 11)
  | 64 => (0, 6)
  | 69 => (match j with | 5 => (0, 300) | _ => (-2147483648, 2147483647))
  | 73 => (0, 7)
  | 79 => (0, 9)
  | _ => (-2147483648, 2147483647)
def xR (I : fM) : Prop := ∀ k j, (xB k j).1 ≤ (I k j).toInt ∧ (I k j).toInt ≤ (xB k j).2
theorem xR_f {I : fM} (h : xR I) {k j : Nat} {x : Int32} (h1 : (xB k j).1 ≤ x.toInt ∧ x.toInt ≤ (xB k j).2) : xR (va_up I k (va_up (I k) j x)) := by
  intro k' j'
  by_cases e : k' = k
  · subst e
    rw [va_up_self]
    by_cases e2 : j' = j
    · subst e2; rw [va_up_self]; exact h1
    · rw [va_up_ne _ _ e2]; exact h k' j'
  · rw [va_up_ne _ _ e]; exact h k' j'
theorem xR_a {I : fM} (h : xR I) {k j : Nat} {x : Int32} (h1 : (xB k j).1 ≤ x.toInt ∧ x.toInt ≤ (xB k j).2) : xR (va_up I k (upd (I k) j x)) := by
  intro k' j'
  by_cases e : k' = k
  · subst e
    rw [va_up_self]
    by_cases e2 : j' = j
    · subst e2; rw [pk_us]; exact h1
    · rw [pk_un e2]; exact h k' j'
  · rw [va_up_ne _ _ e]; exact h k' j'
theorem xR_0 : xB 99 0 = (-2147483648, 2147483647) := rfl
/-- cells that stay -/
def f_fr {α : Type} (ms : List Nat) (I I' : Nat → Nat → α) : Prop := ∀ k, ms.contains k = false → I' k = I k
theorem f_fr_rf {α : Type} {ms : List Nat} {I : Nat → Nat → α} : f_fr ms I I := fun _ _ => rfl
theorem f_fr_up {α : Type} {ms : List Nat} {I J : Nat → Nat → α} {k : Nat} {r : Nat → α} (h : f_fr ms I J) (hk : ms.contains k = true) : f_fr ms I (va_up J k r) := by
  intro j hj
  rw [va_up_ne _ _ (fun e => by rw [e, hk] at hj; cases hj)]
  exact h j hj
theorem f_fr_tr {α : Type} {ms ms' : List Nat} {I J K : Nat → Nat → α} (h : f_fr ms I J) (h' : f_fr ms' J K) (hs : ms'.all (fun k => ms.contains k) = true) : f_fr ms I K := by
  intro j hj
  have hj' : ms'.contains j = false := by
    cases hc : ms'.contains j with
    | false => rfl
    | true =>
      have h1 := List.all_eq_true.mp hs j (List.contains_iff_mem.mp hc)
      rw [h1] at hj
      cases hj
  rw [h' j hj', h j hj]
