/-! the text of the class's signs -/
theorem g_text {s : State} {args : Array Value} (hs : ∀ w ∈ flatC (Jvm.Cond.and given_1 narrow_1), w.before args s = true) : ∃ aK aV : Nat, vk_S 1 [5] [[59, 40, 41, 47, 92]] (fun _ => aK) (fun _ => aV) (fun q : Nat => s.heap.size ≤ q) s s.heap ∧ (Term.string RX9 37).eval args s none [] s = some (.ref aK) := by
  obtain ⟨adK, adV, h1, h2⟩ := vk_Sof (args := args) (s := s) (N := 1) (tm := fun _ => Term.string RX9 37) (len := [5]) (byt := [[59, 40, 41, 47, 92]]) (A := fun q : Nat => s.heap.size ≤ q) (fun i hi => by rw [show i = 0 by omega]; decide)
    (fun i hi => show (Cond.exactly (Term.string RX9 37) "java/lang/String").before args s = true from hs _ (by decide +kernel))
    (fun i hi => show (Cond.eq (Term.field (Term.string RX9 37) "java/lang/String" "coder" "B") (.int 0)).before args s = true from hs _ (by decide +kernel))
    (fun i hi => show (Cond.arrayOf (Term.field (Term.string RX9 37) "java/lang/String" "value" "[B") .byte).before args s = true from hs _ (by decide +kernel))
    (fun i hi => by
      have e : i = 0 := by omega
      subst e
      show (Cond.eq (.length (Term.field (Term.string RX9 37) "java/lang/String" "value" "[B")) (.int 5)).before args s = true
      exact hs _ (by decide +kernel))
    (fun i hi j hj => by
      have e : i = 0 := by omega
      subst e
      have hj : j < 5 := hj
      rcases (show j = 0 ∨ j = 1 ∨ j = 2 ∨ j = 3 ∨ j = 4 by omega) with rfl | rfl | rfl | rfl | rfl
      · show (Cond.eq (.elem (Term.field (Term.string RX9 37) "java/lang/String" "value" "[B") (.int 0)) (.int 59)).before args s = true
        exact hs _ (by decide +kernel)
      · show (Cond.eq (.elem (Term.field (Term.string RX9 37) "java/lang/String" "value" "[B") (.int 1)) (.int 40)).before args s = true
        exact hs _ (by decide +kernel)
      · show (Cond.eq (.elem (Term.field (Term.string RX9 37) "java/lang/String" "value" "[B") (.int 2)) (.int 41)).before args s = true
        exact hs _ (by decide +kernel)
      · show (Cond.eq (.elem (Term.field (Term.string RX9 37) "java/lang/String" "value" "[B") (.int 3)) (.int 47)).before args s = true
        exact hs _ (by decide +kernel)
      · show (Cond.eq (.elem (Term.field (Term.string RX9 37) "java/lang/String" "value" "[B") (.int 4)) (.int 92)).before args s = true
        exact hs _ (by decide +kernel))
    (fun i j hi hj h => absurd (by omega) h) (fun a h => Nat.not_le.mpr h)
  refine ⟨adK 0, adV 0, ⟨fun i hi => ?_, fun i j hi hj _ => by omega⟩, h2 0 (by omega)⟩
  have e : i = 0 := by omega
  subst e
  exact h1.1 0 hi
