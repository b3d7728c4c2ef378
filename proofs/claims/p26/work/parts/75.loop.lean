/-! the law's loop -/
theorem l_sub6 : ∀ L : Fin 385, (Int32.ofNat L.val - 6).toInt = (L.val : Int) - 6 := by decide +kernel
set_option maxHeartbeats 40000000 in
set_option maxRecDepth 100000 in
theorem law_loop {p : Program} {l : Launch} {e : Env} {s : State} {m : MethodId} {below : List Frame} {meth : Method} {c : Code} {cells slots : Nat} {cy dC : Nat → ClassId} {dI : Nat → Nat → Nat} {a d : Nat → Nat} {b L : Nat} {xs : Nat → Int32} (hL : L ≤ 384) (C0 : lw_At p s m meth c b L xs) (F : gFx s cy dC dI a d) (hcs : cells ≤ room_1.cells ∧ slots ≤ room_1.slots) :
    ∀ (n i : Nat) (x3 : Int32), i ≤ L → L + 1 ≤ i + n → x3 = nI i → ∀ (H : Heap) (locs : List Loc) (ls : Array Slot), g2 s cy dC dI a d H locs → lv_has ls 4 [(0, .ref b), (1, .ref (a 0)), (2, .ref (d 0)), (3, .int x3)] → W p l e room_1 s m #[Value.ref b] below meth c H locs cells slots (lw_Z below #[Value.ref b] s) (F0 m 18 ls []) := by
  obtain ⟨hx, hb, hr, hml, hown, hts, hX, hbl, hlocks, hgv⟩ := id C0
  intro n
  induction n with
  | zero =>
    intro i x3 h1 h2
    exact absurd h2 (by omega)
  | succ n ih =>
    intro i x3 hi hin h3 H locs ls G hl
    have hS : va_S (fun q : Nat => s.heap.size ≤ q) s.heap H locs := by
      obtain ⟨I, M, J, N, _, _, _, _, _, hS⟩ := G
      exact hS
    refine lv_iload_n (k := 3) (i := 3) (x := x3) hx hb (by decide +kernel) rfl (lv_at hl 3 rfl) ?_
    refine lv_aload_n (k := 0) (i := 0) (x := b) hx hb (by decide +kernel) rfl (lv_at hl 0 rfl) ?_
    refine va_slen hx hb hX hbl (Nat.not_le.mpr hbl) hS (by decide +kernel) ?_
    refine lv_bipush (v := 6) hx hb (n := 6) (by decide +kernel) rfl ?_
    refine lv_isub hx hb (by decide +kernel) ?_
    have e6 : (Int32.ofNat L - 6).toInt = (L : Int) - 6 := l_sub6 ⟨L, by omega⟩
    refine lv_icmp_gt (off := 946) (tgt := 970) hx hb (by decide +kernel) (by decide) (fun hc => ?_) (fun hc => ?_)
    · refine lv_iconst (v := 1) hx hb (n := 1) (by decide +kernel) rfl ?_
      refine va_forget (fun q hq => hS.2.2 q hq) ?_
      refine W.widen (k := 600000) (n := 7302250) hcs.1 hcs.2 ?_
      exact lw_ret hx hb hr hlocks (by decide +kernel)
    · have hi6 : i + 6 ≤ L := by
        have h1 : ¬ (Int32.ofNat L - 6).toInt < x3.toInt := fun h => hc (Int32.lt_iff_toInt_lt.mpr h)
        rw [e6, h3, nI_toInt (by omega)] at h1
        omega
      refine lv_aload_n (k := 0) (i := 0) (x := b) hx hb (by decide +kernel) rfl (lv_at hl 0 rfl) ?_
      refine lv_iload_n (k := 3) (i := 3) (x := x3) hx hb (by decide +kernel) rfl (lv_at hl 3 rfl) ?_
      refine va_sld hx hb hX hbl (Nat.not_le.mpr hbl) hS (by rw [h3]; exact vp_in_nI (by omega) (by omega)) (by decide +kernel) ?_
      refine lv_bipush (v := 31) hx hb (n := 31) (by decide +kernel) rfl ?_
      refine lv_iand hx hb (by decide +kernel) ?_
      refine lv_topi (fun z ez => ?_)
      have kk : ∀ (H1 : Heap) (locs1 : List Loc), g2 s cy dC dI a d H1 locs1 → W p l e room_1 s m #[Value.ref b] below meth c H1 locs1 cells slots (lw_Z below #[Value.ref b] s) (F0 m 964 ls []) := by
        intro H1 locs1 G1
        obtain ⟨x4, e4⟩ : ∃ y : Int32, y = x3 + 6 := ⟨_, rfl⟩
        refine lv_iinc (i := 3) (n := 6) (v := x4) (lv' := [(3, .int x4), (0, .ref b), (1, .ref (a 0)), (2, .ref (d 0))]) hx hb (by decide +kernel) hl (k := 3) rfl (by rw [e4]; rfl) (by decide) rfl (fun ls hl => ?_)
        refine lv_goto (off := -949) (tgt := 18) hx hb (by decide +kernel) (by decide) ?_
        exact ih (i + 6) x4 hi6 (by omega) (by rw [e4, h3]; exact nI_add i 6) H1 locs1 ls G1 (lv_sub hl [1, 2, 3, 0] rfl)
      by_cases ho : z.toInt < 0 ∨ 29 < z.toInt
      · refine lv_tableOut (tgt := 964) hx hb (show decode code 33 = .ok (.tableswitch 931 0 29 #[135, 198, 221, 234, 247, 270, 293, 326, 349, 362, 395, 428, 461, 484, 497, 510, 533, 576, 619, 642, 665, 688, 721, 760, 783, 806, 829, 862, 885, 908], 135) by decide +kernel) ho (by decide) ?_
        exact kk H locs G
      · have h1 : ¬ z.toInt < 0 := fun h => ho (Or.inl h)
        have h2 : ¬ (29 : Int) < z.toInt := fun h => ho (Or.inr h)
        rcases (show z.toInt = 0 ∨ z.toInt = 1 ∨ z.toInt = 2 ∨ z.toInt = 3 ∨ z.toInt = 4 ∨ z.toInt = 5 ∨ z.toInt = 6 ∨ z.toInt = 7 ∨ z.toInt = 8 ∨ z.toInt = 9 ∨ z.toInt = 10 ∨ z.toInt = 11 ∨ z.toInt = 12 ∨ z.toInt = 13 ∨ z.toInt = 14 ∨ z.toInt = 15 ∨ z.toInt = 16 ∨ z.toInt = 17 ∨ z.toInt = 18 ∨ z.toInt = 19 ∨ z.toInt = 20 ∨ z.toInt = 21 ∨ z.toInt = 22 ∨ z.toInt = 23 ∨ z.toInt = 24 ∨ z.toInt = 25 ∨ z.toInt = 26 ∨ z.toInt = 27 ∨ z.toInt = 28 ∨ z.toInt = 29 by omega) with hz | hz | hz | hz | hz | hz | hz | hz | hz | hz | hz | hz | hz | hz | hz | hz | hz | hz | hz | hz | hz | hz | hz | hz | hz | hz | hz | hz | hz | hz
        · refine lv_tableIn (tgt := 168) (off := 135) hx hb (show decode code 33 = .ok (.tableswitch 931 0 29 #[135, 198, 221, 234, 247, 270, 293, 326, 349, 362, 395, 428, 461, 484, 497, 510, 533, 576, 619, 642, 665, 688, 721, 760, 783, 806, 829, 862, 885, 908], 135) by decide +kernel) h1 h2 (by rw [hz]; rfl) (by decide) ?_
          exact lc_0 C0 F hcs hL hi6 h3 hl G kk
        · refine lv_tableIn (tgt := 231) (off := 198) hx hb (show decode code 33 = .ok (.tableswitch 931 0 29 #[135, 198, 221, 234, 247, 270, 293, 326, 349, 362, 395, 428, 461, 484, 497, 510, 533, 576, 619, 642, 665, 688, 721, 760, 783, 806, 829, 862, 885, 908], 135) by decide +kernel) h1 h2 (by rw [hz]; rfl) (by decide) ?_
          exact lc_1 C0 F hcs hL hi6 h3 hl G kk
        · refine lv_tableIn (tgt := 254) (off := 221) hx hb (show decode code 33 = .ok (.tableswitch 931 0 29 #[135, 198, 221, 234, 247, 270, 293, 326, 349, 362, 395, 428, 461, 484, 497, 510, 533, 576, 619, 642, 665, 688, 721, 760, 783, 806, 829, 862, 885, 908], 135) by decide +kernel) h1 h2 (by rw [hz]; rfl) (by decide) ?_
          exact lc_2 C0 F hcs hL hi6 h3 hl G kk
        · refine lv_tableIn (tgt := 267) (off := 234) hx hb (show decode code 33 = .ok (.tableswitch 931 0 29 #[135, 198, 221, 234, 247, 270, 293, 326, 349, 362, 395, 428, 461, 484, 497, 510, 533, 576, 619, 642, 665, 688, 721, 760, 783, 806, 829, 862, 885, 908], 135) by decide +kernel) h1 h2 (by rw [hz]; rfl) (by decide) ?_
          exact lc_3 C0 F hcs hL hi6 h3 hl G kk
        · refine lv_tableIn (tgt := 280) (off := 247) hx hb (show decode code 33 = .ok (.tableswitch 931 0 29 #[135, 198, 221, 234, 247, 270, 293, 326, 349, 362, 395, 428, 461, 484, 497, 510, 533, 576, 619, 642, 665, 688, 721, 760, 783, 806, 829, 862, 885, 908], 135) by decide +kernel) h1 h2 (by rw [hz]; rfl) (by decide) ?_
          exact lc_4 C0 F hcs hL hi6 h3 hl G kk
        · refine lv_tableIn (tgt := 303) (off := 270) hx hb (show decode code 33 = .ok (.tableswitch 931 0 29 #[135, 198, 221, 234, 247, 270, 293, 326, 349, 362, 395, 428, 461, 484, 497, 510, 533, 576, 619, 642, 665, 688, 721, 760, 783, 806, 829, 862, 885, 908], 135) by decide +kernel) h1 h2 (by rw [hz]; rfl) (by decide) ?_
          exact lc_5 C0 F hcs hL hi6 h3 hl G kk
        · refine lv_tableIn (tgt := 326) (off := 293) hx hb (show decode code 33 = .ok (.tableswitch 931 0 29 #[135, 198, 221, 234, 247, 270, 293, 326, 349, 362, 395, 428, 461, 484, 497, 510, 533, 576, 619, 642, 665, 688, 721, 760, 783, 806, 829, 862, 885, 908], 135) by decide +kernel) h1 h2 (by rw [hz]; rfl) (by decide) ?_
          exact lc_6 C0 F hcs hL hi6 h3 hl G kk
        · refine lv_tableIn (tgt := 359) (off := 326) hx hb (show decode code 33 = .ok (.tableswitch 931 0 29 #[135, 198, 221, 234, 247, 270, 293, 326, 349, 362, 395, 428, 461, 484, 497, 510, 533, 576, 619, 642, 665, 688, 721, 760, 783, 806, 829, 862, 885, 908], 135) by decide +kernel) h1 h2 (by rw [hz]; rfl) (by decide) ?_
          exact lc_7 C0 F hcs hL hi6 h3 hl G kk
        · refine lv_tableIn (tgt := 382) (off := 349) hx hb (show decode code 33 = .ok (.tableswitch 931 0 29 #[135, 198, 221, 234, 247, 270, 293, 326, 349, 362, 395, 428, 461, 484, 497, 510, 533, 576, 619, 642, 665, 688, 721, 760, 783, 806, 829, 862, 885, 908], 135) by decide +kernel) h1 h2 (by rw [hz]; rfl) (by decide) ?_
          exact lc_8 C0 F hcs hL hi6 h3 hl G kk
        · refine lv_tableIn (tgt := 395) (off := 362) hx hb (show decode code 33 = .ok (.tableswitch 931 0 29 #[135, 198, 221, 234, 247, 270, 293, 326, 349, 362, 395, 428, 461, 484, 497, 510, 533, 576, 619, 642, 665, 688, 721, 760, 783, 806, 829, 862, 885, 908], 135) by decide +kernel) h1 h2 (by rw [hz]; rfl) (by decide) ?_
          exact lc_9 C0 F hcs hL hi6 h3 hl G kk
        · refine lv_tableIn (tgt := 428) (off := 395) hx hb (show decode code 33 = .ok (.tableswitch 931 0 29 #[135, 198, 221, 234, 247, 270, 293, 326, 349, 362, 395, 428, 461, 484, 497, 510, 533, 576, 619, 642, 665, 688, 721, 760, 783, 806, 829, 862, 885, 908], 135) by decide +kernel) h1 h2 (by rw [hz]; rfl) (by decide) ?_
          exact lc_10 C0 F hcs hL hi6 h3 hl G kk
        · refine lv_tableIn (tgt := 461) (off := 428) hx hb (show decode code 33 = .ok (.tableswitch 931 0 29 #[135, 198, 221, 234, 247, 270, 293, 326, 349, 362, 395, 428, 461, 484, 497, 510, 533, 576, 619, 642, 665, 688, 721, 760, 783, 806, 829, 862, 885, 908], 135) by decide +kernel) h1 h2 (by rw [hz]; rfl) (by decide) ?_
          exact lc_11 C0 F hcs hL hi6 h3 hl G kk
        · refine lv_tableIn (tgt := 494) (off := 461) hx hb (show decode code 33 = .ok (.tableswitch 931 0 29 #[135, 198, 221, 234, 247, 270, 293, 326, 349, 362, 395, 428, 461, 484, 497, 510, 533, 576, 619, 642, 665, 688, 721, 760, 783, 806, 829, 862, 885, 908], 135) by decide +kernel) h1 h2 (by rw [hz]; rfl) (by decide) ?_
          exact lc_12 C0 F hcs hL hi6 h3 hl G kk
        · refine lv_tableIn (tgt := 517) (off := 484) hx hb (show decode code 33 = .ok (.tableswitch 931 0 29 #[135, 198, 221, 234, 247, 270, 293, 326, 349, 362, 395, 428, 461, 484, 497, 510, 533, 576, 619, 642, 665, 688, 721, 760, 783, 806, 829, 862, 885, 908], 135) by decide +kernel) h1 h2 (by rw [hz]; rfl) (by decide) ?_
          exact lc_13 C0 F hcs hL hi6 h3 hl G kk
        · refine lv_tableIn (tgt := 530) (off := 497) hx hb (show decode code 33 = .ok (.tableswitch 931 0 29 #[135, 198, 221, 234, 247, 270, 293, 326, 349, 362, 395, 428, 461, 484, 497, 510, 533, 576, 619, 642, 665, 688, 721, 760, 783, 806, 829, 862, 885, 908], 135) by decide +kernel) h1 h2 (by rw [hz]; rfl) (by decide) ?_
          exact lc_14 C0 F hcs hL hi6 h3 hl G kk
        · refine lv_tableIn (tgt := 543) (off := 510) hx hb (show decode code 33 = .ok (.tableswitch 931 0 29 #[135, 198, 221, 234, 247, 270, 293, 326, 349, 362, 395, 428, 461, 484, 497, 510, 533, 576, 619, 642, 665, 688, 721, 760, 783, 806, 829, 862, 885, 908], 135) by decide +kernel) h1 h2 (by rw [hz]; rfl) (by decide) ?_
          exact lc_15 C0 F hcs hL hi6 h3 hl G kk
        · refine lv_tableIn (tgt := 566) (off := 533) hx hb (show decode code 33 = .ok (.tableswitch 931 0 29 #[135, 198, 221, 234, 247, 270, 293, 326, 349, 362, 395, 428, 461, 484, 497, 510, 533, 576, 619, 642, 665, 688, 721, 760, 783, 806, 829, 862, 885, 908], 135) by decide +kernel) h1 h2 (by rw [hz]; rfl) (by decide) ?_
          exact lc_16 C0 F hcs hL hi6 h3 hl G kk
        · refine lv_tableIn (tgt := 609) (off := 576) hx hb (show decode code 33 = .ok (.tableswitch 931 0 29 #[135, 198, 221, 234, 247, 270, 293, 326, 349, 362, 395, 428, 461, 484, 497, 510, 533, 576, 619, 642, 665, 688, 721, 760, 783, 806, 829, 862, 885, 908], 135) by decide +kernel) h1 h2 (by rw [hz]; rfl) (by decide) ?_
          exact lc_17 C0 F hcs hL hi6 h3 hl G kk
        · refine lv_tableIn (tgt := 652) (off := 619) hx hb (show decode code 33 = .ok (.tableswitch 931 0 29 #[135, 198, 221, 234, 247, 270, 293, 326, 349, 362, 395, 428, 461, 484, 497, 510, 533, 576, 619, 642, 665, 688, 721, 760, 783, 806, 829, 862, 885, 908], 135) by decide +kernel) h1 h2 (by rw [hz]; rfl) (by decide) ?_
          exact lc_18 C0 F hcs hL hi6 h3 hl G kk
        · refine lv_tableIn (tgt := 675) (off := 642) hx hb (show decode code 33 = .ok (.tableswitch 931 0 29 #[135, 198, 221, 234, 247, 270, 293, 326, 349, 362, 395, 428, 461, 484, 497, 510, 533, 576, 619, 642, 665, 688, 721, 760, 783, 806, 829, 862, 885, 908], 135) by decide +kernel) h1 h2 (by rw [hz]; rfl) (by decide) ?_
          exact lc_19 C0 F hcs hL hi6 h3 hl G kk
        · refine lv_tableIn (tgt := 698) (off := 665) hx hb (show decode code 33 = .ok (.tableswitch 931 0 29 #[135, 198, 221, 234, 247, 270, 293, 326, 349, 362, 395, 428, 461, 484, 497, 510, 533, 576, 619, 642, 665, 688, 721, 760, 783, 806, 829, 862, 885, 908], 135) by decide +kernel) h1 h2 (by rw [hz]; rfl) (by decide) ?_
          exact lc_20 C0 F hcs hL hi6 h3 hl G kk
        · refine lv_tableIn (tgt := 721) (off := 688) hx hb (show decode code 33 = .ok (.tableswitch 931 0 29 #[135, 198, 221, 234, 247, 270, 293, 326, 349, 362, 395, 428, 461, 484, 497, 510, 533, 576, 619, 642, 665, 688, 721, 760, 783, 806, 829, 862, 885, 908], 135) by decide +kernel) h1 h2 (by rw [hz]; rfl) (by decide) ?_
          exact lc_21 C0 F hcs hL hi6 h3 hl G kk
        · refine lv_tableIn (tgt := 754) (off := 721) hx hb (show decode code 33 = .ok (.tableswitch 931 0 29 #[135, 198, 221, 234, 247, 270, 293, 326, 349, 362, 395, 428, 461, 484, 497, 510, 533, 576, 619, 642, 665, 688, 721, 760, 783, 806, 829, 862, 885, 908], 135) by decide +kernel) h1 h2 (by rw [hz]; rfl) (by decide) ?_
          exact lc_22 C0 F hcs hL hi6 h3 hl G kk
        · refine lv_tableIn (tgt := 793) (off := 760) hx hb (show decode code 33 = .ok (.tableswitch 931 0 29 #[135, 198, 221, 234, 247, 270, 293, 326, 349, 362, 395, 428, 461, 484, 497, 510, 533, 576, 619, 642, 665, 688, 721, 760, 783, 806, 829, 862, 885, 908], 135) by decide +kernel) h1 h2 (by rw [hz]; rfl) (by decide) ?_
          exact lc_23 C0 F hcs hL hi6 h3 hl G kk
        · refine lv_tableIn (tgt := 816) (off := 783) hx hb (show decode code 33 = .ok (.tableswitch 931 0 29 #[135, 198, 221, 234, 247, 270, 293, 326, 349, 362, 395, 428, 461, 484, 497, 510, 533, 576, 619, 642, 665, 688, 721, 760, 783, 806, 829, 862, 885, 908], 135) by decide +kernel) h1 h2 (by rw [hz]; rfl) (by decide) ?_
          exact lc_24 C0 F hcs hL hi6 h3 hl G kk
        · refine lv_tableIn (tgt := 839) (off := 806) hx hb (show decode code 33 = .ok (.tableswitch 931 0 29 #[135, 198, 221, 234, 247, 270, 293, 326, 349, 362, 395, 428, 461, 484, 497, 510, 533, 576, 619, 642, 665, 688, 721, 760, 783, 806, 829, 862, 885, 908], 135) by decide +kernel) h1 h2 (by rw [hz]; rfl) (by decide) ?_
          exact lc_25 C0 F hcs hL hi6 h3 hl G kk
        · refine lv_tableIn (tgt := 862) (off := 829) hx hb (show decode code 33 = .ok (.tableswitch 931 0 29 #[135, 198, 221, 234, 247, 270, 293, 326, 349, 362, 395, 428, 461, 484, 497, 510, 533, 576, 619, 642, 665, 688, 721, 760, 783, 806, 829, 862, 885, 908], 135) by decide +kernel) h1 h2 (by rw [hz]; rfl) (by decide) ?_
          exact lc_26 C0 F hcs hL hi6 h3 hl G kk
        · refine lv_tableIn (tgt := 895) (off := 862) hx hb (show decode code 33 = .ok (.tableswitch 931 0 29 #[135, 198, 221, 234, 247, 270, 293, 326, 349, 362, 395, 428, 461, 484, 497, 510, 533, 576, 619, 642, 665, 688, 721, 760, 783, 806, 829, 862, 885, 908], 135) by decide +kernel) h1 h2 (by rw [hz]; rfl) (by decide) ?_
          exact lc_27 C0 F hcs hL hi6 h3 hl G kk
        · refine lv_tableIn (tgt := 918) (off := 885) hx hb (show decode code 33 = .ok (.tableswitch 931 0 29 #[135, 198, 221, 234, 247, 270, 293, 326, 349, 362, 395, 428, 461, 484, 497, 510, 533, 576, 619, 642, 665, 688, 721, 760, 783, 806, 829, 862, 885, 908], 135) by decide +kernel) h1 h2 (by rw [hz]; rfl) (by decide) ?_
          exact lc_28 C0 F hcs hL hi6 h3 hl G kk
        · refine lv_tableIn (tgt := 941) (off := 908) hx hb (show decode code 33 = .ok (.tableswitch 931 0 29 #[135, 198, 221, 234, 247, 270, 293, 326, 349, 362, 395, 428, 461, 484, 497, 510, 533, 576, 619, 642, 665, 688, 721, 760, 783, 806, 829, 862, 885, 908], 135) by decide +kernel) h1 h2 (by rw [hz]; rfl) (by decide) ?_
          exact lc_29 C0 F hcs hL hi6 h3 hl G kk
