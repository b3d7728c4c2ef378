/-! how much a reading tells: the ends that are come to from the goal's are no two alike -/
def chn (B : Nat → Int32) : Nat → Int → List Nat
  | 0, _ => []
  | k + 1, h => if h < 0 then [] else h.toNat :: chn B k (B h.toNat).toInt
def tlS (g : Nat → Nat) (B : Nat → Int32) : Nat → Int → Nat
  | 0, _ => 0
  | k + 1, h => if h < 0 then 0 else g h.toNat + tlS g B k (B h.toNat).toInt
/-- so many numbers are told of a wanted end, f steps deep -/
def tlT (Q C B : Nat → Int32) : Nat → Nat → Nat
  | 0, _ => 0
  | f + 1, w => if (Q w).toInt < 0 then 0 else (chn B 4 (C w).toInt).length + 1 + tlS (tlT Q C B f) B 4 (C (Q w).toInt.toNat).toInt
def tlV (Q C B : Nat → Int32) : Nat → Nat → List Nat
  | 0, _ => []
  | f + 1, w => if (Q w).toInt < 0 then [] else w :: (chn B 4 (C (Q w).toInt.toNat).toInt).flatMap (tlV Q C B f)
theorem tlS_eq (g : Nat → Nat) (B : Nat → Int32) : ∀ (k : Nat) (h : Int), tlS g B k h = ((chn B k h).map g).sum
  | 0, _ => rfl
  | k + 1, h => by
    unfold tlS chn
    split
    · rfl
    · rw [tlS_eq g B k, List.map_cons, List.sum_cons]
theorem flat_len {α β : Type} (g : α → List β) : ∀ l : List α, (l.flatMap g).length = (l.map (fun x => (g x).length)).sum
  | [] => rfl
  | x :: l => by rw [List.flatMap_cons, List.length_append, flat_len g l, List.map_cons, List.sum_cons]
theorem sum_le {α : Type} {g g' : α → Nat} (h : ∀ x, g x ≤ g' x) : ∀ l : List α, (l.map g).sum ≤ (l.map g').sum
  | [] => Nat.le_refl _
  | x :: l => by
    rw [List.map_cons, List.map_cons, List.sum_cons, List.sum_cons]
    have := sum_le h l
    have := h x
    omega
theorem sum_add {α : Type} (g g' : α → Nat) : ∀ l : List α, (l.map (fun x => g x + g' x)).sum = (l.map g).sum + (l.map g').sum
  | [] => rfl
  | x :: l => by
    rw [List.map_cons, List.map_cons, List.map_cons, List.sum_cons, List.sum_cons, List.sum_cons, sum_add g g' l]
    omega
theorem tlT_le (Q C B : Nat → Int32) : ∀ (f w : Nat), tlT Q C B f w ≤ (tlV Q C B f w).length + ((tlV Q C B f w).flatMap (fun u => chn B 4 (C u).toInt)).length
  | 0, w => Nat.zero_le _
  | f + 1, w => by
    unfold tlT tlV
    split
    · exact Nat.zero_le _
    · rw [tlS_eq, List.flatMap_cons, List.length_append, List.length_cons, List.flatMap_assoc, flat_len, flat_len (fun x => List.flatMap _ (tlV Q C B f x))]
      have h := sum_le (g := tlT Q C B f) (g' := fun x => (tlV Q C B f x).length + ((tlV Q C B f x).flatMap (fun u => chn B 4 (C u).toInt)).length) (tlT_le Q C B f) (chn B 4 (C (Q w).toInt.toNat).toInt)
      rw [sum_add] at h
      omega
/-- the ends that are laid, and the strings between them -/
def tlW (Q P C B : Nat → Int32) (n : Nat) : Prop :=
  (∀ e, e < n → 0 ≤ (Q e).toInt → (Q e).toInt < n) ∧ (∀ e e', e < n → e' < n → 0 ≤ (Q e).toInt → (Q e).toInt = (Q e').toInt → e = e') ∧ sn P C B n
theorem chn_mem {P C B : Nat → Int32} {n : Nat} (hs : sn P C B n) {p : Nat} : ∀ {k : Nat} {h : Int}, (0 ≤ h → h < n ∧ (P h.toNat).toInt = p) → ∀ v, v ∈ chn B k h → v < n ∧ (P v).toInt = p
  | 0, _, _, v, hv => by cases hv
  | k + 1, h, hh, v, hv => by
    unfold chn at hv
    split at hv
    · cases hv
    · rename_i h0
      obtain ⟨h1, h2⟩ := hh (by omega)
      rcases List.mem_cons.mp hv with e | e
      · subst e; exact ⟨by omega, h2⟩
      · refine chn_mem hs (fun q => ?_) v e
        have o := hs.1.1 h.toNat (by omega)
        rw [Nat.zero_add] at o
        obtain ⟨o1, o2, o3, o4, o5⟩ := o
        have q5 := (o5 q).2
        rw [Nat.zero_add] at q5
        exact ⟨o3, by rw [q5]; exact h2⟩
theorem chn_nodup {P C B : Nat → Int32} {n : Nat} (hs : sn P C B n) : ∀ {k : Nat} {h : Int}, h < n → (chn B k h).Nodup := by
  obtain ⟨rk, hr⟩ := hs.1.2
  have lt : ∀ (k : Nat) (h : Int) (m : Nat), h < n → (0 ≤ h → rk h.toNat < m) → ∀ v, v ∈ chn B k h → rk v < m := by
    intro k
    induction k with
    | zero => intro h m _ _ v hv; cases hv
    | succ k ih =>
      intro h m hn hm v hv
      unfold chn at hv
      split at hv
      · cases hv
      · rename_i h0
        have hm := hm (by omega)
        rcases List.mem_cons.mp hv with e | e
        · subst e; exact hm
        · have o := (hs.1.1 h.toNat (by omega)).2.2.1
          rw [Nat.zero_add] at o
          refine ih _ m o (fun q => ?_) v e
          have r := hr h.toNat (by omega) (by rw [Nat.zero_add]; exact q)
          rw [Nat.zero_add] at r
          omega
  intro k
  induction k with
  | zero => intro h _; exact List.nodup_nil
  | succ k ih =>
    intro h hn
    unfold chn
    split
    · exact List.nodup_nil
    · rename_i h0
      have o := (hs.1.1 h.toNat (by omega)).2.2.1
      rw [Nat.zero_add] at o
      refine List.nodup_cons.mpr ⟨fun hm => ?_, ih o⟩
      have := lt k _ (rk h.toNat) o (fun q => by
        have r := hr h.toNat (by omega) (by rw [Nat.zero_add]; exact q)
        rw [Nat.zero_add] at r
        exact r) h.toNat hm
      omega
/-- u stands over v: v hangs on what u is tied to -/
def ovr (Q P : Nat → Int32) (n u v : Nat) : Prop := u < n ∧ 0 ≤ (Q u).toInt ∧ (P v).toInt = (Q u).toInt
def anc (Q P : Nat → Int32) (n : Nat) : Nat → Nat → Nat → Prop
  | 0, v, w => v = w
  | k + 1, v, w => ∃ u, ovr Q P n u v ∧ anc Q P n k u w
theorem anc_fn {Q P C B : Nat → Int32} {n : Nat} (hW : tlW Q P C B n) : ∀ {k v w w' : Nat}, anc Q P n k v w → anc Q P n k v w' → w = w'
  | 0, _, _, _, h, h' => h.symm.trans h'
  | k + 1, v, w, w', ⟨u, h1, h2⟩, ⟨u', h1', h2'⟩ => by
    have e : u = u' := hW.2.1 u u' h1.1 h1'.1 h1.2.1 (by rw [← h1.2.2, h1'.2.2])
    subst e
    exact anc_fn hW h2 h2'
theorem anc_add {Q P : Nat → Int32} {n : Nat} : ∀ {k m v u w : Nat}, anc Q P n k v u → anc Q P n m u w → anc Q P n (m + k) v w
  | 0, m, v, u, w, h, h' => by
    have h : v = u := h
    subst h; exact h'
  | k + 1, m, v, u, w, ⟨x, h1, h2⟩, h' => ⟨x, h1, anc_add h2 h'⟩
theorem anc_root {Q P : Nat → Int32} {n r : Nat} (hr : (P r).toInt = -1) : ∀ {k w : Nat}, anc Q P n k r w → k = 0
  | 0, _, _ => rfl
  | k + 1, w, ⟨u, h1, _⟩ => by
    have := h1.2.1
    have := h1.2.2
    omega
theorem anc_split {Q P : Nat → Int32} {n : Nat} : ∀ {k m v w : Nat}, anc Q P n (m + k) v w → ∃ u, anc Q P n k v u ∧ anc Q P n m u w
  | 0, m, v, w, h => ⟨v, rfl, h⟩
  | k + 1, m, v, w, ⟨x, h1, h2⟩ => by
    obtain ⟨u, h3, h4⟩ := anc_split h2
    exact ⟨u, ⟨x, h1, h3⟩, h4⟩
theorem anc_lev {Q P C B : Nat → Int32} {n r : Nat} (hW : tlW Q P C B n) (hr : (P r).toInt = -1) {k m v : Nat} (h : anc Q P n k v r) (h' : anc Q P n m v r) : k = m := by
  have q : ∀ {k m : Nat}, anc Q P n k v r → anc Q P n m v r → k ≤ m → k = m := by
    intro k m h h' hk
    obtain ⟨u, h1, h2⟩ := anc_split (m := m - k) (k := k) (by rw [Nat.sub_add_cancel hk]; exact h')
    have e := anc_fn hW h1 h
    subst e
    have := anc_root hr h2
    omega
  rcases Nat.le_total k m with a | a
  · exact q h h' a
  · exact (q h' h a).symm
theorem tlV_kid {Q P C B : Nat → Int32} {n : Nat} (hW : tlW Q P C B n) {w v : Nat} (hw : w < n) (h0 : ¬ (Q w).toInt < 0) (hv : v ∈ chn B 4 (C (Q w).toInt.toNat).toInt) : v < n ∧ ovr Q P n w v := by
  have hq := hW.1 w hw (by omega)
  have o := hW.2.2.1.1 (Q w).toInt.toNat (by omega)
  rw [Nat.zero_add] at o
  obtain ⟨o1, o2, o3, o4, o5⟩ := o
  have q := chn_mem hW.2.2 (p := (Q w).toInt.toNat) (fun q => ⟨o2, by have := o4 q; rw [Nat.zero_add] at this; exact this⟩) v hv
  exact ⟨q.1, hw, by omega, by omega⟩
theorem tlV_mem {Q P C B : Nat → Int32} {n : Nat} (hW : tlW Q P C B n) : ∀ {f w : Nat}, w < n → ∀ v, v ∈ tlV Q C B f w → v < n ∧ ∃ k, anc Q P n k v w
  | 0, _, _, v, hv => by cases hv
  | f + 1, w, hw, v, hv => by
    unfold tlV at hv
    split at hv
    · cases hv
    · rename_i h0
      rcases List.mem_cons.mp hv with e | e
      · subst e; exact ⟨hw, 0, rfl⟩
      · obtain ⟨x, hx, hvx⟩ := List.mem_flatMap.mp e
        obtain ⟨hxn, hox⟩ := tlV_kid hW hw h0 hx
        obtain ⟨hvn, k, hk⟩ := tlV_mem hW hxn v hvx
        exact ⟨hvn, 1 + k, anc_add hk ⟨w, hox, rfl⟩⟩
theorem flat_nodup {g : Nat → List Nat} : ∀ {l : List Nat}, l.Nodup → (∀ x ∈ l, (g x).Nodup) → (∀ x ∈ l, ∀ y ∈ l, x ≠ y → ∀ v, v ∈ g x → ¬ v ∈ g y) → (l.flatMap g).Nodup
  | [], _, _, _ => List.nodup_nil
  | x :: l, h, h1, h2 => by
    rw [List.flatMap_cons]
    obtain ⟨ha, hb⟩ := List.nodup_cons.mp h
    refine List.nodup_append.mpr ⟨h1 x List.mem_cons_self, flat_nodup hb (fun y hy => h1 y (List.mem_cons_of_mem _ hy)) (fun y hy z hz => h2 y (List.mem_cons_of_mem _ hy) z (List.mem_cons_of_mem _ hz)), ?_⟩
    intro v hv u hu e
    subst e
    obtain ⟨y, hy, hvy⟩ := List.mem_flatMap.mp hu
    exact h2 x List.mem_cons_self y (List.mem_cons_of_mem _ hy) (fun e => ha (by rw [e]; exact hy)) v hv hvy
theorem tlV_nodup {Q P C B : Nat → Int32} {n r : Nat} (hW : tlW Q P C B n) (hr : (P r).toInt = -1) : ∀ {f w m : Nat}, w < n → anc Q P n m w r → (tlV Q C B f w).Nodup
  | 0, _, _, _, _ => List.nodup_nil
  | f + 1, w, m, hw, hm => by
    unfold tlV
    split
    · exact List.nodup_nil
    · rename_i h0
      have hC : (C (Q w).toInt.toNat).toInt < n := by
        have hq := hW.1 w hw (by omega)
        have o := (hW.2.2.1.1 (Q w).toInt.toNat (by omega)).2.1
        rw [Nat.zero_add] at o
        exact o
      have kid : ∀ x, x ∈ chn B 4 (C (Q w).toInt.toNat).toInt → x < n ∧ anc Q P n (m + 1) x r := fun x hx => by
        obtain ⟨a1, a2⟩ := tlV_kid hW hw h0 hx
        exact ⟨a1, w, a2, hm⟩
      refine List.nodup_cons.mpr ⟨fun hv => ?_, flat_nodup (chn_nodup hW.2.2 hC) (fun x hx => tlV_nodup hW hr (kid x hx).1 (kid x hx).2) (fun x hx y hy hxy v hv hv' => ?_)⟩
      · obtain ⟨x, hx, hvx⟩ := List.mem_flatMap.mp hv
        obtain ⟨-, k, hk⟩ := tlV_mem hW (kid x hx).1 w hvx
        have := anc_lev hW hr (anc_add hk (kid x hx).2) hm
        omega
      · obtain ⟨-, k, hk⟩ := tlV_mem hW (kid x hx).1 v hv
        obtain ⟨-, k', hk'⟩ := tlV_mem hW (kid y hy).1 v hv'
        have e := anc_lev hW hr (anc_add hk (kid x hx).2) (anc_add hk' (kid y hy).2)
        have e : k = k' := by omega
        subst e
        exact hxy (anc_fn hW hk hk')
theorem nodup_len : ∀ {n : Nat} {l : List Nat}, l.Nodup → (∀ v ∈ l, v < n) → l.length ≤ n
  | 0, l, _, h => by
    cases l with
    | nil => exact Nat.le_refl _
    | cons x l => exact absurd (h x List.mem_cons_self) (by omega)
  | n + 1, l, hn, h => by
    by_cases e : n ∈ l
    · have h1 := List.length_erase_of_mem e
      have h2 := nodup_len (n := n) (hn.erase n) (fun v hv => by
        have hv2 := h v (List.mem_of_mem_erase hv)
        have : v ≠ n := fun q => by
          subst q
          exact (hn.mem_erase_iff.mp hv).1 rfl
        omega)
      omega
    · have := nodup_len (n := n) hn (fun v hv => by
        have := h v hv
        have : v ≠ n := fun q => e (q ▸ hv)
        omega)
      omega
theorem tlT_40 {Q P C B : Nat → Int32} {n r : Nat} (hW : tlW Q P C B n) (hn : n ≤ 20) (hr : (P r).toInt = -1) (hrn : r < n) (f : Nat) : tlT Q C B f r ≤ 40 := by
  have h1 := tlT_le Q C B f r
  have nd := tlV_nodup hW hr (f := f) hrn (m := 0) rfl
  have hm := fun v hv => (tlV_mem hW (f := f) hrn v hv).1
  have h2 := nodup_len nd hm
  have hC : ∀ u, u < n → (C u).toInt < n ∧ (0 ≤ (C u).toInt → (P (C u).toInt.toNat).toInt = u) := fun u hu => by
    have o := hW.2.2.1.1 u (by omega)
    rw [Nat.zero_add] at o
    refine ⟨o.2.1, fun q => ?_⟩
    have := o.2.2.2.1 q
    rw [Nat.zero_add] at this
    exact this
  have mem : ∀ u, u < n → ∀ v, v ∈ chn B 4 (C u).toInt → v < n ∧ (P v).toInt = u := fun u hu v hv => chn_mem hW.2.2 (fun q => ⟨(hC u hu).1, (hC u hu).2 q⟩) v hv
  have h3 : ((tlV Q C B f r).flatMap (fun u => chn B 4 (C u).toInt)).length ≤ n := by
    refine nodup_len (flat_nodup nd (fun x hx => chn_nodup hW.2.2 (hC x (hm x hx)).1) (fun x hx y hy hxy v hv hv' => ?_)) (fun v hv => ?_)
    · have := (mem x (hm x hx) v hv).2
      have := (mem y (hm y hy) v hv').2
      omega
    · obtain ⟨u, hu, hv⟩ := List.mem_flatMap.mp hv
      exact (mem u (hm u hu) v hv).1
  omega
