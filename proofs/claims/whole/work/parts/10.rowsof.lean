theorem nI_inc (a : Nat) : nI a + Int32.ofInt 1 = nI (a + 1) := nI_1 a
theorem kle {a b : Nat} (h : nI a ≤ nI b) (ha : a < 2 ^ 31 := by omega) (hb : b < 2 ^ 31 := by omega) : a ≤ b := (nI_leI ha hb).mp h
theorem knle {a b : Nat} (h : ¬ nI a ≤ nI b) (ha : a < 2 ^ 31 := by omega) (hb : b < 2 ^ 31 := by omega) : b < a := Nat.not_le.mp fun q => h ((nI_leI ha hb).mpr q)
theorem klt {a b : Nat} (h : nI a < nI b) (ha : a < 2 ^ 31 := by omega) (hb : b < 2 ^ 31 := by omega) : a < b := (nI_ltI ha hb).mp h
theorem knlt {a b : Nat} (h : ¬ nI a < nI b) (ha : a < 2 ^ 31 := by omega) (hb : b < 2 ^ 31 := by omega) : b ≤ a := Nat.not_lt.mp fun q => h ((nI_ltI ha hb).mpr q)
theorem keq {a b : Nat} (h : nI a = nI b) (ha : a < 2 ^ 31 := by omega) (hb : b < 2 ^ 31 := by omega) : a = b := (nI_eq ha hb).mp h
theorem kne {a b : Nat} (h : ¬ nI a = nI b) (ha : a < 2 ^ 31 := by omega) (hb : b < 2 ^ 31 := by omega) : a ≠ b := fun q => h (by rw [q])
theorem atF_neg {f : Nat → Int32} {len : Nat} {x : Int32} (h : x < 0) : atF f len x = 0 := atF_out fun q => by
  have h1 := (Int32.lt_iff_toInt_lt.mp h)
  have h2 := (Int32.le_iff_toInt_le.mp q.1)
  omega
theorem atF_big {f : Nat → Int32} {len : Nat} {x : Int32} (h : nI len ≤ x) : atF f len x = 0 := atF_out fun q => by
  have h1 := (Int32.le_iff_toInt_le.mp h)
  have h2 := (Int32.lt_iff_toInt_lt.mp q.2)
  omega
theorem s_at {G : kG} {n i len : Nat} {h : kH} {f : Nat → Int32} {x : Int32} (hi : i < n) (hr : h i = .inl (G.2.1, len, .inl f)) (hl : len < 2 ^ 31) : Spi G mX6_at 0 [.ref (kb G + i), .int x] n h (fun v h' => v = atF f len x ∧ h' = h) := by
  refine Spi.of (by decide) (Nat.le_of_ble_eq_true rfl) ?_
  refine go_iload_n 1 (nx := 1) dX6_at_0 rfl rfl rfl ?_
  refine go_if_lt 16 (nx := 4) dX6_at_1 rfl rfl (fun c1 => ?_) (fun c1 => ?_)
  · skip
    refine go_iconst (v := nI 0) (nx := 17) dX6_at_16 (by decide) rfl ?_
    refine go_reti dX6_at_17 ⟨_, rfl, rfl⟩ ?_
    exact ⟨(atF_neg c1).symm, rfl⟩
  · skip
    refine go_iload_n 1 (nx := 5) dX6_at_4 rfl rfl rfl ?_
    refine go_aload_n 0 (nx := 6) dX6_at_5 rfl rfl rfl ?_
    refine go_aln (nx := 7) dX6_at_6 (by omega) hr rfl ?_
    refine go_icmp_ge 16 (nx := 10) dX6_at_7 rfl rfl (fun c7 => ?_) (fun c7 => ?_)
    · skip
      refine go_iconst (v := nI 0) (nx := 17) dX6_at_16 (by decide) rfl ?_
      refine go_reti dX6_at_17 ⟨_, rfl, rfl⟩ ?_
      exact ⟨(atF_big c7).symm, rfl⟩
    · skip
      obtain ⟨j, hj, rfl⟩ := ix_of hl c1 c7
      refine go_aload_n 0 (nx := 11) dX6_at_10 rfl rfl rfl ?_
      refine go_iload_n 1 (nx := 12) dX6_at_11 rfl rfl rfl ?_
      refine go_ial (j) (nx := 13) dX6_at_12 (by omega) hr rfl hj (by omega) rfl ?_
      refine go_goto 17 dX6_at_13 rfl ?_
      refine go_reti dX6_at_17 ⟨_, rfl, rfl⟩ ?_
      exact ⟨(atF_in hj hl).symm, rfl⟩
theorem s_at_in {G : kG} {n i len j : Nat} {h : kH} {f : Nat → Int32} {x : Int32} (hi : i < n) (hr : h i = .inl (G.2.1, len, .inl f)) (hl : len < 2 ^ 31) (hx : x = nI j) (hj : j < len) : Spi G mX6_at 0 [.ref (kb G + i), .int x] n h (fun v h' => v = f j ∧ h' = h) :=
  (s_at hi hr hl).mono fun v h' q => ⟨by rw [q.1, hx, atF_in hj hl], q.2⟩
theorem s_put {G : kG} {n i len j : Nat} {h : kH} {f : Nat → Int32} {x v : Int32} (hi : i < n) (hr : h i = .inl (G.2.1, len, .inl f)) (hl : len < 2 ^ 31) (hx : x = nI j) (hj : j < len) : Spv G mX6_put 0 [.ref (kb G + i), .int x, .int v] n h (fun h' => h' i = .inl (G.2.1, len, .inl (upd f j v)) ∧ ∀ q, q ≠ i → h' q = h q) := by
  subst hx
  refine Spv.of (by decide) (Nat.le_of_ble_eq_true rfl) ?_
  refine go_iload_n 1 (nx := 1) dX6_put_0 rfl rfl rfl ?_
  refine go_if_lt 14 (nx := 4) dX6_put_1 rfl rfl (fun c1 => False.elim (absurd c1 (nI_pos (by omega)))) (fun c1 => ?_)
  refine go_iload_n 1 (nx := 5) dX6_put_4 rfl rfl rfl ?_
  refine go_aload_n 0 (nx := 6) dX6_put_5 rfl rfl rfl ?_
  refine go_aln (nx := 7) dX6_put_6 (by omega) hr rfl ?_
  refine go_icmp_ge 14 (nx := 10) dX6_put_7 rfl rfl (fun c7 => False.elim (absurd (kle c7) (by omega))) (fun c7 => ?_)
  refine go_aload_n 0 (nx := 11) dX6_put_10 rfl rfl rfl ?_
  refine go_iload_n 1 (nx := 12) dX6_put_11 rfl rfl rfl ?_
  refine go_iload_n 2 (nx := 13) dX6_put_12 rfl rfl rfl ?_
  refine go_ias (j) (nx := 14) dX6_put_13 (by omega) hr rfl hj (by omega) rfl (fun h1 eh1 fh1 => ?_)
  have hr := eh1
  refine go_retv dX6_put_14 rfl ?_
  exact ⟨hr, fh1⟩
theorem l_fill {G : kG} {n i len : Nat} {h0 : kH} {v : Int32} (hi : i < n) (hl : len < 2 ^ 31) : ∀ (d p : Nat) (h : kH) (g : Nat → Int32), len - p < d → p ≤ len → h i = .inl (G.2.1, len, .inl g) → (∀ j, j < p → g j = v) → (∀ q, q ≠ i → h q = h0 q) → Go G mX6_fill (0, 0, 0) 2 [(2, .int (nI p)), (0, .ref (kb G + i)), (1, .int v)] [] (n, 0, 0) h (kQv mX6_fill n (fun h' => (∃ g, (∀ j, j < len → g j = v) ∧ h' i = .inl (G.2.1, len, .inl g)) ∧ ∀ q, q ≠ i → h' q = h0 q)) := by
  intro d
  induction d with
  | zero => intro p h g hd; omega
  | succ d ih =>
    intro p h g hd hp hr hg hf
    refine go_iload_n 0 (nx := 3) dX6_fill_2 rfl rfl rfl ?_
    refine go_aload_n 1 (nx := 4) dX6_fill_3 rfl rfl rfl ?_
    refine go_aln (nx := 5) dX6_fill_4 (by omega) hr rfl ?_
    refine go_icmp_ge 18 (nx := 8) dX6_fill_5 rfl rfl (fun c5 => ?_) (fun c5 => ?_)
    · skip
      refine go_retv dX6_fill_18 rfl ?_
      exact ⟨⟨g, fun j hj => hg j (Nat.lt_of_lt_of_le hj (kle c5)), hr⟩, hf⟩
    · skip
      refine go_aload_n 1 (nx := 9) dX6_fill_8 rfl rfl rfl ?_
      refine go_iload_n 0 (nx := 10) dX6_fill_9 rfl rfl rfl ?_
      refine go_iload_n 2 (nx := 11) dX6_fill_10 rfl rfl rfl ?_
      refine go_ias (p) (nx := 12) dX6_fill_11 (by omega) hr rfl (knle c5) (by omega) rfl (fun h1 eh1 fh1 => ?_)
      have hr := eh1
      refine go_iinc 0 (v := nI (p + 1)) (lv' := [_, _, _]) (nx := 15) dX6_fill_12 rfl (nI_inc p) (by decide) rfl rfl ?_
      refine go_goto 2 dX6_fill_15 rfl ?_
      refine ih (p + 1) h1 _ (by have := knle c5; omega) (knle c5) hr (fun j hj => ?_) (fun q hq => (fh1 q hq).trans (hf q hq))
      by_cases e : j = p
      · subst e; exact pk_us
      · rw [pk_un e]; exact hg j (by omega)
theorem s_fill {G : kG} {n i len : Nat} {h : kH} {f : Nat → Int32} {v : Int32} (hi : i < n) (hr : h i = .inl (G.2.1, len, .inl f)) (hl : len < 2 ^ 31) : Spv G mX6_fill 0 [.ref (kb G + i), .int v] n h (fun h' => (∃ g, (∀ j, j < len → g j = v) ∧ h' i = .inl (G.2.1, len, .inl g)) ∧ ∀ q, q ≠ i → h' q = h q) := by
  refine Spv.of (by decide) (Nat.le_of_ble_eq_true rfl) ?_
  refine go_iconst (v := nI 0) (nx := 1) dX6_fill_0 (by decide) rfl ?_
  refine go_istore_n (lv' := [_, _, _]) (nx := 2) dX6_fill_1 rfl (by decide) rfl rfl ?_
  exact l_fill hi hl (len + 1) 0 h f (by omega) (Nat.zero_le _) hr (fun j hj => absurd hj (Nat.not_lt_zero j)) (fun _ _ => rfl)
theorem l_copy {G : kG} {n i1 i2 len : Nat} {h0 : kH} {f : Nat → Int32} (hi1 : i1 < n) (hi2 : i2 < n) (hne : i1 ≠ i2) (hl : len < 2 ^ 31) : ∀ (d p : Nat) (h : kH) (g : Nat → Int32), len - p < d → p ≤ len → h i1 = .inl (G.2.1, len, .inl f) → h i2 = .inl (G.2.1, len, .inl g) → (∀ j, j < p → g j = f j) → (∀ q, q ≠ i2 → h q = h0 q) → Go G mX6_copy (0, 0, 0) 2 [(2, .int (nI p)), (0, .ref (kb G + i1)), (1, .ref (kb G + i2))] [] (n, 0, 0) h (kQv mX6_copy n (fun h' => (∃ g, (∀ j, j < len → g j = f j) ∧ h' i2 = .inl (G.2.1, len, .inl g)) ∧ ∀ q, q ≠ i2 → h' q = h0 q)) := by
  intro d
  induction d with
  | zero => intro p h g hd; omega
  | succ d ih =>
    intro p h g hd hp hr1 hr2 hg hf
    refine go_iload_n 0 (nx := 3) dX6_copy_2 rfl rfl rfl ?_
    refine go_aload_n 1 (nx := 4) dX6_copy_3 rfl rfl rfl ?_
    refine go_aln (nx := 5) dX6_copy_4 (by omega) hr1 rfl ?_
    refine go_icmp_ge 26 (nx := 8) dX6_copy_5 rfl rfl (fun c5 => ?_) (fun c5 => ?_)
    · skip
      refine go_retv dX6_copy_26 rfl ?_
      exact ⟨⟨g, fun j hj => hg j (Nat.lt_of_lt_of_le hj (kle c5)), hr2⟩, hf⟩
    · skip
      refine go_iload_n 0 (nx := 9) dX6_copy_8 rfl rfl rfl ?_
      refine go_aload_n 2 (nx := 10) dX6_copy_9 rfl rfl rfl ?_
      refine go_aln (nx := 11) dX6_copy_10 (by omega) hr2 rfl ?_
      refine go_icmp_ge 26 (nx := 14) dX6_copy_11 rfl rfl (fun c11 => False.elim (c5 c11)) (fun c11 => ?_)
      refine go_aload_n 2 (nx := 15) dX6_copy_14 rfl rfl rfl ?_
      refine go_iload_n 0 (nx := 16) dX6_copy_15 rfl rfl rfl ?_
      refine go_aload_n 1 (nx := 17) dX6_copy_16 rfl rfl rfl ?_
      refine go_iload_n 0 (nx := 18) dX6_copy_17 rfl rfl rfl ?_
      refine go_ial (p) (nx := 19) dX6_copy_18 (by omega) hr1 rfl (knle c5) (by omega) rfl ?_
      refine go_ias (p) (nx := 20) dX6_copy_19 (by omega) hr2 rfl (knle c5) (by omega) rfl (fun h1 eh1 fh1 => ?_)
      have hr1 := (fh1 (i1) (by omega)).trans hr1
      have hr2 := eh1
      refine go_iinc 0 (v := nI (p + 1)) (lv' := [_, _, _]) (nx := 23) dX6_copy_20 rfl (nI_inc p) (by decide) rfl rfl ?_
      refine go_goto 2 dX6_copy_23 rfl ?_
      refine ih (p + 1) h1 _ (by have := knle c5; omega) (knle c5) hr1 hr2 (fun j hj => ?_) (fun q hq => (fh1 q hq).trans (hf q hq))
      by_cases e : j = p
      · subst e; exact pk_us
      · rw [pk_un e]; exact hg j (by omega)
theorem s_copy {G : kG} {n i1 i2 len : Nat} {h : kH} {f g : Nat → Int32} (hi1 : i1 < n) (hi2 : i2 < n) (hne : i1 ≠ i2) (hr1 : h i1 = .inl (G.2.1, len, .inl f)) (hr2 : h i2 = .inl (G.2.1, len, .inl g)) (hl : len < 2 ^ 31) : Spv G mX6_copy 0 [.ref (kb G + i1), .ref (kb G + i2)] n h (fun h' => (∃ g, (∀ j, j < len → g j = f j) ∧ h' i2 = .inl (G.2.1, len, .inl g)) ∧ ∀ q, q ≠ i2 → h' q = h q) := by
  refine Spv.of (by decide) (Nat.le_of_ble_eq_true rfl) ?_
  refine go_iconst (v := nI 0) (nx := 1) dX6_copy_0 (by decide) rfl ?_
  refine go_istore_n (lv' := [_, _, _]) (nx := 2) dX6_copy_1 rfl (by decide) rfl rfl ?_
  exact l_copy hi1 hi2 hne hl (len + 1) 0 h g (by omega) (Nat.zero_le _) hr1 hr2 (fun j hj => absurd hj (Nat.not_lt_zero j)) (fun _ _ => rfl)
