/-! LeastKnown$Reader.isWord -/
theorem isWd_of {tx : Nat → Nat} {sz k w : Nat} (hw : w < 10) (hp : ∀ j, j < wln w → tby tx sz (k + j) = W8 (8 * w + j)) : isWd tx sz k w = !(tlt tx sz (k + wln w)) := by
  have hl : ∀ j, j < wln w → tlt tx sz (k + j) = true ∧ tx (k + j) = W8 (8 * w + j) := by
    intro j hj
    have h1 := W8_lt w hw j hj
    have h2 := hp j hj
    have h3 : k + j < sz := by
      rcases Nat.lt_or_ge (k + j) sz with q | q
      · exact q
      · rw [tby, if_neg (by omega)] at h2
        omega
    rw [tby, if_pos h3] at h2
    refine ⟨?_, h2⟩
    rw [tlt, h2]
    simp [h3, h1.1, h1.2]
  unfold isWd
  cases e : tlt tx sz (k + wln w) with
  | false =>
    have ht : trn tx sz k = wln w := trn_is (fun j hj => (hl j hj).1) e
    rw [ht]
    exact decide_eq_true (rvF_eq.mpr ⟨rfl, fun j hj => (hl j hj).2⟩)
  | true =>
    refine decide_eq_false (fun q => ?_)
    have ht := (rvF_eq.mp q).1
    have h2 := (trn_spec (tx := tx) (sz := sz) k).2
    rw [ht, e] at h2
    cases h2
theorem isWd_no {tx : Nat → Nat} {sz k w i : Nat} (hi : i < wln w) (h : ¬ tby tx sz (k + i) = W8 (8 * w + i)) : isWd tx sz k w = false := by
  unfold isWd
  refine decide_eq_false (fun q => ?_)
  obtain ⟨ht, he⟩ := rvF_eq.mp q
  have h2 := (trn_spec (tx := tx) (sz := sz) k).1 i (by omega)
  simp only [tlt, Bool.and_eq_true, decide_eq_true_eq] at h2
  exact h (by rw [tby, if_pos h2.1.1]; exact he i (by omega))
theorem W8_b : ∀ j, j < 80 → W8 j < 256 := by decide +kernel
theorem l_isWord {G : kG} {n sz : Nat} {h : kH} {tx : Nat → Nat} {k w aK aV : Nat} (hZ : kSt G aK aV) (hn : 37 ≤ n) (HT : oText G tx sz h) (h256 : ∀ j, tx j < 256) (hk : k < sz) (hw : w < 10) : ∀ (d i : Nat), 8 - i < d → i ≤ wln w → (∀ j, j < i → tby tx sz (k + j) = W8 (8 * w + j)) → Go G mX3_isWord (5, 0, 0) 8 [(4, .int (nI i)), (3, .int (nI (8 * w))), (0, .ref (kb G + 1)), (1, .int (nI k)), (2, .int (nI w))] [] (n, 0, 0) h (kQi mX3_isWord n (fun v h' => v = bI (isWd tx sz k w) ∧ h' = h)) := by
  intro d
  obtain ⟨htc, hsz, ba, hby, hba⟩ := id HT
  have hwl := wln_le w hw
  induction d with
  | zero => intro i hd hi; omega
  | succ d ih =>
    intro i hd hi hp
    have hb8 := W8_b (8 * w + i) (by omega)
    have hbt := tby_lt (sz := sz) (k := k + i) h256
    refine go_iload 0 (nx := 10) dX3_isWord_8 rfl rfl ?_
    refine go_bipush (v := nI 8) (nx := 12) dX3_isWord_10 (by decide) rfl ?_
    refine go_icmp_ge 84 (nx := 15) dX3_isWord_12 rfl rfl (fun c12 => False.elim (absurd (kle c12) (by omega))) (fun c12 => ?_)
    refine go_iload_n 1 (nx := 16) dX3_isWord_15 rfl rfl rfl ?_
    refine go_iload 0 (nx := 18) dX3_isWord_16 rfl rfl ?_
    refine go_iadd (nx := 19) dX3_isWord_18 rfl ?_
    refine go_ldcS (nx := 21) hZ rfl dX3_isWord_19 rfl ?_
    refine go_VSi (nx := 24) [] kc_X3_88 hZ.2.1 (st_length hZ) dX3_isWord_21 rfl rfl (Nat.le_of_ble_eq_true rfl) (Nat.le_of_ble_eq_true rfl) ⟨Nat.le_refl _, Nat.le_refl _⟩ rfl (fun rh1 h1 hqh1 => ?_)
    obtain ⟨rfl, rfl⟩ := hqh1
    rw [nI_add]
    refine go_icmp_ge 84 (nx := 27) dX3_isWord_24 rfl rfl (fun c24 => False.elim (absurd (kle c24) (by omega))) (fun c24 => ?_)
    refine go_ldcS (nx := 29) hZ rfl dX3_isWord_27 rfl ?_
    refine go_iload_n 1 (nx := 30) dX3_isWord_29 rfl rfl rfl ?_
    refine go_iload 0 (nx := 32) dX3_isWord_30 rfl rfl ?_
    refine go_iadd (nx := 33) dX3_isWord_32 rfl ?_
    rw [nI_add]
    refine go_VSi (nx := 36) [_] kc_X3_94 hZ.2.1 (st_charAt hZ (by omega)) dX3_isWord_33 rfl rfl (Nat.le_of_ble_eq_true rfl) (Nat.le_of_ble_eq_true rfl) ⟨Nat.le_refl _, Nat.le_refl _⟩ rfl (fun rh2 h2 hqh2 => ?_)
    obtain ⟨rfl, rfl⟩ := hqh2
    refine go_istore (lv' := [_, _, _, _, _, _]) (nx := 38) dX3_isWord_36 (by decide) rfl rfl ?_
    refine go_aload_n 3 (nx := 39) dX3_isWord_38 rfl rfl rfl ?_
    refine go_iload_n 4 (nx := 40) dX3_isWord_39 rfl rfl rfl ?_
    refine go_iload 1 (nx := 42) dX3_isWord_40 rfl rfl ?_
    refine go_iadd (nx := 43) dX3_isWord_42 rfl ?_
    rw [nI_add]
    refine go_Vi (nx := 46) [_] kc_X3_66 ⟨_, _, rfl⟩ (by omega) htc (s_byteAt hn HT h256 rfl (by omega)) dX3_isWord_43 rfl rfl (Nat.le_of_ble_eq_true rfl) (Nat.le_of_ble_eq_true rfl) ⟨Nat.le_refl _, Nat.le_refl _⟩ rfl (fun rh3 h3 hqh3 => ?_)
    obtain ⟨rfl, rfl⟩ := hqh3
    refine go_istore (lv' := [_, _, _, _, _, _, _]) (nx := 48) dX3_isWord_46 (by decide) rfl rfl ?_
    refine go_iload 1 (nx := 50) dX3_isWord_48 rfl rfl ?_
    refine go_bipush (v := nI 32) (nx := 52) dX3_isWord_50 (by decide) rfl ?_
    refine go_icmp_ne 69 (nx := 55) dX3_isWord_52 rfl rfl (fun c52 => ?_) (fun c52 => ?_)
    · skip
      refine go_iload 0 (nx := 71) dX3_isWord_69 rfl rfl ?_
      refine go_iload 1 (nx := 73) dX3_isWord_71 rfl rfl ?_
      refine go_icmp_eq 78 (nx := 76) dX3_isWord_73 rfl rfl (fun c73 => ?_) (fun c73 => ?_)
      · skip
        refine go_iinc 2 (v := nI (i + 1)) (lv' := [_, _, _, _, _, _, _]) (nx := 81) dX3_isWord_78 rfl (nI_inc i) (by decide) rfl rfl ?_
        refine go_goto 8 dX3_isWord_81 rfl ?_
        have hi2 : i < wln w := by
          rcases Nat.lt_or_ge i (wln w) with q | q
          · exact q
          · exact absurd (by rw [show i = wln w by omega, W8_sp w hw]) c52
        have e73 := keq c73 (by omega) (by omega)
        refine Go.sub [0, 3, 4, 5, 6] rfl ?_
        exact ih (i + 1) (by omega) (by omega) (fun j hj => by
          rcases Nat.lt_or_ge j i with q | q
          · exact hp j q
          · rw [show j = i by omega]; exact e73)
      · skip
        refine go_iconst (v := nI 0) (nx := 77) dX3_isWord_76 (by decide) rfl ?_
        refine go_reti dX3_isWord_77 ⟨_, rfl, rfl⟩ ?_
        have hi2 : i < wln w := by
          rcases Nat.lt_or_ge i (wln w) with q | q
          · exact q
          · exact absurd (by rw [show i = wln w by omega, W8_sp w hw]) c52
        rw [isWd_no hi2 (fun q => c73 (by rw [q]))]
        exact ⟨rfl, rfl⟩
    · skip
      refine go_iload 0 (nx := 57) dX3_isWord_55 rfl rfl ?_
      refine go_Si (nx := 60) [_] kc_X3_70 (s_isLetter rfl hbt) dX3_isWord_57 rfl rfl (Nat.le_of_ble_eq_true rfl) (Nat.le_of_ble_eq_true rfl) ⟨Nat.le_refl _, Nat.le_refl _⟩ rfl (fun rh4 h4 hqh4 => ?_)
      obtain ⟨rfl, rfl⟩ := hqh4
      refine go_if_ne 67 (nx := 63) dX3_isWord_60 rfl rfl (fun c60 => ?_) (fun c60 => ?_)
      · skip
        refine go_iconst (v := nI 0) (nx := 68) dX3_isWord_67 (by decide) rfl ?_
        refine go_reti dX3_isWord_68 ⟨_, rfl, rfl⟩ ?_
        have hi2 : i = wln w := by
          rcases Nat.lt_or_ge i (wln w) with q | q
          · have := (W8_lt w hw i q).1
            have := keq c52 (by omega) (by decide)
            omega
          · omega
        subst hi2
        rw [isWd_of hw hp, ← isL_by]
        rw [tbn0 c60]
        exact ⟨rfl, rfl⟩
      · skip
        refine go_iconst (v := nI 1) (nx := 64) dX3_isWord_63 (by decide) rfl ?_
        refine go_goto 68 dX3_isWord_64 rfl ?_
        refine go_reti dX3_isWord_68 ⟨_, rfl, rfl⟩ ?_
        have hi2 : i = wln w := by
          rcases Nat.lt_or_ge i (wln w) with q | q
          · have := (W8_lt w hw i q).1
            have := keq c52 (by omega) (by decide)
            omega
          · omega
        subst hi2
        rw [isWd_of hw hp, ← isL_by]
        rw [tb0 c60]
        exact ⟨rfl, rfl⟩
theorem WD_ok {G : kG} : WDok G := by
  intro n sz h tx x y k w hn HT h256 hx hk hy hw
  subst hx hy
  refine Spi.of (by decide) (Nat.le_of_ble_eq_true rfl) ?_
  refine Go.ok fun hG => ?_
  obtain ⟨aK, aV, hZ⟩ := kSt_ok hG
  refine go_iload_n 2 (nx := 1) dX3_isWord_0 rfl rfl rfl ?_
  refine go_bipush (v := nI 8) (nx := 3) dX3_isWord_1 (by decide) rfl ?_
  refine go_imul (nx := 4) dX3_isWord_3 rfl ?_
  rw [pk_mul, Nat.mul_comm]
  refine go_istore_n (lv' := [_, _, _, _]) (nx := 5) dX3_isWord_4 rfl (by decide) rfl rfl ?_
  refine go_iconst (v := nI 0) (nx := 6) dX3_isWord_5 (by decide) rfl ?_
  refine go_istore (lv' := [_, _, _, _, _]) (nx := 8) dX3_isWord_6 (by decide) rfl rfl ?_
  refine Go.sub [0, 1, 2, 3, 4] rfl ?_
  exact l_isWord hZ hn HT h256 hk hw 9 0 (by omega) (by omega) (fun j hj => absurd hj (Nat.not_lt_zero j))
