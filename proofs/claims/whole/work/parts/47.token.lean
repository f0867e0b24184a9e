/-! LeastKnown$Reader: one token. WDok is what isWord answers: part of its own -/
def WDok (G : kG) : Prop := ∀ (n sz : Nat) (h : kH) (tx : Nat → Nat) (x y : Int32) (k w : Nat), 37 ≤ n → oText G tx sz h → (∀ j, tx j < 256) → x = nI k → k < sz → y = nI w → w < 10 → Spi G mX3_isWord 5 [.ref (kb G + 1), .int x, .int y] n h (fun v h' => v = bI (isWd tx sz k w) ∧ h' = h)
theorem l_wordAt {G : kG} {n sz : Nat} {h : kH} {tx : Nat → Nat} {k : Nat} (hWD : WDok G) (hn : 37 ≤ n) (HT : oText G tx sz h) (h256 : ∀ j, tx j < 256) (hk : k < sz) : ∀ (d w : Nat), 10 - w < d → w ≤ 10 → ff (isWd tx sz k) w = none → Go G mX3_wordAt (6, 0, 0) 2 [(2, .int (nI w)), (0, .ref (kb G + 1)), (1, .int (nI k))] [] (n, 0, 0) h (kQi mX3_wordAt n (fun v h' => v = nI (twd tx sz k) ∧ h' = h)) := by
  intro d
  obtain ⟨htc, hsz, ba, hby, hba⟩ := id HT
  induction d with
  | zero => intro w hd; omega
  | succ d ih =>
    intro w hd hw hq
    refine go_iload_n 0 (nx := 3) dX3_wordAt_2 rfl rfl rfl ?_
    refine go_bipush (v := nI 10) (nx := 5) dX3_wordAt_3 (by decide) rfl ?_
    refine go_icmp_ge 25 (nx := 8) dX3_wordAt_5 rfl rfl (fun c5 => ?_) (fun c5 => ?_)
    · skip
      refine go_bipush (v := nI 11) (nx := 27) dX3_wordAt_25 (by decide) rfl ?_
      refine go_reti dX3_wordAt_27 ⟨_, rfl, rfl⟩ ?_
      have e8 : w = 10 := by have := kle c5; omega
      subst e8
      exact ⟨by rw [twd, hq]; rfl, rfl⟩
    · skip
      have z := knle c5
      refine go_aload_n 1 (nx := 9) dX3_wordAt_8 rfl rfl rfl ?_
      refine go_iload_n 2 (nx := 10) dX3_wordAt_9 rfl rfl rfl ?_
      refine go_iload_n 0 (nx := 11) dX3_wordAt_10 rfl rfl rfl ?_
      refine go_Si (nx := 14) [_, _, _] kc_X3_82 (hWD _ _ _ _ _ _ k w hn HT h256 rfl hk rfl z) dX3_wordAt_11 rfl rfl (Nat.le_of_ble_eq_true rfl) (Nat.le_of_ble_eq_true rfl) ⟨Nat.le_refl _, Nat.le_refl _⟩ rfl (fun rh1 h1 hqh1 => ?_)
      obtain ⟨rfl, rfl⟩ := hqh1
      refine go_if_eq 19 (nx := 17) dX3_wordAt_14 rfl rfl (fun c14 => ?_) (fun c14 => ?_)
      · skip
        refine go_iinc 0 (v := nI (w + 1)) (lv' := [_, _, _]) (nx := 22) dX3_wordAt_19 rfl (nI_inc w) (by decide) rfl rfl ?_
        refine go_goto 2 dX3_wordAt_22 rfl ?_
        refine Go.sub [0, 1, 2] rfl ?_
        exact ih (w + 1) (by omega) (by omega) (ff_nn hq (tb0 c14))
      · skip
        refine go_iload_n 0 (nx := 18) dX3_wordAt_17 rfl rfl rfl ?_
        refine go_reti dX3_wordAt_18 ⟨_, rfl, rfl⟩ ?_
        exact ⟨by rw [twd, ff_at (p := w) z hq (tbn0 c14)]; rfl, rfl⟩
theorem s_wordAt {G : kG} {n sz : Nat} {h : kH} {tx : Nat → Nat} {x : Int32} {k : Nat} (hWD : WDok G) (hn : 37 ≤ n) (HT : oText G tx sz h) (h256 : ∀ j, tx j < 256) (hx : x = nI k) (hk : k < sz) : Spi G mX3_wordAt 6 [.ref (kb G + 1), .int x] n h (fun v h' => v = nI (twd tx sz k) ∧ h' = h) := by
  subst hx
  obtain ⟨htc, hsz, ba, hby, hba⟩ := id HT
  refine Spi.of (by decide) (Nat.le_of_ble_eq_true rfl) ?_
  refine go_iconst (v := nI 0) (nx := 1) dX3_wordAt_0 (by decide) rfl ?_
  refine go_istore_n (lv' := [_, _, _]) (nx := 2) dX3_wordAt_1 rfl (by decide) rfl rfl ?_
  refine Go.sub [0, 1, 2] rfl ?_
  exact l_wordAt hWD hn HT h256 hk 11 0 (by omega) (by omega) rfl
theorem tdg_d {tx : Nat → Nat} {sz k : Nat} (h : tdg tx sz k = true) : k < sz ∧ 48 ≤ tx k ∧ tx k ≤ 57 := by
  simp only [tdg, Bool.and_eq_true, decide_eq_true_eq] at h
  exact ⟨h.1.1, h.1.2, h.2⟩
theorem s_numberAt {G : kG} {n sz : Nat} {h : kH} {tx : Nat → Nat} {x : Int32} {k : Nat} (hn : 37 ≤ n) (HT : oText G tx sz h) (h256 : ∀ j, tx j < 256) (hx : x = nI k) (hd : tdg tx sz k = true) : Spi G mX3_numberAt 2 [.ref (kb G + 1), .int x] n h (fun v h' => v = nI (tnm tx sz k) ∧ h' = h) := by
  subst hx
  obtain ⟨htc, hsz, ba, hby, hba⟩ := id HT
  have hk := tdg_d hd
  have e0 : tby tx sz k = tx k := if_pos hk.1
  refine Spi.of (by decide) (Nat.le_of_ble_eq_true rfl) ?_
  refine go_aload_n 0 (nx := 1) dX3_numberAt_0 rfl rfl rfl ?_
  refine go_iload_n 1 (nx := 2) dX3_numberAt_1 rfl rfl rfl ?_
  refine go_Vi (nx := 5) [_] kc_X3_66 ⟨_, _, rfl⟩ (by omega) htc (s_byteAt hn HT h256 rfl (by omega)) dX3_numberAt_2 rfl rfl (Nat.le_of_ble_eq_true rfl) (Nat.le_of_ble_eq_true rfl) ⟨Nat.le_refl _, Nat.le_refl _⟩ rfl (fun rh1 h1 hqh1 => ?_)
  obtain ⟨rfl, rfl⟩ := hqh1
  refine go_bipush (v := nI 48) (nx := 7) dX3_numberAt_5 (by decide) rfl ?_
  refine go_isub (nx := 8) dX3_numberAt_7 rfl ?_
  rw [e0, pk_sub (by omega)]
  refine go_istore_n (lv' := [_, _, _]) (nx := 9) dX3_numberAt_8 rfl (by decide) rfl rfl ?_
  refine go_aload_n 1 (nx := 10) dX3_numberAt_9 rfl rfl rfl ?_
  refine go_iload_n 2 (nx := 11) dX3_numberAt_10 rfl rfl rfl ?_
  refine go_iconst (v := nI 1) (nx := 12) dX3_numberAt_11 (by decide) rfl ?_
  refine go_iadd (nx := 13) dX3_numberAt_12 rfl ?_
  rw [nI_add]
  refine go_Vi (nx := 16) [_] kc_X3_66 ⟨_, _, rfl⟩ (by omega) htc (s_byteAt hn HT h256 rfl (by omega)) dX3_numberAt_13 rfl rfl (Nat.le_of_ble_eq_true rfl) (Nat.le_of_ble_eq_true rfl) ⟨Nat.le_refl _, Nat.le_refl _⟩ rfl (fun rh2 h2 hqh2 => ?_)
  obtain ⟨rfl, rfl⟩ := hqh2
  refine go_istore_n (lv' := [_, _, _, _]) (nx := 17) dX3_numberAt_16 rfl (by decide) rfl rfl ?_
  refine go_iload_n 0 (nx := 18) dX3_numberAt_17 rfl rfl rfl ?_
  refine go_Si (nx := 21) [_] kc_X3_76 (s_isDigit rfl (tby_lt h256)) dX3_numberAt_18 rfl rfl (Nat.le_of_ble_eq_true rfl) (Nat.le_of_ble_eq_true rfl) ⟨Nat.le_refl _, Nat.le_refl _⟩ rfl (fun rh3 h3 hqh3 => ?_)
  obtain ⟨rfl, rfl⟩ := hqh3
  refine go_if_ne 29 (nx := 24) dX3_numberAt_21 rfl rfl (fun c21 => ?_) (fun c21 => ?_)
  · skip
    refine go_iload_n 1 (nx := 30) dX3_numberAt_29 rfl rfl rfl ?_
    refine go_if_eq 46 (nx := 33) dX3_numberAt_30 rfl rfl (fun c30 => ?_) (fun c30 => ?_)
    · skip
      refine go_bipush (v := nI 11) (nx := 48) dX3_numberAt_46 (by decide) rfl ?_
      refine go_reti dX3_numberAt_48 ⟨_, rfl, rfl⟩ ?_
      have e1 := tbn0 c21
      rw [isD_by] at e1
      have k1 := tdg_d e1
      have e2 : tx k = 48 := by have := keq (b := 0) c30 (by omega) (by decide); omega
      exact ⟨by rw [tnm, if_neg (by rw [e1]; decide), if_pos (Or.inl e2)], rfl⟩
    · skip
      refine go_aload_n 2 (nx := 34) dX3_numberAt_33 rfl rfl rfl ?_
      refine go_iload_n 3 (nx := 35) dX3_numberAt_34 rfl rfl rfl ?_
      refine go_iconst (v := nI 2) (nx := 36) dX3_numberAt_35 (by decide) rfl ?_
      refine go_iadd (nx := 37) dX3_numberAt_36 rfl ?_
      rw [nI_add]
      refine go_Vi (nx := 40) [_] kc_X3_66 ⟨_, _, rfl⟩ (by omega) htc (s_byteAt hn HT h256 rfl (by omega)) dX3_numberAt_37 rfl rfl (Nat.le_of_ble_eq_true rfl) (Nat.le_of_ble_eq_true rfl) ⟨Nat.le_refl _, Nat.le_refl _⟩ rfl (fun rh4 h4 hqh4 => ?_)
      obtain ⟨rfl, rfl⟩ := hqh4
      refine go_Si (nx := 43) [_] kc_X3_76 (s_isDigit rfl (tby_lt h256)) dX3_numberAt_40 rfl rfl (Nat.le_of_ble_eq_true rfl) (Nat.le_of_ble_eq_true rfl) ⟨Nat.le_refl _, Nat.le_refl _⟩ rfl (fun rh5 h5 hqh5 => ?_)
      obtain ⟨rfl, rfl⟩ := hqh5
      refine go_if_eq 49 (nx := 46) dX3_numberAt_43 rfl rfl (fun c43 => ?_) (fun c43 => ?_)
      · skip
        refine go_bipush (v := nI 100) (nx := 51) dX3_numberAt_49 (by decide) rfl ?_
        refine go_bipush (v := nI 10) (nx := 53) dX3_numberAt_51 (by decide) rfl ?_
        refine go_iload_n 1 (nx := 54) dX3_numberAt_53 rfl rfl rfl ?_
        refine go_imul (nx := 55) dX3_numberAt_54 rfl ?_
        refine go_iadd (nx := 56) dX3_numberAt_55 rfl ?_
        refine go_iload_n 0 (nx := 57) dX3_numberAt_56 rfl rfl rfl ?_
        refine go_iadd (nx := 58) dX3_numberAt_57 rfl ?_
        refine go_bipush (v := nI 48) (nx := 60) dX3_numberAt_58 (by decide) rfl ?_
        refine go_isub (nx := 61) dX3_numberAt_60 rfl ?_
        refine go_reti dX3_numberAt_61 ⟨_, rfl, rfl⟩ ?_
        have e1 := tbn0 c21
        rw [isD_by] at e1
        have k1 := tdg_d e1
        have e3 := tb0 c43
        rw [isD_by] at e3
        have e2 : ¬ tx k = 48 := fun z => c30 (by rw [z]; rfl)
        exact ⟨by rw [tnm, if_neg (by rw [e1]; decide), if_neg (fun z => z.elim e2 (fun q => by rw [e3] at q; cases q)), show tby tx sz (k + 1) = tx (k + 1) from if_pos k1.1, pk_mul, nI_add, nI_add, pk_sub (by omega)]; exact congrArg nI (by omega), rfl⟩
      · skip
        refine go_bipush (v := nI 11) (nx := 48) dX3_numberAt_46 (by decide) rfl ?_
        refine go_reti dX3_numberAt_48 ⟨_, rfl, rfl⟩ ?_
        have e1 := tbn0 c21
        rw [isD_by] at e1
        have k1 := tdg_d e1
        have e3 := tbn0 c43
        rw [isD_by] at e3
        exact ⟨by rw [tnm, if_neg (by rw [e1]; decide), if_pos (Or.inr e3)], rfl⟩
  · skip
    refine go_bipush (v := nI 100) (nx := 26) dX3_numberAt_24 (by decide) rfl ?_
    refine go_iload_n 1 (nx := 27) dX3_numberAt_26 rfl rfl rfl ?_
    refine go_iadd (nx := 28) dX3_numberAt_27 rfl ?_
    refine go_reti dX3_numberAt_28 ⟨_, rfl, rfl⟩ ?_
    have e1 := tb0 c21
    rw [isD_by] at e1
    exact ⟨by rw [tnm, if_pos e1, nI_add], rfl⟩
theorem s_tokenAt {G : kG} {n sz : Nat} {h : kH} {tx : Nat → Nat} {x : Int32} {k : Nat} (hWD : WDok G) (hn : 37 ≤ n) (HT : oText G tx sz h) (h256 : ∀ j, tx j < 256) (hx : x = nI k) (hk : k < sz) : Spi G mX3_tokenAt 7 [.ref (kb G + 1), .int x] n h (fun v h' => v = nI (ttk tx sz k) ∧ h' = h) := by
  subst hx
  obtain ⟨htc, hsz, ba, hby, hba⟩ := id HT
  have e0 : tby tx sz k = tx k := if_pos hk
  have hb := tby_lt (sz := sz) (k := k) h256
  refine Spi.of (by decide) (Nat.le_of_ble_eq_true rfl) ?_
  refine go_aload_n 0 (nx := 1) dX3_tokenAt_0 rfl rfl rfl ?_
  refine go_iload_n 1 (nx := 2) dX3_tokenAt_1 rfl rfl rfl ?_
  refine go_Vi (nx := 5) [_] kc_X3_66 ⟨_, _, rfl⟩ (by omega) htc (s_byteAt hn HT h256 rfl (by omega)) dX3_tokenAt_2 rfl rfl (Nat.le_of_ble_eq_true rfl) (Nat.le_of_ble_eq_true rfl) ⟨Nat.le_refl _, Nat.le_refl _⟩ rfl (fun rh1 h1 hqh1 => ?_)
  obtain ⟨rfl, rfl⟩ := hqh1
  refine go_istore_n (lv' := [_, _, _]) (nx := 6) dX3_tokenAt_5 rfl (by decide) rfl rfl ?_
  refine go_iload_n 0 (nx := 7) dX3_tokenAt_6 rfl rfl rfl ?_
  refine go_Si (nx := 10) [_] kc_X3_70 (s_isLetter rfl hb) dX3_tokenAt_7 rfl rfl (Nat.le_of_ble_eq_true rfl) (Nat.le_of_ble_eq_true rfl) ⟨Nat.le_refl _, Nat.le_refl _⟩ rfl (fun rh2 h2 hqh2 => ?_)
  obtain ⟨rfl, rfl⟩ := hqh2
  refine go_if_eq 19 (nx := 13) dX3_tokenAt_10 rfl rfl (fun c10 => ?_) (fun c10 => ?_)
  · skip
    refine go_iload_n 0 (nx := 20) dX3_tokenAt_19 rfl rfl rfl ?_
    refine go_Si (nx := 23) [_] kc_X3_76 (s_isDigit rfl hb) dX3_tokenAt_20 rfl rfl (Nat.le_of_ble_eq_true rfl) (Nat.le_of_ble_eq_true rfl) ⟨Nat.le_refl _, Nat.le_refl _⟩ rfl (fun rh3 h3 hqh3 => ?_)
    obtain ⟨rfl, rfl⟩ := hqh3
    refine go_if_eq 32 (nx := 26) dX3_tokenAt_23 rfl rfl (fun c23 => ?_) (fun c23 => ?_)
    · skip
      refine go_iload_n 0 (nx := 33) dX3_tokenAt_32 rfl rfl rfl ?_
      refine go_bipush (v := nI 59) (nx := 35) dX3_tokenAt_33 (by decide) rfl ?_
      refine go_icmp_ne 43 (nx := 38) dX3_tokenAt_35 rfl rfl (fun c35 => ?_) (fun c35 => ?_)
      · skip
        refine go_bipush (v := nI 11) (nx := 45) dX3_tokenAt_43 (by decide) rfl ?_
        refine go_reti dX3_tokenAt_45 ⟨_, rfl, rfl⟩ ?_
        have z := tb0 c10
        rw [isL_by] at z
        have z2 := tb0 c23
        rw [isD_by] at z2
        exact ⟨by rw [ttk, if_pos hk, if_neg (by rw [z]; decide), if_neg (by rw [z2]; decide), if_neg (fun q => c35 (by rw [e0, q]))], rfl⟩
      · skip
        refine go_bipush (v := nI 10) (nx := 40) dX3_tokenAt_38 (by decide) rfl ?_
        refine go_goto 45 dX3_tokenAt_40 rfl ?_
        refine go_reti dX3_tokenAt_45 ⟨_, rfl, rfl⟩ ?_
        have z := tb0 c10
        rw [isL_by] at z
        have z2 := tb0 c23
        rw [isD_by] at z2
        exact ⟨by rw [ttk, if_pos hk, if_neg (by rw [z]; decide), if_neg (by rw [z2]; decide), if_pos (by have := keq c35 (by omega) (by omega); omega)], rfl⟩
    · skip
      have z2 := tbn0 c23
      rw [isD_by] at z2
      refine go_aload_n 1 (nx := 27) dX3_tokenAt_26 rfl rfl rfl ?_
      refine go_iload_n 2 (nx := 28) dX3_tokenAt_27 rfl rfl rfl ?_
      refine go_Si (nx := 31) [_, _] kc_X3_79 (s_numberAt hn HT h256 rfl z2) dX3_tokenAt_28 rfl rfl (Nat.le_of_ble_eq_true rfl) (Nat.le_of_ble_eq_true rfl) ⟨Nat.le_refl _, Nat.le_refl _⟩ rfl (fun rh4 h4 hqh4 => ?_)
      obtain ⟨rfl, rfl⟩ := hqh4
      refine go_reti dX3_tokenAt_31 ⟨_, rfl, rfl⟩ ?_
      have z := tb0 c10
      rw [isL_by] at z
      exact ⟨by rw [ttk, if_pos hk, if_neg (by rw [z]; decide), if_pos z2], rfl⟩
  · skip
    refine go_aload_n 1 (nx := 14) dX3_tokenAt_13 rfl rfl rfl ?_
    refine go_iload_n 2 (nx := 15) dX3_tokenAt_14 rfl rfl rfl ?_
    refine go_Si (nx := 18) [_, _] kc_X3_73 (s_wordAt hWD hn HT h256 rfl hk) dX3_tokenAt_15 rfl rfl (Nat.le_of_ble_eq_true rfl) (Nat.le_of_ble_eq_true rfl) ⟨Nat.le_refl _, Nat.le_refl _⟩ rfl (fun rh3 h3 hqh3 => ?_)
    obtain ⟨rfl, rfl⟩ := hqh3
    refine go_reti dX3_tokenAt_18 ⟨_, rfl, rfl⟩ ?_
    have z := tbn0 c10
    rw [isL_by] at z
    exact ⟨by rw [ttk, if_pos hk, if_pos z], rfl⟩
