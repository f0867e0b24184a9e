/-! LeastKnown$Text, read -/
def isL (c : Nat) : Bool := decide (97 ≤ c) && decide (c ≤ 122)
def isD (c : Nat) : Bool := decide (48 ≤ c) && decide (c ≤ 57)
def tby (tx : Nat → Nat) (sz k : Nat) : Nat := if k < sz then tx k else 0
theorem isL_by {tx : Nat → Nat} {sz k : Nat} : isL (tby tx sz k) = tlt tx sz k := by
  unfold isL tby tlt
  by_cases e : k < sz
  · rw [if_pos e, decide_eq_true e, Bool.true_and]
  · rw [if_neg e, decide_eq_false e]; rfl
theorem isD_by {tx : Nat → Nat} {sz k : Nat} : isD (tby tx sz k) = tdg tx sz k := by
  unfold isD tby tdg
  by_cases e : k < sz
  · rw [if_pos e, decide_eq_true e, Bool.true_and]
  · rw [if_neg e, decide_eq_false e]; rfl
theorem tby_lt {tx : Nat → Nat} {sz k : Nat} (h : ∀ j, tx j < 256) : tby tx sz k < 256 := by
  unfold tby
  split
  · exact h k
  · decide
theorem s_isLetter {G : kG} {n c : Nat} {h : kH} {x : Int32} (hx : x = nI c) (hc : c < 256) : Spi G mX4_isLetter 0 [.int x] n h (fun v h' => v = bI (isL c) ∧ h' = h) := by
  subst hx
  refine Spi.of (by decide) (Nat.le_of_ble_eq_true rfl) ?_
  refine go_iload_n 0 (nx := 1) dX4_isLetter_0 rfl rfl rfl ?_
  refine go_bipush (v := nI 97) (nx := 3) dX4_isLetter_1 (by decide) rfl ?_
  refine go_icmp_lt 16 (nx := 6) dX4_isLetter_3 rfl rfl (fun c3 => ?_) (fun c3 => ?_)
  · skip
    refine go_iconst (v := nI 0) (nx := 17) dX4_isLetter_16 (by decide) rfl ?_
    refine go_reti dX4_isLetter_17 ⟨_, rfl, rfl⟩ ?_
    refine ⟨?_, rfl⟩
    rw [show isL c = false by have := klt c3 (by omega) (by omega); simp [isL]; omega]; rfl
  · skip
    refine go_iload_n 0 (nx := 7) dX4_isLetter_6 rfl rfl rfl ?_
    refine go_bipush (v := nI 122) (nx := 9) dX4_isLetter_7 (by decide) rfl ?_
    refine go_icmp_gt 16 (nx := 12) dX4_isLetter_9 rfl rfl (fun c9 => ?_) (fun c9 => ?_)
    · skip
      refine go_iconst (v := nI 0) (nx := 17) dX4_isLetter_16 (by decide) rfl ?_
      refine go_reti dX4_isLetter_17 ⟨_, rfl, rfl⟩ ?_
      refine ⟨?_, rfl⟩
      rw [show isL c = false by have := klt c9 (by omega) (by omega); simp [isL]; omega]; rfl
    · skip
      refine go_iconst (v := nI 1) (nx := 13) dX4_isLetter_12 (by decide) rfl ?_
      refine go_goto 17 dX4_isLetter_13 rfl ?_
      refine go_reti dX4_isLetter_17 ⟨_, rfl, rfl⟩ ?_
      refine ⟨?_, rfl⟩
      rw [show isL c = true by have := knlt c3 (by omega) (by omega); have := knlt c9 (by omega) (by omega); simp [isL]; omega]; rfl
theorem s_isDigit {G : kG} {n c : Nat} {h : kH} {x : Int32} (hx : x = nI c) (hc : c < 256) : Spi G mX4_isDigit 0 [.int x] n h (fun v h' => v = bI (isD c) ∧ h' = h) := by
  subst hx
  refine Spi.of (by decide) (Nat.le_of_ble_eq_true rfl) ?_
  refine go_iload_n 0 (nx := 1) dX4_isDigit_0 rfl rfl rfl ?_
  refine go_bipush (v := nI 48) (nx := 3) dX4_isDigit_1 (by decide) rfl ?_
  refine go_icmp_lt 16 (nx := 6) dX4_isDigit_3 rfl rfl (fun c3 => ?_) (fun c3 => ?_)
  · skip
    refine go_iconst (v := nI 0) (nx := 17) dX4_isDigit_16 (by decide) rfl ?_
    refine go_reti dX4_isDigit_17 ⟨_, rfl, rfl⟩ ?_
    refine ⟨?_, rfl⟩
    rw [show isD c = false by have := klt c3 (by omega) (by omega); simp [isD]; omega]; rfl
  · skip
    refine go_iload_n 0 (nx := 7) dX4_isDigit_6 rfl rfl rfl ?_
    refine go_bipush (v := nI 57) (nx := 9) dX4_isDigit_7 (by decide) rfl ?_
    refine go_icmp_gt 16 (nx := 12) dX4_isDigit_9 rfl rfl (fun c9 => ?_) (fun c9 => ?_)
    · skip
      refine go_iconst (v := nI 0) (nx := 17) dX4_isDigit_16 (by decide) rfl ?_
      refine go_reti dX4_isDigit_17 ⟨_, rfl, rfl⟩ ?_
      refine ⟨?_, rfl⟩
      rw [show isD c = false by have := klt c9 (by omega) (by omega); simp [isD]; omega]; rfl
    · skip
      refine go_iconst (v := nI 1) (nx := 13) dX4_isDigit_12 (by decide) rfl ?_
      refine go_goto 17 dX4_isDigit_13 rfl ?_
      refine go_reti dX4_isDigit_17 ⟨_, rfl, rfl⟩ ?_
      refine ⟨?_, rfl⟩
      rw [show isD c = true by have := knlt c3 (by omega) (by omega); have := knlt c9 (by omega) (by omega); simp [isD]; omega]; rfl
theorem s_byteAt {G : kG} {n sz : Nat} {h : kH} {tx : Nat → Nat} {x : Int32} {k : Nat} (hn : 37 ≤ n) (HT : oText G tx sz h) (h256 : ∀ j, tx j < 256) (hx : x = nI k) (hk : k < 2 ^ 31) : Spi G mX4_byteAt 1 [.ref (kb G + 1), .int x] n h (fun v h' => v = nI (tby tx sz k) ∧ h' = h) := by
  subst hx
  obtain ⟨htc, hsz, ba, hby, hba⟩ := id HT
  refine Spi.of (by decide) (Nat.le_of_ble_eq_true rfl) ?_
  refine go_iload_n 1 (nx := 1) dX4_byteAt_0 rfl rfl rfl ?_
  refine go_aload_n 0 (nx := 2) dX4_byteAt_1 rfl rfl rfl ?_
  refine go_gf (nx := 5) fg_X4_15 dX4_byteAt_2 (by omega) htc rfl rfl ?_
  refine go_icmp_ge 19 (nx := 8) dX4_byteAt_5 rfl rfl (fun c5 => ?_) (fun c5 => ?_)
  · skip
    refine go_iconst (v := nI 0) (nx := 20) dX4_byteAt_19 (by decide) rfl ?_
    refine go_reti dX4_byteAt_20 ⟨_, rfl, rfl⟩ ?_
    have z := kle c5 (by omega) hk
    exact ⟨by rw [tby, if_neg (by omega)], rfl⟩
  · skip
    refine go_aload_n 0 (nx := 9) dX4_byteAt_8 rfl rfl rfl ?_
    refine go_gf (nx := 12) fg_X4_9 dX4_byteAt_9 (by omega) htc rfl rfl ?_
    refine go_iload_n 1 (nx := 13) dX4_byteAt_12 rfl rfl rfl ?_
    refine go_SNi (nx := 16) [_, _] kc_X4_23 (s_at_in (j := k) (by omega) hby (by omega) rfl (by have := knle c5 (by omega) hk; omega)) dX4_byteAt_13 rfl rfl (Nat.le_of_ble_eq_true rfl) (Nat.le_of_ble_eq_true rfl) ⟨Nat.le_refl _, Nat.le_refl _⟩ rfl (fun rh1 h1 hqh1 => ?_)
    obtain ⟨rfl, rfl⟩ := hqh1
    rw [hba k (knle c5 (by omega) hk)]
    refine go_goto 20 dX4_byteAt_16 rfl ?_
    refine go_reti dX4_byteAt_20 ⟨_, rfl, rfl⟩ ?_
    have z := knle c5 (by omega) hk
    exact ⟨by rw [tby, if_pos z], rfl⟩
theorem s_byteM {G : kG} {n sz : Nat} {h : kH} {tx : Nat → Nat} {x : Int32} (hn : 37 ≤ n) (HT : oText G tx sz h) (h256 : ∀ j, tx j < 256) (hx : x = -1) : Spi G mX4_byteAt 1 [.ref (kb G + 1), .int x] n h (fun v h' => v = nI 0 ∧ h' = h) := by
  subst hx
  obtain ⟨htc, hsz, ba, hby, hba⟩ := id HT
  refine Spi.of (by decide) (Nat.le_of_ble_eq_true rfl) ?_
  refine go_iload_n 1 (nx := 1) dX4_byteAt_0 rfl rfl rfl ?_
  refine go_aload_n 0 (nx := 2) dX4_byteAt_1 rfl rfl rfl ?_
  refine go_gf (nx := 5) fg_X4_15 dX4_byteAt_2 (by omega) htc rfl rfl ?_
  refine go_icmp_ge 19 (nx := 8) dX4_byteAt_5 rfl rfl (fun c5 => ?_) (fun c5 => ?_)
  · skip
    refine go_iconst (v := nI 0) (nx := 20) dX4_byteAt_19 (by decide) rfl ?_
    refine go_reti dX4_byteAt_20 ⟨_, rfl, rfl⟩ ?_
    exact ⟨rfl, rfl⟩
  · skip
    refine go_aload_n 0 (nx := 9) dX4_byteAt_8 rfl rfl rfl ?_
    refine go_gf (nx := 12) fg_X4_9 dX4_byteAt_9 (by omega) htc rfl rfl ?_
    refine go_iload_n 1 (nx := 13) dX4_byteAt_12 rfl rfl rfl ?_
    refine go_SNi (nx := 16) [_, _] kc_X4_23 (s_at (by omega) hby (by omega)) dX4_byteAt_13 rfl rfl (Nat.le_of_ble_eq_true rfl) (Nat.le_of_ble_eq_true rfl) ⟨Nat.le_refl _, Nat.le_refl _⟩ rfl (fun rh1 h1 hqh1 => ?_)
    obtain ⟨rfl, rfl⟩ := hqh1
    rw [atF_neg (by decide)]
    refine go_goto 20 dX4_byteAt_16 rfl ?_
    refine go_reti dX4_byteAt_20 ⟨_, rfl, rfl⟩ ?_
    exact ⟨rfl, rfl⟩
theorem s_before {G : kG} {n sz : Nat} {h : kH} {tx : Nat → Nat} {x : Int32} {k : Nat} (hn : 37 ≤ n) (HT : oText G tx sz h) (h256 : ∀ j, tx j < 256) (hx : x = nI k - nI 1) (hk : k < 2 ^ 31) : Spi G mX4_byteAt 1 [.ref (kb G + 1), .int x] n h (fun v h' => v = nI (if 0 < k then tby tx sz (k - 1) else 0) ∧ h' = h) := by
  by_cases e : 0 < k
  · rw [if_pos e]
    exact s_byteAt hn HT h256 (hx.trans (pk_sub (by omega))) (by omega)
  · rw [if_neg e]
    have e0 : k = 0 := by omega
    subst e0
    exact s_byteM hn HT h256 (hx.trans (by decide))
theorem tbeg_by {tx : Nat → Nat} {sz k : Nat} (hk : k < sz) : tbeg tx sz k = (!(tby tx sz k == 32) && !(isL (if 0 < k then tby tx sz (k - 1) else 0) && isL (tby tx sz k)) && !(isD (if 0 < k then tby tx sz (k - 1) else 0) && isD (tby tx sz k))) := by
  unfold tbeg tin tbl
  rw [decide_eq_true hk, isL_by, isD_by, show tby tx sz k = tx k from if_pos hk]
  by_cases e : 0 < k
  · rw [if_pos e, isL_by, isD_by, decide_eq_true e]
    rw [show decide (tx k = 32) = (tx k == 32) from (Bool.beq_eq_decide_eq _ _).symm]
    cases (tx k == 32) <;> cases tlt tx sz (k - 1) <;> cases tlt tx sz k <;> cases tdg tx sz (k - 1) <;> cases tdg tx sz k <;> rfl
  · rw [if_neg e, decide_eq_false e, show isL 0 = false from rfl, show isD 0 = false from rfl]
    rw [show decide (tx k = 32) = (tx k == 32) from (Bool.beq_eq_decide_eq _ _).symm]
    cases (tx k == 32) <;> rfl
theorem s_begins {G : kG} {n sz : Nat} {h : kH} {tx : Nat → Nat} {x : Int32} {k : Nat} (hn : 37 ≤ n) (HT : oText G tx sz h) (h256 : ∀ j, tx j < 256) (hx : x = nI k) (hk : k < sz) : Spi G mX4_begins 2 [.ref (kb G + 1), .int x] n h (fun v h' => v = bI (tbeg tx sz k) ∧ h' = h) := by
  subst hx
  obtain ⟨htc, hsz, ba, hby, hba⟩ := id HT
  rw [tbeg_by hk]
  have hb1 := tby_lt (sz := sz) (k := k) h256
  have hb0 : (if 0 < k then tby tx sz (k - 1) else 0) < 256 := by
    split
    · exact tby_lt h256
    · decide
  refine Spi.of (by decide) (Nat.le_of_ble_eq_true rfl) ?_
  refine go_aload_n 0 (nx := 1) dX4_begins_0 rfl rfl rfl ?_
  refine go_iload_n 1 (nx := 2) dX4_begins_1 rfl rfl rfl ?_
  refine go_iconst (v := nI 1) (nx := 3) dX4_begins_2 (by decide) rfl ?_
  refine go_isub (nx := 4) dX4_begins_3 rfl ?_
  refine go_Vi (nx := 7) [_] kc_X4_27 ⟨_, _, rfl⟩ (by omega) htc (s_before hn HT h256 rfl (by omega)) dX4_begins_4 rfl rfl (Nat.le_of_ble_eq_true rfl) (Nat.le_of_ble_eq_true rfl) ⟨Nat.le_refl _, Nat.le_refl _⟩ rfl (fun rh1 h1 hqh1 => ?_)
  obtain ⟨rfl, rfl⟩ := hqh1
  refine go_istore_n (lv' := [_, _, _]) (nx := 8) dX4_begins_7 rfl (by decide) rfl rfl ?_
  generalize (if 0 < k then tby tx sz (k - 1) else 0) = b0 at hb0 ⊢
  refine go_aload_n 1 (nx := 9) dX4_begins_8 rfl rfl rfl ?_
  refine go_iload_n 2 (nx := 10) dX4_begins_9 rfl rfl rfl ?_
  refine go_Vi (nx := 13) [_] kc_X4_27 ⟨_, _, rfl⟩ (by omega) htc (s_byteAt hn HT h256 rfl (by omega)) dX4_begins_10 rfl rfl (Nat.le_of_ble_eq_true rfl) (Nat.le_of_ble_eq_true rfl) ⟨Nat.le_refl _, Nat.le_refl _⟩ rfl (fun rh2 h2 hqh2 => ?_)
  obtain ⟨rfl, rfl⟩ := hqh2
  refine go_istore_n (lv' := [_, _, _, _]) (nx := 14) dX4_begins_13 rfl (by decide) rfl rfl ?_
  refine go_iload_n 1 (nx := 15) dX4_begins_14 rfl rfl rfl ?_
  refine go_Si (nx := 18) [_] kc_X4_31 (s_isLetter rfl hb0) dX4_begins_15 rfl rfl (Nat.le_of_ble_eq_true rfl) (Nat.le_of_ble_eq_true rfl) ⟨Nat.le_refl _, Nat.le_refl _⟩ rfl (fun rh3 h3 hqh3 => ?_)
  obtain ⟨rfl, rfl⟩ := hqh3
  refine go_if_eq 32 (nx := 21) dX4_begins_18 rfl rfl (fun c18 => ?_) (fun c18 => ?_)
  · skip
    refine go_iconst (v := nI 0) (nx := 33) dX4_begins_32 (by decide) rfl ?_
    refine go_istore (lv' := [_, _, _, _, _]) (nx := 35) dX4_begins_33 (by decide) rfl rfl ?_
    refine go_iload_n 2 (nx := 36) dX4_begins_35 rfl rfl rfl ?_
    refine go_Si (nx := 39) [_] kc_X4_35 (s_isDigit rfl hb0) dX4_begins_36 rfl rfl (Nat.le_of_ble_eq_true rfl) (Nat.le_of_ble_eq_true rfl) ⟨Nat.le_refl _, Nat.le_refl _⟩ rfl (fun rh4 h4 hqh4 => ?_)
    obtain ⟨rfl, rfl⟩ := hqh4
    refine go_if_eq 53 (nx := 42) dX4_begins_39 rfl rfl (fun c39 => ?_) (fun c39 => ?_)
    · skip
      refine go_iconst (v := nI 0) (nx := 54) dX4_begins_53 (by decide) rfl ?_
      refine go_istore (lv' := [_, _, _, _, _, _]) (nx := 56) dX4_begins_54 (by decide) rfl rfl ?_
      refine go_iload_n 2 (nx := 57) dX4_begins_56 rfl rfl rfl ?_
      refine go_bipush (v := nI 32) (nx := 59) dX4_begins_57 (by decide) rfl ?_
      refine go_icmp_eq 76 (nx := 62) dX4_begins_59 rfl rfl (fun c59 => ?_) (fun c59 => ?_)
      · skip
        refine go_iconst (v := nI 0) (nx := 77) dX4_begins_76 (by decide) rfl ?_
        refine go_reti dX4_begins_77 ⟨_, rfl, rfl⟩ ?_
        refine ⟨?_, rfl⟩
        rw [tb0 c18, tb0 c39, beq_iff_eq.mpr (keq c59 (by omega) (by omega))]; simp; rfl
      · skip
        refine go_iload 1 (nx := 64) dX4_begins_62 rfl rfl ?_
        refine go_if_ne 76 (nx := 67) dX4_begins_64 rfl rfl (fun c64 => False.elim (absurd rfl c64)) (fun c64 => ?_)
        refine go_iload 0 (nx := 69) dX4_begins_67 rfl rfl ?_
        refine go_if_ne 76 (nx := 72) dX4_begins_69 rfl rfl (fun c69 => False.elim (absurd rfl c69)) (fun c69 => ?_)
        refine go_iconst (v := nI 1) (nx := 73) dX4_begins_72 (by decide) rfl ?_
        refine go_goto 77 dX4_begins_73 rfl ?_
        refine go_reti dX4_begins_77 ⟨_, rfl, rfl⟩ ?_
        refine ⟨?_, rfl⟩
        rw [tb0 c18, tb0 c39, beq_eq_false_iff_ne.mpr (fun z => c59 (congrArg nI z))]; simp; rfl
    · skip
      refine go_iload_n 1 (nx := 43) dX4_begins_42 rfl rfl rfl ?_
      refine go_Si (nx := 46) [_] kc_X4_35 (s_isDigit rfl hb1) dX4_begins_43 rfl rfl (Nat.le_of_ble_eq_true rfl) (Nat.le_of_ble_eq_true rfl) ⟨Nat.le_refl _, Nat.le_refl _⟩ rfl (fun rh5 h5 hqh5 => ?_)
      obtain ⟨rfl, rfl⟩ := hqh5
      refine go_if_eq 53 (nx := 49) dX4_begins_46 rfl rfl (fun c46 => ?_) (fun c46 => ?_)
      · skip
        refine go_iconst (v := nI 0) (nx := 54) dX4_begins_53 (by decide) rfl ?_
        refine go_istore (lv' := [_, _, _, _, _, _]) (nx := 56) dX4_begins_54 (by decide) rfl rfl ?_
        refine go_iload_n 2 (nx := 57) dX4_begins_56 rfl rfl rfl ?_
        refine go_bipush (v := nI 32) (nx := 59) dX4_begins_57 (by decide) rfl ?_
        refine go_icmp_eq 76 (nx := 62) dX4_begins_59 rfl rfl (fun c59 => ?_) (fun c59 => ?_)
        · skip
          refine go_iconst (v := nI 0) (nx := 77) dX4_begins_76 (by decide) rfl ?_
          refine go_reti dX4_begins_77 ⟨_, rfl, rfl⟩ ?_
          refine ⟨?_, rfl⟩
          rw [tb0 c18, tbn0 c39, tb0 c46, beq_iff_eq.mpr (keq c59 (by omega) (by omega))]; simp; rfl
        · skip
          refine go_iload 1 (nx := 64) dX4_begins_62 rfl rfl ?_
          refine go_if_ne 76 (nx := 67) dX4_begins_64 rfl rfl (fun c64 => False.elim (absurd rfl c64)) (fun c64 => ?_)
          refine go_iload 0 (nx := 69) dX4_begins_67 rfl rfl ?_
          refine go_if_ne 76 (nx := 72) dX4_begins_69 rfl rfl (fun c69 => False.elim (absurd rfl c69)) (fun c69 => ?_)
          refine go_iconst (v := nI 1) (nx := 73) dX4_begins_72 (by decide) rfl ?_
          refine go_goto 77 dX4_begins_73 rfl ?_
          refine go_reti dX4_begins_77 ⟨_, rfl, rfl⟩ ?_
          refine ⟨?_, rfl⟩
          rw [tb0 c18, tbn0 c39, tb0 c46, beq_eq_false_iff_ne.mpr (fun z => c59 (congrArg nI z))]; simp; rfl
      · skip
        refine go_iconst (v := nI 1) (nx := 50) dX4_begins_49 (by decide) rfl ?_
        refine go_goto 54 dX4_begins_50 rfl ?_
        refine go_istore (lv' := [_, _, _, _, _, _]) (nx := 56) dX4_begins_54 (by decide) rfl rfl ?_
        refine go_iload_n 2 (nx := 57) dX4_begins_56 rfl rfl rfl ?_
        refine go_bipush (v := nI 32) (nx := 59) dX4_begins_57 (by decide) rfl ?_
        refine go_icmp_eq 76 (nx := 62) dX4_begins_59 rfl rfl (fun c59 => ?_) (fun c59 => ?_)
        · skip
          refine go_iconst (v := nI 0) (nx := 77) dX4_begins_76 (by decide) rfl ?_
          refine go_reti dX4_begins_77 ⟨_, rfl, rfl⟩ ?_
          refine ⟨?_, rfl⟩
          rw [tb0 c18, tbn0 c39, tbn0 c46, beq_iff_eq.mpr (keq c59 (by omega) (by omega))]; simp; rfl
        · skip
          refine go_iload 1 (nx := 64) dX4_begins_62 rfl rfl ?_
          refine go_if_ne 76 (nx := 67) dX4_begins_64 rfl rfl (fun c64 => False.elim (absurd rfl c64)) (fun c64 => ?_)
          refine go_iload 0 (nx := 69) dX4_begins_67 rfl rfl ?_
          refine go_if_ne 76 (nx := 72) dX4_begins_69 rfl rfl (fun c69 => ?_) (fun c69 => False.elim (absurd c69 (by decide)))
          refine go_iconst (v := nI 0) (nx := 77) dX4_begins_76 (by decide) rfl ?_
          refine go_reti dX4_begins_77 ⟨_, rfl, rfl⟩ ?_
          refine ⟨?_, rfl⟩
          rw [tb0 c18, tbn0 c39, tbn0 c46, beq_eq_false_iff_ne.mpr (fun z => c59 (congrArg nI z))]; simp; rfl
  · skip
    refine go_iload_n 0 (nx := 22) dX4_begins_21 rfl rfl rfl ?_
    refine go_Si (nx := 25) [_] kc_X4_31 (s_isLetter rfl hb1) dX4_begins_22 rfl rfl (Nat.le_of_ble_eq_true rfl) (Nat.le_of_ble_eq_true rfl) ⟨Nat.le_refl _, Nat.le_refl _⟩ rfl (fun rh4 h4 hqh4 => ?_)
    obtain ⟨rfl, rfl⟩ := hqh4
    refine go_if_eq 32 (nx := 28) dX4_begins_25 rfl rfl (fun c25 => ?_) (fun c25 => ?_)
    · skip
      refine go_iconst (v := nI 0) (nx := 33) dX4_begins_32 (by decide) rfl ?_
      refine go_istore (lv' := [_, _, _, _, _]) (nx := 35) dX4_begins_33 (by decide) rfl rfl ?_
      refine go_iload_n 2 (nx := 36) dX4_begins_35 rfl rfl rfl ?_
      refine go_Si (nx := 39) [_] kc_X4_35 (s_isDigit rfl hb0) dX4_begins_36 rfl rfl (Nat.le_of_ble_eq_true rfl) (Nat.le_of_ble_eq_true rfl) ⟨Nat.le_refl _, Nat.le_refl _⟩ rfl (fun rh5 h5 hqh5 => ?_)
      obtain ⟨rfl, rfl⟩ := hqh5
      refine go_if_eq 53 (nx := 42) dX4_begins_39 rfl rfl (fun c39 => ?_) (fun c39 => ?_)
      · skip
        refine go_iconst (v := nI 0) (nx := 54) dX4_begins_53 (by decide) rfl ?_
        refine go_istore (lv' := [_, _, _, _, _, _]) (nx := 56) dX4_begins_54 (by decide) rfl rfl ?_
        refine go_iload_n 2 (nx := 57) dX4_begins_56 rfl rfl rfl ?_
        refine go_bipush (v := nI 32) (nx := 59) dX4_begins_57 (by decide) rfl ?_
        refine go_icmp_eq 76 (nx := 62) dX4_begins_59 rfl rfl (fun c59 => ?_) (fun c59 => ?_)
        · skip
          refine go_iconst (v := nI 0) (nx := 77) dX4_begins_76 (by decide) rfl ?_
          refine go_reti dX4_begins_77 ⟨_, rfl, rfl⟩ ?_
          refine ⟨?_, rfl⟩
          rw [tbn0 c18, tb0 c25, tb0 c39, beq_iff_eq.mpr (keq c59 (by omega) (by omega))]; simp; rfl
        · skip
          refine go_iload 1 (nx := 64) dX4_begins_62 rfl rfl ?_
          refine go_if_ne 76 (nx := 67) dX4_begins_64 rfl rfl (fun c64 => False.elim (absurd rfl c64)) (fun c64 => ?_)
          refine go_iload 0 (nx := 69) dX4_begins_67 rfl rfl ?_
          refine go_if_ne 76 (nx := 72) dX4_begins_69 rfl rfl (fun c69 => False.elim (absurd rfl c69)) (fun c69 => ?_)
          refine go_iconst (v := nI 1) (nx := 73) dX4_begins_72 (by decide) rfl ?_
          refine go_goto 77 dX4_begins_73 rfl ?_
          refine go_reti dX4_begins_77 ⟨_, rfl, rfl⟩ ?_
          refine ⟨?_, rfl⟩
          rw [tbn0 c18, tb0 c25, tb0 c39, beq_eq_false_iff_ne.mpr (fun z => c59 (congrArg nI z))]; simp; rfl
      · skip
        refine go_iload_n 1 (nx := 43) dX4_begins_42 rfl rfl rfl ?_
        refine go_Si (nx := 46) [_] kc_X4_35 (s_isDigit rfl hb1) dX4_begins_43 rfl rfl (Nat.le_of_ble_eq_true rfl) (Nat.le_of_ble_eq_true rfl) ⟨Nat.le_refl _, Nat.le_refl _⟩ rfl (fun rh6 h6 hqh6 => ?_)
        obtain ⟨rfl, rfl⟩ := hqh6
        refine go_if_eq 53 (nx := 49) dX4_begins_46 rfl rfl (fun c46 => ?_) (fun c46 => ?_)
        · skip
          refine go_iconst (v := nI 0) (nx := 54) dX4_begins_53 (by decide) rfl ?_
          refine go_istore (lv' := [_, _, _, _, _, _]) (nx := 56) dX4_begins_54 (by decide) rfl rfl ?_
          refine go_iload_n 2 (nx := 57) dX4_begins_56 rfl rfl rfl ?_
          refine go_bipush (v := nI 32) (nx := 59) dX4_begins_57 (by decide) rfl ?_
          refine go_icmp_eq 76 (nx := 62) dX4_begins_59 rfl rfl (fun c59 => ?_) (fun c59 => ?_)
          · skip
            refine go_iconst (v := nI 0) (nx := 77) dX4_begins_76 (by decide) rfl ?_
            refine go_reti dX4_begins_77 ⟨_, rfl, rfl⟩ ?_
            refine ⟨?_, rfl⟩
            rw [tbn0 c18, tb0 c25, tbn0 c39, tb0 c46, beq_iff_eq.mpr (keq c59 (by omega) (by omega))]; simp; rfl
          · skip
            refine go_iload 1 (nx := 64) dX4_begins_62 rfl rfl ?_
            refine go_if_ne 76 (nx := 67) dX4_begins_64 rfl rfl (fun c64 => False.elim (absurd rfl c64)) (fun c64 => ?_)
            refine go_iload 0 (nx := 69) dX4_begins_67 rfl rfl ?_
            refine go_if_ne 76 (nx := 72) dX4_begins_69 rfl rfl (fun c69 => False.elim (absurd rfl c69)) (fun c69 => ?_)
            refine go_iconst (v := nI 1) (nx := 73) dX4_begins_72 (by decide) rfl ?_
            refine go_goto 77 dX4_begins_73 rfl ?_
            refine go_reti dX4_begins_77 ⟨_, rfl, rfl⟩ ?_
            refine ⟨?_, rfl⟩
            rw [tbn0 c18, tb0 c25, tbn0 c39, tb0 c46, beq_eq_false_iff_ne.mpr (fun z => c59 (congrArg nI z))]; simp; rfl
        · skip
          refine go_iconst (v := nI 1) (nx := 50) dX4_begins_49 (by decide) rfl ?_
          refine go_goto 54 dX4_begins_50 rfl ?_
          refine go_istore (lv' := [_, _, _, _, _, _]) (nx := 56) dX4_begins_54 (by decide) rfl rfl ?_
          refine go_iload_n 2 (nx := 57) dX4_begins_56 rfl rfl rfl ?_
          refine go_bipush (v := nI 32) (nx := 59) dX4_begins_57 (by decide) rfl ?_
          refine go_icmp_eq 76 (nx := 62) dX4_begins_59 rfl rfl (fun c59 => ?_) (fun c59 => ?_)
          · skip
            refine go_iconst (v := nI 0) (nx := 77) dX4_begins_76 (by decide) rfl ?_
            refine go_reti dX4_begins_77 ⟨_, rfl, rfl⟩ ?_
            refine ⟨?_, rfl⟩
            rw [tbn0 c18, tb0 c25, tbn0 c39, tbn0 c46, beq_iff_eq.mpr (keq c59 (by omega) (by omega))]; simp; rfl
          · skip
            refine go_iload 1 (nx := 64) dX4_begins_62 rfl rfl ?_
            refine go_if_ne 76 (nx := 67) dX4_begins_64 rfl rfl (fun c64 => False.elim (absurd rfl c64)) (fun c64 => ?_)
            refine go_iload 0 (nx := 69) dX4_begins_67 rfl rfl ?_
            refine go_if_ne 76 (nx := 72) dX4_begins_69 rfl rfl (fun c69 => ?_) (fun c69 => False.elim (absurd c69 (by decide)))
            refine go_iconst (v := nI 0) (nx := 77) dX4_begins_76 (by decide) rfl ?_
            refine go_reti dX4_begins_77 ⟨_, rfl, rfl⟩ ?_
            refine ⟨?_, rfl⟩
            rw [tbn0 c18, tb0 c25, tbn0 c39, tbn0 c46, beq_eq_false_iff_ne.mpr (fun z => c59 (congrArg nI z))]; simp; rfl
    · skip
      refine go_iconst (v := nI 1) (nx := 29) dX4_begins_28 (by decide) rfl ?_
      refine go_goto 33 dX4_begins_29 rfl ?_
      refine go_istore (lv' := [_, _, _, _, _]) (nx := 35) dX4_begins_33 (by decide) rfl rfl ?_
      refine go_iload_n 2 (nx := 36) dX4_begins_35 rfl rfl rfl ?_
      refine go_Si (nx := 39) [_] kc_X4_35 (s_isDigit rfl hb0) dX4_begins_36 rfl rfl (Nat.le_of_ble_eq_true rfl) (Nat.le_of_ble_eq_true rfl) ⟨Nat.le_refl _, Nat.le_refl _⟩ rfl (fun rh5 h5 hqh5 => ?_)
      obtain ⟨rfl, rfl⟩ := hqh5
      refine go_if_eq 53 (nx := 42) dX4_begins_39 rfl rfl (fun c39 => ?_) (fun c39 => ?_)
      · skip
        refine go_iconst (v := nI 0) (nx := 54) dX4_begins_53 (by decide) rfl ?_
        refine go_istore (lv' := [_, _, _, _, _, _]) (nx := 56) dX4_begins_54 (by decide) rfl rfl ?_
        refine go_iload_n 2 (nx := 57) dX4_begins_56 rfl rfl rfl ?_
        refine go_bipush (v := nI 32) (nx := 59) dX4_begins_57 (by decide) rfl ?_
        refine go_icmp_eq 76 (nx := 62) dX4_begins_59 rfl rfl (fun c59 => ?_) (fun c59 => ?_)
        · skip
          refine go_iconst (v := nI 0) (nx := 77) dX4_begins_76 (by decide) rfl ?_
          refine go_reti dX4_begins_77 ⟨_, rfl, rfl⟩ ?_
          refine ⟨?_, rfl⟩
          rw [tbn0 c18, tbn0 c25, tb0 c39, beq_iff_eq.mpr (keq c59 (by omega) (by omega))]; simp; rfl
        · skip
          refine go_iload 1 (nx := 64) dX4_begins_62 rfl rfl ?_
          refine go_if_ne 76 (nx := 67) dX4_begins_64 rfl rfl (fun c64 => ?_) (fun c64 => False.elim (absurd c64 (by decide)))
          refine go_iconst (v := nI 0) (nx := 77) dX4_begins_76 (by decide) rfl ?_
          refine go_reti dX4_begins_77 ⟨_, rfl, rfl⟩ ?_
          refine ⟨?_, rfl⟩
          rw [tbn0 c18, tbn0 c25, tb0 c39, beq_eq_false_iff_ne.mpr (fun z => c59 (congrArg nI z))]; simp; rfl
      · skip
        refine go_iload_n 1 (nx := 43) dX4_begins_42 rfl rfl rfl ?_
        refine go_Si (nx := 46) [_] kc_X4_35 (s_isDigit rfl hb1) dX4_begins_43 rfl rfl (Nat.le_of_ble_eq_true rfl) (Nat.le_of_ble_eq_true rfl) ⟨Nat.le_refl _, Nat.le_refl _⟩ rfl (fun rh6 h6 hqh6 => ?_)
        obtain ⟨rfl, rfl⟩ := hqh6
        refine go_if_eq 53 (nx := 49) dX4_begins_46 rfl rfl (fun c46 => ?_) (fun c46 => ?_)
        · skip
          refine go_iconst (v := nI 0) (nx := 54) dX4_begins_53 (by decide) rfl ?_
          refine go_istore (lv' := [_, _, _, _, _, _]) (nx := 56) dX4_begins_54 (by decide) rfl rfl ?_
          refine go_iload_n 2 (nx := 57) dX4_begins_56 rfl rfl rfl ?_
          refine go_bipush (v := nI 32) (nx := 59) dX4_begins_57 (by decide) rfl ?_
          refine go_icmp_eq 76 (nx := 62) dX4_begins_59 rfl rfl (fun c59 => ?_) (fun c59 => ?_)
          · skip
            refine go_iconst (v := nI 0) (nx := 77) dX4_begins_76 (by decide) rfl ?_
            refine go_reti dX4_begins_77 ⟨_, rfl, rfl⟩ ?_
            refine ⟨?_, rfl⟩
            rw [tbn0 c18, tbn0 c25, tbn0 c39, tb0 c46, beq_iff_eq.mpr (keq c59 (by omega) (by omega))]; simp; rfl
          · skip
            refine go_iload 1 (nx := 64) dX4_begins_62 rfl rfl ?_
            refine go_if_ne 76 (nx := 67) dX4_begins_64 rfl rfl (fun c64 => ?_) (fun c64 => False.elim (absurd c64 (by decide)))
            refine go_iconst (v := nI 0) (nx := 77) dX4_begins_76 (by decide) rfl ?_
            refine go_reti dX4_begins_77 ⟨_, rfl, rfl⟩ ?_
            refine ⟨?_, rfl⟩
            rw [tbn0 c18, tbn0 c25, tbn0 c39, tb0 c46, beq_eq_false_iff_ne.mpr (fun z => c59 (congrArg nI z))]; simp; rfl
        · skip
          refine go_iconst (v := nI 1) (nx := 50) dX4_begins_49 (by decide) rfl ?_
          refine go_goto 54 dX4_begins_50 rfl ?_
          refine go_istore (lv' := [_, _, _, _, _, _]) (nx := 56) dX4_begins_54 (by decide) rfl rfl ?_
          refine go_iload_n 2 (nx := 57) dX4_begins_56 rfl rfl rfl ?_
          refine go_bipush (v := nI 32) (nx := 59) dX4_begins_57 (by decide) rfl ?_
          refine go_icmp_eq 76 (nx := 62) dX4_begins_59 rfl rfl (fun c59 => ?_) (fun c59 => ?_)
          · skip
            refine go_iconst (v := nI 0) (nx := 77) dX4_begins_76 (by decide) rfl ?_
            refine go_reti dX4_begins_77 ⟨_, rfl, rfl⟩ ?_
            refine ⟨?_, rfl⟩
            rw [tbn0 c18, tbn0 c25, tbn0 c39, tbn0 c46, beq_iff_eq.mpr (keq c59 (by omega) (by omega))]; simp; rfl
          · skip
            refine go_iload 1 (nx := 64) dX4_begins_62 rfl rfl ?_
            refine go_if_ne 76 (nx := 67) dX4_begins_64 rfl rfl (fun c64 => ?_) (fun c64 => False.elim (absurd c64 (by decide)))
            refine go_iconst (v := nI 0) (nx := 77) dX4_begins_76 (by decide) rfl ?_
            refine go_reti dX4_begins_77 ⟨_, rfl, rfl⟩ ?_
            refine ⟨?_, rfl⟩
            rw [tbn0 c18, tbn0 c25, tbn0 c39, tbn0 c46, beq_eq_false_iff_ne.mpr (fun z => c59 (congrArg nI z))]; simp; rfl
