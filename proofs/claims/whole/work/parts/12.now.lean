/-! LeastKnown$Now, and Integer.bitCount -/
def rNow (G : kG) (q : Nat) (kn ct si cr : Nat → Int32) (rg yr la : Int32) (h : kH) : Prop := h q = .inr (2, [.ref (kb G + (q + 1)), .ref (kb G + (q + 2)), .ref (kb G + (q + 3)), .ref (kb G + (q + 4)), .int rg, .int yr, .int la]) ∧ h (q + 1) = .inl (G.2.1, 8, .inl kn) ∧ h (q + 2) = .inl (G.2.1, 8, .inl ct) ∧ h (q + 3) = .inl (G.2.1, 64, .inl si) ∧ h (q + 4) = .inl (G.2.1, 8, .inl cr)
/-- the object q is NOW as ν has it -/
def oNow (G : kG) (q : Nat) (ν : mN) (h : kH) : Prop := ∃ kn ct si cr : Nat → Int32, rNow G q kn ct si cr (nI (bitsOf fun p => !(ν.2.2.1 p == 0))) (nI ν.2.2.2.1) ν.2.2.2.2 h ∧ (∀ b, b < 8 → kn b = nI (col ν.1 b)) ∧ (∀ b, b < 8 → ct b = nI (cnt ν.1 b)) ∧ (∀ j, j < 64 → si j = ν.2.1 j) ∧ (∀ p, p < 8 → cr p = nI (ν.2.2.1 p))
theorem rNow.fr {G : kG} {q lo hi : Nat} {kn ct si cr : Nat → Int32} {rg yr la : Int32} {h h' : kH} (H : rNow G q kn ct si cr rg yr la h) (hF : kFr lo hi h h') (hd : q + 5 ≤ lo ∨ hi ≤ q) : rNow G q kn ct si cr rg yr la h' :=
  ⟨(hF q (by omega)).trans H.1, (hF (q + 1) (by omega)).trans H.2.1, (hF (q + 2) (by omega)).trans H.2.2.1, (hF (q + 3) (by omega)).trans H.2.2.2.1, (hF (q + 4) (by omega)).trans H.2.2.2.2⟩
theorem oNow.fr {G : kG} {q lo hi : Nat} {ν : mN} {h h' : kH} (H : oNow G q ν h) (hF : kFr lo hi h h') (hd : q + 5 ≤ lo ∨ hi ≤ q) : oNow G q ν h' := by
  obtain ⟨kn, ct, si, cr, H, H2⟩ := H
  exact ⟨kn, ct, si, cr, H.fr hF hd, H2⟩
theorem s_bitCount {G : kG} {n w : Nat} {h : kH} {x : Int32} (hx : x = nI w) (hw : w < 256) : Spi G mJ6_bitCount_0f7a4 0 [.int x] n h (fun v h' => v = nI (popc w) ∧ h' = h) := by
  subst hx
  refine Spi.of (by decide) (Nat.le_of_ble_eq_true rfl) ?_
  refine go_iload_n 0 (nx := 1) dJ6_bitCount_0f7a4_0 rfl rfl rfl ?_
  refine go_iload_n 0 (nx := 2) dJ6_bitCount_0f7a4_1 rfl rfl rfl ?_
  refine go_iconst (v := nI 1) (nx := 3) dJ6_bitCount_0f7a4_2 (by decide) rfl ?_
  refine go_iushr (nx := 4) dJ6_bitCount_0f7a4_3 rfl ?_
  refine go_ldcw (nx := 7) kl_J6_265 dJ6_bitCount_0f7a4_4 rfl ?_
  refine go_iand (nx := 8) dJ6_bitCount_0f7a4_7 rfl ?_
  refine go_isub (nx := 9) dJ6_bitCount_0f7a4_8 rfl ?_
  refine go_istore_n (lv' := [_]) (nx := 10) dJ6_bitCount_0f7a4_9 rfl (by decide) rfl rfl ?_
  refine go_iload_n 0 (nx := 11) dJ6_bitCount_0f7a4_10 rfl rfl rfl ?_
  refine go_ldcw (nx := 14) kl_J6_266 dJ6_bitCount_0f7a4_11 rfl ?_
  refine go_iand (nx := 15) dJ6_bitCount_0f7a4_14 rfl ?_
  refine go_iload_n 0 (nx := 16) dJ6_bitCount_0f7a4_15 rfl rfl rfl ?_
  refine go_iconst (v := nI 2) (nx := 17) dJ6_bitCount_0f7a4_16 (by decide) rfl ?_
  refine go_iushr (nx := 18) dJ6_bitCount_0f7a4_17 rfl ?_
  refine go_ldcw (nx := 21) kl_J6_266 dJ6_bitCount_0f7a4_18 rfl ?_
  refine go_iand (nx := 22) dJ6_bitCount_0f7a4_21 rfl ?_
  refine go_iadd (nx := 23) dJ6_bitCount_0f7a4_22 rfl ?_
  refine go_istore_n (lv' := [_]) (nx := 24) dJ6_bitCount_0f7a4_23 rfl (by decide) rfl rfl ?_
  refine go_iload_n 0 (nx := 25) dJ6_bitCount_0f7a4_24 rfl rfl rfl ?_
  refine go_iload_n 0 (nx := 26) dJ6_bitCount_0f7a4_25 rfl rfl rfl ?_
  refine go_iconst (v := nI 4) (nx := 27) dJ6_bitCount_0f7a4_26 (by decide) rfl ?_
  refine go_iushr (nx := 28) dJ6_bitCount_0f7a4_27 rfl ?_
  refine go_iadd (nx := 29) dJ6_bitCount_0f7a4_28 rfl ?_
  refine go_ldcw (nx := 32) kl_J6_267 dJ6_bitCount_0f7a4_29 rfl ?_
  refine go_iand (nx := 33) dJ6_bitCount_0f7a4_32 rfl ?_
  refine go_istore_n (lv' := [_]) (nx := 34) dJ6_bitCount_0f7a4_33 rfl (by decide) rfl rfl ?_
  refine go_iload_n 0 (nx := 35) dJ6_bitCount_0f7a4_34 rfl rfl rfl ?_
  refine go_iload_n 0 (nx := 36) dJ6_bitCount_0f7a4_35 rfl rfl rfl ?_
  refine go_bipush (v := nI 8) (nx := 38) dJ6_bitCount_0f7a4_36 (by decide) rfl ?_
  refine go_iushr (nx := 39) dJ6_bitCount_0f7a4_38 rfl ?_
  refine go_iadd (nx := 40) dJ6_bitCount_0f7a4_39 rfl ?_
  refine go_istore_n (lv' := [_]) (nx := 41) dJ6_bitCount_0f7a4_40 rfl (by decide) rfl rfl ?_
  refine go_iload_n 0 (nx := 42) dJ6_bitCount_0f7a4_41 rfl rfl rfl ?_
  refine go_iload_n 0 (nx := 43) dJ6_bitCount_0f7a4_42 rfl rfl rfl ?_
  refine go_bipush (v := nI 16) (nx := 45) dJ6_bitCount_0f7a4_43 (by decide) rfl ?_
  refine go_iushr (nx := 46) dJ6_bitCount_0f7a4_45 rfl ?_
  refine go_iadd (nx := 47) dJ6_bitCount_0f7a4_46 rfl ?_
  refine go_istore_n (lv' := [_]) (nx := 48) dJ6_bitCount_0f7a4_47 rfl (by decide) rfl rfl ?_
  refine go_iload_n 0 (nx := 49) dJ6_bitCount_0f7a4_48 rfl rfl rfl ?_
  refine go_bipush (v := nI 63) (nx := 51) dJ6_bitCount_0f7a4_49 (by decide) rfl ?_
  refine go_iand (nx := 52) dJ6_bitCount_0f7a4_51 rfl ?_
  refine go_reti dJ6_bitCount_0f7a4_52 ⟨_, rfl, rfl⟩ ?_
  exact ⟨bcE_ok w hw, rfl⟩
theorem s_setKnowers {G : kG} {n q p w : Nat} {h : kH} {kn ct si cr : Nat → Int32} {rg yr la x y : Int32} (hq : q + 5 ≤ n) (H : rNow G q kn ct si cr rg yr la h) (hx : x = nI p) (hp : p < 8) (hy : y = nI w) (hw : w < 256) : Spv G mX2_setKnowers 1 [.ref (kb G + q), .int x, .int y] n h (fun h' => rNow G q (upd kn p (nI w)) (upd ct p (nI (popc w))) si cr rg yr la h' ∧ kFr q (q + 5) h h') := by
  subst hx hy
  obtain ⟨hN, hkn, hct, hsi, hcr⟩ := H
  have hF : kFr q (q + 5) h h := kFr.rf
  refine Spv.of (by decide) (Nat.le_of_ble_eq_true rfl) ?_
  refine go_aload_n 0 (nx := 1) dX2_setKnowers_0 rfl rfl rfl ?_
  refine go_gf (nx := 4) fg_X2_9 dX2_setKnowers_1 (by omega) hN rfl rfl ?_
  refine go_iload_n 1 (nx := 5) dX2_setKnowers_4 rfl rfl rfl ?_
  refine go_iload_n 2 (nx := 6) dX2_setKnowers_5 rfl rfl rfl ?_
  refine go_SNv (nx := 9) [_, _, _] kc_X2_53 (s_put (by omega) hkn (by omega) rfl hp) dX2_setKnowers_6 rfl rfl (Nat.le_of_ble_eq_true rfl) (Nat.le_of_ble_eq_true rfl) ⟨Nat.le_refl _, Nat.le_refl _⟩ rfl (fun h1 hqh1 => ?_)
  obtain ⟨eh1, fh1⟩ := hqh1
  have hN := (fh1 (q) (by omega)).trans hN
  have hct := (fh1 (q + 2) (by omega)).trans hct
  have hsi := (fh1 (q + 3) (by omega)).trans hsi
  have hcr := (fh1 (q + 4) (by omega)).trans hcr
  have hkn := eh1
  have hF := hF.tr (fun j hj => fh1 j (by omega))
  refine go_aload_n 0 (nx := 10) dX2_setKnowers_9 rfl rfl rfl ?_
  refine go_gf (nx := 13) fg_X2_15 dX2_setKnowers_10 (by omega) hN rfl rfl ?_
  refine go_iload_n 1 (nx := 14) dX2_setKnowers_13 rfl rfl rfl ?_
  refine go_iload_n 2 (nx := 15) dX2_setKnowers_14 rfl rfl rfl ?_
  refine go_Si (nx := 18) [_] kc_X2_57 (s_bitCount rfl hw) dX2_setKnowers_15 rfl rfl (Nat.le_of_ble_eq_true rfl) (Nat.le_of_ble_eq_true rfl) ⟨Nat.le_refl _, Nat.le_refl _⟩ rfl (fun rh2 h2 hqh2 => ?_)
  obtain ⟨rfl, rfl⟩ := hqh2
  refine go_SNv (nx := 21) [_, _, _] kc_X2_53 (s_put (by omega) hct (by omega) rfl hp) dX2_setKnowers_18 rfl rfl (Nat.le_of_ble_eq_true rfl) (Nat.le_of_ble_eq_true rfl) ⟨Nat.le_refl _, Nat.le_refl _⟩ rfl (fun h3 hqh3 => ?_)
  obtain ⟨eh3, fh3⟩ := hqh3
  have hN := (fh3 (q) (by omega)).trans hN
  have hkn := (fh3 (q + 1) (by omega)).trans hkn
  have hsi := (fh3 (q + 3) (by omega)).trans hsi
  have hcr := (fh3 (q + 4) (by omega)).trans hcr
  have hct := eh3
  have hF := hF.tr (fun j hj => fh3 j (by omega))
  refine go_retv dX2_setKnowers_21 rfl ?_
  exact ⟨⟨hN, hkn, hct, hsi, hcr⟩, hF⟩
theorem r_isAware {G : kG} {n q a b w : Nat} {h : kH} {kn ct si cr : Nat → Int32} {rg yr la x y : Int32} (hq : q + 5 ≤ n) (H : rNow G q kn ct si cr rg yr la h) (hx : x = nI a) (ha : a < 8) (hy : y = nI b) (hb : b < 8) (hk : kn b = nI w) (hw : w < 256) : Spi G mX2_isAware 1 [.ref (kb G + q), .int x, .int y] n h (fun v h' => v = bI (w.testBit a) ∧ h' = h) := by
  subst hx hy
  obtain ⟨hN, hkn, hct, hsi, hcr⟩ := H
  refine Spi.of (by decide) (Nat.le_of_ble_eq_true rfl) ?_
  refine go_aload_n 0 (nx := 1) dX2_isAware_0 rfl rfl rfl ?_
  refine go_gf (nx := 4) fg_X2_9 dX2_isAware_1 (by omega) hN rfl rfl ?_
  refine go_iload_n 2 (nx := 5) dX2_isAware_4 rfl rfl rfl ?_
  refine go_SNi (nx := 8) [_, _] kc_X2_27 (s_at_in (by omega) hkn (by omega) rfl hb) dX2_isAware_5 rfl rfl (Nat.le_of_ble_eq_true rfl) (Nat.le_of_ble_eq_true rfl) ⟨Nat.le_refl _, Nat.le_refl _⟩ rfl (fun rh1 h1 hqh1 => ?_)
  obtain ⟨rfl, rfl⟩ := hqh1
  refine go_iload_n 1 (nx := 9) dX2_isAware_8 rfl rfl rfl ?_
  refine go_ishr (nx := 10) dX2_isAware_9 rfl ?_
  refine go_iconst (v := nI 1) (nx := 11) dX2_isAware_10 (by decide) rfl ?_
  refine go_iand (nx := 12) dX2_isAware_11 rfl ?_
  rw [hk, i_get w hw a ha]
  refine go_iconst (v := nI 1) (nx := 13) dX2_isAware_12 (by decide) rfl ?_
  refine go_icmp_ne 20 (nx := 16) dX2_isAware_13 rfl rfl (fun c13 => ?_) (fun c13 => ?_)
  · skip
    refine go_iconst (v := nI 0) (nx := 21) dX2_isAware_20 (by decide) rfl ?_
    refine go_reti dX2_isAware_21 ⟨_, rfl, rfl⟩ ?_
    refine ⟨?_, rfl⟩
    cases e : w.testBit a
    · rfl
    · exact absurd (by rw [e]; rfl) c13
  · skip
    refine go_iconst (v := nI 1) (nx := 17) dX2_isAware_16 (by decide) rfl ?_
    refine go_goto 21 dX2_isAware_17 rfl ?_
    refine go_reti dX2_isAware_21 ⟨_, rfl, rfl⟩ ?_
    refine ⟨?_, rfl⟩
    rw [c13]
theorem s_isAware {G : kG} {n q a b : Nat} {h : kH} {ν : mN} {x y : Int32} (hq : q + 5 ≤ n) (H : oNow G q ν h) (hx : x = nI a) (ha : a < 8) (hy : y = nI b) (hb : b < 8) : Spi G mX2_isAware 1 [.ref (kb G + q), .int x, .int y] n h (fun v h' => v = bI (ν.1 a b) ∧ h' = h) := by
  obtain ⟨kn, ct, si, cr, H, hk, -⟩ := H
  refine (r_isAware hq H hx ha hy hb (hk b hb) (bits_lt _)).mono fun v h' q => ⟨?_, q.2⟩
  rw [q.1, col, bits_test _ ha]
theorem s_sight {G : kG} {n q a b : Nat} {h : kH} {ν : mN} {x y : Int32} (hq : q + 5 ≤ n) (H : oNow G q ν h) (hx : x = nI a) (ha : a < 8) (hy : y = nI b) (hb : b < 8) : Spi G mX2_sight 1 [.ref (kb G + q), .int x, .int y] n h (fun v h' => v = ν.2.1 (8 * a + b) ∧ h' = h) := by
  subst hx hy
  obtain ⟨kn, ct, si, cr, ⟨hN, hkn, hct, hsi, hcr⟩, hK, hC, hS, hR⟩ := H
  refine Spi.of (by decide) (Nat.le_of_ble_eq_true rfl) ?_
  refine go_aload_n 0 (nx := 1) dX2_sight_0 rfl rfl rfl ?_
  refine go_gf (nx := 4) fg_X2_18 dX2_sight_1 (by omega) hN rfl rfl ?_
  refine go_iload_n 1 (nx := 5) dX2_sight_4 rfl rfl rfl ?_
  refine go_bipush (v := nI 8) (nx := 7) dX2_sight_5 (by decide) rfl ?_
  refine go_imul (nx := 8) dX2_sight_7 rfl ?_
  refine go_iload_n 2 (nx := 9) dX2_sight_8 rfl rfl rfl ?_
  refine go_iadd (nx := 10) dX2_sight_9 rfl ?_
  refine go_SNi (nx := 13) [_, _] kc_X2_27 (s_at_in (j := 8 * a + b) (by omega) hsi (by omega) (by rw [pk_mul, nI_add, Nat.mul_comm]) (by omega)) dX2_sight_10 rfl rfl (Nat.le_of_ble_eq_true rfl) (Nat.le_of_ble_eq_true rfl) ⟨Nat.le_refl _, Nat.le_refl _⟩ rfl (fun rh1 h1 hqh1 => ?_)
  obtain ⟨rfl, rfl⟩ := hqh1
  refine go_reti dX2_sight_13 ⟨_, rfl, rfl⟩ ?_
  exact ⟨hS _ (by omega), rfl⟩
theorem col_lt (K : mK) (b : Nat) : col K b < 256 := bits_lt _
theorem col_set {K : mK} {a b : Nat} (ha : a < 8) : col (kSet K a b) b = col K b ||| 2 ^ a := by
  rw [col, col, bits_set _ ha]
  exact bits_ext fun i _ => by simp [kSet]
theorem col_ne {K : mK} {a b c : Nat} (h : c ≠ b) : col (kSet K a b) c = col K c := bits_ext fun i _ => by simp [kSet, h]
theorem cnt_popc (K : mK) (b : Nat) : cnt K b = popc (col K b) := (popc_bits _).symm
theorem cnt_ne {K : mK} {a b c : Nat} (h : c ≠ b) : cnt (kSet K a b) c = cnt K c := by rw [cnt_popc, cnt_popc, col_ne h]
theorem s_learn {G : kG} {n q a b : Nat} {h : kH} {ν : mN} {x y : Int32} (hq : q + 5 ≤ n) (H : oNow G q ν h) (hx : x = nI a) (ha : a < 8) (hy : y = nI b) (hb : b < 8) : Spi G mX2_learn 2 [.ref (kb G + q), .int x, .int y] n h (fun v h' => v = bI (!ν.1 a b) ∧ oNow G q (mLearn ν a b) h' ∧ kFr q (q + 5) h h') := by
  have H' := H
  subst hx hy
  obtain ⟨kn, ct, si, cr, ⟨hN, hkn, hct, hsi, hcr⟩, hK, hC, hS, hR⟩ := H
  have hF : kFr q (q + 5) h h := kFr.rf
  refine Spi.of (by decide) (Nat.le_of_ble_eq_true rfl) ?_
  refine go_aload_n 0 (nx := 1) dX2_learn_0 rfl rfl rfl ?_
  refine go_iload_n 1 (nx := 2) dX2_learn_1 rfl rfl rfl ?_
  refine go_iload_n 2 (nx := 3) dX2_learn_2 rfl rfl rfl ?_
  refine go_Vi (nx := 6) [_, _] kc_X2_63 ⟨_, _, rfl⟩ (by omega) hN (s_isAware hq H' rfl ha rfl hb) dX2_learn_3 rfl rfl (Nat.le_of_ble_eq_true rfl) (Nat.le_of_ble_eq_true rfl) ⟨Nat.le_refl _, Nat.le_refl _⟩ rfl (fun rh1 h1 hqh1 => ?_)
  obtain ⟨rfl, rfl⟩ := hqh1
  refine go_if_eq 13 (nx := 9) dX2_learn_6 rfl rfl (fun c6 => ?_) (fun c6 => ?_)
  · skip
    refine go_iconst (v := nI 1) (nx := 14) dX2_learn_13 (by decide) rfl ?_
    refine go_istore_n (lv' := [_, _, _, _]) (nx := 15) dX2_learn_14 rfl (by decide) rfl rfl ?_
    refine go_aload_n 1 (nx := 16) dX2_learn_15 rfl rfl rfl ?_
    refine go_iload_n 3 (nx := 17) dX2_learn_16 rfl rfl rfl ?_
    refine go_aload_n 1 (nx := 18) dX2_learn_17 rfl rfl rfl ?_
    refine go_gf (nx := 21) fg_X2_9 dX2_learn_18 (by omega) hN rfl rfl ?_
    refine go_iload_n 3 (nx := 22) dX2_learn_21 rfl rfl rfl ?_
    refine go_SNi (nx := 25) [_, _] kc_X2_27 (s_at_in (by omega) hkn (by omega) rfl hb) dX2_learn_22 rfl rfl (Nat.le_of_ble_eq_true rfl) (Nat.le_of_ble_eq_true rfl) ⟨Nat.le_refl _, Nat.le_refl _⟩ rfl (fun rh2 h2 hqh2 => ?_)
    obtain ⟨rfl, rfl⟩ := hqh2
    refine go_iconst (v := nI 1) (nx := 26) dX2_learn_25 (by decide) rfl ?_
    refine go_iload_n 2 (nx := 27) dX2_learn_26 rfl rfl rfl ?_
    refine go_ishl (nx := 28) dX2_learn_27 rfl ?_
    refine go_ior (nx := 29) dX2_learn_28 rfl ?_
    refine go_Vv (nx := 32) [_, _] kc_X2_31 ⟨_, _, rfl⟩ (by omega) hN (s_setKnowers (w := col ν.1 b ||| 2 ^ a) hq ⟨hN, hkn, hct, hsi, hcr⟩ rfl hb (by rw [hK b hb, i_set _ (col_lt _ _) a ha]) (by rw [col, bits_set _ ha]; exact bits_lt _)) dX2_learn_29 rfl rfl (Nat.le_of_ble_eq_true rfl) (Nat.le_of_ble_eq_true rfl) ⟨Nat.le_refl _, Nat.le_refl _⟩ rfl (fun h3 hqh3 => ?_)
    obtain ⟨hRh3, hFh3⟩ := hqh3
    obtain ⟨hN, hkn, hct, hsi, hcr⟩ := hRh3
    have hF := hF.tr hFh3
    refine go_aload_n 1 (nx := 33) dX2_learn_32 rfl rfl rfl ?_
    refine go_gf (nx := 36) fg_X2_18 dX2_learn_33 (by omega) hN rfl rfl ?_
    refine go_iload_n 2 (nx := 37) dX2_learn_36 rfl rfl rfl ?_
    refine go_bipush (v := nI 8) (nx := 39) dX2_learn_37 (by decide) rfl ?_
    refine go_imul (nx := 40) dX2_learn_39 rfl ?_
    refine go_iload_n 3 (nx := 41) dX2_learn_40 rfl rfl rfl ?_
    refine go_iadd (nx := 42) dX2_learn_41 rfl ?_
    refine go_aload_n 1 (nx := 43) dX2_learn_42 rfl rfl rfl ?_
    refine go_gf (nx := 46) fg_X2_43 dX2_learn_43 (by omega) hN rfl rfl ?_
    refine go_SNv (nx := 49) [_, _, _] kc_X2_53 (s_put (j := 8 * a + b) (by omega) hsi (by omega) (by rw [pk_mul, nI_add, Nat.mul_comm]) (by omega)) dX2_learn_46 rfl rfl (Nat.le_of_ble_eq_true rfl) (Nat.le_of_ble_eq_true rfl) ⟨Nat.le_refl _, Nat.le_refl _⟩ rfl (fun h4 hqh4 => ?_)
    obtain ⟨eh4, fh4⟩ := hqh4
    have hN := (fh4 (q) (by omega)).trans hN
    have hkn := (fh4 (q + 1) (by omega)).trans hkn
    have hct := (fh4 (q + 2) (by omega)).trans hct
    have hcr := (fh4 (q + 4) (by omega)).trans hcr
    have hsi := eh4
    have hF := hF.tr (fun j hj => fh4 j (by omega))
    refine go_iload_n 0 (nx := 50) dX2_learn_49 rfl rfl rfl ?_
    refine go_reti dX2_learn_50 ⟨_, rfl, rfl⟩ ?_
    refine ⟨by rw [(bI_eq0 _).mp c6]; rfl, ⟨_, _, _, _, ⟨hN, hkn, hct, hsi, hcr⟩, fun c hc => ?_, fun c hc => ?_, fun j hj => ?_, hR⟩, hF⟩
    · by_cases e : c = b
      · subst e; rw [pk_us]; exact congrArg nI (col_set ha).symm
      · rw [pk_un e, hK c hc]; exact congrArg nI (col_ne e).symm
    · by_cases e : c = b
      · subst e; rw [pk_us]; exact congrArg nI (by rw [show (mLearn ν a c).1 = kSet ν.1 a c from rfl, cnt_popc, col_set ha])
      · rw [pk_un e, hC c hc]; exact congrArg nI (cnt_ne e).symm
    · by_cases e : j = 8 * a + b
      · subst e; rw [pk_us]; exact pk_us.symm
      · rw [pk_un e, hS j hj]; exact (pk_un e).symm
  · skip
    refine go_iconst (v := nI 0) (nx := 10) dX2_learn_9 (by decide) rfl ?_
    refine go_goto 14 dX2_learn_10 rfl ?_
    refine go_istore_n (lv' := [_, _, _, _]) (nx := 15) dX2_learn_14 rfl (by decide) rfl rfl ?_
    refine go_aload_n 1 (nx := 16) dX2_learn_15 rfl rfl rfl ?_
    refine go_iload_n 3 (nx := 17) dX2_learn_16 rfl rfl rfl ?_
    refine go_aload_n 1 (nx := 18) dX2_learn_17 rfl rfl rfl ?_
    refine go_gf (nx := 21) fg_X2_9 dX2_learn_18 (by omega) hN rfl rfl ?_
    refine go_iload_n 3 (nx := 22) dX2_learn_21 rfl rfl rfl ?_
    refine go_SNi (nx := 25) [_, _] kc_X2_27 (s_at_in (by omega) hkn (by omega) rfl hb) dX2_learn_22 rfl rfl (Nat.le_of_ble_eq_true rfl) (Nat.le_of_ble_eq_true rfl) ⟨Nat.le_refl _, Nat.le_refl _⟩ rfl (fun rh2 h2 hqh2 => ?_)
    obtain ⟨rfl, rfl⟩ := hqh2
    refine go_iconst (v := nI 1) (nx := 26) dX2_learn_25 (by decide) rfl ?_
    refine go_iload_n 2 (nx := 27) dX2_learn_26 rfl rfl rfl ?_
    refine go_ishl (nx := 28) dX2_learn_27 rfl ?_
    refine go_ior (nx := 29) dX2_learn_28 rfl ?_
    refine go_Vv (nx := 32) [_, _] kc_X2_31 ⟨_, _, rfl⟩ (by omega) hN (s_setKnowers (w := col ν.1 b ||| 2 ^ a) hq ⟨hN, hkn, hct, hsi, hcr⟩ rfl hb (by rw [hK b hb, i_set _ (col_lt _ _) a ha]) (by rw [col, bits_set _ ha]; exact bits_lt _)) dX2_learn_29 rfl rfl (Nat.le_of_ble_eq_true rfl) (Nat.le_of_ble_eq_true rfl) ⟨Nat.le_refl _, Nat.le_refl _⟩ rfl (fun h3 hqh3 => ?_)
    obtain ⟨hRh3, hFh3⟩ := hqh3
    obtain ⟨hN, hkn, hct, hsi, hcr⟩ := hRh3
    have hF := hF.tr hFh3
    refine go_aload_n 1 (nx := 33) dX2_learn_32 rfl rfl rfl ?_
    refine go_gf (nx := 36) fg_X2_18 dX2_learn_33 (by omega) hN rfl rfl ?_
    refine go_iload_n 2 (nx := 37) dX2_learn_36 rfl rfl rfl ?_
    refine go_bipush (v := nI 8) (nx := 39) dX2_learn_37 (by decide) rfl ?_
    refine go_imul (nx := 40) dX2_learn_39 rfl ?_
    refine go_iload_n 3 (nx := 41) dX2_learn_40 rfl rfl rfl ?_
    refine go_iadd (nx := 42) dX2_learn_41 rfl ?_
    refine go_aload_n 1 (nx := 43) dX2_learn_42 rfl rfl rfl ?_
    refine go_gf (nx := 46) fg_X2_43 dX2_learn_43 (by omega) hN rfl rfl ?_
    refine go_SNv (nx := 49) [_, _, _] kc_X2_53 (s_put (j := 8 * a + b) (by omega) hsi (by omega) (by rw [pk_mul, nI_add, Nat.mul_comm]) (by omega)) dX2_learn_46 rfl rfl (Nat.le_of_ble_eq_true rfl) (Nat.le_of_ble_eq_true rfl) ⟨Nat.le_refl _, Nat.le_refl _⟩ rfl (fun h4 hqh4 => ?_)
    obtain ⟨eh4, fh4⟩ := hqh4
    have hN := (fh4 (q) (by omega)).trans hN
    have hkn := (fh4 (q + 1) (by omega)).trans hkn
    have hct := (fh4 (q + 2) (by omega)).trans hct
    have hcr := (fh4 (q + 4) (by omega)).trans hcr
    have hsi := eh4
    have hF := hF.tr (fun j hj => fh4 j (by omega))
    refine go_iload_n 0 (nx := 50) dX2_learn_49 rfl rfl rfl ?_
    refine go_reti dX2_learn_50 ⟨_, rfl, rfl⟩ ?_
    refine ⟨by rw [show ν.1 a b = true from by cases e : ν.1 a b; exact absurd ((bI_eq0 _).mpr e) c6; rfl]; rfl, ⟨_, _, _, _, ⟨hN, hkn, hct, hsi, hcr⟩, fun c hc => ?_, fun c hc => ?_, fun j hj => ?_, hR⟩, hF⟩
    · by_cases e : c = b
      · subst e; rw [pk_us]; exact congrArg nI (col_set ha).symm
      · rw [pk_un e, hK c hc]; exact congrArg nI (col_ne e).symm
    · by_cases e : c = b
      · subst e; rw [pk_us]; exact congrArg nI (by rw [show (mLearn ν a c).1 = kSet ν.1 a c from rfl, cnt_popc, col_set ha])
      · rw [pk_un e, hC c hc]; exact congrArg nI (cnt_ne e).symm
    · by_cases e : j = 8 * a + b
      · subst e; rw [pk_us]; exact pk_us.symm
      · rw [pk_un e, hS j hj]; exact (pk_un e).symm
