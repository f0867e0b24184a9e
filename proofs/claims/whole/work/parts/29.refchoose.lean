/-! the reference: who is chosen, who learns, a spring -/
theorem m_leastOf {G : kG} {n sz : Nat} {h : kH} {ν : mN} {T : mT} {tr : Int64} {F : Nat → Int32} {w : Nat} {x : Int32} (hn : 49 ≤ n) (HO : mO G F tr sz T h) (HS : oS G ν h) (hP : T.1 ≤ 8) (hv : wK T.1 ν.1) (hx : x = nI w) (hw : w < 256) : Spi G mX7_leastOf 1 [.ref (kb G + 37), .int x] n h (fun v h' => v = hab (lf (cnt ν.1) w.testBit T.1) ∧ h' = h) := by
  subst hx
  refine Spi.of (by decide) (Nat.le_of_ble_eq_true rfl) ?_
  refine go_bipush (v := (-9)) (nx := 2) dX7_leastOf_0 (by decide) rfl ?_
  refine go_istore_n (lv' := [_, _, _]) (nx := 3) dX7_leastOf_2 rfl (by decide) rfl rfl ?_
  refine go_iconst (v := nI 0) (nx := 4) dX7_leastOf_3 (by decide) rfl ?_
  refine go_istore_n (lv' := [_, _, _, _]) (nx := 5) dX7_leastOf_4 rfl (by decide) rfl rfl ?_
  refine Go.sub [0, 1, 2, 3] rfl ?_
  exact l_mleast hn HO HS hP hv hw (T.1 + 1) 0 none (by omega) (by omega) rfl
theorem hab_some {oo : Option Nat} {m : Nat} (h : oo ≠ none) : hab oo = nI (oo.getD m) := by
  cases oo with
  | none => exact absurd rfl h
  | some b => rfl
theorem hab_least {T : mT} {K : mK} (hP : T.1 ≤ 8) (hP0 : 0 < T.1) : hab (lf (cnt K) (allB T.1).testBit T.1) = nI (mLeast T K) := by
  rw [lf_ext (s2 := fun _ => true) (fun p hp => by rw [allB_bit hP (by omega)]; simp [hp])]
  obtain ⟨b, e, hb⟩ := lf_some (k := cnt K) hP0
  rw [mLeast, e]; rfl
theorem l_mjust {G : kG} {n sz : Nat} {h : kH} {ν : mN} {T : mT} {tr : Int64} {F : Nat → Int32} {all : Int32} (hn : 49 ≤ n) (HO : mO G F tr sz T h) (HS : oS G ν h) (hw : wT T) (hv : wK T.1 ν.1) (hl : T.2.2.2.2.1 = 2) : ∀ (d p : Nat), T.1 - p < d → p ≤ T.1 → ff (fun p => cnt ν.1 p == T.2.2.2.2.2) p = none → Go G mX7_chosenNow (2, 0, 0) 57 [(3, .int (nI p)), (2, .int (nI (mLeast T ν.1))), (1, .int all), (0, .ref (kb G + 37))] [] (n, 0, 0) h (kQi mX7_chosenNow n (fun v h' => v = nI (mChoose T ν.1 ν.2.2.1) ∧ h' = h)) := by
  intro d
  have hM : h 37 = .inr (7, [.int (F 0), .long tr, .ref (kb G + 38), .int (nI sz), .int (F 4), .int (F 5), .int (F 6), .int (F 7), .int (F 8), .ref (kb G + 39), .ref (kb G + 40), .int (nI T.1), .int (F 12), .int (nI T.2.2.2.1), .int (F 14), .int (nI T.2.2.2.2.1), .int (F 16), .int (nI T.2.2.2.2.2), .int (F 18), .int (F 19), .int (F 20), .ref (kb G + 41), .ref (kb G + 42), .ref (kb G + 43), .ref (kb G + 44), .ref (kb G + 45), .ref (kb G + 46), .ref (kb G + 47), .ref (kb G + 48)]) := HO
  have hP := hw.1
  have hj := hw.2.2.2.2.2
  induction d with
  | zero => intro p hd; omega
  | succ d ih =>
    intro p hd hp ho
    refine go_iload_n 0 (nx := 58) dX7_chosenNow_57 rfl rfl rfl ?_
    refine go_aload_n 3 (nx := 59) dX7_chosenNow_58 rfl rfl rfl ?_
    refine go_gf (nx := 62) fg_X7_137 dX7_chosenNow_59 (by omega) hM rfl rfl ?_
    refine go_icmp_ge 85 (nx := 65) dX7_chosenNow_62 rfl rfl (fun c62 => ?_) (fun c62 => ?_)
    · skip
      refine go_aload_n 3 (nx := 86) dX7_chosenNow_85 rfl rfl rfl ?_
      refine go_gf (nx := 89) fg_X7_143 dX7_chosenNow_86 (by omega) hM rfl rfl ?_
      refine go_iconst (v := nI 3) (nx := 90) dX7_chosenNow_89 (by decide) rfl ?_
      refine go_icmp_ne 151 (nx := 93) dX7_chosenNow_90 rfl rfl (fun c90 => ?_) (fun c90 => False.elim (absurd c90 (by rw [hl]; decide)))
      refine go_iload_n 1 (nx := 152) dX7_chosenNow_151 rfl rfl rfl ?_
      refine go_reti dX7_chosenNow_152 ⟨_, rfl, rfl⟩ ?_
      have e8 : p = T.1 := by have := kle c62; omega
      subst e8
      unfold mChoose
      rw [if_neg (by omega), if_pos hl, ho]
      exact ⟨rfl, rfl⟩
    · skip
      have h8 := knle c62
      refine go_aload_n 3 (nx := 66) dX7_chosenNow_65 rfl rfl rfl ?_
      refine go_iload_n 0 (nx := 67) dX7_chosenNow_66 rfl rfl rfl ?_
      refine go_Vi (nx := 70) [_] kc_X7_158 ⟨_, _, rfl⟩ (by omega) hM (m_countOf hn HO HS hP hv rfl (by have := knle c62; omega)) dX7_chosenNow_67 rfl rfl (Nat.le_of_ble_eq_true rfl) (Nat.le_of_ble_eq_true rfl) ⟨Nat.le_refl _, Nat.le_refl _⟩ rfl (fun rh1 h1 hqh1 => ?_)
      obtain ⟨rfl, rfl⟩ := hqh1
      refine go_aload_n 3 (nx := 71) dX7_chosenNow_70 rfl rfl rfl ?_
      refine go_gf (nx := 74) fg_X7_44 dX7_chosenNow_71 (by omega) hM rfl rfl ?_
      refine go_icmp_ne 79 (nx := 77) dX7_chosenNow_74 rfl rfl (fun c74 => ?_) (fun c74 => ?_)
      · skip
        refine go_iinc 0 (v := nI (p + 1)) (lv' := [_, _, _, _]) (nx := 82) dX7_chosenNow_79 rfl (nI_inc p) (by decide) rfl rfl ?_
        refine go_goto 57 dX7_chosenNow_82 rfl ?_
        refine Go.sub [0, 1, 2, 3] rfl ?_
        exact ih (p + 1) (by omega) (by omega) (by simp only [ff, ho]; rw [if_neg]; have := cnt_lt hv p (by omega); simp; intro e; exact c74 (by rw [e]))
      · skip
        refine go_iload_n 0 (nx := 78) dX7_chosenNow_77 rfl rfl rfl ?_
        refine go_reti dX7_chosenNow_78 ⟨_, rfl, rfl⟩ ?_
        refine ⟨?_, rfl⟩
        have e : (cnt ν.1 p == T.2.2.2.2.2) = true := by have := cnt_lt hv p (by omega); simp; exact keq c74
        unfold mChoose
        rw [if_neg (by omega), if_pos hl, ff_at h8 ho e]
        rfl
theorem nI_or0 (w : Nat) : nI w ||| nI 0 = nI w := by
  apply Int32.toBitVec_inj.mp
  simp [nI]
theorem l_mnever {G : kG} {n sz : Nat} {h : kH} {ν : mN} {T : mT} {tr : Int64} {F : Nat → Int32} {all : Int32} (hn : 49 ≤ n) (HO : mO G F tr sz T h) (HS : oS G ν h) (hw : wT T) (hv : wN T.1 ν) (hl : T.2.2.2.2.1 = 3) (hy : ν.2.2.2.1 < 2 ^ 31) : ∀ (d p : Nat), T.1 - p < d → p ≤ T.1 → Go G mX7_chosenNow (2, 0, 0) 98 [(4, .int (nI p)), (3, .int (nI (bitsOf fun i => decide (i < p) && (ν.2.2.1 i == 0)))), (2, .int (nI (mLeast T ν.1))), (1, .int all), (0, .ref (kb G + 37))] [] (n, 0, 0) h (kQi mX7_chosenNow n (fun v h' => v = nI (mChoose T ν.1 ν.2.2.1) ∧ h' = h)) := by
  intro d
  have hM : h 37 = .inr (7, [.int (F 0), .long tr, .ref (kb G + 38), .int (nI sz), .int (F 4), .int (F 5), .int (F 6), .int (F 7), .int (F 8), .ref (kb G + 39), .ref (kb G + 40), .int (nI T.1), .int (F 12), .int (nI T.2.2.2.1), .int (F 14), .int (nI T.2.2.2.2.1), .int (F 16), .int (nI T.2.2.2.2.2), .int (F 18), .int (F 19), .int (F 20), .ref (kb G + 41), .ref (kb G + 42), .ref (kb G + 43), .ref (kb G + 44), .ref (kb G + 45), .ref (kb G + 46), .ref (kb G + 47), .ref (kb G + 48)]) := HO
  obtain ⟨sa, hs, hs1, hs2, hs3, hs4, hs5⟩ := id HS
  have hP := hw.1
  induction d with
  | zero => intro p hd; omega
  | succ d ih =>
    intro p hd hp
    refine go_iload 0 (nx := 100) dX7_chosenNow_98 rfl rfl ?_
    refine go_aload_n 4 (nx := 101) dX7_chosenNow_100 rfl rfl rfl ?_
    refine go_gf (nx := 104) fg_X7_137 dX7_chosenNow_101 (by omega) hM rfl rfl ?_
    refine go_icmp_ge 137 (nx := 107) dX7_chosenNow_104 rfl rfl (fun c104 => ?_) (fun c104 => ?_)
    · skip
      have e8 : p = T.1 := by have := kle c104; omega
      subst e8
      have hb : ∀ p, p < 8 → (bitsOf (fun i => decide (i < T.1) && (ν.2.2.1 i == 0))).testBit p = (decide (p < T.1) && (ν.2.2.1 p == 0)) := fun p hp => bits_test _ hp
      refine go_iload_n 1 (nx := 138) dX7_chosenNow_137 rfl rfl rfl ?_
      refine go_if_ne 145 (nx := 141) dX7_chosenNow_138 rfl rfl (fun c138 => ?_) (fun c138 => ?_)
      · skip
        refine go_aload_n 4 (nx := 146) dX7_chosenNow_145 rfl rfl rfl ?_
        refine go_iload_n 1 (nx := 147) dX7_chosenNow_146 rfl rfl rfl ?_
        refine go_Vi (nx := 150) [_] kc_X7_164 ⟨_, _, rfl⟩ (by omega) hM (m_leastOf hn HO HS hP hv.1 rfl (bits_lt _)) dX7_chosenNow_147 rfl rfl (Nat.le_of_ble_eq_true rfl) (Nat.le_of_ble_eq_true rfl) ⟨Nat.le_refl _, Nat.le_refl _⟩ rfl (fun rh1 h1 hqh1 => ?_)
        obtain ⟨rfl, rfl⟩ := hqh1
        refine go_reti dX7_chosenNow_150 ⟨_, rfl, rfl⟩ ?_
        refine ⟨?_, rfl⟩
        unfold mChoose
        rw [if_neg (by omega), if_neg (by omega), if_pos hl, lf_ext (s2 := fun i => ν.2.2.1 i == 0) (fun p hp => by rw [hb p (by omega)]; simp [hp])]
        refine hab_some fun e => c138 ?_
        refine congrArg nI (bits_zero.mpr fun i hi => ?_)
        by_cases hi2 : i < T.1
        · rw [lf_none.mp e i hi2]; simp
        · simp [hi2]
      · skip
        refine go_iload_n 2 (nx := 142) dX7_chosenNow_141 rfl rfl rfl ?_
        refine go_goto 150 dX7_chosenNow_142 rfl ?_
        refine go_reti dX7_chosenNow_150 ⟨_, rfl, rfl⟩ ?_
        refine ⟨?_, rfl⟩
        unfold mChoose
        rw [if_neg (by omega), if_neg (by omega), if_pos hl]
        exact congrArg nI (pick_none hP (bits_lt _) hb c138).symm
    · skip
      have h8 := knle c104
      refine go_iload_n 1 (nx := 108) dX7_chosenNow_107 rfl rfl rfl ?_
      refine go_aload_n 4 (nx := 109) dX7_chosenNow_108 rfl rfl rfl ?_
      refine go_gf (nx := 112) fg_X7_19 dX7_chosenNow_109 (by omega) hM rfl rfl ?_
      refine go_bipush (v := nI 73) (nx := 114) dX7_chosenNow_112 (by decide) rfl ?_
      refine go_iload 0 (nx := 116) dX7_chosenNow_114 rfl rfl ?_
      refine go_iadd (nx := 117) dX7_chosenNow_116 rfl ?_
      refine go_ial (73 + p) (nx := 118) dX7_chosenNow_117 (by omega) hs (by rw [nI_add]) (by have := knle c104; omega) (by omega) rfl ?_
      rw [hs4 p (by omega)]
      refine go_if_ne 128 (nx := 121) dX7_chosenNow_118 rfl rfl (fun c118 => ?_) (fun c118 => ?_)
      · skip
        refine go_iconst (v := nI 0) (nx := 129) dX7_chosenNow_128 (by decide) rfl ?_
        refine go_ior (nx := 130) dX7_chosenNow_129 rfl ?_
        rw [show nI (bitsOf fun i => decide (i < p) && (ν.2.2.1 i == 0)) ||| nI 0 = nI (bitsOf fun i => decide (i < p + 1) && (ν.2.2.1 i == 0)) from by
          rw [nI_or0]
          refine congrArg nI (bits_ext fun i _ => ?_)
          by_cases e : i = p
          · subst e
            have z : ¬ ν.2.2.1 i = 0 := fun z => c118 (by rw [z]; rfl)
            simp [z]
          · rw [show decide (i < p + 1) = decide (i < p) by simp; omega]]
        refine go_istore_n (lv' := [_, _, _, _, _]) (nx := 131) dX7_chosenNow_130 rfl (by decide) rfl rfl ?_
        refine go_iinc 1 (v := nI (p + 1)) (lv' := [_, _, _, _, _]) (nx := 134) dX7_chosenNow_131 rfl (nI_inc p) (by decide) rfl rfl ?_
        refine go_goto 98 dX7_chosenNow_134 rfl ?_
        refine Go.sub [0, 1, 2, 3, 4] rfl ?_
        exact ih (p + 1) (by omega) (by omega)
      · skip
        refine go_iconst (v := nI 1) (nx := 122) dX7_chosenNow_121 (by decide) rfl ?_
        refine go_iload 0 (nx := 124) dX7_chosenNow_122 rfl rfl ?_
        refine go_ishl (nx := 125) dX7_chosenNow_124 rfl ?_
        refine go_goto 129 dX7_chosenNow_125 rfl ?_
        refine go_ior (nx := 130) dX7_chosenNow_129 rfl ?_
        rw [i_set _ (bits_lt _) p (by omega), bits_set _ (by omega), show (bitsOf fun i => decide (i < p) && (ν.2.2.1 i == 0) || i == p) = (bitsOf fun i => decide (i < p + 1) && (ν.2.2.1 i == 0)) from by
          refine bits_ext fun i _ => ?_
          by_cases e : i = p
          · subst e
            have z : ν.2.2.1 i = 0 := keq (b := 0) c118 (by have := hv.2.2.1 i; omega) (by decide)
            simp [z]
          · rw [show decide (i < p + 1) = decide (i < p) by simp; omega]
            simp [e]]
        refine go_istore_n (lv' := [_, _, _, _, _]) (nx := 131) dX7_chosenNow_130 rfl (by decide) rfl rfl ?_
        refine go_iinc 1 (v := nI (p + 1)) (lv' := [_, _, _, _, _]) (nx := 134) dX7_chosenNow_131 rfl (nI_inc p) (by decide) rfl rfl ?_
        refine go_goto 98 dX7_chosenNow_134 rfl ?_
        refine Go.sub [0, 1, 2, 3, 4] rfl ?_
        exact ih (p + 1) (by omega) (by omega)
theorem m_chosenNow {G : kG} {n sz : Nat} {h : kH} {ν : mN} {T : mT} {tr : Int64} {F : Nat → Int32} (hn : 49 ≤ n) (HO : mO G F tr sz T h) (HS : oS G ν h) (hw : wT T) (hv : wN T.1 ν) (hP0 : 0 < T.1) (hy : ν.2.2.2.1 < 2 ^ 31) : Spi G mX7_chosenNow 2 [.ref (kb G + 37)] n h (fun v h' => v = nI (mChoose T ν.1 ν.2.2.1) ∧ h' = h) := by
  have hM : h 37 = .inr (7, [.int (F 0), .long tr, .ref (kb G + 38), .int (nI sz), .int (F 4), .int (F 5), .int (F 6), .int (F 7), .int (F 8), .ref (kb G + 39), .ref (kb G + 40), .int (nI T.1), .int (F 12), .int (nI T.2.2.2.1), .int (F 14), .int (nI T.2.2.2.2.1), .int (F 16), .int (nI T.2.2.2.2.2), .int (F 18), .int (F 19), .int (F 20), .ref (kb G + 41), .ref (kb G + 42), .ref (kb G + 43), .ref (kb G + 44), .ref (kb G + 45), .ref (kb G + 46), .ref (kb G + 47), .ref (kb G + 48)]) := HO
  have hP := hw.1
  have hl3 := hw.2.2.2.2.1
  have hall := allB_lt hP
  have hL := mLeast_lt (K := ν.1) hP0
  have hwo : allB T.1 &&& (255 - 2 ^ mLeast T ν.1) < 256 := by rw [clr_key _ hall _ (by omega)]; exact bits_lt _
  have hso : ∀ p, p < 8 → (allB T.1 &&& (255 - 2 ^ mLeast T ν.1)).testBit p = (decide (p < T.1) && !(p == mLeast T ν.1)) := fun p hp => by rw [clr_key _ hall _ (by omega), bits_test _ hp, allB_bit hP hp]
  refine Spi.of (by decide) (Nat.le_of_ble_eq_true rfl) ?_
  refine go_iconst (v := nI 1) (nx := 1) dX7_chosenNow_0 (by decide) rfl ?_
  refine go_aload_n 0 (nx := 2) dX7_chosenNow_1 rfl rfl rfl ?_
  refine go_gf (nx := 5) fg_X7_137 dX7_chosenNow_2 (by omega) hM rfl rfl ?_
  refine go_ishl (nx := 6) dX7_chosenNow_5 rfl ?_
  refine go_iconst (v := nI 1) (nx := 7) dX7_chosenNow_6 (by decide) rfl ?_
  refine go_isub (nx := 8) dX7_chosenNow_7 rfl ?_
  rw [allB_I hP]
  refine go_istore_n (lv' := [_, _]) (nx := 9) dX7_chosenNow_8 rfl (by decide) rfl rfl ?_
  refine go_aload_n 1 (nx := 10) dX7_chosenNow_9 rfl rfl rfl ?_
  refine go_iload_n 0 (nx := 11) dX7_chosenNow_10 rfl rfl rfl ?_
  refine go_Vi (nx := 14) [_] kc_X7_164 ⟨_, _, rfl⟩ (by omega) hM (m_leastOf hn HO HS hP hv.1 rfl hall) dX7_chosenNow_11 rfl rfl (Nat.le_of_ble_eq_true rfl) (Nat.le_of_ble_eq_true rfl) ⟨Nat.le_refl _, Nat.le_refl _⟩ rfl (fun rh1 h1 hqh1 => ?_)
  obtain ⟨rfl, rfl⟩ := hqh1
  rw [hab_least hP hP0]
  refine go_istore_n (lv' := [_, _, _]) (nx := 15) dX7_chosenNow_14 rfl (by decide) rfl rfl ?_
  refine go_aload_n 2 (nx := 16) dX7_chosenNow_15 rfl rfl rfl ?_
  refine go_gf (nx := 19) fg_X7_143 dX7_chosenNow_16 (by omega) hM rfl rfl ?_
  refine go_iconst (v := nI 1) (nx := 20) dX7_chosenNow_19 (by decide) rfl ?_
  refine go_icmp_ne 47 (nx := 23) dX7_chosenNow_20 rfl rfl (fun c20 => ?_) (fun c20 => ?_)
  · skip
    refine go_aload_n 2 (nx := 48) dX7_chosenNow_47 rfl rfl rfl ?_
    refine go_gf (nx := 51) fg_X7_143 dX7_chosenNow_48 (by omega) hM rfl rfl ?_
    refine go_iconst (v := nI 2) (nx := 52) dX7_chosenNow_51 (by decide) rfl ?_
    refine go_icmp_ne 85 (nx := 55) dX7_chosenNow_52 rfl rfl (fun c52 => ?_) (fun c52 => ?_)
    · skip
      refine go_aload_n 2 (nx := 86) dX7_chosenNow_85 rfl rfl rfl ?_
      refine go_gf (nx := 89) fg_X7_143 dX7_chosenNow_86 (by omega) hM rfl rfl ?_
      refine go_iconst (v := nI 3) (nx := 90) dX7_chosenNow_89 (by decide) rfl ?_
      refine go_icmp_ne 151 (nx := 93) dX7_chosenNow_90 rfl rfl (fun c90 => ?_) (fun c90 => ?_)
      · skip
        refine go_iload_n 0 (nx := 152) dX7_chosenNow_151 rfl rfl rfl ?_
        refine go_reti dX7_chosenNow_152 ⟨_, rfl, rfl⟩ ?_
        refine ⟨?_, rfl⟩
        unfold mChoose
        rw [if_neg (fun q => c20 (by rw [q])), if_neg (fun q => c52 (by rw [q])), if_neg (fun q => c90 (by rw [q]))]
      · skip
        refine go_iconst (v := nI 0) (nx := 94) dX7_chosenNow_93 (by decide) rfl ?_
        refine go_istore_n (lv' := [_, _, _, _]) (nx := 95) dX7_chosenNow_94 rfl (by decide) rfl rfl ?_
        refine go_iconst (v := nI 0) (nx := 96) dX7_chosenNow_95 (by decide) rfl ?_
        refine go_istore (lv' := [_, _, _, _, _]) (nx := 98) dX7_chosenNow_96 (by decide) rfl rfl ?_
        refine Go.sub [0, 1, 2, 3, 4] rfl ?_
        exact l_mnever hn HO HS hw hv (keq c90) hy (T.1 + 1) 0 (by omega) (by omega)
    · skip
      refine go_iconst (v := nI 0) (nx := 56) dX7_chosenNow_55 (by decide) rfl ?_
      refine go_istore_n (lv' := [_, _, _, _]) (nx := 57) dX7_chosenNow_56 rfl (by decide) rfl rfl ?_
      refine Go.sub [0, 1, 2, 3] rfl ?_
      exact l_mjust hn HO HS hw hv.1 (keq c52) (T.1 + 1) 0 (by omega) (by omega) rfl
  · skip
    refine go_aload_n 2 (nx := 24) dX7_chosenNow_23 rfl rfl rfl ?_
    refine go_gf (nx := 27) fg_X7_137 dX7_chosenNow_24 (by omega) hM rfl rfl ?_
    refine go_iconst (v := nI 1) (nx := 28) dX7_chosenNow_27 (by decide) rfl ?_
    refine go_icmp_ne 35 (nx := 31) dX7_chosenNow_28 rfl rfl (fun c28 => ?_) (fun c28 => ?_)
    · skip
      refine go_aload_n 2 (nx := 36) dX7_chosenNow_35 rfl rfl rfl ?_
      refine go_iload_n 1 (nx := 37) dX7_chosenNow_36 rfl rfl rfl ?_
      refine go_iconst (v := nI 1) (nx := 38) dX7_chosenNow_37 (by decide) rfl ?_
      refine go_iload_n 0 (nx := 39) dX7_chosenNow_38 rfl rfl rfl ?_
      refine go_ishl (nx := 40) dX7_chosenNow_39 rfl ?_
      refine go_iconst (v := (-1)) (nx := 41) dX7_chosenNow_40 (by decide) rfl ?_
      refine go_ixor (nx := 42) dX7_chosenNow_41 rfl ?_
      refine go_iand (nx := 43) dX7_chosenNow_42 rfl ?_
      rw [i_clr _ hall _ (by omega)]
      refine go_Vi (nx := 46) [_] kc_X7_164 ⟨_, _, rfl⟩ (by omega) hM (m_leastOf hn HO HS hP hv.1 rfl hwo) dX7_chosenNow_43 rfl rfl (Nat.le_of_ble_eq_true rfl) (Nat.le_of_ble_eq_true rfl) ⟨Nat.le_refl _, Nat.le_refl _⟩ rfl (fun rh2 h2 hqh2 => ?_)
      obtain ⟨rfl, rfl⟩ := hqh2
      refine go_reti dX7_chosenNow_46 ⟨_, rfl, rfl⟩ ?_
      refine ⟨?_, rfl⟩
      have h1 : T.2.2.2.2.1 = 1 := keq c20
      have hP1 : ¬ T.1 = 1 := fun q => c28 (by rw [q])
      unfold mChoose
      rw [if_pos h1, lf_ext (s2 := fun p => !(p == mLeast T ν.1)) (fun p hp => by rw [hso p (by omega)]; simp [hp])]
      refine hab_some fun e => ?_
      have z := lf_none.mp e
      rcases Nat.eq_zero_or_pos (mLeast T ν.1) with q | q
      · have := z 1 (by omega); rw [q] at this; exact absurd this (by decide)
      · have := z 0 hP0; simp at this; omega
    · skip
      refine go_iload_n 0 (nx := 32) dX7_chosenNow_31 rfl rfl rfl ?_
      refine go_goto 46 dX7_chosenNow_32 rfl ?_
      refine go_reti dX7_chosenNow_46 ⟨_, rfl, rfl⟩ ?_
      refine ⟨?_, rfl⟩
      have h1 : T.2.2.2.2.1 = 1 := keq c20
      have hP1 : T.1 = 1 := keq c28
      unfold mChoose
      rw [if_pos h1, lf_none.mpr (fun p hp => by simp; omega)]
      rfl
theorem m_learns {G : kG} {n sz : Nat} {h : kH} {ν : mN} {T : mT} {tr : Int64} {F : Nat → Int32} {a b : Nat} {x y : Int32} (hn : 49 ≤ n) (HO : mO G F tr sz T h) (HS : oS G ν h) (hx : x = nI a) (ha : a < 8) (hy : y = nI b) (hb : b < 8) : Spi G mX7_learns 1 [.ref (kb G + 37), .int x, .int y] n h (fun v h' => v = bI (!ν.1 a b) ∧ oS G (mLearn ν a b) h' ∧ kFr 41 42 h h') := by
  subst hx hy
  have hM : h 37 = .inr (7, [.int (F 0), .long tr, .ref (kb G + 38), .int (nI sz), .int (F 4), .int (F 5), .int (F 6), .int (F 7), .int (F 8), .ref (kb G + 39), .ref (kb G + 40), .int (nI T.1), .int (F 12), .int (nI T.2.2.2.1), .int (F 14), .int (nI T.2.2.2.2.1), .int (F 16), .int (nI T.2.2.2.2.2), .int (F 18), .int (F 19), .int (F 20), .ref (kb G + 41), .ref (kb G + 42), .ref (kb G + 43), .ref (kb G + 44), .ref (kb G + 45), .ref (kb G + 46), .ref (kb G + 47), .ref (kb G + 48)]) := HO
  obtain ⟨sa, hs, hs1, hs2, hs3, hs4, hs5⟩ := id HS
  have hF : kFr 41 42 h h := kFr.rf
  refine Spi.of (by decide) (Nat.le_of_ble_eq_true rfl) ?_
  refine go_aload_n 0 (nx := 1) dX7_learns_0 rfl rfl rfl ?_
  refine go_iload_n 1 (nx := 2) dX7_learns_1 rfl rfl rfl ?_
  refine go_iload_n 2 (nx := 3) dX7_learns_2 rfl rfl rfl ?_
  refine go_Vi (nx := 6) [_, _] kc_X7_154 ⟨_, _, rfl⟩ (by omega) hM (m_isKnown hn HO HS rfl ha rfl hb) dX7_learns_3 rfl rfl (Nat.le_of_ble_eq_true rfl) (Nat.le_of_ble_eq_true rfl) ⟨Nat.le_refl _, Nat.le_refl _⟩ rfl (fun rh1 h1 hqh1 => ?_)
  obtain ⟨rfl, rfl⟩ := hqh1
  refine go_if_eq 13 (nx := 9) dX7_learns_6 rfl rfl (fun c6 => ?_) (fun c6 => ?_)
  · skip
    refine go_iconst (v := nI 1) (nx := 14) dX7_learns_13 (by decide) rfl ?_
    refine go_istore_n (lv' := [_, _, _, _]) (nx := 15) dX7_learns_14 rfl (by decide) rfl rfl ?_
    refine go_aload_n 1 (nx := 16) dX7_learns_15 rfl rfl rfl ?_
    refine go_gf (nx := 19) fg_X7_19 dX7_learns_16 (by omega) hM rfl rfl ?_
    refine go_iload_n 2 (nx := 20) dX7_learns_19 rfl rfl rfl ?_
    refine go_dup2_11 (nx := 21) dX7_learns_20 rfl rfl rfl ?_
    refine go_ial (a) (nx := 22) dX7_learns_21 (by omega) hs rfl (by omega) (by omega) rfl ?_
    rw [hs1 a ha]
    refine go_iconst (v := nI 1) (nx := 23) dX7_learns_22 (by decide) rfl ?_
    refine go_iload_n 3 (nx := 24) dX7_learns_23 rfl rfl rfl ?_
    refine go_ishl (nx := 25) dX7_learns_24 rfl ?_
    refine go_ior (nx := 26) dX7_learns_25 rfl ?_
    rw [i_set _ (row_lt _ _) b hb]
    refine go_ias (a) (nx := 27) dX7_learns_26 (by omega) hs rfl (by omega) (by omega) rfl (fun h2 eh2 fh2 => ?_)
    have hM := (fh2 (37) (by omega)).trans hM
    have hs := eh2
    have hF := hF.tr (fun j hj => fh2 j (by omega))
    refine go_aload_n 1 (nx := 28) dX7_learns_27 rfl rfl rfl ?_
    refine go_gf (nx := 31) fg_X7_19 dX7_learns_28 (by omega) hM rfl rfl ?_
    refine go_bipush (v := nI 8) (nx := 33) dX7_learns_31 (by decide) rfl ?_
    refine go_bipush (v := nI 8) (nx := 35) dX7_learns_33 (by decide) rfl ?_
    refine go_iload_n 2 (nx := 36) dX7_learns_35 rfl rfl rfl ?_
    refine go_imul (nx := 37) dX7_learns_36 rfl ?_
    refine go_iadd (nx := 38) dX7_learns_37 rfl ?_
    refine go_iload_n 3 (nx := 39) dX7_learns_38 rfl rfl rfl ?_
    refine go_iadd (nx := 40) dX7_learns_39 rfl ?_
    refine go_aload_n 1 (nx := 41) dX7_learns_40 rfl rfl rfl ?_
    refine go_gf (nx := 44) fg_X7_19 dX7_learns_41 (by omega) hM rfl rfl ?_
    refine go_bipush (v := nI 72) (nx := 46) dX7_learns_44 (by decide) rfl ?_
    refine go_ial (72) (nx := 47) dX7_learns_46 (by omega) hs rfl (by omega) (by omega) rfl ?_
    refine go_ias (8 + (8 * a + b)) (nx := 48) dX7_learns_47 (by omega) hs (by rw [pk_mul, nI_add, nI_add, Nat.add_assoc]) (by omega) (by omega) rfl (fun h3 eh3 fh3 => ?_)
    have hM := (fh3 (37) (by omega)).trans hM
    have hs := eh3
    have hF := hF.tr (fun j hj => fh3 j (by omega))
    refine go_iload_n 0 (nx := 49) dX7_learns_48 rfl rfl rfl ?_
    refine go_reti dX7_learns_49 ⟨_, rfl, rfl⟩ ?_
    refine ⟨by rw [tb0 c6]; rfl, ⟨_, hs, fun p hp => ?_, fun j hj => ?_, ?_, fun p hp => ?_, ?_⟩, hF⟩
    · rw [pk_un (by omega)]
      by_cases e : p = a
      · subst e; rw [pk_us]; exact congrArg nI (row_set hb).symm
      · rw [pk_un e, hs1 p hp]; exact congrArg nI (row_ne e).symm
    · by_cases e : j = 8 * a + b
      · subst e; rw [pk_us, pk_un (by omega), hs3]; exact pk_us.symm
      · rw [pk_un (by omega), pk_un (by omega), hs2 j hj]; exact (pk_un e).symm
    · rw [pk_un (by omega), pk_un (by omega)]; exact hs3
    · rw [pk_un (by omega), pk_un (by omega)]; exact hs4 p hp
    · rw [pk_un (by omega), pk_un (by omega)]; exact hs5
  · skip
    refine go_iconst (v := nI 0) (nx := 10) dX7_learns_9 (by decide) rfl ?_
    refine go_goto 14 dX7_learns_10 rfl ?_
    refine go_istore_n (lv' := [_, _, _, _]) (nx := 15) dX7_learns_14 rfl (by decide) rfl rfl ?_
    refine go_aload_n 1 (nx := 16) dX7_learns_15 rfl rfl rfl ?_
    refine go_gf (nx := 19) fg_X7_19 dX7_learns_16 (by omega) hM rfl rfl ?_
    refine go_iload_n 2 (nx := 20) dX7_learns_19 rfl rfl rfl ?_
    refine go_dup2_11 (nx := 21) dX7_learns_20 rfl rfl rfl ?_
    refine go_ial (a) (nx := 22) dX7_learns_21 (by omega) hs rfl (by omega) (by omega) rfl ?_
    rw [hs1 a ha]
    refine go_iconst (v := nI 1) (nx := 23) dX7_learns_22 (by decide) rfl ?_
    refine go_iload_n 3 (nx := 24) dX7_learns_23 rfl rfl rfl ?_
    refine go_ishl (nx := 25) dX7_learns_24 rfl ?_
    refine go_ior (nx := 26) dX7_learns_25 rfl ?_
    rw [i_set _ (row_lt _ _) b hb]
    refine go_ias (a) (nx := 27) dX7_learns_26 (by omega) hs rfl (by omega) (by omega) rfl (fun h2 eh2 fh2 => ?_)
    have hM := (fh2 (37) (by omega)).trans hM
    have hs := eh2
    have hF := hF.tr (fun j hj => fh2 j (by omega))
    refine go_aload_n 1 (nx := 28) dX7_learns_27 rfl rfl rfl ?_
    refine go_gf (nx := 31) fg_X7_19 dX7_learns_28 (by omega) hM rfl rfl ?_
    refine go_bipush (v := nI 8) (nx := 33) dX7_learns_31 (by decide) rfl ?_
    refine go_bipush (v := nI 8) (nx := 35) dX7_learns_33 (by decide) rfl ?_
    refine go_iload_n 2 (nx := 36) dX7_learns_35 rfl rfl rfl ?_
    refine go_imul (nx := 37) dX7_learns_36 rfl ?_
    refine go_iadd (nx := 38) dX7_learns_37 rfl ?_
    refine go_iload_n 3 (nx := 39) dX7_learns_38 rfl rfl rfl ?_
    refine go_iadd (nx := 40) dX7_learns_39 rfl ?_
    refine go_aload_n 1 (nx := 41) dX7_learns_40 rfl rfl rfl ?_
    refine go_gf (nx := 44) fg_X7_19 dX7_learns_41 (by omega) hM rfl rfl ?_
    refine go_bipush (v := nI 72) (nx := 46) dX7_learns_44 (by decide) rfl ?_
    refine go_ial (72) (nx := 47) dX7_learns_46 (by omega) hs rfl (by omega) (by omega) rfl ?_
    refine go_ias (8 + (8 * a + b)) (nx := 48) dX7_learns_47 (by omega) hs (by rw [pk_mul, nI_add, nI_add, Nat.add_assoc]) (by omega) (by omega) rfl (fun h3 eh3 fh3 => ?_)
    have hM := (fh3 (37) (by omega)).trans hM
    have hs := eh3
    have hF := hF.tr (fun j hj => fh3 j (by omega))
    refine go_iload_n 0 (nx := 49) dX7_learns_48 rfl rfl rfl ?_
    refine go_reti dX7_learns_49 ⟨_, rfl, rfl⟩ ?_
    refine ⟨by rw [tbn0 c6]; rfl, ⟨_, hs, fun p hp => ?_, fun j hj => ?_, ?_, fun p hp => ?_, ?_⟩, hF⟩
    · rw [pk_un (by omega)]
      by_cases e : p = a
      · subst e; rw [pk_us]; exact congrArg nI (row_set hb).symm
      · rw [pk_un e, hs1 p hp]; exact congrArg nI (row_ne e).symm
    · by_cases e : j = 8 * a + b
      · subst e; rw [pk_us, pk_un (by omega), hs3]; exact pk_us.symm
      · rw [pk_un (by omega), pk_un (by omega), hs2 j hj]; exact (pk_un e).symm
    · rw [pk_un (by omega), pk_un (by omega)]; exact hs3
    · rw [pk_un (by omega), pk_un (by omega)]; exact hs4 p hp
    · rw [pk_un (by omega), pk_un (by omega)]; exact hs5
theorem l_mall {G : kG} {n sz : Nat} {h : kH} {ν : mN} {T : mT} {tr : Int64} {F : Nat → Int32} (hn : 49 ≤ n) (HO : mO G F tr sz T h) (HS : oS G ν h) (hP : T.1 ≤ 8) (hv : wK T.1 ν.1) : ∀ (d b : Nat), T.1 - b < d → b ≤ T.1 → Go G mX7_countAll (1, 0, 0) 4 [(2, .int (nI b)), (1, .int (nI (sm (cnt ν.1) b))), (0, .ref (kb G + 37))] [] (n, 0, 0) h (kQi mX7_countAll n (fun v h' => v = nI (sm (cnt ν.1) T.1) ∧ h' = h)) := by
  intro d
  have hM : h 37 = .inr (7, [.int (F 0), .long tr, .ref (kb G + 38), .int (nI sz), .int (F 4), .int (F 5), .int (F 6), .int (F 7), .int (F 8), .ref (kb G + 39), .ref (kb G + 40), .int (nI T.1), .int (F 12), .int (nI T.2.2.2.1), .int (F 14), .int (nI T.2.2.2.2.1), .int (F 16), .int (nI T.2.2.2.2.2), .int (F 18), .int (F 19), .int (F 20), .ref (kb G + 41), .ref (kb G + 42), .ref (kb G + 43), .ref (kb G + 44), .ref (kb G + 45), .ref (kb G + 46), .ref (kb G + 47), .ref (kb G + 48)]) := HO
  induction d with
  | zero => intro b hd; omega
  | succ d ih =>
    intro b hd hb
    refine go_iload_n 0 (nx := 5) dX7_countAll_4 rfl rfl rfl ?_
    refine go_aload_n 2 (nx := 6) dX7_countAll_5 rfl rfl rfl ?_
    refine go_gf (nx := 9) fg_X7_137 dX7_countAll_6 (by omega) hM rfl rfl ?_
    refine go_icmp_ge 26 (nx := 12) dX7_countAll_9 rfl rfl (fun c9 => ?_) (fun c9 => ?_)
    · skip
      refine go_iload_n 1 (nx := 27) dX7_countAll_26 rfl rfl rfl ?_
      refine go_reti dX7_countAll_27 ⟨_, rfl, rfl⟩ ?_
      have e8 : b = T.1 := by have := kle c9; omega
      subst e8
      exact ⟨rfl, rfl⟩
    · skip
      have h8 := knle c9
      refine go_iload_n 1 (nx := 13) dX7_countAll_12 rfl rfl rfl ?_
      refine go_aload_n 2 (nx := 14) dX7_countAll_13 rfl rfl rfl ?_
      refine go_iload_n 0 (nx := 15) dX7_countAll_14 rfl rfl rfl ?_
      refine go_Vi (nx := 18) [_] kc_X7_158 ⟨_, _, rfl⟩ (by omega) hM (m_countOf hn HO HS hP hv rfl (by have := knle c9; omega)) dX7_countAll_15 rfl rfl (Nat.le_of_ble_eq_true rfl) (Nat.le_of_ble_eq_true rfl) ⟨Nat.le_refl _, Nat.le_refl _⟩ rfl (fun rh1 h1 hqh1 => ?_)
      obtain ⟨rfl, rfl⟩ := hqh1
      refine go_iadd (nx := 19) dX7_countAll_18 rfl ?_
      rw [nI_add]
      refine go_istore_n (lv' := [_, _, _]) (nx := 20) dX7_countAll_19 rfl (by decide) rfl rfl ?_
      refine go_iinc 1 (v := nI (b + 1)) (lv' := [_, _, _]) (nx := 23) dX7_countAll_20 rfl (nI_inc b) (by decide) rfl rfl ?_
      refine go_goto 4 dX7_countAll_23 rfl ?_
      refine Go.sub [0, 1, 2] rfl ?_
      exact ih (b + 1) (by omega) (by omega)
theorem sm_tail {f : Nat → Nat} {P : Nat} : ∀ {m : Nat}, P ≤ m → (∀ a, P ≤ a → f a = 0) → sm f m = sm f P
  | 0, hP, _ => by rw [show P = 0 by omega]
  | m + 1, hP, h => by
    by_cases e : P = m + 1
    · rw [e]
    · show sm f m + f m = _
      rw [h m (by omega), sm_tail (by omega) h]
      rfl
theorem sm_P {P : Nat} {K : mK} (hP : P ≤ 8) (hK : wK P K) : sm (cnt K) P = sm (cnt K) 8 := by
  refine (sm_tail hP fun a ha => ?_).symm
  rw [cnt_popc, show col K a = 0 from bits_zero.mpr fun i _ => by
    cases e : K i a
    · rfl
    · exact absurd (hK i a e).2.1 (by omega)]
  rfl
theorem m_countAll {G : kG} {n sz : Nat} {h : kH} {ν : mN} {T : mT} {tr : Int64} {F : Nat → Int32} (hn : 49 ≤ n) (HO : mO G F tr sz T h) (HS : oS G ν h) (hP : T.1 ≤ 8) (hv : wK T.1 ν.1) : Spi G mX7_countAll 1 [.ref (kb G + 37)] n h (fun v h' => v = nI (sm (cnt ν.1) 8) ∧ h' = h) := by
  rw [← sm_P hP hv]
  refine Spi.of (by decide) (Nat.le_of_ble_eq_true rfl) ?_
  refine go_iconst (v := nI 0) (nx := 1) dX7_countAll_0 (by decide) rfl ?_
  refine go_istore_n (lv' := [_, _]) (nx := 2) dX7_countAll_1 rfl (by decide) rfl rfl ?_
  refine go_iconst (v := nI 0) (nx := 3) dX7_countAll_2 (by decide) rfl ?_
  refine go_istore_n (lv' := [_, _, _]) (nx := 4) dX7_countAll_3 rfl (by decide) rfl rfl ?_
  refine Go.sub [0, 1, 2] rfl ?_
  exact l_mall hn HO HS hP hv (T.1 + 1) 0 (by omega) (by omega)
