theorem lf_mask {k : Nat → Nat} {s : Nat → Bool} {w P : Nat} (hP : P ≤ 8) (hs : ∀ p, p < 8 → w.testBit p = (decide (p < P) && s p)) : lf k w.testBit 8 = lf k s P := by
  rw [lf_tail hP (fun p h1 h2 => by rw [hs p h2]; simp; omega)]
  exact lf_ext fun p hp => by rw [hs p (by omega)]; simp [hp]
theorem pick_some {k : Nat → Nat} {s : Nat → Bool} {w P m : Nat} (hP : P ≤ 8) (hw : w < 256) (hs : ∀ p, p < 8 → w.testBit p = (decide (p < P) && s p)) (h0 : ¬ nI w = 0) : (lf k w.testBit 8).getD 0 = (lf k s P).getD m := by
  rw [← lf_mask hP hs]
  cases e : lf k w.testBit 8 with
  | some b => rfl
  | none =>
    refine absurd ?_ h0
    have h := bits_zero.mpr (lf_none.mp e)
    rw [bits_of w hw] at h
    rw [h]; rfl
theorem pick_none {k : Nat → Nat} {s : Nat → Bool} {w P m : Nat} (hP : P ≤ 8) (hw : w < 256) (hs : ∀ p, p < 8 → w.testBit p = (decide (p < P) && s p)) (h0 : nI w = 0) : (lf k s P).getD m = m := by
  rw [← lf_mask hP hs]
  have h1 : w = 0 := keq (b := 0) h0
  rw [lf_none.mpr (fun p hp => by rw [h1]; exact Nat.zero_testBit p)]
  rfl
theorem least_mask {k : Nat → Nat} {P : Nat} (hP : P ≤ 8) : lf k (allB P).testBit 8 = lf k (fun _ => true) P := lf_mask hP fun p hp => by rw [allB_bit hP hp]; simp
theorem lf_some {k : Nat → Nat} {P : Nat} (hP : 0 < P) : ∃ b, lf k (fun _ => true) P = some b ∧ b < P := by
  cases e : lf k (fun _ => true) P with
  | some b => exact ⟨b, rfl, (lf_lt e).1⟩
  | none => exact absurd (lf_none.mp e 0 hP) (by decide)
theorem mLeast_lt {T : mT} {K : mK} (hP : 0 < T.1) : mLeast T K < T.1 := by
  obtain ⟨b, e, hb⟩ := lf_some (k := cnt K) hP
  rw [mLeast, e]; exact hb
theorem ff_lt {s : Nat → Bool} : ∀ {m b : Nat}, ff s m = some b → b < m ∧ s b = true
  | 0, b, h => by cases h
  | m + 1, b, h => by
    simp only [ff] at h
    split at h
    · rename_i e
      cases h
      exact ⟨Nat.lt_succ_of_lt (ff_lt e).1, (ff_lt e).2⟩
    · split at h
      · rename_i hs
        cases h
        exact ⟨Nat.lt_succ_self _, hs⟩
      · cases h
theorem mChoose_lt {T : mT} {K : mK} {C : Nat → Nat} (hP : 0 < T.1) : mChoose T K C < T.1 := by
  have hL := mLeast_lt (K := K) hP
  have key : ∀ (s : Nat → Bool), (lf (cnt K) s T.1).getD (mLeast T K) < T.1 := fun s => by
    cases e : lf (cnt K) s T.1 with
    | some b => exact (lf_lt e).1
    | none => exact hL
  unfold mChoose
  split
  · exact key _
  · split
    · cases e : ff (fun p => cnt K p == T.2.2.2.2.2) T.1 with
      | some b => exact (ff_lt e).1
      | none => exact hL
    · split
      · exact key _
      · exact hL
theorem s_choose {G : kG} {n q t : Nat} {h : kH} {T : mT} {ν : mN} (hq : q + 5 ≤ n) (ht : t + 3 ≤ n) (HN : oNow G q ν h) (HT : oTown G t T h) (hw : wT T) (hv : wK T.1 ν.1) (hP : 0 < T.1) : Spi G mX5_choose 2 [.ref (kb G + t), .ref (kb G + q)] n h (fun v h' => v = nI (mChoose T ν.1 ν.2.2.1) ∧ h' = h) := by
  have HT' := HT
  obtain ⟨kn, ct, si, cr, ⟨hN, hkn, hct, hsi, hcr⟩, hK, hC, hS, hR⟩ := HN
  obtain ⟨tk, tc, ⟨hT, htk, htc⟩, hTk, hTc⟩ := HT
  have hP8 := hw.1
  have hk8 := cnt_lt hv
  have hall := allB_lt hP8
  have hL := mLeast_lt (K := ν.1) hP
  have hwo : allB T.1 &&& (255 - 2 ^ mLeast T ν.1) < 256 := by rw [clr_key _ hall _ (by omega)]; exact bits_lt _
  have hso : ∀ p, p < 8 → (allB T.1 &&& (255 - 2 ^ mLeast T ν.1)).testBit p = (decide (p < T.1) && !(p == mLeast T ν.1)) := fun p hp => by rw [clr_key _ hall _ (by omega), bits_test _ hp, allB_bit hP8 hp]
  have hsf : ∀ p, p < 8 → (bitsOf fun p => (allB T.1).testBit p && !(bitsOf fun p => !(ν.2.2.1 p == 0)).testBit p).testBit p = (decide (p < T.1) && (ν.2.2.1 p == 0)) := fun p hp => by rw [bits_test _ hp, allB_bit hP8 hp, bits_test _ hp]; simp
  refine Spi.of (by decide) (Nat.le_of_ble_eq_true rfl) ?_
  refine go_aload_n 0 (nx := 1) dX5_choose_0 rfl rfl rfl ?_
  refine go_Vi (nx := 4) [] kc_X5_46 ⟨_, _, rfl⟩ (by omega) hT (s_everyone ht HT' hw) dX5_choose_1 rfl rfl (Nat.le_of_ble_eq_true rfl) (Nat.le_of_ble_eq_true rfl) ⟨Nat.le_refl _, Nat.le_refl _⟩ rfl (fun rh1 h1 hqh1 => ?_)
  obtain ⟨rfl, rfl⟩ := hqh1
  refine go_istore_n (lv' := [_, _, _]) (nx := 5) dX5_choose_4 rfl (by decide) rfl rfl ?_
  refine go_aload_n 2 (nx := 6) dX5_choose_5 rfl rfl rfl ?_
  refine go_gf (nx := 9) fg_X5_50 dX5_choose_6 (by omega) hN rfl rfl ?_
  refine go_iload_n 0 (nx := 10) dX5_choose_9 rfl rfl rfl ?_
  refine go_Si (nx := 13) [_, _] kc_X5_55 (s_leastOf (k := cnt ν.1) (by omega) hct hC hk8 rfl hall) dX5_choose_10 rfl rfl (Nat.le_of_ble_eq_true rfl) (Nat.le_of_ble_eq_true rfl) ⟨Nat.le_refl _, Nat.le_refl _⟩ rfl (fun rh2 h2 hqh2 => ?_)
  obtain ⟨rfl, rfl⟩ := hqh2
  rw [least_mask hP8, show (lf (cnt ν.1) (fun _ => true) T.1).getD 0 = mLeast T ν.1 from rfl]
  refine go_istore_n (lv' := [_, _, _, _]) (nx := 14) dX5_choose_13 rfl (by decide) rfl rfl ?_
  refine go_iload_n 1 (nx := 15) dX5_choose_14 rfl rfl rfl ?_
  refine go_iconst (v := nI 1) (nx := 16) dX5_choose_15 (by decide) rfl ?_
  refine go_iload_n 0 (nx := 17) dX5_choose_16 rfl rfl rfl ?_
  refine go_ishl (nx := 18) dX5_choose_17 rfl ?_
  refine go_iconst (v := (-1)) (nx := 19) dX5_choose_18 (by decide) rfl ?_
  refine go_ixor (nx := 20) dX5_choose_19 rfl ?_
  refine go_iand (nx := 21) dX5_choose_20 rfl ?_
  rw [i_clr _ hall _ (by omega)]
  refine go_istore (lv' := [_, _, _, _, _]) (nx := 23) dX5_choose_21 (by decide) rfl rfl ?_
  refine go_iload_n 2 (nx := 24) dX5_choose_23 rfl rfl rfl ?_
  refine go_aload_n 4 (nx := 25) dX5_choose_24 rfl rfl rfl ?_
  refine go_gf (nx := 28) fg_X5_58 dX5_choose_25 (by omega) hN rfl rfl ?_
  refine go_iconst (v := (-1)) (nx := 29) dX5_choose_28 (by decide) rfl ?_
  refine go_ixor (nx := 30) dX5_choose_29 rfl ?_
  refine go_iand (nx := 31) dX5_choose_30 rfl ?_
  rw [i_less hall (bits_lt _)]
  refine go_istore (lv' := [_, _, _, _, _, _]) (nx := 33) dX5_choose_31 (by decide) rfl rfl ?_
  refine go_aload_n 4 (nx := 34) dX5_choose_33 rfl rfl rfl ?_
  refine go_gf (nx := 37) fg_X5_32 dX5_choose_34 (by omega) hT rfl rfl ?_
  rcases sw_1_3 (nI T.2.2.2.2.1) with hs37 | hs37 | hs37 | hs37
  · refine go_tableOut 112 dX5_choose_37 hs37 rfl ?_
    refine go_iload_n 2 (nx := 113) dX5_choose_112 rfl rfl rfl ?_
    refine go_reti dX5_choose_113 ⟨_, rfl, rfl⟩ ?_
    refine ⟨?_, rfl⟩
    have h0 := hs37
    rw [nI_toInt (by have := hw.2.2.2.2.1; omega)] at h0
    unfold mChoose
    rw [if_neg (by omega), if_neg (by have := hw.2.2.2.2.1; omega), if_neg (by have := hw.2.2.2.2.1; omega)]
  · refine go_tableIn 64 dX5_choose_37 (by rw [hs37]; decide) (by rw [hs37]; decide) (off := 27) (by rw [hs37]; rfl) rfl ?_
    refine go_iload 1 (nx := 66) dX5_choose_64 rfl rfl ?_
    refine go_if_ne 73 (nx := 69) dX5_choose_66 rfl rfl (fun c66 => ?_) (fun c66 => ?_)
    · skip
      refine go_aload_n 5 (nx := 74) dX5_choose_73 rfl rfl rfl ?_
      refine go_gf (nx := 77) fg_X5_50 dX5_choose_74 (by omega) hN rfl rfl ?_
      refine go_iload 1 (nx := 79) dX5_choose_77 rfl rfl ?_
      refine go_Si (nx := 82) [_, _] kc_X5_55 (s_leastOf (k := cnt ν.1) (by omega) hct hC hk8 rfl hwo) dX5_choose_79 rfl rfl (Nat.le_of_ble_eq_true rfl) (Nat.le_of_ble_eq_true rfl) ⟨Nat.le_refl _, Nat.le_refl _⟩ rfl (fun rh3 h3 hqh3 => ?_)
      obtain ⟨rfl, rfl⟩ := hqh3
      refine go_reti dX5_choose_82 ⟨_, rfl, rfl⟩ ?_
      refine ⟨?_, rfl⟩
      have h0 : T.2.2.2.2.1 = 1 := keq hs37 (by have := hw.2.2.2.2.1; omega)
      unfold mChoose
      rw [if_pos h0]
      exact congrArg nI (pick_some hP8 hwo hso c66)
    · skip
      refine go_iload_n 2 (nx := 70) dX5_choose_69 rfl rfl rfl ?_
      refine go_goto 82 dX5_choose_70 rfl ?_
      refine go_reti dX5_choose_82 ⟨_, rfl, rfl⟩ ?_
      refine ⟨?_, rfl⟩
      have h0 : T.2.2.2.2.1 = 1 := keq hs37 (by have := hw.2.2.2.2.1; omega)
      unfold mChoose
      rw [if_pos h0]
      exact congrArg nI (pick_none hP8 hwo hso c66).symm
  · refine go_tableIn 83 dX5_choose_37 (by rw [hs37]; decide) (by rw [hs37]; decide) (off := 46) (by rw [hs37]; rfl) rfl ?_
    refine go_aload_n 4 (nx := 84) dX5_choose_83 rfl rfl rfl ?_
    refine go_aload_n 5 (nx := 85) dX5_choose_84 rfl rfl rfl ?_
    refine go_gf (nx := 88) fg_X5_50 dX5_choose_85 (by omega) hN rfl rfl ?_
    refine go_iload_n 2 (nx := 89) dX5_choose_88 rfl rfl rfl ?_
    refine go_Vi (nx := 92) [_, _] kc_X5_61 ⟨_, _, rfl⟩ (by omega) hT (s_firstWith (k := cnt ν.1) ht hw HT' (by omega) hct hC hk8 rfl) dX5_choose_89 rfl rfl (Nat.le_of_ble_eq_true rfl) (Nat.le_of_ble_eq_true rfl) ⟨Nat.le_refl _, Nat.le_refl _⟩ rfl (fun rh3 h3 hqh3 => ?_)
    obtain ⟨rfl, rfl⟩ := hqh3
    refine go_reti dX5_choose_92 ⟨_, rfl, rfl⟩ ?_
    refine ⟨?_, rfl⟩
    have h0 : T.2.2.2.2.1 = 2 := keq hs37 (by have := hw.2.2.2.2.1; omega)
    unfold mChoose
    rw [if_neg (by omega), if_pos h0]
  · refine go_tableIn 93 dX5_choose_37 (by rw [hs37]; decide) (by rw [hs37]; decide) (off := 56) (by rw [hs37]; rfl) rfl ?_
    refine go_iload 0 (nx := 95) dX5_choose_93 rfl rfl ?_
    refine go_if_ne 102 (nx := 98) dX5_choose_95 rfl rfl (fun c95 => ?_) (fun c95 => ?_)
    · skip
      refine go_aload_n 5 (nx := 103) dX5_choose_102 rfl rfl rfl ?_
      refine go_gf (nx := 106) fg_X5_50 dX5_choose_103 (by omega) hN rfl rfl ?_
      refine go_iload 0 (nx := 108) dX5_choose_106 rfl rfl ?_
      refine go_Si (nx := 111) [_, _] kc_X5_55 (s_leastOf (k := cnt ν.1) (by omega) hct hC hk8 rfl (bits_lt _)) dX5_choose_108 rfl rfl (Nat.le_of_ble_eq_true rfl) (Nat.le_of_ble_eq_true rfl) ⟨Nat.le_refl _, Nat.le_refl _⟩ rfl (fun rh3 h3 hqh3 => ?_)
      obtain ⟨rfl, rfl⟩ := hqh3
      refine go_reti dX5_choose_111 ⟨_, rfl, rfl⟩ ?_
      refine ⟨?_, rfl⟩
      have h0 : T.2.2.2.2.1 = 3 := keq hs37 (by have := hw.2.2.2.2.1; omega)
      unfold mChoose
      rw [if_neg (by omega), if_neg (by omega), if_pos h0]
      exact congrArg nI (pick_some hP8 (bits_lt _) hsf c95)
    · skip
      refine go_iload_n 2 (nx := 99) dX5_choose_98 rfl rfl rfl ?_
      refine go_goto 111 dX5_choose_99 rfl ?_
      refine go_reti dX5_choose_111 ⟨_, rfl, rfl⟩ ?_
      refine ⟨?_, rfl⟩
      have h0 : T.2.2.2.2.1 = 3 := keq hs37 (by have := hw.2.2.2.2.1; omega)
      unfold mChoose
      rw [if_neg (by omega), if_neg (by omega), if_pos h0]
      exact congrArg nI (pick_none hP8 (bits_lt _) hsf c95).symm
def fb_ct (p : Nat → Bool) : Nat → Nat
  | 0 => 0
  | n + 1 => fb_ct p n + (if p n then 1 else 0)
theorem hab_none {o : Option Nat} (ho : ∀ b, o = some b → b < 8) : hab o = -9 ↔ o = none := by
  cases o with
  | none => exact ⟨fun _ => rfl, fun _ => rfl⟩
  | some b =>
    refine ⟨fun h => ?_, fun h => by cases h⟩
    have hb := ho b rfl
    have h2 : (nI b).toInt = (-9 : Int32).toInt := congrArg Int32.toInt h
    rw [nI_toInt (by omega)] at h2
    exact absurd h2 (by rw [show (-9 : Int32).toInt = -9 from rfl]; omega)
theorem l_habits {G : kG} {n t : Nat} {h : kH} {T : mT} {tk tc : Nat → Int32} (ht : t + 3 ≤ n) (hw : wT T) (H : rTown G t tk tc (nI T.1) (nI T.2.2.2.1) (nI T.2.2.2.2.1) (nI T.2.2.2.2.2) h) (hTc : ∀ p, p < 8 → tc p = hab (T.2.2.1 p)) : ∀ (d p : Nat), T.1 - p < d → p ≤ T.1 → Go G mX5_habits (1, 0, 0) 4 [(2, .int (nI p)), (1, .int (nI (fb_ct (fun p => (T.2.2.1 p).isSome) p))), (0, .ref (kb G + t))] [] (n, 0, 0) h (kQi mX5_habits n (fun v h' => v = nI (fb_ct (fun p => (T.2.2.1 p).isSome) T.1) ∧ h' = h)) := by
  intro d
  obtain ⟨hT, htk, htc⟩ := H
  have hP := hw.1
  induction d with
  | zero => intro p hd; omega
  | succ d ih =>
    intro p hd hp
    refine go_iload_n 0 (nx := 5) dX5_habits_4 rfl rfl rfl ?_
    refine go_aload_n 2 (nx := 6) dX5_habits_5 rfl rfl rfl ?_
    refine go_gf (nx := 9) fg_X5_25 dX5_habits_6 (by omega) hT rfl rfl ?_
    refine go_icmp_ge 34 (nx := 12) dX5_habits_9 rfl rfl (fun c9 => ?_) (fun c9 => ?_)
    · skip
      refine go_iload_n 1 (nx := 35) dX5_habits_34 rfl rfl rfl ?_
      refine go_reti dX5_habits_35 ⟨_, rfl, rfl⟩ ?_
      have e8 : p = T.1 := by have := kle c9; omega
      subst e8
      exact ⟨rfl, rfl⟩
    · skip
      refine go_aload_n 2 (nx := 13) dX5_habits_12 rfl rfl rfl ?_
      refine go_gf (nx := 16) fg_X5_15 dX5_habits_13 (by omega) hT rfl rfl ?_
      refine go_iload_n 0 (nx := 17) dX5_habits_16 rfl rfl rfl ?_
      refine go_SNi (nx := 20) [_, _] kc_X5_38 (s_at_in (by omega) htc (by omega) rfl (by have := knle c9; omega)) dX5_habits_17 rfl rfl (Nat.le_of_ble_eq_true rfl) (Nat.le_of_ble_eq_true rfl) ⟨Nat.le_refl _, Nat.le_refl _⟩ rfl (fun rh1 h1 hqh1 => ?_)
      obtain ⟨rfl, rfl⟩ := hqh1
      have h8 := knle c9
      rw [hTc p (by omega)]
      have hn := hab_none (o := T.2.2.1 p) (fun b e => by have := hw.2.2.1 p b e; omega)
      refine go_bipush (v := (-9)) (nx := 22) dX5_habits_20 (by decide) rfl ?_
      refine go_icmp_eq 28 (nx := 25) dX5_habits_22 rfl rfl (fun c22 => ?_) (fun c22 => ?_)
      · skip
        refine go_iinc 0 (v := nI (p + 1)) (lv' := [_, _, _]) (nx := 31) dX5_habits_28 rfl (nI_inc p) (by decide) rfl rfl ?_
        refine go_goto 4 dX5_habits_31 rfl ?_
        refine Go.sub [0, 1, 2] rfl ?_
        have k := ih (p + 1) (by omega) (by omega)
        rw [show fb_ct (fun p => (T.2.2.1 p).isSome) (p + 1) = fb_ct (fun p => (T.2.2.1 p).isSome) p from by
          show _ + (if (T.2.2.1 p).isSome = true then 1 else 0) = _
          rw [hn.mp c22]; rfl] at k
        exact k
      · skip
        refine go_iinc 1 (v := nI (fb_ct (fun p => (T.2.2.1 p).isSome) p + 1)) (lv' := [_, _, _]) (nx := 28) dX5_habits_25 rfl (nI_inc _) (by decide) rfl rfl ?_
        refine go_iinc 1 (v := nI (p + 1)) (lv' := [_, _, _]) (nx := 31) dX5_habits_28 rfl (nI_inc p) (by decide) rfl rfl ?_
        refine go_goto 4 dX5_habits_31 rfl ?_
        refine Go.sub [0, 1, 2] rfl ?_
        have k := ih (p + 1) (by omega) (by omega)
        rw [show fb_ct (fun p => (T.2.2.1 p).isSome) (p + 1) = fb_ct (fun p => (T.2.2.1 p).isSome) p + 1 from by
          show _ + (if (T.2.2.1 p).isSome = true then 1 else 0) = _
          rw [show (T.2.2.1 p).isSome = true by cases e : T.2.2.1 p with | none => exact absurd (hn.mpr e) c22 | some b => rfl]; rfl] at k
        exact k
theorem s_habits {G : kG} {n t : Nat} {h : kH} {T : mT} (ht : t + 3 ≤ n) (H : oTown G t T h) (hw : wT T) : Spi G mX5_habits 1 [.ref (kb G + t)] n h (fun v h' => v = nI (fb_ct (fun p => (T.2.2.1 p).isSome) T.1) ∧ h' = h) := by
  obtain ⟨tk, tc, H, hTk, hTc⟩ := H
  refine Spi.of (by decide) (Nat.le_of_ble_eq_true rfl) ?_
  refine go_iconst (v := nI 0) (nx := 1) dX5_habits_0 (by decide) rfl ?_
  refine go_istore_n (lv' := [_, _]) (nx := 2) dX5_habits_1 rfl (by decide) rfl rfl ?_
  refine go_iconst (v := nI 0) (nx := 3) dX5_habits_2 (by decide) rfl ?_
  refine go_istore_n (lv' := [_, _, _]) (nx := 4) dX5_habits_3 rfl (by decide) rfl rfl ?_
  refine Go.sub [0, 1, 2] rfl ?_
  exact l_habits ht hw H hTc (T.1 + 1) 0 (by omega) (by omega)
