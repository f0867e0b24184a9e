/-! LeastKnown$Foretelling.leastRing -/
def mW (T : mT) (ν : mN) (k : Nat) : Nat := mWho T (mSp T k ν)
theorem mW_lt {T : mT} {ν : mN} (hP0 : 0 < T.1) (k : Nat) : mW T ν k < T.1 := mChoose_lt hP0
theorem l_ring3 {G : kG} {n f t q : Nat} {h0 : kH} {ν : mN} {T : mT} {rw : Nat → Int32} {fa : Int32} (hf8 : f + 8 ≤ n) (ht : t + 3 ≤ n) (hd0 : t + 3 ≤ f ∨ f + 8 ≤ t) (hw : wT T) (hv : wN T.1 ν) (hP0 : 0 < T.1) {ru : Nat → Int32} {h : kH} (HA : aNow G (f + 2) h) (HF : rFore G f rw fa ru h) (hF : kFr (f + 2) (f + 8) h0 h) (hru0 : ∀ i, i < 20 → ru i = nI (mW T ν (20 + i)) ∧ mW T ν (20 + i) < 8) : ∀ (d i : Nat), 11 - i < d → 1 ≤ i → i ≤ 11 → ff (fun p => decide (1 ≤ p) && rgB (mW T ν) p) i = none → Go G mX0_leastRing (5, 0, 0) 63 [(3, .int (nI i)), (0, .ref (kb G + f)), (1, .ref (kb G + t)), (2, .ref (kb G + q))] [] (n, 0, 0) h (kQi mX0_leastRing n (fun v h' => v = rgF (mW T ν) ∧ aNow G (f + 2) h' ∧ (∃ ru', rFore G f rw fa ru' h') ∧ kFr (f + 2) (f + 8) h0 h')) := by
  intro d
  obtain ⟨hf, hrw, hru⟩ := id HF
  induction d with
  | zero => intro i hd; omega
  | succ d ih =>
    intro i hd hi1 hi hn
    refine go_iload_n 0 (nx := 64) dX0_leastRing_63 rfl rfl rfl ?_
    refine go_bipush (v := nI 10) (nx := 66) dX0_leastRing_64 (by decide) rfl ?_
    refine go_icmp_gt 85 (nx := 69) dX0_leastRing_66 rfl rfl (fun c66 => ?_) (fun c66 => ?_)
    · skip
      refine go_bipush (v := (-9)) (nx := 87) dX0_leastRing_85 (by decide) rfl ?_
      refine go_reti dX0_leastRing_87 ⟨_, rfl, rfl⟩ ?_
      have e8 : i = 11 := by have := klt c66; omega
      subst e8
      refine ⟨?_, HA, ⟨ru, HF⟩, hF⟩
      unfold rgF
      rw [hn]
    · skip
      have h8 := knlt c66
      refine go_aload_n 1 (nx := 70) dX0_leastRing_69 rfl rfl rfl ?_
      refine go_iload_n 0 (nx := 71) dX0_leastRing_70 rfl rfl rfl ?_
      refine go_Vi (nx := 74) [_] kc_X0_37 ⟨_, _, rfl⟩ (by omega) hf (s_isRing hf8 HF hru0 rfl (by have := knlt c66; omega)) dX0_leastRing_71 rfl rfl (Nat.le_of_ble_eq_true rfl) (Nat.le_of_ble_eq_true rfl) ⟨Nat.le_refl _, Nat.le_refl _⟩ rfl (fun rh1 h1 hqh1 => ?_)
      obtain ⟨rfl, rfl⟩ := hqh1
      refine go_if_eq 79 (nx := 77) dX0_leastRing_74 rfl rfl (fun c74 => ?_) (fun c74 => ?_)
      · skip
        refine go_iinc 0 (v := nI (i + 1)) (lv' := [_, _, _, _]) (nx := 82) dX0_leastRing_79 rfl (nI_inc i) (by decide) rfl rfl ?_
        refine go_goto 63 dX0_leastRing_82 rfl ?_
        refine Go.sub [0, 1, 2, 3] rfl ?_
        refine ih (i + 1) (by omega) (by omega) (by omega) ?_
        simp only [ff]
        rw [hn]
        simp [tb0 c74]
      · skip
        refine go_iload_n 0 (nx := 78) dX0_leastRing_77 rfl rfl rfl ?_
        refine go_reti dX0_leastRing_78 ⟨_, rfl, rfl⟩ ?_
        refine ⟨?_, HA, ⟨ru, HF⟩, hF⟩
        unfold rgF
        rw [ff_at (p := i) (by omega) hn (by simp [hi1, tbn0 c74])]
theorem l_ring2 {G : kG} {n f t q : Nat} {h0 : kH} {ν : mN} {T : mT} {rw : Nat → Int32} {fa : Int32} (hf8 : f + 8 ≤ n) (ht : t + 3 ≤ n) (hd0 : t + 3 ≤ f ∨ f + 8 ≤ t) (hw : wT T) (hv : wN T.1 ν) (hP0 : 0 < T.1) : ∀ (d i : Nat) (ru : Nat → Int32) (h : kH), 20 - i < d → i ≤ 20 → oNow G (f + 2) (mSp T (20 + i) ν) h → oTown G t T h → rFore G f rw fa ru h → kFr (f + 2) (f + 8) h0 h → (∀ j, j < i → ru j = nI (mW T ν (20 + j))) → Go G mX0_leastRing (5, 0, 0) 33 [(3, .int (nI i)), (0, .ref (kb G + f)), (1, .ref (kb G + t)), (2, .ref (kb G + q))] [] (n, 0, 0) h (kQi mX0_leastRing n (fun v h' => v = rgF (mW T ν) ∧ aNow G (f + 2) h' ∧ (∃ ru', rFore G f rw fa ru' h') ∧ kFr (f + 2) (f + 8) h0 h')) := by
  intro d
  induction d with
  | zero => intro i ru h hd; omega
  | succ d ih =>
    intro i ru h hd hi H HT HF hF hj
    have HT' := HT
    obtain ⟨kn, ct, si, cr, ⟨hN, hkn, hct, hsi, hcr⟩, hK, hC, hS, hR⟩ := id H
    obtain ⟨hf, hrw, hru⟩ := id HF
    refine go_iload_n 0 (nx := 34) dX0_leastRing_33 rfl rfl rfl ?_
    refine go_bipush (v := nI 20) (nx := 36) dX0_leastRing_34 (by decide) rfl ?_
    refine go_icmp_ge 61 (nx := 39) dX0_leastRing_36 rfl rfl (fun c36 => ?_) (fun c36 => ?_)
    · skip
      refine go_iconst (v := nI 1) (nx := 62) dX0_leastRing_61 (by decide) rfl ?_
      refine go_istore_n (lv' := [_, _, _, _]) (nx := 63) dX0_leastRing_62 rfl (by decide) rfl rfl ?_
      refine Go.sub [0, 1, 2, 3] rfl ?_
      have e8 : i = 20 := by have := kle c36; omega
      subst e8
      exact l_ring3 hf8 ht hd0 hw hv hP0 (aNow.of H) HF hF (fun j hj2 => ⟨hj j hj2, Nat.lt_of_lt_of_le (mW_lt hP0 _) hw.1⟩) 11 1 (by omega) (by omega) (by omega) rfl
    · skip
      have h8 := knle c36
      refine go_aload_n 1 (nx := 40) dX0_leastRing_39 rfl rfl rfl ?_
      refine go_gf (nx := 43) fg_X0_22 dX0_leastRing_40 (by omega) hf rfl rfl ?_
      refine go_iload_n 0 (nx := 44) dX0_leastRing_43 rfl rfl rfl ?_
      refine go_aload_n 1 (nx := 45) dX0_leastRing_44 rfl rfl rfl ?_
      refine go_gf (nx := 48) fg_X0_18 dX0_leastRing_45 (by omega) hf rfl rfl ?_
      refine go_aload_n 2 (nx := 49) dX0_leastRing_48 rfl rfl rfl ?_
      refine go_Vi (nx := 52) [_] kc_X0_29 ⟨_, _, rfl⟩ (by omega) hN (s_spring (by omega) ht (by omega) hw (wN_sp hw hv hP0 (20 + i)) hP0 H HT') dX0_leastRing_49 rfl rfl (Nat.le_of_ble_eq_true rfl) (Nat.le_of_ble_eq_true rfl) ⟨Nat.le_refl _, Nat.le_refl _⟩ rfl (fun rh1 h1 hqh1 => ?_)
      obtain ⟨rfl, H, hFh1⟩ := hqh1
      obtain ⟨kn, ct, si, cr, ⟨hN, hkn, hct, hsi, hcr⟩, hK, hC, hS, hR⟩ := id H
      have HT' := HT'.fr hFh1 (by omega)
      have HF := HF.fr hFh1 (by omega)
      obtain ⟨hf, hrw, hru⟩ := id HF
      have hF := hF.tr (hFh1.wide (Nat.le_refl _) (Nat.le_succ _))
      refine go_SNv (nx := 55) [_, _, _] kc_X0_33 (s_put (by omega) hru (by omega) rfl h8) dX0_leastRing_52 rfl rfl (Nat.le_of_ble_eq_true rfl) (Nat.le_of_ble_eq_true rfl) ⟨Nat.le_refl _, Nat.le_refl _⟩ rfl (fun h2 hqh2 => ?_)
      obtain ⟨eh2, fh2⟩ := hqh2
      have hFx : kFr (f + 7) (f + 8) _ h2 := fun j hj => fh2 j (by omega)
      have H := H.fr hFx (by omega)
      have HT' := HT'.fr hFx (by omega)
      have HF : rFore G f rw fa _ h2 := ⟨(hFx f (by omega)).trans hf, (hFx (f + 1) (by omega)).trans hrw, eh2⟩
      have hF := hF.tr (hFx.wide (by omega) (Nat.le_refl _))
      refine go_iinc 0 (v := nI (i + 1)) (lv' := [_, _, _, _]) (nx := 58) dX0_leastRing_55 rfl (nI_inc i) (by decide) rfl rfl ?_
      refine go_goto 33 dX0_leastRing_58 rfl ?_
      refine Go.sub [0, 1, 2, 3] rfl ?_
      refine ih (i + 1) _ _ (by omega) (by omega) H HT' HF hF (fun j hj2 => ?_)
      by_cases e : j = i
      · subst e; rw [pk_us]; rfl
      · rw [pk_un e]; exact hj j (by omega)
theorem l_ring1 {G : kG} {n f t q : Nat} {h0 : kH} {ν : mN} {T : mT} {rw : Nat → Int32} {fa : Int32} (hf8 : f + 8 ≤ n) (ht : t + 3 ≤ n) (hd0 : t + 3 ≤ f ∨ f + 8 ≤ t) (hw : wT T) (hv : wN T.1 ν) (hP0 : 0 < T.1) : ∀ (d i : Nat) (ru : Nat → Int32) (h : kH), 20 - i < d → i ≤ 20 → oNow G (f + 2) (mSp T i ν) h → oTown G t T h → rFore G f rw fa ru h → kFr (f + 2) (f + 8) h0 h → Go G mX0_leastRing (5, 0, 0) 10 [(3, .int (nI i)), (0, .ref (kb G + f)), (1, .ref (kb G + t)), (2, .ref (kb G + q))] [] (n, 0, 0) h (kQi mX0_leastRing n (fun v h' => v = rgF (mW T ν) ∧ aNow G (f + 2) h' ∧ (∃ ru', rFore G f rw fa ru' h') ∧ kFr (f + 2) (f + 8) h0 h')) := by
  intro d
  induction d with
  | zero => intro i ru h hd; omega
  | succ d ih =>
    intro i ru h hd hi H HT HF hF
    have HT' := HT
    obtain ⟨kn, ct, si, cr, ⟨hN, hkn, hct, hsi, hcr⟩, hK, hC, hS, hR⟩ := id H
    obtain ⟨hf, hrw, hru⟩ := id HF
    refine go_iload_n 0 (nx := 11) dX0_leastRing_10 rfl rfl rfl ?_
    refine go_bipush (v := nI 20) (nx := 13) dX0_leastRing_11 (by decide) rfl ?_
    refine go_icmp_ge 31 (nx := 16) dX0_leastRing_13 rfl rfl (fun c13 => ?_) (fun c13 => ?_)
    · skip
      refine go_iconst (v := nI 0) (nx := 32) dX0_leastRing_31 (by decide) rfl ?_
      refine go_istore_n (lv' := [_, _, _, _]) (nx := 33) dX0_leastRing_32 rfl (by decide) rfl rfl ?_
      refine Go.sub [0, 1, 2, 3] rfl ?_
      have e8 : i = 20 := by have := kle c13; omega
      subst e8
      exact l_ring2 hf8 ht hd0 hw hv hP0 21 0 _ _ (by omega) (by omega) H HT' HF hF (fun j hj => absurd hj (Nat.not_lt_zero j))
    · skip
      have h8 := knle c13
      refine go_aload_n 1 (nx := 17) dX0_leastRing_16 rfl rfl rfl ?_
      refine go_gf (nx := 20) fg_X0_18 dX0_leastRing_17 (by omega) hf rfl rfl ?_
      refine go_aload_n 2 (nx := 21) dX0_leastRing_20 rfl rfl rfl ?_
      refine go_Vi (nx := 24) [_] kc_X0_29 ⟨_, _, rfl⟩ (by omega) hN (s_spring (by omega) ht (by omega) hw (wN_sp hw hv hP0 (i)) hP0 H HT') dX0_leastRing_21 rfl rfl (Nat.le_of_ble_eq_true rfl) (Nat.le_of_ble_eq_true rfl) ⟨Nat.le_refl _, Nat.le_refl _⟩ rfl (fun rh1 h1 hqh1 => ?_)
      obtain ⟨rfl, H, hFh1⟩ := hqh1
      obtain ⟨kn, ct, si, cr, ⟨hN, hkn, hct, hsi, hcr⟩, hK, hC, hS, hR⟩ := id H
      have HT' := HT'.fr hFh1 (by omega)
      have HF := HF.fr hFh1 (by omega)
      obtain ⟨hf, hrw, hru⟩ := id HF
      have hF := hF.tr (hFh1.wide (Nat.le_refl _) (Nat.le_succ _))
      refine go_pop (nx := 25) dX0_leastRing_24 rfl rfl ?_
      refine go_iinc 0 (v := nI (i + 1)) (lv' := [_, _, _, _]) (nx := 28) dX0_leastRing_25 rfl (nI_inc i) (by decide) rfl rfl ?_
      refine go_goto 10 dX0_leastRing_28 rfl ?_
      refine Go.sub [0, 1, 2, 3] rfl ?_
      exact ih (i + 1) _ _ (by omega) (by omega) H HT' HF hF
theorem s_ring {G : kG} {n f t q : Nat} {h : kH} {ν : mN} {T : mT} {rw ru : Nat → Int32} {fa : Int32} (hf8 : f + 8 ≤ n) (ht : t + 3 ≤ n) (hd0 : t + 3 ≤ f ∨ f + 8 ≤ t) (hw : wT T) (hv : wN T.1 ν) (hP0 : 0 < T.1) (hq2 : q + 5 ≤ n) (hdq : q + 5 ≤ f ∨ f + 8 ≤ q) (HF : rFore G f rw fa ru h) (HA : aNow G (f + 2) h) (Hq : oNow G q ν h) (HT : oTown G t T h) : Spi G mX0_leastRing 5 [.ref (kb G + f), .ref (kb G + t), .ref (kb G + q)] n h (fun v h' => v = rgF (mW T ν) ∧ aNow G (f + 2) h' ∧ (∃ ru', rFore G f rw fa ru' h') ∧ kFr (f + 2) (f + 8) h h') := by
  have HT' := HT
  obtain ⟨kn, ct, si, cr, rg, yr, la, HA⟩ := HA
  obtain ⟨hN, hkn, hct, hsi, hcr⟩ := id HA
  obtain ⟨hf, hrw, hru⟩ := id HF
  have hF : kFr (f + 2) (f + 7) h h := kFr.rf
  refine Spi.of (by decide) (Nat.le_of_ble_eq_true rfl) ?_
  refine go_aload_n 0 (nx := 1) dX0_leastRing_0 rfl rfl rfl ?_
  refine go_gf (nx := 4) fg_X0_18 dX0_leastRing_1 (by omega) hf rfl rfl ?_
  refine go_aload_n 2 (nx := 5) dX0_leastRing_4 rfl rfl rfl ?_
  refine go_Vv (nx := 8) [_] kc_X0_25 ⟨_, _, rfl⟩ (by omega) hN (s_copyFrom (by omega) hq2 (by omega) HA Hq) dX0_leastRing_5 rfl rfl (Nat.le_of_ble_eq_true rfl) (Nat.le_of_ble_eq_true rfl) ⟨Nat.le_refl _, Nat.le_refl _⟩ rfl (fun h1 hqh1 => ?_)
  obtain ⟨H, hFh1⟩ := hqh1
  have H' := H
  obtain ⟨kn, ct, si, cr, ⟨hN, hkn, hct, hsi, hcr⟩, hK, hC, hS, hR⟩ := H'
  have HT' := HT'.fr hFh1 (by omega)
  have HF := HF.fr hFh1 (by omega)
  obtain ⟨hf, hrw, hru⟩ := id HF
  have hF := hF.tr hFh1
  refine go_iconst (v := nI 0) (nx := 9) dX0_leastRing_8 (by decide) rfl ?_
  refine go_istore_n (lv' := [_, _, _, _]) (nx := 10) dX0_leastRing_9 rfl (by decide) rfl rfl ?_
  refine Go.sub [0, 1, 2, 3] rfl ?_
  exact l_ring1 hf8 ht hd0 hw hv hP0 21 0 _ _ (by omega) (by omega) H HT' HF (hF.wide (Nat.le_refl _) (Nat.le_succ _))
