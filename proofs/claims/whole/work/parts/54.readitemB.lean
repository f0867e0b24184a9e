/-! LeastKnown$Reader: an item, whole -/
theorem rdX_le {s : Nat → Nat} {m c c2 : Nat} {T T2 : mT} (hs : ∀ i, m ≤ i → s i = 12) (hc : c < m) (h : rdX s c T = .inr (c2, T2)) : c2 ≤ m := by
  have k1 : s (c + 1) ≠ 12 → c + 2 ≤ m := fun q => lt_m hs q
  have k2 : s (c + 1 + 1) ≠ 12 → c + 3 ≤ m := fun q => lt_m hs q
  unfold rdX at h
  split at h
  · cases h; exact hc
  · split at h
    · unfold rdF at h
      split at h
      · rename_i e
        simp only [rN, Bool.and_eq_true, decide_eq_true_eq] at e
        cases h
        exact k1 (by omega)
      · exact (nomatch h)
    · split at h
      · unfold rdL at h
        split at h
        · rename_i e
          split at h
          · split at h
            · rename_i e2
              simp only [rN, Bool.and_eq_true, decide_eq_true_eq] at e2
              cases h
              exact k2 (by omega)
            · exact (nomatch h)
          · cases h
            exact k1 (by omega)
        · exact (nomatch h)
      · unfold rdP at h
        split at h
        · split at h
          · rename_i e2
            simp only [rB, Bool.and_eq_true, decide_eq_true_eq] at e2
            cases h
            exact k2 (by omega)
          · exact (nomatch h)
        · exact (nomatch h)
theorem s_readItem {G : kG} {n sz c t : Nat} {h : kH} {tx : Nat → Nat} {fa : Int32} {fF fL : Bool} {T : mT} (hn : 37 ≤ n) (HR : rdS G tx sz c fa fF fL h) (hc : c ≤ tmn tx sz) (hs4 : sz ≤ 400) (ht : t + 3 ≤ n) (ht6 : 6 ≤ t) (HT : oTown G t T h) (hw : wT T) : Spv G mX3_readItem 3 [.ref (kb G + 3), .ref (kb G + t)] n h (fun h' => itQ G t tx sz fa (rItem (tSt tx sz) (c, T, fF, fL)) h' ∧ tfr t h h') := by
  obtain ⟨tk, pl, ⟨hr, htk, hpl⟩, hok⟩ := id HR
  have hm := tmn_le (tx := tx) (sz := sz)
  obtain ⟨kn, ca, ⟨hT, hkn, hca⟩, hk, hca2⟩ := id HT
  have hs2 := tSt_lt (tx := tx) (sz := sz) (i := c)
  have hP := hw.1
  have dF : tfr t h h := tfr.rf
  refine Spv.of (by decide) (Nat.le_of_ble_eq_true rfl) ?_
  refine go_aload_n 0 (nx := 1) dX3_readItem_0 rfl rfl rfl ?_
  refine go_gf (nx := 4) fg_X3_9 dX3_readItem_1 (by omega) hr rfl rfl ?_
  refine go_aload_n 0 (nx := 5) dX3_readItem_4 rfl rfl rfl ?_
  refine go_gf (nx := 8) fg_X3_27 dX3_readItem_5 (by omega) hr rfl rfl ?_
  refine go_SNi (nx := 11) [_, _] kc_X3_41 (s_at_in (j := c) (by omega) htk (by decide) rfl (by omega)) dX3_readItem_8 rfl rfl (Nat.le_of_ble_eq_true rfl) (Nat.le_of_ble_eq_true rfl) ⟨Nat.le_refl _, Nat.le_refl _⟩ rfl (fun rh1 h1 hqh1 => ?_)
  obtain ⟨rfl, rfl⟩ := hqh1
  rw [(hok c (by omega)).1]
  refine go_istore_n (lv' := [_, _, _]) (nx := 12) dX3_readItem_11 rfl (by decide) rfl rfl ?_
  refine go_aload_n 1 (nx := 13) dX3_readItem_12 rfl rfl rfl ?_
  refine go_aload_n 1 (nx := 14) dX3_readItem_13 rfl rfl rfl ?_
  refine go_aload_n 2 (nx := 15) dX3_readItem_14 rfl rfl rfl ?_
  refine go_iload_n 0 (nx := 16) dX3_readItem_15 rfl rfl rfl ?_
  refine go_Vi (nx := 19) [_, _] kc_X3_98 ⟨_, _, rfl⟩ (by omega) hr (s_mayBegin (T := T) hn HR hc hs4 ht ⟨hT, hkn, hca⟩ hP rfl hs2) dX3_readItem_16 rfl rfl (Nat.le_of_ble_eq_true rfl) (Nat.le_of_ble_eq_true rfl) ⟨Nat.le_refl _, Nat.le_refl _⟩ rfl (fun rh2 h2 hqh2 => ?_)
  obtain ⟨rfl, rfl⟩ := hqh2
  refine go_Vi (nx := 22) [_] kc_X3_102 ⟨_, _, rfl⟩ (by omega) hr (s_take (b := rMay (c, T, fF, fL) (tSt tx sz c)) hn HR hc hs4 rfl) dX3_readItem_19 rfl rfl (Nat.le_of_ble_eq_true rfl) (Nat.le_of_ble_eq_true rfl) ⟨Nat.le_refl _, Nat.le_refl _⟩ rfl (fun rh3 h3 hqh3 => ?_)
  obtain ⟨rfl, HR, hFh3⟩ := hqh3
  have HT := HT.fr hFh3 (by omega)
  have dF := dF.k hFh3 (by omega)
  have hT := (hFh3 (t) (by omega)).trans hT
  have hkn := (hFh3 (t + 1) (by omega)).trans hkn
  have hca := (hFh3 (t + 2) (by omega)).trans hca
  refine go_if_ne 26 (nx := 25) dX3_readItem_22 rfl rfl (fun c22 => ?_) (fun c22 => ?_)
  · skip
    have eM := tbn0 c22
    rw [if_pos eM, if_pos eM] at HR
    obtain ⟨tk, pl, ⟨hr, htk, hpl⟩, hok⟩ := id HR
    have ⟨hw6, hcm⟩ := rMay_w (fun _ => tSt_end) hc eM
    have hw6 : tSt tx sz c < 6 := hw6
    have hcm : c < tmn tx sz := hcm
    have hc2 : c + 1 ≤ tmn tx sz := hcm
    refine go_iconst (v := nI 1) (nx := 27) dX3_readItem_26 (by decide) rfl ?_
    refine go_istore_n (lv' := [_, _, _, _]) (nx := 28) dX3_readItem_27 rfl (by decide) rfl rfl ?_
    refine go_iload_n 1 (nx := 29) dX3_readItem_28 rfl rfl rfl ?_
    refine go_if_ne 45 (nx := 32) dX3_readItem_29 rfl rfl (fun c29 => ?_) (fun c29 => ?_)
    · skip
      refine go_iload_n 1 (nx := 46) dX3_readItem_45 rfl rfl rfl ?_
      refine go_iconst (v := nI 4) (nx := 47) dX3_readItem_46 (by decide) rfl ?_
      refine go_icmp_ne 59 (nx := 50) dX3_readItem_47 rfl rfl (fun c47 => ?_) (fun c47 => ?_)
      · skip
        refine go_iload_n 1 (nx := 60) dX3_readItem_59 rfl rfl rfl ?_
        refine go_iconst (v := nI 5) (nx := 61) dX3_readItem_60 (by decide) rfl ?_
        refine go_icmp_ne 73 (nx := 64) dX3_readItem_61 rfl rfl (fun c61 => ?_) (fun c61 => ?_)
        · skip
          refine go_aload_n 2 (nx := 74) dX3_readItem_73 rfl rfl rfl ?_
          refine go_aload_n 3 (nx := 75) dX3_readItem_74 rfl rfl rfl ?_
          refine go_iload_n 1 (nx := 76) dX3_readItem_75 rfl rfl rfl ?_
          refine go_Vi (nx := 79) [_, _] kc_X3_116 ⟨_, _, rfl⟩ (by omega) hr (s_rdPair hn HR hc2 hs4 ht ht6 HT hw rfl (by omega)) dX3_readItem_76 rfl rfl (Nat.le_of_ble_eq_true rfl) (Nat.le_of_ble_eq_true rfl) ⟨Nat.le_refl _, Nat.le_refl _⟩ rfl (fun rh4 h4 hqh4 => ?_)
          obtain ⟨HQ, dQ⟩ := hqh4
          have dF := dF.tr dQ
          refine go_istore_n (lv' := [_, _, _, _]) (nx := 80) dX3_readItem_79 rfl (by decide) rfl rfl ?_
          refine Go.sub [0, 2, 3, 1] rfl ?_
          have hX := fun c2 T2 (q : rdX (tSt tx sz) c T = .inr (c2, T2)) => rdX_le (fun _ => tSt_end) hcm q
          have e0 : ¬ (tSt tx sz c) = 0 := fun q => c29 (by rw [q]; rfl)
          have e4 : ¬ (tSt tx sz c) = 4 := fun q => c47 (by rw [q])
          have e5 : ¬ (tSt tx sz c) = 5 := fun q => c61 (by rw [q])
          have eX : rdX (tSt tx sz) c T = rdP (tSt tx sz) (tSt tx sz c) (c + 1) T := by unfold rdX; rw [if_neg e0, if_neg e4, if_neg e5]
          rw [eX] at hX
          rw [rItem_of eM, eX, decide_eq_false e5, decide_eq_false e4, Bool.false_or, Bool.false_or]
          exact l_item80 hn hs4 ht ht6 HQ hX dF
        · skip
          refine go_aload_n 2 (nx := 65) dX3_readItem_64 rfl rfl rfl ?_
          refine go_aload_n 3 (nx := 66) dX3_readItem_65 rfl rfl rfl ?_
          refine go_Vi (nx := 69) [_] kc_X3_113 ⟨_, _, rfl⟩ (by omega) hr (s_rdLaw hn HR hc2 hs4 ht ht6 HT hw) dX3_readItem_66 rfl rfl (Nat.le_of_ble_eq_true rfl) (Nat.le_of_ble_eq_true rfl) ⟨Nat.le_refl _, Nat.le_refl _⟩ rfl (fun rh4 h4 hqh4 => ?_)
          obtain ⟨HQ, dQ⟩ := hqh4
          have dF := dF.tr dQ
          refine go_istore_n (lv' := [_, _, _, _]) (nx := 70) dX3_readItem_69 rfl (by decide) rfl rfl ?_
          refine go_goto 80 dX3_readItem_70 rfl ?_
          refine Go.sub [0, 2, 3, 1] rfl ?_
          have hX := fun c2 T2 (q : rdX (tSt tx sz) c T = .inr (c2, T2)) => rdX_le (fun _ => tSt_end) hcm q
          have e0 : ¬ (tSt tx sz c) = 0 := fun q => c29 (by rw [q]; rfl)
          have e4 : ¬ (tSt tx sz c) = 4 := fun q => c47 (by rw [q])
          have e5 : (tSt tx sz c) = 5 := keq c61 (by omega) (by decide)
          have eX : rdX (tSt tx sz) c T = rdL (tSt tx sz) (c + 1) T := by unfold rdX; rw [if_neg e0, if_neg e4, if_pos e5]
          rw [eX] at hX
          rw [rItem_of eM, eX, decide_eq_true e5, decide_eq_false e4, Bool.false_or, Bool.true_or]
          exact l_item80 hn hs4 ht ht6 HQ hX dF
      · skip
        refine go_aload_n 2 (nx := 51) dX3_readItem_50 rfl rfl rfl ?_
        refine go_aload_n 3 (nx := 52) dX3_readItem_51 rfl rfl rfl ?_
        refine go_Vi (nx := 55) [_] kc_X3_109 ⟨_, _, rfl⟩ (by omega) hr (s_rdForgets hn HR hc2 hs4 ht ht6 HT hw) dX3_readItem_52 rfl rfl (Nat.le_of_ble_eq_true rfl) (Nat.le_of_ble_eq_true rfl) ⟨Nat.le_refl _, Nat.le_refl _⟩ rfl (fun rh4 h4 hqh4 => ?_)
        obtain ⟨HQ, dQ⟩ := hqh4
        have dF := dF.tr dQ
        refine go_istore_n (lv' := [_, _, _, _]) (nx := 56) dX3_readItem_55 rfl (by decide) rfl rfl ?_
        refine go_goto 80 dX3_readItem_56 rfl ?_
        refine Go.sub [0, 2, 3, 1] rfl ?_
        have hX := fun c2 T2 (q : rdX (tSt tx sz) c T = .inr (c2, T2)) => rdX_le (fun _ => tSt_end) hcm q
        have e0 : ¬ (tSt tx sz c) = 0 := fun q => c29 (by rw [q]; rfl)
        have e4 : (tSt tx sz c) = 4 := keq c47 (by omega) (by decide)
        have eX : rdX (tSt tx sz) c T = rdF (tSt tx sz) (c + 1) T := by unfold rdX; rw [if_neg e0, if_pos e4]
        rw [eX] at hX
        rw [rItem_of eM, eX, decide_eq_true e4, decide_eq_false (show ¬ (tSt tx sz c) = 5 by omega), Bool.false_or, Bool.true_or]
        exact l_item80 hn hs4 ht ht6 HQ hX dF
    · skip
      refine go_aload_n 3 (nx := 33) dX3_readItem_32 rfl rfl rfl ?_
      refine go_dup (nx := 34) dX3_readItem_33 rfl rfl ?_
      refine go_gf (nx := 37) fg_X3_106 dX3_readItem_34 (by omega) hT rfl rfl ?_
      refine go_iconst (v := nI 1) (nx := 38) dX3_readItem_37 (by decide) rfl ?_
      refine go_iadd (nx := 39) dX3_readItem_38 rfl ?_
      rw [nI_add]
      refine go_pf (fs' := [_, _, _, _, _, _]) (nx := 42) (fp_X3_106 _) dX3_readItem_39 (by omega) hT (Nat.le_of_ble_eq_true rfl) ⟨rfl, rfl⟩ rfl rfl (fun h4 eh4 fh4 => ?_)
      have hr := (fh4 (3) (by omega)).trans hr
      have htk := (fh4 (4) (by omega)).trans htk
      have hpl := (fh4 (5) (by omega)).trans hpl
      have hkn := (fh4 (t + 1) (by omega)).trans hkn
      have hca := (fh4 (t + 2) (by omega)).trans hca
      have hT := eh4
      refine go_goto 80 dX3_readItem_42 rfl ?_
      refine Go.sub [0, 2, 3, 1] rfl ?_
      have hX := fun c2 T2 (q : rdX (tSt tx sz) c T = .inr (c2, T2)) => rdX_le (fun _ => tSt_end) hcm q
      have e0 : (tSt tx sz c) = 0 := keq (b := 0) c29 (by omega) (by decide)
      have fx : kFr t (t + 1) _ h4 := fun j hj => fh4 j (by omega)
      have eX : rdX (tSt tx sz) c T = .inr (c + 1, T.1 + 1, T.2) := by unfold rdX; rw [if_pos e0]
      rw [eX] at hX
      rw [rItem_of eM, eX, decide_eq_false (show ¬ (tSt tx sz c) = 4 by omega), decide_eq_false (show ¬ (tSt tx sz c) = 5 by omega), Bool.false_or, Bool.false_or]
      exact l_item80 hn hs4 ht ht6 ⟨rfl, HR.fr fx (by omega), ⟨kn, ca, ⟨hT, hkn, hca⟩, hk, hca2⟩⟩ hX (dF.k fx (by omega))
  · skip
    refine go_retv dX3_readItem_25 rfl ?_
    have eM := tb0 c22
    rw [if_neg (by rw [eM]; decide), if_neg (by rw [eM]; decide)] at HR
    have e : rItem (tSt tx sz) (c, T, fF, fL) = .inl c := by unfold rItem; rw [if_neg (by rw [eM]; decide)]
    rw [e]
    exact ⟨⟨⟨_, _, _, HR⟩, HT.a⟩, dF⟩
