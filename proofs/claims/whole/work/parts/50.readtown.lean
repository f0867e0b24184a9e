/-! LeastKnown$Town, written; FORGETS and the LAW read -/
def tfr (t : Nat) (h h' : kH) : Prop := ∀ j, ¬ (3 ≤ j ∧ j < 6) → ¬ (t ≤ j ∧ j < t + 3) → h' j = h j
theorem tfr.rf {t : Nat} {h : kH} : tfr t h h := fun _ _ _ => rfl
theorem tfr.k {t lo hi : Nat} {h h1 h2 : kH} (B : tfr t h h1) (K : kFr lo hi h1 h2) (hd : (3 ≤ lo ∧ hi ≤ 6) ∨ (t ≤ lo ∧ hi ≤ t + 3)) : tfr t h h2 := fun j a b => (K j (by omega)).trans (B j a b)
theorem tfr.tr {t : Nat} {h h1 h2 : kH} (B : tfr t h h1) (K : tfr t h1 h2) : tfr t h h2 := fun j a b => (K j a b).trans (B j a b)
theorem s_tell {G : kG} {n t a b : Nat} {h : kH} {T : mT} {x y : Int32} (ht : t + 3 ≤ n) (HT : oTown G t T h) (hx : x = nI a) (ha : a < 8) (hy : y = nI b) (hb : b < 8) : Spv G mX5_tell 1 [.ref (kb G + t), .int x, .int y] n h (fun h' => oTown G t (T.1, kSet T.2.1 a b, T.2.2) h' ∧ kFr t (t + 3) h h') := by
  subst hx
  subst hy
  obtain ⟨kn, ca, ⟨hT, hkn, hca⟩, hk, hc⟩ := id HT
  refine Spv.of (by decide) (Nat.le_of_ble_eq_true rfl) ?_
  refine go_aload_n 0 (nx := 1) dX5_tell_0 rfl rfl rfl ?_
  refine go_gf (nx := 4) fg_X5_9 dX5_tell_1 (by omega) hT rfl rfl ?_
  refine go_iload_n 2 (nx := 5) dX5_tell_4 rfl rfl rfl ?_
  refine go_aload_n 0 (nx := 6) dX5_tell_5 rfl rfl rfl ?_
  refine go_gf (nx := 9) fg_X5_9 dX5_tell_6 (by omega) hT rfl rfl ?_
  refine go_iload_n 2 (nx := 10) dX5_tell_9 rfl rfl rfl ?_
  refine go_SNi (nx := 13) [_, _] kc_X5_38 (s_at_in (j := b) (by omega) hkn (by decide) rfl hb) dX5_tell_10 rfl rfl (Nat.le_of_ble_eq_true rfl) (Nat.le_of_ble_eq_true rfl) ⟨Nat.le_refl _, Nat.le_refl _⟩ rfl (fun rh1 h1 hqh1 => ?_)
  obtain ⟨rfl, rfl⟩ := hqh1
  rw [hk b hb]
  refine go_iconst (v := nI 1) (nx := 14) dX5_tell_13 (by decide) rfl ?_
  refine go_iload_n 1 (nx := 15) dX5_tell_14 rfl rfl rfl ?_
  refine go_ishl (nx := 16) dX5_tell_15 rfl ?_
  refine go_ior (nx := 17) dX5_tell_16 rfl ?_
  rw [i_set _ (col_lt _ _) a ha]
  refine go_SNv (nx := 20) [_, _, _] kc_X5_42 (s_put (by omega) hkn (by decide) rfl hb) dX5_tell_17 rfl rfl (Nat.le_of_ble_eq_true rfl) (Nat.le_of_ble_eq_true rfl) ⟨Nat.le_refl _, Nat.le_refl _⟩ rfl (fun h2 hqh2 => ?_)
  obtain ⟨eh2, fh2⟩ := hqh2
  have hT := (fh2 (t) (by omega)).trans hT
  have hca := (fh2 (t + 2) (by omega)).trans hca
  have hkn := eh2
  refine go_retv dX5_tell_20 rfl ?_
  refine ⟨⟨_, ca, ⟨hT, hkn, hca⟩, fun c hc8 => ?_, hc⟩, fun j hj => fh2 j (by omega)⟩
  show _ = nI (col (kSet T.2.1 a b) c)
  by_cases e : c = b
  · subst e; rw [pk_us, col_set ha]
  · rw [pk_un e, col_ne e]; exact hk c hc8
theorem s_empty {G : kG} {n t : Nat} {h : kH} (ht : t + 3 ≤ n) (HT : aTown G t h) : Spv G mX5_empty 1 [.ref (kb G + t)] n h (fun h' => oTown G t T0 h' ∧ kFr t (t + 3) h h') := by
  obtain ⟨kn, ca, pe, fo, lw, ju, hT, hkn, hca⟩ := id HT
  have hF : kFr t (t + 3) h h := kFr.rf
  refine Spv.of (by decide) (Nat.le_of_ble_eq_true rfl) ?_
  refine go_aload_n 0 (nx := 1) dX5_empty_0 rfl rfl rfl ?_
  refine go_gf (nx := 4) fg_X5_9 dX5_empty_1 (by omega) hT rfl rfl ?_
  refine go_iconst (v := nI 0) (nx := 5) dX5_empty_4 (by decide) rfl ?_
  refine go_SNv (nx := 8) [_, _] kc_X5_21 (s_fill (by omega) hkn (by decide)) dX5_empty_5 rfl rfl (Nat.le_of_ble_eq_true rfl) (Nat.le_of_ble_eq_true rfl) ⟨Nat.le_refl _, Nat.le_refl _⟩ rfl (fun h1 hqh1 => ?_)
  obtain ⟨⟨gkn, qkn, eh1⟩, fh1⟩ := hqh1
  have hT := (fh1 (t) (by omega)).trans hT
  have hca := (fh1 (t + 2) (by omega)).trans hca
  have hkn := eh1
  have hF := hF.tr (fun j hj => fh1 j (by omega))
  refine go_aload_n 0 (nx := 9) dX5_empty_8 rfl rfl rfl ?_
  refine go_gf (nx := 12) fg_X5_15 dX5_empty_9 (by omega) hT rfl rfl ?_
  refine go_bipush (v := (-9)) (nx := 14) dX5_empty_12 (by decide) rfl ?_
  refine go_SNv (nx := 17) [_, _] kc_X5_21 (s_fill (by omega) hca (by decide)) dX5_empty_14 rfl rfl (Nat.le_of_ble_eq_true rfl) (Nat.le_of_ble_eq_true rfl) ⟨Nat.le_refl _, Nat.le_refl _⟩ rfl (fun h2 hqh2 => ?_)
  obtain ⟨⟨gca, qca, eh2⟩, fh2⟩ := hqh2
  have hT := (fh2 (t) (by omega)).trans hT
  have hkn := (fh2 (t + 1) (by omega)).trans hkn
  have hca := eh2
  have hF := hF.tr (fun j hj => fh2 j (by omega))
  refine go_aload_n 0 (nx := 18) dX5_empty_17 rfl rfl rfl ?_
  refine go_iconst (v := nI 0) (nx := 19) dX5_empty_18 (by decide) rfl ?_
  refine go_pf (fs' := [_, _, _, _, _, _]) (nx := 22) (fp_X5_25 _) dX5_empty_19 (by omega) hT (Nat.le_of_ble_eq_true rfl) ⟨rfl, rfl⟩ rfl rfl (fun h3 eh3 fh3 => ?_)
  have hkn := (fh3 (t + 1) (by omega)).trans hkn
  have hca := (fh3 (t + 2) (by omega)).trans hca
  have hT := eh3
  have hF := hF.tr (fun j hj => fh3 j (by omega))
  refine go_aload_n 0 (nx := 23) dX5_empty_22 rfl rfl rfl ?_
  refine go_iconst (v := nI 0) (nx := 24) dX5_empty_23 (by decide) rfl ?_
  refine go_pf (fs' := [_, _, _, _, _, _]) (nx := 27) (fp_X5_29 _) dX5_empty_24 (by omega) hT (Nat.le_of_ble_eq_true rfl) ⟨rfl, rfl⟩ rfl rfl (fun h4 eh4 fh4 => ?_)
  have hkn := (fh4 (t + 1) (by omega)).trans hkn
  have hca := (fh4 (t + 2) (by omega)).trans hca
  have hT := eh4
  have hF := hF.tr (fun j hj => fh4 j (by omega))
  refine go_aload_n 0 (nx := 28) dX5_empty_27 rfl rfl rfl ?_
  refine go_iconst (v := nI 0) (nx := 29) dX5_empty_28 (by decide) rfl ?_
  refine go_pf (fs' := [_, _, _, _, _, _]) (nx := 32) (fp_X5_32 _) dX5_empty_29 (by omega) hT (Nat.le_of_ble_eq_true rfl) ⟨rfl, rfl⟩ rfl rfl (fun h5 eh5 fh5 => ?_)
  have hkn := (fh5 (t + 1) (by omega)).trans hkn
  have hca := (fh5 (t + 2) (by omega)).trans hca
  have hT := eh5
  have hF := hF.tr (fun j hj => fh5 j (by omega))
  refine go_aload_n 0 (nx := 33) dX5_empty_32 rfl rfl rfl ?_
  refine go_iconst (v := nI 2) (nx := 34) dX5_empty_33 (by decide) rfl ?_
  refine go_pf (fs' := [_, _, _, _, _, _]) (nx := 37) (fp_X5_35 _) dX5_empty_34 (by omega) hT (Nat.le_of_ble_eq_true rfl) ⟨rfl, rfl⟩ rfl rfl (fun h6 eh6 fh6 => ?_)
  have hkn := (fh6 (t + 1) (by omega)).trans hkn
  have hca := (fh6 (t + 2) (by omega)).trans hca
  have hT := eh6
  have hF := hF.tr (fun j hj => fh6 j (by omega))
  refine go_retv dX5_empty_37 rfl ?_
  exact ⟨⟨gkn, gca, ⟨hT, hkn, hca⟩, fun b hb => (qkn b hb).trans (congrArg nI (show col T0.2.1 b = 0 from bits_zero.mpr (fun _ _ => rfl)).symm), fun p hp => qca p hp⟩, hF⟩
theorem s_readForgets {G : kG} {n sz c t : Nat} {h : kH} {tx : Nat → Nat} {fa : Int32} {fF fL : Bool} {T : mT} (hn : 37 ≤ n) (HR : rdS G tx sz c fa fF fL h) (hc : c ≤ tmn tx sz) (hs4 : sz ≤ 400) (ht : t + 3 ≤ n) (ht6 : 6 ≤ t) (HT : oTown G t T h) (hw : wT T) : Spi G mX3_readForgets 2 [.ref (kb G + 3), .ref (kb G + t)] n h (fun v h' => (rN (tSt tx sz c) 9 = true ∧ v = nI 1 ∧ rdS G tx sz (c + 1) fa true fL h' ∧ oTown G t (T.1, T.2.1, T.2.2.1, tSt tx sz c - 100, T.2.2.2.2) h' ∨ rN (tSt tx sz c) 9 = false ∧ v = nI 0 ∧ rdS G tx sz c (nI (tpl tx sz c)) true fL h' ∧ oTown G t T h') ∧ tfr t h h') := by
  obtain ⟨tk, pl, ⟨hr, htk, hpl⟩, hok⟩ := id HR
  have hm := tmn_le (tx := tx) (sz := sz)
  obtain ⟨kn, ca, ⟨hT, hkn, hca⟩, hk, hca2⟩ := id HT
  have hs2 := tSt_lt (tx := tx) (sz := sz) (i := c)
  have dF : tfr t h h := tfr.rf
  refine Spi.of (by decide) (Nat.le_of_ble_eq_true rfl) ?_
  refine go_aload_n 0 (nx := 1) dX3_readForgets_0 rfl rfl rfl ?_
  refine go_iconst (v := nI 1) (nx := 2) dX3_readForgets_1 (by decide) rfl ?_
  refine go_pf (fs' := [_, _, _, _, _, _]) (nx := 5) (fp_X3_38 _) dX3_readForgets_2 (by omega) hr (Nat.le_of_ble_eq_true rfl) ⟨rfl, rfl⟩ rfl rfl (fun h1 eh1 fh1 => ?_)
  have htk := (fh1 (4) (by omega)).trans htk
  have hpl := (fh1 (5) (by omega)).trans hpl
  have hT := (fh1 (t) (by omega)).trans hT
  have hkn := (fh1 (t + 1) (by omega)).trans hkn
  have hca := (fh1 (t + 2) (by omega)).trans hca
  have hr := eh1
  have HR : rdS G tx sz c fa true fL h1 := ⟨tk, pl, ⟨hr, htk, hpl⟩, hok⟩
  have HT := HT.fr (h' := h1) (lo := 3) (hi := 4) (fun j hj => fh1 j (by omega)) (by omega)
  have dF := dF.k (h2 := h1) (lo := 3) (hi := 4) (fun j hj => fh1 j (by omega)) (by omega)
  refine go_aload_n 0 (nx := 6) dX3_readForgets_5 rfl rfl rfl ?_
  refine go_Vi (nx := 9) [] kc_X3_119 ⟨_, _, rfl⟩ (by omega) hr (s_number hn HR hc hs4) dX3_readForgets_6 rfl rfl (Nat.le_of_ble_eq_true rfl) (Nat.le_of_ble_eq_true rfl) ⟨Nat.le_refl _, Nat.le_refl _⟩ rfl (fun rh2 h2 hqh2 => ?_)
  obtain ⟨rfl, rfl⟩ := hqh2
  refine go_istore_n (lv' := [_, _, _]) (nx := 10) dX3_readForgets_9 rfl (by decide) rfl rfl ?_
  refine go_aload_n 1 (nx := 11) dX3_readForgets_10 rfl rfl rfl ?_
  refine go_iload_n 0 (nx := 12) dX3_readForgets_11 rfl rfl rfl ?_
  refine go_if_lt 25 (nx := 15) dX3_readForgets_12 rfl rfl (fun c12 => ?_) (fun c12 => ?_)
  · skip
    refine go_iconst (v := nI 0) (nx := 26) dX3_readForgets_25 (by decide) rfl ?_
    refine go_Vi (nx := 29) [_] kc_X3_102 ⟨_, _, rfl⟩ (by omega) hr (s_take (b := false) hn HR hc hs4 rfl) dX3_readForgets_26 rfl rfl (Nat.le_of_ble_eq_true rfl) (Nat.le_of_ble_eq_true rfl) ⟨Nat.le_refl _, Nat.le_refl _⟩ rfl (fun rh3 h3 hqh3 => ?_)
    obtain ⟨rfl, HR, hFh3⟩ := hqh3
    have HR : rdS G tx sz c (nI (tpl tx sz c)) true fL h3 := HR
    have HT := HT.fr hFh3 (by omega)
    have dF := dF.k hFh3 (by omega)
    have hT := (hFh3 (t) (by omega)).trans hT
    have hkn := (hFh3 (t + 1) (by omega)).trans hkn
    have hca := (hFh3 (t + 2) (by omega)).trans hca
    obtain ⟨tk, pl, ⟨hr, htk, hpl⟩, hok⟩ := id HR
    refine go_if_ne 34 (nx := 32) dX3_readForgets_29 rfl rfl (fun c29 => False.elim (absurd rfl c29)) (fun c29 => ?_)
    refine go_iconst (v := nI 0) (nx := 33) dX3_readForgets_32 (by decide) rfl ?_
    refine go_reti dX3_readForgets_33 ⟨_, rfl, rfl⟩ ?_
    have e : rN (tSt tx sz c) 9 = false := by
      have z : tSt tx sz c < 100 := Nat.lt_of_not_le fun q => by rw [nm_pos q] at c12; exact Nat.not_lt_zero _ (klt (b := 0) c12 (by omega) (by decide))
      simp [rN]; omega
    exact ⟨Or.inr ⟨e, rfl, HR, HT⟩, dF⟩
  · skip
    refine go_iload_n 0 (nx := 16) dX3_readForgets_15 rfl rfl rfl ?_
    refine go_bipush (v := nI 9) (nx := 18) dX3_readForgets_16 (by decide) rfl ?_
    refine go_icmp_gt 25 (nx := 21) dX3_readForgets_18 rfl rfl (fun c18 => ?_) (fun c18 => ?_)
    · skip
      refine go_iconst (v := nI 0) (nx := 26) dX3_readForgets_25 (by decide) rfl ?_
      refine go_Vi (nx := 29) [_] kc_X3_102 ⟨_, _, rfl⟩ (by omega) hr (s_take (b := false) hn HR hc hs4 rfl) dX3_readForgets_26 rfl rfl (Nat.le_of_ble_eq_true rfl) (Nat.le_of_ble_eq_true rfl) ⟨Nat.le_refl _, Nat.le_refl _⟩ rfl (fun rh3 h3 hqh3 => ?_)
      obtain ⟨rfl, HR, hFh3⟩ := hqh3
      have HR : rdS G tx sz c (nI (tpl tx sz c)) true fL h3 := HR
      have HT := HT.fr hFh3 (by omega)
      have dF := dF.k hFh3 (by omega)
      have hT := (hFh3 (t) (by omega)).trans hT
      have hkn := (hFh3 (t + 1) (by omega)).trans hkn
      have hca := (hFh3 (t + 2) (by omega)).trans hca
      obtain ⟨tk, pl, ⟨hr, htk, hpl⟩, hok⟩ := id HR
      refine go_if_ne 34 (nx := 32) dX3_readForgets_29 rfl rfl (fun c29 => False.elim (absurd rfl c29)) (fun c29 => ?_)
      refine go_iconst (v := nI 0) (nx := 33) dX3_readForgets_32 (by decide) rfl ?_
      refine go_reti dX3_readForgets_33 ⟨_, rfl, rfl⟩ ?_
      have e : rN (tSt tx sz c) 9 = false := by
        have z : 100 ≤ tSt tx sz c := Nat.le_of_not_lt fun q => c12 (nm_neg _ q)
        rw [nm_pos z] at c18
        have z2 := klt c18 (by omega) (by omega)
        simp [rN]; omega
      exact ⟨Or.inr ⟨e, rfl, HR, HT⟩, dF⟩
    · skip
      refine go_iconst (v := nI 1) (nx := 22) dX3_readForgets_21 (by decide) rfl ?_
      refine go_goto 26 dX3_readForgets_22 rfl ?_
      refine go_Vi (nx := 29) [_] kc_X3_102 ⟨_, _, rfl⟩ (by omega) hr (s_take (b := true) hn HR hc hs4 rfl) dX3_readForgets_26 rfl rfl (Nat.le_of_ble_eq_true rfl) (Nat.le_of_ble_eq_true rfl) ⟨Nat.le_refl _, Nat.le_refl _⟩ rfl (fun rh3 h3 hqh3 => ?_)
      obtain ⟨rfl, HR, hFh3⟩ := hqh3
      have HR : rdS G tx sz (c + 1) fa true fL h3 := HR
      have HT := HT.fr hFh3 (by omega)
      have dF := dF.k hFh3 (by omega)
      have hT := (hFh3 (t) (by omega)).trans hT
      have hkn := (hFh3 (t + 1) (by omega)).trans hkn
      have hca := (hFh3 (t + 2) (by omega)).trans hca
      obtain ⟨tk, pl, ⟨hr, htk, hpl⟩, hok⟩ := id HR
      refine go_if_ne 34 (nx := 32) dX3_readForgets_29 rfl rfl (fun c29 => ?_) (fun c29 => False.elim (absurd c29 (by decide)))
      refine go_aload_n 2 (nx := 35) dX3_readForgets_34 rfl rfl rfl ?_
      refine go_iload_n 0 (nx := 36) dX3_readForgets_35 rfl rfl rfl ?_
      refine go_pf (fs' := [_, _, _, _, _, _]) (nx := 39) (fp_X3_122 _) dX3_readForgets_36 (by omega) hT (Nat.le_of_ble_eq_true rfl) ⟨rfl, rfl⟩ rfl rfl (fun h4 eh4 fh4 => ?_)
      have hr := (fh4 (3) (by omega)).trans hr
      have htk := (fh4 (4) (by omega)).trans htk
      have hpl := (fh4 (5) (by omega)).trans hpl
      have hkn := (fh4 (t + 1) (by omega)).trans hkn
      have hca := (fh4 (t + 2) (by omega)).trans hca
      have hT := eh4
      refine go_iconst (v := nI 1) (nx := 40) dX3_readForgets_39 (by decide) rfl ?_
      refine go_reti dX3_readForgets_40 ⟨_, rfl, rfl⟩ ?_
      have z : 100 ≤ tSt tx sz c := Nat.le_of_not_lt fun q => c12 (nm_neg _ q)
      rw [nm_pos z] at c18
      have z2 := knlt c18 (by omega) (by omega)
      have e : rN (tSt tx sz c) 9 = true := by simp [rN]; omega
      rw [nm_pos z] at hT
      have fx : kFr t (t + 1) _ h4 := fun j hj => fh4 j (by omega)
      exact ⟨Or.inl ⟨e, rfl, HR.fr fx (by omega), ⟨kn, ca, ⟨hT, hkn, hca⟩, hk, hca2⟩⟩, dF.k fx (by omega)⟩
