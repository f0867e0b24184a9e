theorem wT_0 : wT T0 := ⟨by decide, fun a b h => (nomatch h), fun p b h => (nomatch h), by decide, by decide, by decide⟩
/-! LeastKnown: town -/
theorem s_read {G : kG} {n sz : Nat} {h : kH} {tx : Nat → Nat} {t : Nat} (hWD : WDok G) (hn : 37 ≤ n) (HT : oText G tx sz h) (h256 : ∀ j, tx j < 256) (HO : oRead G h) (ht : t + 3 ≤ n) (ht6 : 6 ≤ t) (HA : aTown G t h) : Spi G mX3_read 9 [.ref (kb G + 3), .ref (kb G + 1), .ref (kb G + t)] n h (fun v h' => v = fTown tx sz ∧ (match rdTown tx sz with | .inl _ => aTown G t h' | .inr (_, T2) => oTown G t T2 h') ∧ oRead G h' ∧ tfr t h h') := by
  obtain ⟨htc, hsz, ba, hby, hba⟩ := id HT
  obtain ⟨tk, pl, cu, fa, lt, ft, hr, htk, hpl⟩ := id HO
  obtain ⟨kn, ca, pe, fo, lw, ju, hT, hkn, hca⟩ := id HA
  have dF : tfr t h h := tfr.rf
  refine Spi.of (by decide) (Nat.le_of_ble_eq_true rfl) ?_
  refine Go.loc (lv' := [(0, _), (1, _), (2, _)]) rfl ?_
  refine go_aload_n 2 (nx := 1) dX3_read_0 rfl rfl rfl ?_
  refine go_Vv (nx := 4) [] kc_X3_18 ⟨_, _, rfl⟩ (by omega) hT (s_empty ht HA) dX3_read_1 rfl rfl (Nat.le_of_ble_eq_true rfl) (Nat.le_of_ble_eq_true rfl) ⟨Nat.le_refl _, Nat.le_refl _⟩ rfl (fun h1 hqh1 => ?_)
  obtain ⟨HN, hFh1⟩ := hqh1
  have dF := dF.k hFh1 (by omega)
  have HT := HT.fr hFh1 (by omega)
  have hr := (hFh1 3 (by omega)).trans hr
  have htk := (hFh1 4 (by omega)).trans htk
  have hpl := (hFh1 5 (by omega)).trans hpl
  have htc := (hFh1 1 (by omega)).trans htc
  have hby := (hFh1 2 (by omega)).trans hby
  obtain ⟨kn, ca, ⟨hT, hkn, hca⟩, hkN, hcN⟩ := id HN
  refine go_aload_n 0 (nx := 5) dX3_read_4 rfl rfl rfl ?_
  refine go_aload_n 1 (nx := 6) dX3_read_5 rfl rfl rfl ?_
  refine go_Vv (nx := 9) [_] kc_X3_23 ⟨_, _, rfl⟩ (by omega) hr (s_find hWD hn HT h256 ⟨hr, htk, hpl⟩) dX3_read_6 rfl rfl (Nat.le_of_ble_eq_true rfl) (Nat.le_of_ble_eq_true rfl) ⟨Nat.le_refl _, Nat.le_refl _⟩ rfl (fun h2 hqh2 => ?_)
  obtain ⟨⟨tk, pl, ⟨hr, htk, hpl⟩, hok⟩, hFh2⟩ := hqh2
  have dF := dF.k hFh2 (by omega)
  have HN := HN.fr hFh2 (by omega)
  have htc := (hFh2 1 (by omega)).trans htc
  have hby := (hFh2 2 (by omega)).trans hby
  have hT := (hFh2 t (by omega)).trans hT
  have hkn := (hFh2 (t + 1) (by omega)).trans hkn
  have hca := (hFh2 (t + 2) (by omega)).trans hca
  have hF : kFr 3 4 h2 h2 := kFr.rf
  have hF0 := HN
  refine go_aload_n 0 (nx := 10) dX3_read_9 rfl rfl rfl ?_
  refine go_iconst (v := nI 0) (nx := 11) dX3_read_10 (by decide) rfl ?_
  refine go_pf (fs' := [_, _, _, _, _, _]) (nx := 14) (fp_X3_27 _) dX3_read_11 (by omega) hr (Nat.le_of_ble_eq_true rfl) ⟨rfl, rfl⟩ rfl rfl (fun h3 eh3 fh3 => ?_)
  have htk := (fh3 (4) (by omega)).trans htk
  have hpl := (fh3 (5) (by omega)).trans hpl
  have htc := (fh3 (1) (by omega)).trans htc
  have hby := (fh3 (2) (by omega)).trans hby
  have hT := (fh3 (t) (by omega)).trans hT
  have hkn := (fh3 (t + 1) (by omega)).trans hkn
  have hca := (fh3 (t + 2) (by omega)).trans hca
  have hr := eh3
  have hF := hF.tr (fun j hj => fh3 j (by omega))
  refine go_aload_n 0 (nx := 15) dX3_read_14 rfl rfl rfl ?_
  refine go_iconst (v := (-1)) (nx := 16) dX3_read_15 (by decide) rfl ?_
  refine go_pf (fs' := [_, _, _, _, _, _]) (nx := 19) (fp_X3_31 _) dX3_read_16 (by omega) hr (Nat.le_of_ble_eq_true rfl) ⟨rfl, rfl⟩ rfl rfl (fun h4 eh4 fh4 => ?_)
  have htk := (fh4 (4) (by omega)).trans htk
  have hpl := (fh4 (5) (by omega)).trans hpl
  have htc := (fh4 (1) (by omega)).trans htc
  have hby := (fh4 (2) (by omega)).trans hby
  have hT := (fh4 (t) (by omega)).trans hT
  have hkn := (fh4 (t + 1) (by omega)).trans hkn
  have hca := (fh4 (t + 2) (by omega)).trans hca
  have hr := eh4
  have hF := hF.tr (fun j hj => fh4 j (by omega))
  refine go_aload_n 0 (nx := 20) dX3_read_19 rfl rfl rfl ?_
  refine go_iconst (v := nI 0) (nx := 21) dX3_read_20 (by decide) rfl ?_
  refine go_pf (fs' := [_, _, _, _, _, _]) (nx := 24) (fp_X3_34 _) dX3_read_21 (by omega) hr (Nat.le_of_ble_eq_true rfl) ⟨rfl, rfl⟩ rfl rfl (fun h5 eh5 fh5 => ?_)
  have htk := (fh5 (4) (by omega)).trans htk
  have hpl := (fh5 (5) (by omega)).trans hpl
  have htc := (fh5 (1) (by omega)).trans htc
  have hby := (fh5 (2) (by omega)).trans hby
  have hT := (fh5 (t) (by omega)).trans hT
  have hkn := (fh5 (t + 1) (by omega)).trans hkn
  have hca := (fh5 (t + 2) (by omega)).trans hca
  have hr := eh5
  have hF := hF.tr (fun j hj => fh5 j (by omega))
  refine go_aload_n 0 (nx := 25) dX3_read_24 rfl rfl rfl ?_
  refine go_iconst (v := nI 0) (nx := 26) dX3_read_25 (by decide) rfl ?_
  refine go_pf (fs' := [_, _, _, _, _, _]) (nx := 29) (fp_X3_38 _) dX3_read_26 (by omega) hr (Nat.le_of_ble_eq_true rfl) ⟨rfl, rfl⟩ rfl rfl (fun h6 eh6 fh6 => ?_)
  have htk := (fh6 (4) (by omega)).trans htk
  have hpl := (fh6 (5) (by omega)).trans hpl
  have htc := (fh6 (1) (by omega)).trans htc
  have hby := (fh6 (2) (by omega)).trans hby
  have hT := (fh6 (t) (by omega)).trans hT
  have hkn := (fh6 (t + 1) (by omega)).trans hkn
  have hca := (fh6 (t + 2) (by omega)).trans hca
  have hr := eh6
  have hF := hF.tr (fun j hj => fh6 j (by omega))
  refine go_iconst (v := nI 0) (nx := 30) dX3_read_29 (by decide) rfl ?_
  refine go_istore_n (lv' := [_, _, _, _]) (nx := 31) dX3_read_30 rfl (by decide) rfl rfl ?_
  refine Go.sub [0, 1, 2, 3] rfl ?_
  exact l_read hn hsz ht ht6 402 0 0 _ T0 false false (by omega) (by omega) (by omega) wT_0 ⟨tk, pl, ⟨hr, htk, hpl⟩, hok⟩ (HN.fr hF (by omega)) (dF.k hF (by omega)) rfl
