/-! LeastKnown: kinds, images, parties -/
theorem wS_tr {tx : Nat → Nat} {sz : Nat} {ν : mN} {i0 i1 : Option mN} {T : mT} {tr tr2 : Int64} (h : wS (tx, sz, ν, i0, i1, T, tr)) : wS (tx, sz, ν, i0, i1, T, tr2) := h
theorem s_asPerson {G : kG} {n t sz : Nat} {h : kH} {tx : Nat → Nat} {ν : mN} {i0 i1 : Option mN} {T : mT} {tr : Int64} {p : Nat} {x : Int32} (hn : 37 ≤ n) (H : oX G t (tx, sz, ν, i0, i1, T, tr) h) (W : wS (tx, sz, ν, i0, i1, T, tr)) (hx : x = nI p) (hp : p < T.1) : Spi G mX6_asPerson 1 [.ref (kb G + 0), .int x] n h (fun v h' => v = nI (cnt ν.1 p) ∧ oX G t (tx, sz, ν, i0, i1, T, (tr + 1)) h' ∧ kFr 0 37 h h') := by
  subst hx
  obtain ⟨ht, hX, hTx, hRd, hNow, hI0, hI1, hFt, hTo, hDr⟩ := id H
  have hX : h 0 = .inr (6, [.ref (kb G + 1), .ref (kb G + 3), .ref (kb G + 6), .ref (kb G + 11), .ref (kb G + 17), .ref (kb G + 23), .ref (kb G + t), .ref (kb G + (65 - t)), .long tr]) := hX
  have hTx : oText G tx sz h := hTx
  have hNow : oNow G 6 ν h := hNow
  have hI0 : oImg G 11 i0 h := hI0
  have hI1 : oImg G 17 i1 h := hI1
  have hTo : oTown G t T h := hTo
  obtain ⟨hwT, hwN, hY, hw0, hw1, hsz, htx⟩ := id W
  have hwT : wT T := hwT
  have hwN : wN T.1 ν := hwN
  have hY : ν.2.2.2.1 ≤ 99 := hY
  have hsz : sz ≤ 400 := hsz
  have hP8 := hwT.1
  obtain ⟨kn, ct, si, cr, ⟨hN, hkn, hct, hsi, hcr⟩, hK, hC, hS, hR⟩ := id hNow
  obtain ⟨tk, tc, ⟨hT, htk, htc⟩, hTk, hTc⟩ := id hTo
  have hp8 : p < 8 := by omega
  have hZ : kFr 0 37 h h := kFr.rf
  refine Spi.of (by decide) (Nat.le_of_ble_eq_true rfl) ?_
  refine go_aload_n 0 (nx := 1) dX6_asPerson_0 rfl rfl rfl ?_
  refine go_dup (nx := 2) dX6_asPerson_1 rfl rfl ?_
  refine go_gf (nx := 5) fg_X6_225 dX6_asPerson_2 (by omega) hX rfl rfl ?_
  refine go_lconst (v := 1) (nx := 6) dX6_asPerson_5 (by decide) rfl ?_
  refine go_ladd (nx := 7) dX6_asPerson_6 rfl ?_
  refine go_pf (fs' := [_, _, _, _, _, _, _, _, _]) (nx := 10) (fp_X6_225 _) dX6_asPerson_7 (by omega) hX (Nat.le_of_ble_eq_true rfl) ⟨rfl, rfl⟩ rfl rfl (fun h1 eh1 fh1 => ?_)
  have hN := (fh1 (6) (by omega)).trans hN
  have hkn := (fh1 (6 + 1) (by omega)).trans hkn
  have hct := (fh1 (6 + 2) (by omega)).trans hct
  have hsi := (fh1 (6 + 3) (by omega)).trans hsi
  have hcr := (fh1 (6 + 4) (by omega)).trans hcr
  have hX := eh1
  have fx : kFr 0 1 _ h1 := fun j hj => fh1 j (by omega)
  have H := H.setTr (tr := tr + 1) hX fx
  have hZ := hZ.tr (fx.wide (by omega) (by omega))
  refine go_aload_n 0 (nx := 11) dX6_asPerson_10 rfl rfl rfl ?_
  refine go_gf (nx := 14) fg_X6_26 dX6_asPerson_11 (by omega) hX rfl rfl ?_
  refine go_gf (nx := 17) fg_X6_93 dX6_asPerson_14 (by omega) hN rfl rfl ?_
  refine go_iload_n 1 (nx := 18) dX6_asPerson_17 rfl rfl rfl ?_
  refine go_Si (nx := 21) [_, _] kc_X6_97 (s_at_in (by omega) hct (by omega) rfl hp8) dX6_asPerson_18 rfl rfl (Nat.le_of_ble_eq_true rfl) (Nat.le_of_ble_eq_true rfl) ⟨Nat.le_refl _, Nat.le_refl _⟩ rfl (fun rh2 h2 hqh2 => ?_)
  obtain ⟨rfl, rfl⟩ := hqh2
  rw [hC p hp8]
  refine go_reti dX6_asPerson_21 ⟨_, rfl, rfl⟩ ?_
  exact ⟨rfl, H, hZ⟩
theorem s_asShy {G : kG} {n t sz : Nat} {h : kH} {tx : Nat → Nat} {ν : mN} {i0 i1 : Option mN} {T : mT} {tr : Int64} {p : Nat} {x : Int32} (hn : 37 ≤ n) (H : oX G t (tx, sz, ν, i0, i1, T, tr) h) (W : wS (tx, sz, ν, i0, i1, T, tr)) (hx : x = nI p) (hp : p < T.1) : Spi G mX6_asShy 3 [.ref (kb G + 0), .int x] n h (fun v h' => v = nI (cnt ν.1 p) - nI (acq ν.1 p) ∧ oX G t (tx, sz, ν, i0, i1, T, (tr + 10 + 1)) h' ∧ kFr 0 37 h h') := by
  subst hx
  obtain ⟨ht, hX, hTx, hRd, hNow, hI0, hI1, hFt, hTo, hDr⟩ := id H
  have hX : h 0 = .inr (6, [.ref (kb G + 1), .ref (kb G + 3), .ref (kb G + 6), .ref (kb G + 11), .ref (kb G + 17), .ref (kb G + 23), .ref (kb G + t), .ref (kb G + (65 - t)), .long tr]) := hX
  have hTx : oText G tx sz h := hTx
  have hNow : oNow G 6 ν h := hNow
  have hI0 : oImg G 11 i0 h := hI0
  have hI1 : oImg G 17 i1 h := hI1
  have hTo : oTown G t T h := hTo
  obtain ⟨hwT, hwN, hY, hw0, hw1, hsz, htx⟩ := id W
  have hwT : wT T := hwT
  have hwN : wN T.1 ν := hwN
  have hY : ν.2.2.2.1 ≤ 99 := hY
  have hsz : sz ≤ 400 := hsz
  have hP8 := hwT.1
  obtain ⟨kn, ct, si, cr, ⟨hN, hkn, hct, hsi, hcr⟩, hK, hC, hS, hR⟩ := id hNow
  obtain ⟨tk, tc, ⟨hT, htk, htc⟩, hTk, hTc⟩ := id hTo
  have hp8 : p < 8 := by omega
  have hZ : kFr 0 37 h h := kFr.rf
  refine Spi.of (by decide) (Nat.le_of_ble_eq_true rfl) ?_
  refine go_aload_n 0 (nx := 1) dX6_asShy_0 rfl rfl rfl ?_
  refine go_dup (nx := 2) dX6_asShy_1 rfl rfl ?_
  refine go_gf (nx := 5) fg_X6_225 dX6_asShy_2 (by omega) hX rfl rfl ?_
  refine go_ldc2 (nx := 8) kl_X6_229 dX6_asShy_5 rfl ?_
  refine go_ladd (nx := 9) dX6_asShy_8 rfl ?_
  refine go_pf (fs' := [_, _, _, _, _, _, _, _, _]) (nx := 12) (fp_X6_225 _) dX6_asShy_9 (by omega) hX (Nat.le_of_ble_eq_true rfl) ⟨rfl, rfl⟩ rfl rfl (fun h1 eh1 fh1 => ?_)
  have hN := (fh1 (6) (by omega)).trans hN
  have hkn := (fh1 (6 + 1) (by omega)).trans hkn
  have hct := (fh1 (6 + 2) (by omega)).trans hct
  have hsi := (fh1 (6 + 3) (by omega)).trans hsi
  have hcr := (fh1 (6 + 4) (by omega)).trans hcr
  have hX := eh1
  have fx : kFr 0 1 _ h1 := fun j hj => fh1 j (by omega)
  have H := H.setTr (tr := tr + 10) hX fx
  have hZ := hZ.tr (fx.wide (by omega) (by omega))
  refine go_aload_n 0 (nx := 13) dX6_asShy_12 rfl rfl rfl ?_
  refine go_iload_n 1 (nx := 14) dX6_asShy_13 rfl rfl rfl ?_
  refine go_Vi (nx := 17) [_] kc_X6_193 ⟨_, _, rfl⟩ (by omega) hX (s_asPerson hn H (wS_tr W) rfl hp) dX6_asShy_14 rfl rfl (Nat.le_of_ble_eq_true rfl) (Nat.le_of_ble_eq_true rfl) ⟨Nat.le_refl _, Nat.le_refl _⟩ rfl (fun rh2 h2 hqh2 => ?_)
  obtain ⟨rfl, H, hZh2⟩ := hqh2
  have hZ := hZ.tr hZh2
  obtain ⟨ht, hX, hTx, hRd, hNow, hI0, hI1, hFt, hTo, hDr⟩ := id H
  have hX : h2 0 = .inr (6, [.ref (kb G + 1), .ref (kb G + 3), .ref (kb G + 6), .ref (kb G + 11), .ref (kb G + 17), .ref (kb G + 23), .ref (kb G + t), .ref (kb G + (65 - t)), .long (tr + 10 + 1)]) := hX
  have hNow : oNow G 6 ν h2 := hNow
  obtain ⟨kn, ct, si, cr, ⟨hN, hkn, hct, hsi, hcr⟩, hK, hC, hS, hR⟩ := id hNow
  refine go_aload_n 0 (nx := 18) dX6_asShy_17 rfl rfl rfl ?_
  refine go_gf (nx := 21) fg_X6_26 dX6_asShy_18 (by omega) hX rfl rfl ?_
  refine go_iload_n 1 (nx := 22) dX6_asShy_21 rfl rfl rfl ?_
  refine go_Vi (nx := 25) [_] kc_X6_101 ⟨_, _, rfl⟩ (by omega) hN (s_acq (by omega) hNow rfl hp8) dX6_asShy_22 rfl rfl (Nat.le_of_ble_eq_true rfl) (Nat.le_of_ble_eq_true rfl) ⟨Nat.le_refl _, Nat.le_refl _⟩ rfl (fun rh3 h3 hqh3 => ?_)
  obtain ⟨rfl, rfl⟩ := hqh3
  refine go_isub (nx := 26) dX6_asShy_25 rfl ?_
  refine go_reti dX6_asShy_26 ⟨_, rfl, rfl⟩ ?_
  exact ⟨rfl, H, hZ⟩
theorem s_asKnown {G : kG} {n t sz : Nat} {h : kH} {tx : Nat → Nat} {ν : mN} {i0 i1 : Option mN} {T : mT} {tr : Int64} {p : Nat} {x : Int32} (hn : 37 ≤ n) (H : oX G t (tx, sz, ν, i0, i1, T, tr) h) (W : wS (tx, sz, ν, i0, i1, T, tr)) (hx : x = nI p) (hp : p < T.1) : Spi G mX6_asKnown 2 [.ref (kb G + 0), .int x] n h (fun v h' => v = nI (cnt ν.1 p) + nI (ν.2.2.1 p) ∧ oX G t (tx, sz, ν, i0, i1, T, (tr + 100 + 1)) h' ∧ kFr 0 37 h h') := by
  subst hx
  obtain ⟨ht, hX, hTx, hRd, hNow, hI0, hI1, hFt, hTo, hDr⟩ := id H
  have hX : h 0 = .inr (6, [.ref (kb G + 1), .ref (kb G + 3), .ref (kb G + 6), .ref (kb G + 11), .ref (kb G + 17), .ref (kb G + 23), .ref (kb G + t), .ref (kb G + (65 - t)), .long tr]) := hX
  have hTx : oText G tx sz h := hTx
  have hNow : oNow G 6 ν h := hNow
  have hI0 : oImg G 11 i0 h := hI0
  have hI1 : oImg G 17 i1 h := hI1
  have hTo : oTown G t T h := hTo
  obtain ⟨hwT, hwN, hY, hw0, hw1, hsz, htx⟩ := id W
  have hwT : wT T := hwT
  have hwN : wN T.1 ν := hwN
  have hY : ν.2.2.2.1 ≤ 99 := hY
  have hsz : sz ≤ 400 := hsz
  have hP8 := hwT.1
  obtain ⟨kn, ct, si, cr, ⟨hN, hkn, hct, hsi, hcr⟩, hK, hC, hS, hR⟩ := id hNow
  obtain ⟨tk, tc, ⟨hT, htk, htc⟩, hTk, hTc⟩ := id hTo
  have hp8 : p < 8 := by omega
  have hZ : kFr 0 37 h h := kFr.rf
  refine Spi.of (by decide) (Nat.le_of_ble_eq_true rfl) ?_
  refine go_aload_n 0 (nx := 1) dX6_asKnown_0 rfl rfl rfl ?_
  refine go_dup (nx := 2) dX6_asKnown_1 rfl rfl ?_
  refine go_gf (nx := 5) fg_X6_225 dX6_asKnown_2 (by omega) hX rfl rfl ?_
  refine go_ldc2 (nx := 8) kl_X6_231 dX6_asKnown_5 rfl ?_
  refine go_ladd (nx := 9) dX6_asKnown_8 rfl ?_
  refine go_pf (fs' := [_, _, _, _, _, _, _, _, _]) (nx := 12) (fp_X6_225 _) dX6_asKnown_9 (by omega) hX (Nat.le_of_ble_eq_true rfl) ⟨rfl, rfl⟩ rfl rfl (fun h1 eh1 fh1 => ?_)
  have hN := (fh1 (6) (by omega)).trans hN
  have hkn := (fh1 (6 + 1) (by omega)).trans hkn
  have hct := (fh1 (6 + 2) (by omega)).trans hct
  have hsi := (fh1 (6 + 3) (by omega)).trans hsi
  have hcr := (fh1 (6 + 4) (by omega)).trans hcr
  have hX := eh1
  have fx : kFr 0 1 _ h1 := fun j hj => fh1 j (by omega)
  have H := H.setTr (tr := tr + 100) hX fx
  have hZ := hZ.tr (fx.wide (by omega) (by omega))
  refine go_aload_n 0 (nx := 13) dX6_asKnown_12 rfl rfl rfl ?_
  refine go_iload_n 1 (nx := 14) dX6_asKnown_13 rfl rfl rfl ?_
  refine go_Vi (nx := 17) [_] kc_X6_193 ⟨_, _, rfl⟩ (by omega) hX (s_asPerson hn H (wS_tr W) rfl hp) dX6_asKnown_14 rfl rfl (Nat.le_of_ble_eq_true rfl) (Nat.le_of_ble_eq_true rfl) ⟨Nat.le_refl _, Nat.le_refl _⟩ rfl (fun rh2 h2 hqh2 => ?_)
  obtain ⟨rfl, H, hZh2⟩ := hqh2
  have hZ := hZ.tr hZh2
  obtain ⟨ht, hX, hTx, hRd, hNow, hI0, hI1, hFt, hTo, hDr⟩ := id H
  have hX : h2 0 = .inr (6, [.ref (kb G + 1), .ref (kb G + 3), .ref (kb G + 6), .ref (kb G + 11), .ref (kb G + 17), .ref (kb G + 23), .ref (kb G + t), .ref (kb G + (65 - t)), .long (tr + 100 + 1)]) := hX
  have hNow : oNow G 6 ν h2 := hNow
  obtain ⟨kn, ct, si, cr, ⟨hN, hkn, hct, hsi, hcr⟩, hK, hC, hS, hR⟩ := id hNow
  refine go_aload_n 0 (nx := 18) dX6_asKnown_17 rfl rfl rfl ?_
  refine go_gf (nx := 21) fg_X6_26 dX6_asKnown_18 (by omega) hX rfl rfl ?_
  refine go_gf (nx := 24) fg_X6_108 dX6_asKnown_21 (by omega) hN rfl rfl ?_
  refine go_iload_n 1 (nx := 25) dX6_asKnown_24 rfl rfl rfl ?_
  refine go_Si (nx := 28) [_, _] kc_X6_97 (s_at_in (by omega) hcr (by omega) rfl hp8) dX6_asKnown_25 rfl rfl (Nat.le_of_ble_eq_true rfl) (Nat.le_of_ble_eq_true rfl) ⟨Nat.le_refl _, Nat.le_refl _⟩ rfl (fun rh3 h3 hqh3 => ?_)
  obtain ⟨rfl, rfl⟩ := hqh3
  rw [hR p hp8]
  refine go_iadd (nx := 29) dX6_asKnown_28 rfl ?_
  refine go_reti dX6_asKnown_29 ⟨_, rfl, rfl⟩ ?_
  exact ⟨rfl, H, hZ⟩
theorem s_asMayor {G : kG} {n t sz : Nat} {h : kH} {tx : Nat → Nat} {ν : mN} {i0 i1 : Option mN} {T : mT} {tr : Int64} {p : Nat} {x : Int32} (hn : 37 ≤ n) (H : oX G t (tx, sz, ν, i0, i1, T, tr) h) (W : wS (tx, sz, ν, i0, i1, T, tr)) (hx : x = nI p) (hp : p < T.1) : Spi G mX6_asMayor 3 [.ref (kb G + 0), .int x] n h (fun v h' => v = nI 2 * (nI (cnt ν.1 p) + nI (ν.2.2.1 p)) ∧ oX G t (tx, sz, ν, i0, i1, T, (tr + 1000 + 100 + 1)) h' ∧ kFr 0 37 h h') := by
  subst hx
  obtain ⟨ht, hX, hTx, hRd, hNow, hI0, hI1, hFt, hTo, hDr⟩ := id H
  have hX : h 0 = .inr (6, [.ref (kb G + 1), .ref (kb G + 3), .ref (kb G + 6), .ref (kb G + 11), .ref (kb G + 17), .ref (kb G + 23), .ref (kb G + t), .ref (kb G + (65 - t)), .long tr]) := hX
  have hTx : oText G tx sz h := hTx
  have hNow : oNow G 6 ν h := hNow
  have hI0 : oImg G 11 i0 h := hI0
  have hI1 : oImg G 17 i1 h := hI1
  have hTo : oTown G t T h := hTo
  obtain ⟨hwT, hwN, hY, hw0, hw1, hsz, htx⟩ := id W
  have hwT : wT T := hwT
  have hwN : wN T.1 ν := hwN
  have hY : ν.2.2.2.1 ≤ 99 := hY
  have hsz : sz ≤ 400 := hsz
  have hP8 := hwT.1
  obtain ⟨kn, ct, si, cr, ⟨hN, hkn, hct, hsi, hcr⟩, hK, hC, hS, hR⟩ := id hNow
  obtain ⟨tk, tc, ⟨hT, htk, htc⟩, hTk, hTc⟩ := id hTo
  have hp8 : p < 8 := by omega
  have hZ : kFr 0 37 h h := kFr.rf
  refine Spi.of (by decide) (Nat.le_of_ble_eq_true rfl) ?_
  refine go_aload_n 0 (nx := 1) dX6_asMayor_0 rfl rfl rfl ?_
  refine go_dup (nx := 2) dX6_asMayor_1 rfl rfl ?_
  refine go_gf (nx := 5) fg_X6_225 dX6_asMayor_2 (by omega) hX rfl rfl ?_
  refine go_ldc2 (nx := 8) kl_X6_233 dX6_asMayor_5 rfl ?_
  refine go_ladd (nx := 9) dX6_asMayor_8 rfl ?_
  refine go_pf (fs' := [_, _, _, _, _, _, _, _, _]) (nx := 12) (fp_X6_225 _) dX6_asMayor_9 (by omega) hX (Nat.le_of_ble_eq_true rfl) ⟨rfl, rfl⟩ rfl rfl (fun h1 eh1 fh1 => ?_)
  have hN := (fh1 (6) (by omega)).trans hN
  have hkn := (fh1 (6 + 1) (by omega)).trans hkn
  have hct := (fh1 (6 + 2) (by omega)).trans hct
  have hsi := (fh1 (6 + 3) (by omega)).trans hsi
  have hcr := (fh1 (6 + 4) (by omega)).trans hcr
  have hX := eh1
  have fx : kFr 0 1 _ h1 := fun j hj => fh1 j (by omega)
  have H := H.setTr (tr := tr + 1000) hX fx
  have hZ := hZ.tr (fx.wide (by omega) (by omega))
  refine go_iconst (v := nI 2) (nx := 13) dX6_asMayor_12 (by decide) rfl ?_
  refine go_aload_n 0 (nx := 14) dX6_asMayor_13 rfl rfl rfl ?_
  refine go_iload_n 1 (nx := 15) dX6_asMayor_14 rfl rfl rfl ?_
  refine go_Vi (nx := 18) [_] kc_X6_199 ⟨_, _, rfl⟩ (by omega) hX (s_asKnown hn H (wS_tr W) rfl hp) dX6_asMayor_15 rfl rfl (Nat.le_of_ble_eq_true rfl) (Nat.le_of_ble_eq_true rfl) ⟨Nat.le_refl _, Nat.le_refl _⟩ rfl (fun rh2 h2 hqh2 => ?_)
  obtain ⟨rfl, H, hZh2⟩ := hqh2
  have hZ := hZ.tr hZh2
  obtain ⟨ht, hX, hTx, hRd, hNow, hI0, hI1, hFt, hTo, hDr⟩ := id H
  have hX : h2 0 = .inr (6, [.ref (kb G + 1), .ref (kb G + 3), .ref (kb G + 6), .ref (kb G + 11), .ref (kb G + 17), .ref (kb G + 23), .ref (kb G + t), .ref (kb G + (65 - t)), .long (tr + 1000 + 100 + 1)]) := hX
  have hNow : oNow G 6 ν h2 := hNow
  obtain ⟨kn, ct, si, cr, ⟨hN, hkn, hct, hsi, hcr⟩, hK, hC, hS, hR⟩ := id hNow
  refine go_imul (nx := 19) dX6_asMayor_18 rfl ?_
  refine go_reti dX6_asMayor_19 ⟨_, rfl, rfl⟩ ?_
  exact ⟨rfl, H, hZ⟩
theorem s_asHermit {G : kG} {n t sz : Nat} {h : kH} {tx : Nat → Nat} {ν : mN} {i0 i1 : Option mN} {T : mT} {tr : Int64} {p : Nat} {x : Int32} (hn : 37 ≤ n) (H : oX G t (tx, sz, ν, i0, i1, T, tr) h) (W : wS (tx, sz, ν, i0, i1, T, tr)) (hx : x = nI p) (hp : p < T.1) : Spi G mX6_asHermit 4 [.ref (kb G + 0), .int x] n h (fun v h' => v = (nI (cnt ν.1 p) - nI (acq ν.1 p)) + nI p ∧ oX G t (tx, sz, ν, i0, i1, T, (tr + 10000 + 10 + 1)) h' ∧ kFr 0 37 h h') := by
  subst hx
  obtain ⟨ht, hX, hTx, hRd, hNow, hI0, hI1, hFt, hTo, hDr⟩ := id H
  have hX : h 0 = .inr (6, [.ref (kb G + 1), .ref (kb G + 3), .ref (kb G + 6), .ref (kb G + 11), .ref (kb G + 17), .ref (kb G + 23), .ref (kb G + t), .ref (kb G + (65 - t)), .long tr]) := hX
  have hTx : oText G tx sz h := hTx
  have hNow : oNow G 6 ν h := hNow
  have hI0 : oImg G 11 i0 h := hI0
  have hI1 : oImg G 17 i1 h := hI1
  have hTo : oTown G t T h := hTo
  obtain ⟨hwT, hwN, hY, hw0, hw1, hsz, htx⟩ := id W
  have hwT : wT T := hwT
  have hwN : wN T.1 ν := hwN
  have hY : ν.2.2.2.1 ≤ 99 := hY
  have hsz : sz ≤ 400 := hsz
  have hP8 := hwT.1
  obtain ⟨kn, ct, si, cr, ⟨hN, hkn, hct, hsi, hcr⟩, hK, hC, hS, hR⟩ := id hNow
  obtain ⟨tk, tc, ⟨hT, htk, htc⟩, hTk, hTc⟩ := id hTo
  have hp8 : p < 8 := by omega
  have hZ : kFr 0 37 h h := kFr.rf
  refine Spi.of (by decide) (Nat.le_of_ble_eq_true rfl) ?_
  refine go_aload_n 0 (nx := 1) dX6_asHermit_0 rfl rfl rfl ?_
  refine go_dup (nx := 2) dX6_asHermit_1 rfl rfl ?_
  refine go_gf (nx := 5) fg_X6_225 dX6_asHermit_2 (by omega) hX rfl rfl ?_
  refine go_ldc2 (nx := 8) kl_X6_235 dX6_asHermit_5 rfl ?_
  refine go_ladd (nx := 9) dX6_asHermit_8 rfl ?_
  refine go_pf (fs' := [_, _, _, _, _, _, _, _, _]) (nx := 12) (fp_X6_225 _) dX6_asHermit_9 (by omega) hX (Nat.le_of_ble_eq_true rfl) ⟨rfl, rfl⟩ rfl rfl (fun h1 eh1 fh1 => ?_)
  have hN := (fh1 (6) (by omega)).trans hN
  have hkn := (fh1 (6 + 1) (by omega)).trans hkn
  have hct := (fh1 (6 + 2) (by omega)).trans hct
  have hsi := (fh1 (6 + 3) (by omega)).trans hsi
  have hcr := (fh1 (6 + 4) (by omega)).trans hcr
  have hX := eh1
  have fx : kFr 0 1 _ h1 := fun j hj => fh1 j (by omega)
  have H := H.setTr (tr := tr + 10000) hX fx
  have hZ := hZ.tr (fx.wide (by omega) (by omega))
  refine go_aload_n 0 (nx := 13) dX6_asHermit_12 rfl rfl rfl ?_
  refine go_iload_n 1 (nx := 14) dX6_asHermit_13 rfl rfl rfl ?_
  refine go_Vi (nx := 17) [_] kc_X6_196 ⟨_, _, rfl⟩ (by omega) hX (s_asShy hn H (wS_tr W) rfl hp) dX6_asHermit_14 rfl rfl (Nat.le_of_ble_eq_true rfl) (Nat.le_of_ble_eq_true rfl) ⟨Nat.le_refl _, Nat.le_refl _⟩ rfl (fun rh2 h2 hqh2 => ?_)
  obtain ⟨rfl, H, hZh2⟩ := hqh2
  have hZ := hZ.tr hZh2
  obtain ⟨ht, hX, hTx, hRd, hNow, hI0, hI1, hFt, hTo, hDr⟩ := id H
  have hX : h2 0 = .inr (6, [.ref (kb G + 1), .ref (kb G + 3), .ref (kb G + 6), .ref (kb G + 11), .ref (kb G + 17), .ref (kb G + 23), .ref (kb G + t), .ref (kb G + (65 - t)), .long (tr + 10000 + 10 + 1)]) := hX
  have hNow : oNow G 6 ν h2 := hNow
  obtain ⟨kn, ct, si, cr, ⟨hN, hkn, hct, hsi, hcr⟩, hK, hC, hS, hR⟩ := id hNow
  refine go_iload_n 1 (nx := 18) dX6_asHermit_17 rfl rfl rfl ?_
  refine go_iadd (nx := 19) dX6_asHermit_18 rfl ?_
  refine go_reti dX6_asHermit_19 ⟨_, rfl, rfl⟩ ?_
  exact ⟨rfl, H, hZ⟩
theorem s_asStranger {G : kG} {n t sz : Nat} {h : kH} {tx : Nat → Nat} {ν : mN} {i0 i1 : Option mN} {T : mT} {tr : Int64} {p : Nat} {x : Int32} (hn : 37 ≤ n) (H : oX G t (tx, sz, ν, i0, i1, T, tr) h) (W : wS (tx, sz, ν, i0, i1, T, tr)) (hx : x = nI p) (hp : p < T.1) : Spi G mX6_asStranger 2 [.ref (kb G + 0), .int x] n h (fun v h' => v = nI (cnt ν.1 p) - nI ν.2.2.2.1 ∧ oX G t (tx, sz, ν, i0, i1, T, (tr + 100000 + 1)) h' ∧ kFr 0 37 h h') := by
  subst hx
  obtain ⟨ht, hX, hTx, hRd, hNow, hI0, hI1, hFt, hTo, hDr⟩ := id H
  have hX : h 0 = .inr (6, [.ref (kb G + 1), .ref (kb G + 3), .ref (kb G + 6), .ref (kb G + 11), .ref (kb G + 17), .ref (kb G + 23), .ref (kb G + t), .ref (kb G + (65 - t)), .long tr]) := hX
  have hTx : oText G tx sz h := hTx
  have hNow : oNow G 6 ν h := hNow
  have hI0 : oImg G 11 i0 h := hI0
  have hI1 : oImg G 17 i1 h := hI1
  have hTo : oTown G t T h := hTo
  obtain ⟨hwT, hwN, hY, hw0, hw1, hsz, htx⟩ := id W
  have hwT : wT T := hwT
  have hwN : wN T.1 ν := hwN
  have hY : ν.2.2.2.1 ≤ 99 := hY
  have hsz : sz ≤ 400 := hsz
  have hP8 := hwT.1
  obtain ⟨kn, ct, si, cr, ⟨hN, hkn, hct, hsi, hcr⟩, hK, hC, hS, hR⟩ := id hNow
  obtain ⟨tk, tc, ⟨hT, htk, htc⟩, hTk, hTc⟩ := id hTo
  have hp8 : p < 8 := by omega
  have hZ : kFr 0 37 h h := kFr.rf
  refine Spi.of (by decide) (Nat.le_of_ble_eq_true rfl) ?_
  refine go_aload_n 0 (nx := 1) dX6_asStranger_0 rfl rfl rfl ?_
  refine go_dup (nx := 2) dX6_asStranger_1 rfl rfl ?_
  refine go_gf (nx := 5) fg_X6_225 dX6_asStranger_2 (by omega) hX rfl rfl ?_
  refine go_ldc2 (nx := 8) kl_X6_237 dX6_asStranger_5 rfl ?_
  refine go_ladd (nx := 9) dX6_asStranger_8 rfl ?_
  refine go_pf (fs' := [_, _, _, _, _, _, _, _, _]) (nx := 12) (fp_X6_225 _) dX6_asStranger_9 (by omega) hX (Nat.le_of_ble_eq_true rfl) ⟨rfl, rfl⟩ rfl rfl (fun h1 eh1 fh1 => ?_)
  have hN := (fh1 (6) (by omega)).trans hN
  have hkn := (fh1 (6 + 1) (by omega)).trans hkn
  have hct := (fh1 (6 + 2) (by omega)).trans hct
  have hsi := (fh1 (6 + 3) (by omega)).trans hsi
  have hcr := (fh1 (6 + 4) (by omega)).trans hcr
  have hX := eh1
  have fx : kFr 0 1 _ h1 := fun j hj => fh1 j (by omega)
  have H := H.setTr (tr := tr + 100000) hX fx
  have hZ := hZ.tr (fx.wide (by omega) (by omega))
  refine go_aload_n 0 (nx := 13) dX6_asStranger_12 rfl rfl rfl ?_
  refine go_iload_n 1 (nx := 14) dX6_asStranger_13 rfl rfl rfl ?_
  refine go_Vi (nx := 17) [_] kc_X6_193 ⟨_, _, rfl⟩ (by omega) hX (s_asPerson hn H (wS_tr W) rfl hp) dX6_asStranger_14 rfl rfl (Nat.le_of_ble_eq_true rfl) (Nat.le_of_ble_eq_true rfl) ⟨Nat.le_refl _, Nat.le_refl _⟩ rfl (fun rh2 h2 hqh2 => ?_)
  obtain ⟨rfl, H, hZh2⟩ := hqh2
  have hZ := hZ.tr hZh2
  obtain ⟨ht, hX, hTx, hRd, hNow, hI0, hI1, hFt, hTo, hDr⟩ := id H
  have hX : h2 0 = .inr (6, [.ref (kb G + 1), .ref (kb G + 3), .ref (kb G + 6), .ref (kb G + 11), .ref (kb G + 17), .ref (kb G + 23), .ref (kb G + t), .ref (kb G + (65 - t)), .long (tr + 100000 + 1)]) := hX
  have hNow : oNow G 6 ν h2 := hNow
  obtain ⟨kn, ct, si, cr, ⟨hN, hkn, hct, hsi, hcr⟩, hK, hC, hS, hR⟩ := id hNow
  refine go_aload_n 0 (nx := 18) dX6_asStranger_17 rfl rfl rfl ?_
  refine go_gf (nx := 21) fg_X6_26 dX6_asStranger_18 (by omega) hX rfl rfl ?_
  refine go_gf (nx := 24) fg_X6_134 dX6_asStranger_21 (by omega) hN rfl rfl ?_
  refine go_isub (nx := 25) dX6_asStranger_24 rfl ?_
  refine go_reti dX6_asStranger_25 ⟨_, rfl, rfl⟩ ?_
  exact ⟨rfl, H, hZ⟩
def kinB (x : Int32) : Bool := decide (0 ≤ x) && decide (x ≤ nI 5)
def fRate (T : mT) (ν : mN) (k y : Int32) : Int32 := if (kinB k && perB T y) = true then (if k = nI 0 then nI (cnt ν.1 (cl y)) else if k = nI 1 then nI (cnt ν.1 (cl y)) - nI (acq ν.1 (cl y)) else if k = nI 2 then nI (cnt ν.1 (cl y)) + nI (ν.2.2.1 (cl y)) else if k = nI 3 then nI 2 * (nI (cnt ν.1 (cl y)) + nI (ν.2.2.1 (cl y))) else if k = nI 4 then (nI (cnt ν.1 (cl y)) - nI (acq ν.1 (cl y))) + y else nI (cnt ν.1 (cl y)) - nI ν.2.2.2.1) else -1000000
def rTrace (T : mT) (k y : Int32) (tr : Int64) : Int64 := if (kinB k && perB T y) = true then tr + (if k = nI 0 then 1 else if k = nI 1 then 11 else if k = nI 2 then 101 else if k = nI 3 then 1101 else if k = nI 4 then 10011 else 100001) else tr
theorem kin_out {x : Int32} (h : x.toInt < 0 ∨ 5 < x.toInt) : kinB x = false := by
  cases e : kinB x
  · rfl
  · simp only [kinB, Bool.and_eq_true, decide_eq_true_eq] at e
    have h1 := Int32.le_iff_toInt_le.mp e.1
    have h2 := Int32.le_iff_toInt_le.mp e.2
    rw [show (nI 5).toInt = 5 from rfl] at h2
    rw [show (0 : Int32).toInt = 0 from rfl] at h1
    omega
theorem x_rate {G : kG} {n t sz : Nat} {h : kH} {tx : Nat → Nat} {ν : mN} {i0 i1 : Option mN} {T : mT} {tr : Int64} {x y : Int32} (hn : 37 ≤ n) (H : oX G t (tx, sz, ν, i0, i1, T, tr) h) (W : wS (tx, sz, ν, i0, i1, T, tr)) : Spi G mX6_rate 5 [.ref (kb G + 0), .int x, .int y] n h (fun v h' => v = fRate T ν x y ∧ oX G t (tx, sz, ν, i0, i1, T, (rTrace T x y tr)) h' ∧ kFr 0 37 h h') := by
  obtain ⟨ht, hX, hTx, hRd, hNow, hI0, hI1, hFt, hTo, hDr⟩ := id H
  have hX : h 0 = .inr (6, [.ref (kb G + 1), .ref (kb G + 3), .ref (kb G + 6), .ref (kb G + 11), .ref (kb G + 17), .ref (kb G + 23), .ref (kb G + t), .ref (kb G + (65 - t)), .long tr]) := hX
  have hTx : oText G tx sz h := hTx
  have hNow : oNow G 6 ν h := hNow
  have hI0 : oImg G 11 i0 h := hI0
  have hI1 : oImg G 17 i1 h := hI1
  have hTo : oTown G t T h := hTo
  obtain ⟨hwT, hwN, hY, hw0, hw1, hsz, htx⟩ := id W
  have hwT : wT T := hwT
  have hwN : wN T.1 ν := hwN
  have hY : ν.2.2.2.1 ≤ 99 := hY
  have hsz : sz ≤ 400 := hsz
  have hP8 := hwT.1
  obtain ⟨kn, ct, si, cr, ⟨hN, hkn, hct, hsi, hcr⟩, hK, hC, hS, hR⟩ := id hNow
  obtain ⟨tk, tc, ⟨hT, htk, htc⟩, hTk, hTc⟩ := id hTo
  have hZ : kFr 0 37 h h := kFr.rf
  refine Spi.of (by decide) (Nat.le_of_ble_eq_true rfl) ?_
  refine Go.loc (lv' := [(0, _), (1, _), (2, _)]) rfl ?_
  refine go_aload_n 0 (nx := 1) dX6_rate_0 rfl rfl rfl ?_
  refine go_iload_n 2 (nx := 2) dX6_rate_1 rfl rfl rfl ?_
  refine go_Vi (nx := 5) [_] kc_X6_89 ⟨_, _, rfl⟩ (by omega) hX (s_isPerson hn H W) dX6_rate_2 rfl rfl (Nat.le_of_ble_eq_true rfl) (Nat.le_of_ble_eq_true rfl) ⟨Nat.le_refl _, Nat.le_refl _⟩ rfl (fun rh1 h1 hqh1 => ?_)
  obtain ⟨rfl, rfl⟩ := hqh1
  refine go_if_ne 11 (nx := 8) dX6_rate_5 rfl rfl (fun c5 => ?_) (fun c5 => ?_)
  · skip
    obtain ⟨p, hp, rfl⟩ := per_of hP8 (tbn0 c5)
    refine go_iload_n 1 (nx := 12) dX6_rate_11 rfl rfl rfl ?_
    rcases sw_0_5 (x) with hs12 | hs12 | hs12 | hs12 | hs12 | hs12 | hs12
    · refine go_tableOut 88 dX6_rate_12 hs12 rfl ?_
      refine go_ldc (nx := 90) kl_X6_84 dX6_rate_88 rfl ?_
      refine go_reti dX6_rate_90 ⟨_, rfl, rfl⟩ ?_
      rw [fRate, rTrace, if_neg (by rw [kin_out hs12]; simp), if_neg (by rw [kin_out hs12]; simp)]
      exact ⟨rfl, H, hZ⟩
    · refine go_tableIn 52 dX6_rate_12 (by rw [hs12]; decide) (by rw [hs12]; decide) (off := 40) (by rw [hs12]; rfl) rfl ?_
      refine go_aload_n 0 (nx := 53) dX6_rate_52 rfl rfl rfl ?_
      refine go_iload_n 2 (nx := 54) dX6_rate_53 rfl rfl rfl ?_
      refine go_Vi (nx := 57) [_] kc_X6_193 ⟨_, _, rfl⟩ (by omega) hX (s_asPerson hn H W rfl hp) dX6_rate_54 rfl rfl (Nat.le_of_ble_eq_true rfl) (Nat.le_of_ble_eq_true rfl) ⟨Nat.le_refl _, Nat.le_refl _⟩ rfl (fun rh2 h2 hqh2 => ?_)
      obtain ⟨rfl, H, hZ⟩ := hqh2
      refine go_reti dX6_rate_57 ⟨_, rfl, rfl⟩ ?_
      have e : (kinB x && perB T (nI p)) = true := by rw [hs12, tbn0 c5]; decide
      subst hs12
      rw [fRate, rTrace, if_pos e, if_pos e, if_pos rfl, if_pos rfl, cl_nI (by omega)]
      rw [show tr + 1 = tr + 1 by rfl]
      exact ⟨rfl, H, hZ⟩
    · refine go_tableIn 58 dX6_rate_12 (by rw [hs12]; decide) (by rw [hs12]; decide) (off := 46) (by rw [hs12]; rfl) rfl ?_
      refine go_aload_n 0 (nx := 59) dX6_rate_58 rfl rfl rfl ?_
      refine go_iload_n 2 (nx := 60) dX6_rate_59 rfl rfl rfl ?_
      refine go_Vi (nx := 63) [_] kc_X6_196 ⟨_, _, rfl⟩ (by omega) hX (s_asShy hn H W rfl hp) dX6_rate_60 rfl rfl (Nat.le_of_ble_eq_true rfl) (Nat.le_of_ble_eq_true rfl) ⟨Nat.le_refl _, Nat.le_refl _⟩ rfl (fun rh2 h2 hqh2 => ?_)
      obtain ⟨rfl, H, hZ⟩ := hqh2
      refine go_reti dX6_rate_63 ⟨_, rfl, rfl⟩ ?_
      have e : (kinB x && perB T (nI p)) = true := by rw [hs12, tbn0 c5]; decide
      subst hs12
      rw [fRate, rTrace, if_pos e, if_pos e, if_neg (nI_k (by decide) (by decide) (by decide)), if_pos rfl, if_neg (nI_k (by decide) (by decide) (by decide)), if_pos rfl, cl_nI (by omega)]
      rw [show tr + 11 = tr + 10 + 1 by rw [Int64.add_assoc]; rfl]
      exact ⟨rfl, H, hZ⟩
    · refine go_tableIn 64 dX6_rate_12 (by rw [hs12]; decide) (by rw [hs12]; decide) (off := 52) (by rw [hs12]; rfl) rfl ?_
      refine go_aload_n 0 (nx := 65) dX6_rate_64 rfl rfl rfl ?_
      refine go_iload_n 2 (nx := 66) dX6_rate_65 rfl rfl rfl ?_
      refine go_Vi (nx := 69) [_] kc_X6_199 ⟨_, _, rfl⟩ (by omega) hX (s_asKnown hn H W rfl hp) dX6_rate_66 rfl rfl (Nat.le_of_ble_eq_true rfl) (Nat.le_of_ble_eq_true rfl) ⟨Nat.le_refl _, Nat.le_refl _⟩ rfl (fun rh2 h2 hqh2 => ?_)
      obtain ⟨rfl, H, hZ⟩ := hqh2
      refine go_reti dX6_rate_69 ⟨_, rfl, rfl⟩ ?_
      have e : (kinB x && perB T (nI p)) = true := by rw [hs12, tbn0 c5]; decide
      subst hs12
      rw [fRate, rTrace, if_pos e, if_pos e, if_neg (nI_k (by decide) (by decide) (by decide)), if_neg (nI_k (by decide) (by decide) (by decide)), if_pos rfl, if_neg (nI_k (by decide) (by decide) (by decide)), if_neg (nI_k (by decide) (by decide) (by decide)), if_pos rfl, cl_nI (by omega)]
      rw [show tr + 101 = tr + 100 + 1 by rw [Int64.add_assoc]; rfl]
      exact ⟨rfl, H, hZ⟩
    · refine go_tableIn 70 dX6_rate_12 (by rw [hs12]; decide) (by rw [hs12]; decide) (off := 58) (by rw [hs12]; rfl) rfl ?_
      refine go_aload_n 0 (nx := 71) dX6_rate_70 rfl rfl rfl ?_
      refine go_iload_n 2 (nx := 72) dX6_rate_71 rfl rfl rfl ?_
      refine go_Vi (nx := 75) [_] kc_X6_202 ⟨_, _, rfl⟩ (by omega) hX (s_asMayor hn H W rfl hp) dX6_rate_72 rfl rfl (Nat.le_of_ble_eq_true rfl) (Nat.le_of_ble_eq_true rfl) ⟨Nat.le_refl _, Nat.le_refl _⟩ rfl (fun rh2 h2 hqh2 => ?_)
      obtain ⟨rfl, H, hZ⟩ := hqh2
      refine go_reti dX6_rate_75 ⟨_, rfl, rfl⟩ ?_
      have e : (kinB x && perB T (nI p)) = true := by rw [hs12, tbn0 c5]; decide
      subst hs12
      rw [fRate, rTrace, if_pos e, if_pos e, if_neg (nI_k (by decide) (by decide) (by decide)), if_neg (nI_k (by decide) (by decide) (by decide)), if_neg (nI_k (by decide) (by decide) (by decide)), if_pos rfl, if_neg (nI_k (by decide) (by decide) (by decide)), if_neg (nI_k (by decide) (by decide) (by decide)), if_neg (nI_k (by decide) (by decide) (by decide)), if_pos rfl, cl_nI (by omega)]
      rw [show tr + 1101 = tr + 1000 + 100 + 1 by rw [Int64.add_assoc, Int64.add_assoc]; rfl]
      exact ⟨rfl, H, hZ⟩
    · refine go_tableIn 76 dX6_rate_12 (by rw [hs12]; decide) (by rw [hs12]; decide) (off := 64) (by rw [hs12]; rfl) rfl ?_
      refine go_aload_n 0 (nx := 77) dX6_rate_76 rfl rfl rfl ?_
      refine go_iload_n 2 (nx := 78) dX6_rate_77 rfl rfl rfl ?_
      refine go_Vi (nx := 81) [_] kc_X6_205 ⟨_, _, rfl⟩ (by omega) hX (s_asHermit hn H W rfl hp) dX6_rate_78 rfl rfl (Nat.le_of_ble_eq_true rfl) (Nat.le_of_ble_eq_true rfl) ⟨Nat.le_refl _, Nat.le_refl _⟩ rfl (fun rh2 h2 hqh2 => ?_)
      obtain ⟨rfl, H, hZ⟩ := hqh2
      refine go_reti dX6_rate_81 ⟨_, rfl, rfl⟩ ?_
      have e : (kinB x && perB T (nI p)) = true := by rw [hs12, tbn0 c5]; decide
      subst hs12
      rw [fRate, rTrace, if_pos e, if_pos e, if_neg (nI_k (by decide) (by decide) (by decide)), if_neg (nI_k (by decide) (by decide) (by decide)), if_neg (nI_k (by decide) (by decide) (by decide)), if_neg (nI_k (by decide) (by decide) (by decide)), if_pos rfl, if_neg (nI_k (by decide) (by decide) (by decide)), if_neg (nI_k (by decide) (by decide) (by decide)), if_neg (nI_k (by decide) (by decide) (by decide)), if_neg (nI_k (by decide) (by decide) (by decide)), if_pos rfl, cl_nI (by omega)]
      rw [show tr + 10011 = tr + 10000 + 10 + 1 by rw [Int64.add_assoc, Int64.add_assoc]; rfl]
      exact ⟨rfl, H, hZ⟩
    · refine go_tableIn 82 dX6_rate_12 (by rw [hs12]; decide) (by rw [hs12]; decide) (off := 70) (by rw [hs12]; rfl) rfl ?_
      refine go_aload_n 0 (nx := 83) dX6_rate_82 rfl rfl rfl ?_
      refine go_iload_n 2 (nx := 84) dX6_rate_83 rfl rfl rfl ?_
      refine go_Vi (nx := 87) [_] kc_X6_208 ⟨_, _, rfl⟩ (by omega) hX (s_asStranger hn H W rfl hp) dX6_rate_84 rfl rfl (Nat.le_of_ble_eq_true rfl) (Nat.le_of_ble_eq_true rfl) ⟨Nat.le_refl _, Nat.le_refl _⟩ rfl (fun rh2 h2 hqh2 => ?_)
      obtain ⟨rfl, H, hZ⟩ := hqh2
      refine go_reti dX6_rate_87 ⟨_, rfl, rfl⟩ ?_
      have e : (kinB x && perB T (nI p)) = true := by rw [hs12, tbn0 c5]; decide
      subst hs12
      rw [fRate, rTrace, if_pos e, if_pos e, if_neg (nI_k (by decide) (by decide) (by decide)), if_neg (nI_k (by decide) (by decide) (by decide)), if_neg (nI_k (by decide) (by decide) (by decide)), if_neg (nI_k (by decide) (by decide) (by decide)), if_neg (nI_k (by decide) (by decide) (by decide)), if_neg (nI_k (by decide) (by decide) (by decide)), if_neg (nI_k (by decide) (by decide) (by decide)), if_neg (nI_k (by decide) (by decide) (by decide)), if_neg (nI_k (by decide) (by decide) (by decide)), if_neg (nI_k (by decide) (by decide) (by decide)), cl_nI (by omega)]
      rw [show tr + 100001 = tr + 100000 + 1 by rw [Int64.add_assoc]; rfl]
      exact ⟨rfl, H, hZ⟩
  · skip
    refine go_ldc (nx := 10) kl_X6_84 dX6_rate_8 rfl ?_
    refine go_reti dX6_rate_10 ⟨_, rfl, rfl⟩ ?_
    have e : perB T y = false := tb0 c5
    rw [fRate, rTrace, if_neg (by rw [e]; simp), if_neg (by rw [e]; simp)]
    exact ⟨rfl, H, hZ⟩
theorem oImg.any {G : kG} {i : Nat} {oo : Option mN} {h : kH} (H : oImg G i oo h) : ∃ kf : Int32, h i = .inr (1, [.ref (kb G + (i + 1)), .int kf]) ∧ aNow G (i + 1) h ∧ (kf = 0 ↔ oo = none) := by
  cases oo with
  | none => exact ⟨0, H.1, H.2, by simp⟩
  | some ν => exact ⟨1, H.1, aNow.of H.2, by simp⟩
theorem s_imageOf {G : kG} {n t sz : Nat} {h : kH} {tx : Nat → Nat} {ν : mN} {i0 i1 : Option mN} {T : mT} {tr : Int64} {x : Int32} (hn : 37 ≤ n) (H : oX G t (tx, sz, ν, i0, i1, T, tr) h) (W : wS (tx, sz, ν, i0, i1, T, tr)) : Spr G mX6_imageOf 0 [.ref (kb G + 0), .int x] n h (fun i h' => i = (if x = nI 0 then 11 else 17) ∧ h' = h) := by
  obtain ⟨ht, hX, hTx, hRd, hNow, hI0, hI1, hFt, hTo, hDr⟩ := id H
  have hX : h 0 = .inr (6, [.ref (kb G + 1), .ref (kb G + 3), .ref (kb G + 6), .ref (kb G + 11), .ref (kb G + 17), .ref (kb G + 23), .ref (kb G + t), .ref (kb G + (65 - t)), .long tr]) := hX
  have hTx : oText G tx sz h := hTx
  have hNow : oNow G 6 ν h := hNow
  have hI0 : oImg G 11 i0 h := hI0
  have hI1 : oImg G 17 i1 h := hI1
  have hTo : oTown G t T h := hTo
  obtain ⟨hwT, hwN, hY, hw0, hw1, hsz, htx⟩ := id W
  have hwT : wT T := hwT
  have hwN : wN T.1 ν := hwN
  have hY : ν.2.2.2.1 ≤ 99 := hY
  have hsz : sz ≤ 400 := hsz
  have hP8 := hwT.1
  obtain ⟨kn, ct, si, cr, ⟨hN, hkn, hct, hsi, hcr⟩, hK, hC, hS, hR⟩ := id hNow
  obtain ⟨tk, tc, ⟨hT, htk, htc⟩, hTk, hTc⟩ := id hTo
  refine Spr.of (by decide) (Nat.le_of_ble_eq_true rfl) ?_
  refine go_iload_n 1 (nx := 1) dX6_imageOf_0 rfl rfl rfl ?_
  refine go_if_ne 11 (nx := 4) dX6_imageOf_1 rfl rfl (fun c1 => ?_) (fun c1 => ?_)
  · skip
    refine go_aload_n 0 (nx := 12) dX6_imageOf_11 rfl rfl rfl ?_
    refine go_gf (nx := 15) fg_X6_37 dX6_imageOf_12 (by omega) hX rfl rfl ?_
    refine go_retr dX6_imageOf_15 ⟨_, rfl, Or.inl ⟨_, rfl⟩⟩ ?_
    exact ⟨(if_neg c1).symm, rfl⟩
  · skip
    refine go_aload_n 0 (nx := 5) dX6_imageOf_4 rfl rfl rfl ?_
    refine go_gf (nx := 8) fg_X6_33 dX6_imageOf_5 (by omega) hX rfl rfl ?_
    refine go_goto 15 dX6_imageOf_8 rfl ?_
    refine go_retr dX6_imageOf_15 ⟨_, rfl, Or.inl ⟨_, rfl⟩⟩ ?_
    exact ⟨(if_pos c1).symm, rfl⟩
def fKeep (ν : mN) (x : Int32) : Int32 := if choB x = true then nI ν.2.2.2.1 else -1
def sKeep (s : mS) (x : Int32) : mS := if x = nI 0 then (s.1, s.2.1, s.2.2.1, some s.2.2.1, s.2.2.2.2) else if x = nI 1 then (s.1, s.2.1, s.2.2.1, s.2.2.2.1, some s.2.2.1, s.2.2.2.2.2) else s
def iOf (i0 i1 : Option mN) (x : Int32) : Option mN := if x = nI 0 then i0 else i1
def fBack (i0 i1 : Option mN) (x : Int32) : Int32 := if choB x = true then (match iOf i0 i1 x with | none => -2 | some μ => nI μ.2.2.2.1) else -1
def nBack (ν : mN) (i0 i1 : Option mN) (x : Int32) : mN := if choB x = true then (match iOf i0 i1 x with | none => ν | some μ => μ) else ν
theorem x_keep {G : kG} {n t sz : Nat} {h : kH} {tx : Nat → Nat} {ν : mN} {i0 i1 : Option mN} {T : mT} {tr : Int64} {x : Int32} (hn : 37 ≤ n) (H : oX G t (tx, sz, ν, i0, i1, T, tr) h) (W : wS (tx, sz, ν, i0, i1, T, tr)) : Spi G mX6_keep 2 [.ref (kb G + 0), .int x] n h (fun v h' => v = fKeep ν x ∧ oX G t (sKeep (tx, sz, ν, i0, i1, T, tr) x) h' ∧ kFr 0 37 h h') := by
  have hc : choB x = true ∨ choB x = false := by cases choB x <;> simp
  rcases hc with hc | hc
  · rcases cho_of hc with rfl | rfl
    · skip
      obtain ⟨ht, hX, hTx, hRd, hNow, hI0, hI1, hFt, hTo, hDr⟩ := id H
      have hX : h 0 = .inr (6, [.ref (kb G + 1), .ref (kb G + 3), .ref (kb G + 6), .ref (kb G + 11), .ref (kb G + 17), .ref (kb G + 23), .ref (kb G + t), .ref (kb G + (65 - t)), .long tr]) := hX
      have hTx : oText G tx sz h := hTx
      have hNow : oNow G 6 ν h := hNow
      have hI0 : oImg G 11 i0 h := hI0
      have hI1 : oImg G 17 i1 h := hI1
      have hTo : oTown G t T h := hTo
      obtain ⟨hwT, hwN, hY, hw0, hw1, hsz, htx⟩ := id W
      have hwT : wT T := hwT
      have hwN : wN T.1 ν := hwN
      have hY : ν.2.2.2.1 ≤ 99 := hY
      have hsz : sz ≤ 400 := hsz
      have hP8 := hwT.1
      obtain ⟨kn, ct, si, cr, ⟨hN, hkn, hct, hsi, hcr⟩, hK, hC, hS, hR⟩ := id hNow
      obtain ⟨tk, tc, ⟨hT, htk, htc⟩, hTk, hTc⟩ := id hTo
      obtain ⟨kf, hI, hIa, -⟩ := hI0.any
      obtain ⟨ikn, ict, isi, icr, irg, iyr, ila, hIR⟩ := hIa
      obtain ⟨hIN, -⟩ := id hIR
      refine Spi.of (by decide) (Nat.le_of_ble_eq_true rfl) ?_
      refine Go.loc (lv' := [(0, _), (1, _)]) rfl ?_
      refine go_iload_n 1 (nx := 1) dX6_keep_0 rfl rfl rfl ?_
      refine go_Si (nx := 4) [_] kc_X6_161 s_isChoice dX6_keep_1 rfl rfl (Nat.le_of_ble_eq_true rfl) (Nat.le_of_ble_eq_true rfl) ⟨Nat.le_refl _, Nat.le_refl _⟩ rfl (fun rh1 h1 hqh1 => ?_)
      obtain ⟨rfl, rfl⟩ := hqh1
      refine go_if_ne 9 (nx := 7) dX6_keep_4 rfl rfl (fun c4 => ?_) (fun c4 => False.elim (absurd c4 (by rw [hc]; decide)))
      refine go_aload_n 0 (nx := 10) dX6_keep_9 rfl rfl rfl ?_
      refine go_iload_n 1 (nx := 11) dX6_keep_10 rfl rfl rfl ?_
      refine go_Vr (nx := 14) [_] kc_X6_211 ⟨_, _, rfl⟩ (by omega) hX (s_imageOf hn H W) dX6_keep_11 rfl rfl (Nat.le_of_ble_eq_true rfl) (Nat.le_of_ble_eq_true rfl) ⟨Nat.le_refl _, Nat.le_refl _⟩ rfl (fun rh2 h2 hqh2 => ?_)
      obtain ⟨rfl, rfl⟩ := hqh2
      rw [if_pos rfl]
      refine go_astore_n (lv' := [_, _, _]) (nx := 15) dX6_keep_14 rfl (by decide) rfl rfl ?_
      refine go_aload_n 0 (nx := 16) dX6_keep_15 rfl rfl rfl ?_
      refine go_gf (nx := 19) fg_X6_215 dX6_keep_16 (by omega) hI rfl rfl ?_
      refine go_aload_n 1 (nx := 20) dX6_keep_19 rfl rfl rfl ?_
      refine go_gf (nx := 23) fg_X6_26 dX6_keep_20 (by omega) hX rfl rfl ?_
      refine go_Vv (nx := 26) [_] kc_X6_218 ⟨_, _, rfl⟩ (by omega) hIN (s_copyFrom (q2 := 6) (by omega) (by omega) (by omega) hIR hNow) dX6_keep_23 rfl rfl (Nat.le_of_ble_eq_true rfl) (Nat.le_of_ble_eq_true rfl) ⟨Nat.le_refl _, Nat.le_refl _⟩ rfl (fun h3 hqh3 => ?_)
      obtain ⟨hIm, hFh3⟩ := hqh3
      have hX := (hFh3 0 (by omega)).trans hX
      have hI := (hFh3 11 (by omega)).trans hI
      have hNow := hNow.fr hFh3 (by omega)
      obtain ⟨kn, ct, si, cr, ⟨hN, hkn, hct, hsi, hcr⟩, hK, hC, hS, hR⟩ := id hNow
      refine go_aload_n 0 (nx := 27) dX6_keep_26 rfl rfl rfl ?_
      refine go_iconst (v := nI 1) (nx := 28) dX6_keep_27 (by decide) rfl ?_
      refine go_pf (fs' := [_, _]) (nx := 31) (fp_X6_73 _) dX6_keep_28 (by omega) hI (Nat.le_of_ble_eq_true rfl) ⟨rfl, rfl⟩ rfl rfl (fun h4 eh4 fh4 => ?_)
      have hX := (fh4 (0) (by omega)).trans hX
      have hN := (fh4 (6) (by omega)).trans hN
      have hkn := (fh4 (6 + 1) (by omega)).trans hkn
      have hct := (fh4 (6 + 2) (by omega)).trans hct
      have hsi := (fh4 (6 + 3) (by omega)).trans hsi
      have hcr := (fh4 (6 + 4) (by omega)).trans hcr
      have hI := eh4
      refine go_aload_n 1 (nx := 32) dX6_keep_31 rfl rfl rfl ?_
      refine go_gf (nx := 35) fg_X6_26 dX6_keep_32 (by omega) hX rfl rfl ?_
      refine go_gf (nx := 38) fg_X6_134 dX6_keep_35 (by omega) hN rfl rfl ?_
      refine go_reti dX6_keep_38 ⟨_, rfl, rfl⟩ ?_
      have fx : kFr 11 17 _ h4 := fun j hj => (fh4 j (by omega)).trans (hFh3 j (by omega))
      have hIm2 : oNow G (11 + 1) ν h4 := hIm.fr (lo := 11) (hi := 11 + 1) (fun j hj => fh4 j (by omega)) (by omega)
      rw [fKeep, sKeep, if_pos hc, if_pos rfl]
      exact ⟨rfl, H.setImg0 (o := some ν) ⟨hI, hIm2⟩ fx, fx.wide (by omega) (by omega)⟩
    · skip
      obtain ⟨ht, hX, hTx, hRd, hNow, hI0, hI1, hFt, hTo, hDr⟩ := id H
      have hX : h 0 = .inr (6, [.ref (kb G + 1), .ref (kb G + 3), .ref (kb G + 6), .ref (kb G + 11), .ref (kb G + 17), .ref (kb G + 23), .ref (kb G + t), .ref (kb G + (65 - t)), .long tr]) := hX
      have hTx : oText G tx sz h := hTx
      have hNow : oNow G 6 ν h := hNow
      have hI0 : oImg G 11 i0 h := hI0
      have hI1 : oImg G 17 i1 h := hI1
      have hTo : oTown G t T h := hTo
      obtain ⟨hwT, hwN, hY, hw0, hw1, hsz, htx⟩ := id W
      have hwT : wT T := hwT
      have hwN : wN T.1 ν := hwN
      have hY : ν.2.2.2.1 ≤ 99 := hY
      have hsz : sz ≤ 400 := hsz
      have hP8 := hwT.1
      obtain ⟨kn, ct, si, cr, ⟨hN, hkn, hct, hsi, hcr⟩, hK, hC, hS, hR⟩ := id hNow
      obtain ⟨tk, tc, ⟨hT, htk, htc⟩, hTk, hTc⟩ := id hTo
      obtain ⟨kf, hI, hIa, -⟩ := hI1.any
      obtain ⟨ikn, ict, isi, icr, irg, iyr, ila, hIR⟩ := hIa
      obtain ⟨hIN, -⟩ := id hIR
      refine Spi.of (by decide) (Nat.le_of_ble_eq_true rfl) ?_
      refine Go.loc (lv' := [(0, _), (1, _)]) rfl ?_
      refine go_iload_n 1 (nx := 1) dX6_keep_0 rfl rfl rfl ?_
      refine go_Si (nx := 4) [_] kc_X6_161 s_isChoice dX6_keep_1 rfl rfl (Nat.le_of_ble_eq_true rfl) (Nat.le_of_ble_eq_true rfl) ⟨Nat.le_refl _, Nat.le_refl _⟩ rfl (fun rh1 h1 hqh1 => ?_)
      obtain ⟨rfl, rfl⟩ := hqh1
      refine go_if_ne 9 (nx := 7) dX6_keep_4 rfl rfl (fun c4 => ?_) (fun c4 => False.elim (absurd c4 (by rw [hc]; decide)))
      refine go_aload_n 0 (nx := 10) dX6_keep_9 rfl rfl rfl ?_
      refine go_iload_n 1 (nx := 11) dX6_keep_10 rfl rfl rfl ?_
      refine go_Vr (nx := 14) [_] kc_X6_211 ⟨_, _, rfl⟩ (by omega) hX (s_imageOf hn H W) dX6_keep_11 rfl rfl (Nat.le_of_ble_eq_true rfl) (Nat.le_of_ble_eq_true rfl) ⟨Nat.le_refl _, Nat.le_refl _⟩ rfl (fun rh2 h2 hqh2 => ?_)
      obtain ⟨rfl, rfl⟩ := hqh2
      rw [if_neg (nI_k (by decide) (by decide) (by decide))]
      refine go_astore_n (lv' := [_, _, _]) (nx := 15) dX6_keep_14 rfl (by decide) rfl rfl ?_
      refine go_aload_n 0 (nx := 16) dX6_keep_15 rfl rfl rfl ?_
      refine go_gf (nx := 19) fg_X6_215 dX6_keep_16 (by omega) hI rfl rfl ?_
      refine go_aload_n 1 (nx := 20) dX6_keep_19 rfl rfl rfl ?_
      refine go_gf (nx := 23) fg_X6_26 dX6_keep_20 (by omega) hX rfl rfl ?_
      refine go_Vv (nx := 26) [_] kc_X6_218 ⟨_, _, rfl⟩ (by omega) hIN (s_copyFrom (q2 := 6) (by omega) (by omega) (by omega) hIR hNow) dX6_keep_23 rfl rfl (Nat.le_of_ble_eq_true rfl) (Nat.le_of_ble_eq_true rfl) ⟨Nat.le_refl _, Nat.le_refl _⟩ rfl (fun h3 hqh3 => ?_)
      obtain ⟨hIm, hFh3⟩ := hqh3
      have hX := (hFh3 0 (by omega)).trans hX
      have hI := (hFh3 17 (by omega)).trans hI
      have hNow := hNow.fr hFh3 (by omega)
      obtain ⟨kn, ct, si, cr, ⟨hN, hkn, hct, hsi, hcr⟩, hK, hC, hS, hR⟩ := id hNow
      refine go_aload_n 0 (nx := 27) dX6_keep_26 rfl rfl rfl ?_
      refine go_iconst (v := nI 1) (nx := 28) dX6_keep_27 (by decide) rfl ?_
      refine go_pf (fs' := [_, _]) (nx := 31) (fp_X6_73 _) dX6_keep_28 (by omega) hI (Nat.le_of_ble_eq_true rfl) ⟨rfl, rfl⟩ rfl rfl (fun h4 eh4 fh4 => ?_)
      have hX := (fh4 (0) (by omega)).trans hX
      have hN := (fh4 (6) (by omega)).trans hN
      have hkn := (fh4 (6 + 1) (by omega)).trans hkn
      have hct := (fh4 (6 + 2) (by omega)).trans hct
      have hsi := (fh4 (6 + 3) (by omega)).trans hsi
      have hcr := (fh4 (6 + 4) (by omega)).trans hcr
      have hI := eh4
      refine go_aload_n 1 (nx := 32) dX6_keep_31 rfl rfl rfl ?_
      refine go_gf (nx := 35) fg_X6_26 dX6_keep_32 (by omega) hX rfl rfl ?_
      refine go_gf (nx := 38) fg_X6_134 dX6_keep_35 (by omega) hN rfl rfl ?_
      refine go_reti dX6_keep_38 ⟨_, rfl, rfl⟩ ?_
      have fx : kFr 17 23 _ h4 := fun j hj => (fh4 j (by omega)).trans (hFh3 j (by omega))
      have hIm2 : oNow G (17 + 1) ν h4 := hIm.fr (lo := 17) (hi := 17 + 1) (fun j hj => fh4 j (by omega)) (by omega)
      rw [fKeep, sKeep, if_pos hc, if_neg (nI_k (by decide) (by decide) (by decide)), if_pos rfl]
      exact ⟨rfl, H.setImg1 (o := some ν) ⟨hI, hIm2⟩ fx, fx.wide (by omega) (by omega)⟩
  · skip
    obtain ⟨ht, hX, hTx, hRd, hNow, hI0, hI1, hFt, hTo, hDr⟩ := id H
    have hX : h 0 = .inr (6, [.ref (kb G + 1), .ref (kb G + 3), .ref (kb G + 6), .ref (kb G + 11), .ref (kb G + 17), .ref (kb G + 23), .ref (kb G + t), .ref (kb G + (65 - t)), .long tr]) := hX
    have hTx : oText G tx sz h := hTx
    have hNow : oNow G 6 ν h := hNow
    have hI0 : oImg G 11 i0 h := hI0
    have hI1 : oImg G 17 i1 h := hI1
    have hTo : oTown G t T h := hTo
    obtain ⟨hwT, hwN, hY, hw0, hw1, hsz, htx⟩ := id W
    have hwT : wT T := hwT
    have hwN : wN T.1 ν := hwN
    have hY : ν.2.2.2.1 ≤ 99 := hY
    have hsz : sz ≤ 400 := hsz
    have hP8 := hwT.1
    obtain ⟨kn, ct, si, cr, ⟨hN, hkn, hct, hsi, hcr⟩, hK, hC, hS, hR⟩ := id hNow
    obtain ⟨tk, tc, ⟨hT, htk, htc⟩, hTk, hTc⟩ := id hTo
    refine Spi.of (by decide) (Nat.le_of_ble_eq_true rfl) ?_
    refine Go.loc (lv' := [(0, _), (1, _)]) rfl ?_
    refine go_iload_n 1 (nx := 1) dX6_keep_0 rfl rfl rfl ?_
    refine go_Si (nx := 4) [_] kc_X6_161 s_isChoice dX6_keep_1 rfl rfl (Nat.le_of_ble_eq_true rfl) (Nat.le_of_ble_eq_true rfl) ⟨Nat.le_refl _, Nat.le_refl _⟩ rfl (fun rh1 h1 hqh1 => ?_)
    obtain ⟨rfl, rfl⟩ := hqh1
    refine go_if_ne 9 (nx := 7) dX6_keep_4 rfl rfl (fun c4 => False.elim (absurd c4 (by rw [hc]; decide))) (fun c4 => ?_)
    refine go_iconst (v := (-1)) (nx := 8) dX6_keep_7 (by decide) rfl ?_
    refine go_reti dX6_keep_8 ⟨_, rfl, rfl⟩ ?_
    rw [fKeep, sKeep, if_neg (by rw [hc]; decide), if_neg (fun q => by rw [q] at hc; exact absurd hc (by decide)), if_neg (fun q => by rw [q] at hc; exact absurd hc (by decide))]
    exact ⟨rfl, H, kFr.rf⟩
theorem x_back {G : kG} {n t sz : Nat} {h : kH} {tx : Nat → Nat} {ν : mN} {i0 i1 : Option mN} {T : mT} {tr : Int64} {x : Int32} (hn : 37 ≤ n) (H : oX G t (tx, sz, ν, i0, i1, T, tr) h) (W : wS (tx, sz, ν, i0, i1, T, tr)) : Spi G mX6_back 2 [.ref (kb G + 0), .int x] n h (fun v h' => v = fBack i0 i1 x ∧ oX G t (tx, sz, nBack ν i0 i1 x, i0, i1, T, tr) h' ∧ kFr 0 37 h h') := by
  have hc : choB x = true ∨ choB x = false := by cases choB x <;> simp
  rcases hc with hc | hc
  · rcases cho_of hc with rfl | rfl
    · rcases i0 with _ | μ
      · skip
        obtain ⟨ht, hX, hTx, hRd, hNow, hI0, hI1, hFt, hTo, hDr⟩ := id H
        have hX : h 0 = .inr (6, [.ref (kb G + 1), .ref (kb G + 3), .ref (kb G + 6), .ref (kb G + 11), .ref (kb G + 17), .ref (kb G + 23), .ref (kb G + t), .ref (kb G + (65 - t)), .long tr]) := hX
        have hTx : oText G tx sz h := hTx
        have hNow : oNow G 6 ν h := hNow
        have hI0 : oImg G 11 none h := hI0
        have hI1 : oImg G 17 i1 h := hI1
        have hTo : oTown G t T h := hTo
        obtain ⟨hwT, hwN, hY, hw0, hw1, hsz, htx⟩ := id W
        have hwT : wT T := hwT
        have hwN : wN T.1 ν := hwN
        have hY : ν.2.2.2.1 ≤ 99 := hY
        have hsz : sz ≤ 400 := hsz
        have hP8 := hwT.1
        obtain ⟨kn, ct, si, cr, ⟨hN, hkn, hct, hsi, hcr⟩, hK, hC, hS, hR⟩ := id hNow
        obtain ⟨tk, tc, ⟨hT, htk, htc⟩, hTk, hTc⟩ := id hTo
        have hI : h 11 = .inr (1, [.ref (kb G + (11 + 1)), .int 0]) := hI0.1
        refine Spi.of (by decide) (Nat.le_of_ble_eq_true rfl) ?_
        refine Go.loc (lv' := [(0, _), (1, _)]) rfl ?_
        refine go_iload_n 1 (nx := 1) dX6_back_0 rfl rfl rfl ?_
        refine go_Si (nx := 4) [_] kc_X6_161 s_isChoice dX6_back_1 rfl rfl (Nat.le_of_ble_eq_true rfl) (Nat.le_of_ble_eq_true rfl) ⟨Nat.le_refl _, Nat.le_refl _⟩ rfl (fun rh1 h1 hqh1 => ?_)
        obtain ⟨rfl, rfl⟩ := hqh1
        refine go_if_ne 9 (nx := 7) dX6_back_4 rfl rfl (fun c4 => ?_) (fun c4 => False.elim (absurd c4 (by rw [hc]; decide)))
        refine go_aload_n 0 (nx := 10) dX6_back_9 rfl rfl rfl ?_
        refine go_iload_n 1 (nx := 11) dX6_back_10 rfl rfl rfl ?_
        refine go_Vr (nx := 14) [_] kc_X6_211 ⟨_, _, rfl⟩ (by omega) hX (s_imageOf hn H W) dX6_back_11 rfl rfl (Nat.le_of_ble_eq_true rfl) (Nat.le_of_ble_eq_true rfl) ⟨Nat.le_refl _, Nat.le_refl _⟩ rfl (fun rh2 h2 hqh2 => ?_)
        obtain ⟨rfl, rfl⟩ := hqh2
        rw [if_pos rfl]
        refine go_astore_n (lv' := [_, _, _]) (nx := 15) dX6_back_14 rfl (by decide) rfl rfl ?_
        refine go_aload_n 0 (nx := 16) dX6_back_15 rfl rfl rfl ?_
        refine go_gf (nx := 19) fg_X6_73 dX6_back_16 (by omega) hI rfl rfl ?_
        refine go_if_ne 25 (nx := 22) dX6_back_19 rfl rfl (fun c19 => False.elim (absurd rfl c19)) (fun c19 => ?_)
        refine go_bipush (v := (-2)) (nx := 24) dX6_back_22 (by decide) rfl ?_
        refine go_reti dX6_back_24 ⟨_, rfl, rfl⟩ ?_
        rw [fBack, nBack, if_pos hc, if_pos hc, iOf, if_pos rfl]
        exact ⟨rfl, H, kFr.rf⟩
      · skip
        obtain ⟨ht, hX, hTx, hRd, hNow, hI0, hI1, hFt, hTo, hDr⟩ := id H
        have hX : h 0 = .inr (6, [.ref (kb G + 1), .ref (kb G + 3), .ref (kb G + 6), .ref (kb G + 11), .ref (kb G + 17), .ref (kb G + 23), .ref (kb G + t), .ref (kb G + (65 - t)), .long tr]) := hX
        have hTx : oText G tx sz h := hTx
        have hNow : oNow G 6 ν h := hNow
        have hI0 : oImg G 11 (some μ) h := hI0
        have hI1 : oImg G 17 i1 h := hI1
        have hTo : oTown G t T h := hTo
        obtain ⟨hwT, hwN, hY, hw0, hw1, hsz, htx⟩ := id W
        have hwT : wT T := hwT
        have hwN : wN T.1 ν := hwN
        have hY : ν.2.2.2.1 ≤ 99 := hY
        have hsz : sz ≤ 400 := hsz
        have hP8 := hwT.1
        obtain ⟨kn, ct, si, cr, ⟨hN, hkn, hct, hsi, hcr⟩, hK, hC, hS, hR⟩ := id hNow
        obtain ⟨tk, tc, ⟨hT, htk, htc⟩, hTk, hTc⟩ := id hTo
        have hI : h 11 = .inr (1, [.ref (kb G + (11 + 1)), .int 1]) := hI0.1
        have hIm : oNow G (11 + 1) μ h := hI0.2
        refine Spi.of (by decide) (Nat.le_of_ble_eq_true rfl) ?_
        refine Go.loc (lv' := [(0, _), (1, _)]) rfl ?_
        refine go_iload_n 1 (nx := 1) dX6_back_0 rfl rfl rfl ?_
        refine go_Si (nx := 4) [_] kc_X6_161 s_isChoice dX6_back_1 rfl rfl (Nat.le_of_ble_eq_true rfl) (Nat.le_of_ble_eq_true rfl) ⟨Nat.le_refl _, Nat.le_refl _⟩ rfl (fun rh1 h1 hqh1 => ?_)
        obtain ⟨rfl, rfl⟩ := hqh1
        refine go_if_ne 9 (nx := 7) dX6_back_4 rfl rfl (fun c4 => ?_) (fun c4 => False.elim (absurd c4 (by rw [hc]; decide)))
        refine go_aload_n 0 (nx := 10) dX6_back_9 rfl rfl rfl ?_
        refine go_iload_n 1 (nx := 11) dX6_back_10 rfl rfl rfl ?_
        refine go_Vr (nx := 14) [_] kc_X6_211 ⟨_, _, rfl⟩ (by omega) hX (s_imageOf hn H W) dX6_back_11 rfl rfl (Nat.le_of_ble_eq_true rfl) (Nat.le_of_ble_eq_true rfl) ⟨Nat.le_refl _, Nat.le_refl _⟩ rfl (fun rh2 h2 hqh2 => ?_)
        obtain ⟨rfl, rfl⟩ := hqh2
        rw [if_pos rfl]
        refine go_astore_n (lv' := [_, _, _]) (nx := 15) dX6_back_14 rfl (by decide) rfl rfl ?_
        refine go_aload_n 0 (nx := 16) dX6_back_15 rfl rfl rfl ?_
        refine go_gf (nx := 19) fg_X6_73 dX6_back_16 (by omega) hI rfl rfl ?_
        refine go_if_ne 25 (nx := 22) dX6_back_19 rfl rfl (fun c19 => ?_) (fun c19 => False.elim (absurd c19 (by decide)))
        refine go_aload_n 1 (nx := 26) dX6_back_25 rfl rfl rfl ?_
        refine go_gf (nx := 29) fg_X6_26 dX6_back_26 (by omega) hX rfl rfl ?_
        refine go_aload_n 0 (nx := 30) dX6_back_29 rfl rfl rfl ?_
        refine go_gf (nx := 33) fg_X6_215 dX6_back_30 (by omega) hI rfl rfl ?_
        refine go_Vv (nx := 36) [_] kc_X6_218 ⟨_, _, rfl⟩ (by omega) hN (s_copyFrom (q2 := 11 + 1) (by omega) (by omega) (by omega) ⟨hN, hkn, hct, hsi, hcr⟩ hIm) dX6_back_33 rfl rfl (Nat.le_of_ble_eq_true rfl) (Nat.le_of_ble_eq_true rfl) ⟨Nat.le_refl _, Nat.le_refl _⟩ rfl (fun h3 hqh3 => ?_)
        obtain ⟨hNow, hFh3⟩ := hqh3
        have H := H.setNow hNow hFh3
        have hX := (hFh3 0 (by omega)).trans hX
        obtain ⟨kn, ct, si, cr, ⟨hN, hkn, hct, hsi, hcr⟩, hK, hC, hS, hR⟩ := id hNow
        refine go_aload_n 1 (nx := 37) dX6_back_36 rfl rfl rfl ?_
        refine go_gf (nx := 40) fg_X6_26 dX6_back_37 (by omega) hX rfl rfl ?_
        refine go_gf (nx := 43) fg_X6_134 dX6_back_40 (by omega) hN rfl rfl ?_
        refine go_reti dX6_back_43 ⟨_, rfl, rfl⟩ ?_
        rw [fBack, nBack, if_pos hc, if_pos hc, iOf, if_pos rfl]
        exact ⟨rfl, H, hFh3.wide (by omega) (by omega)⟩
    · rcases i1 with _ | μ
      · skip
        obtain ⟨ht, hX, hTx, hRd, hNow, hI0, hI1, hFt, hTo, hDr⟩ := id H
        have hX : h 0 = .inr (6, [.ref (kb G + 1), .ref (kb G + 3), .ref (kb G + 6), .ref (kb G + 11), .ref (kb G + 17), .ref (kb G + 23), .ref (kb G + t), .ref (kb G + (65 - t)), .long tr]) := hX
        have hTx : oText G tx sz h := hTx
        have hNow : oNow G 6 ν h := hNow
        have hI0 : oImg G 11 i0 h := hI0
        have hI1 : oImg G 17 none h := hI1
        have hTo : oTown G t T h := hTo
        obtain ⟨hwT, hwN, hY, hw0, hw1, hsz, htx⟩ := id W
        have hwT : wT T := hwT
        have hwN : wN T.1 ν := hwN
        have hY : ν.2.2.2.1 ≤ 99 := hY
        have hsz : sz ≤ 400 := hsz
        have hP8 := hwT.1
        obtain ⟨kn, ct, si, cr, ⟨hN, hkn, hct, hsi, hcr⟩, hK, hC, hS, hR⟩ := id hNow
        obtain ⟨tk, tc, ⟨hT, htk, htc⟩, hTk, hTc⟩ := id hTo
        have hI : h 17 = .inr (1, [.ref (kb G + (17 + 1)), .int 0]) := hI1.1
        refine Spi.of (by decide) (Nat.le_of_ble_eq_true rfl) ?_
        refine Go.loc (lv' := [(0, _), (1, _)]) rfl ?_
        refine go_iload_n 1 (nx := 1) dX6_back_0 rfl rfl rfl ?_
        refine go_Si (nx := 4) [_] kc_X6_161 s_isChoice dX6_back_1 rfl rfl (Nat.le_of_ble_eq_true rfl) (Nat.le_of_ble_eq_true rfl) ⟨Nat.le_refl _, Nat.le_refl _⟩ rfl (fun rh1 h1 hqh1 => ?_)
        obtain ⟨rfl, rfl⟩ := hqh1
        refine go_if_ne 9 (nx := 7) dX6_back_4 rfl rfl (fun c4 => ?_) (fun c4 => False.elim (absurd c4 (by rw [hc]; decide)))
        refine go_aload_n 0 (nx := 10) dX6_back_9 rfl rfl rfl ?_
        refine go_iload_n 1 (nx := 11) dX6_back_10 rfl rfl rfl ?_
        refine go_Vr (nx := 14) [_] kc_X6_211 ⟨_, _, rfl⟩ (by omega) hX (s_imageOf hn H W) dX6_back_11 rfl rfl (Nat.le_of_ble_eq_true rfl) (Nat.le_of_ble_eq_true rfl) ⟨Nat.le_refl _, Nat.le_refl _⟩ rfl (fun rh2 h2 hqh2 => ?_)
        obtain ⟨rfl, rfl⟩ := hqh2
        rw [if_neg (nI_k (by decide) (by decide) (by decide))]
        refine go_astore_n (lv' := [_, _, _]) (nx := 15) dX6_back_14 rfl (by decide) rfl rfl ?_
        refine go_aload_n 0 (nx := 16) dX6_back_15 rfl rfl rfl ?_
        refine go_gf (nx := 19) fg_X6_73 dX6_back_16 (by omega) hI rfl rfl ?_
        refine go_if_ne 25 (nx := 22) dX6_back_19 rfl rfl (fun c19 => False.elim (absurd rfl c19)) (fun c19 => ?_)
        refine go_bipush (v := (-2)) (nx := 24) dX6_back_22 (by decide) rfl ?_
        refine go_reti dX6_back_24 ⟨_, rfl, rfl⟩ ?_
        rw [fBack, nBack, if_pos hc, if_pos hc, iOf, if_neg (nI_k (by decide) (by decide) (by decide))]
        exact ⟨rfl, H, kFr.rf⟩
      · skip
        obtain ⟨ht, hX, hTx, hRd, hNow, hI0, hI1, hFt, hTo, hDr⟩ := id H
        have hX : h 0 = .inr (6, [.ref (kb G + 1), .ref (kb G + 3), .ref (kb G + 6), .ref (kb G + 11), .ref (kb G + 17), .ref (kb G + 23), .ref (kb G + t), .ref (kb G + (65 - t)), .long tr]) := hX
        have hTx : oText G tx sz h := hTx
        have hNow : oNow G 6 ν h := hNow
        have hI0 : oImg G 11 i0 h := hI0
        have hI1 : oImg G 17 (some μ) h := hI1
        have hTo : oTown G t T h := hTo
        obtain ⟨hwT, hwN, hY, hw0, hw1, hsz, htx⟩ := id W
        have hwT : wT T := hwT
        have hwN : wN T.1 ν := hwN
        have hY : ν.2.2.2.1 ≤ 99 := hY
        have hsz : sz ≤ 400 := hsz
        have hP8 := hwT.1
        obtain ⟨kn, ct, si, cr, ⟨hN, hkn, hct, hsi, hcr⟩, hK, hC, hS, hR⟩ := id hNow
        obtain ⟨tk, tc, ⟨hT, htk, htc⟩, hTk, hTc⟩ := id hTo
        have hI : h 17 = .inr (1, [.ref (kb G + (17 + 1)), .int 1]) := hI1.1
        have hIm : oNow G (17 + 1) μ h := hI1.2
        refine Spi.of (by decide) (Nat.le_of_ble_eq_true rfl) ?_
        refine Go.loc (lv' := [(0, _), (1, _)]) rfl ?_
        refine go_iload_n 1 (nx := 1) dX6_back_0 rfl rfl rfl ?_
        refine go_Si (nx := 4) [_] kc_X6_161 s_isChoice dX6_back_1 rfl rfl (Nat.le_of_ble_eq_true rfl) (Nat.le_of_ble_eq_true rfl) ⟨Nat.le_refl _, Nat.le_refl _⟩ rfl (fun rh1 h1 hqh1 => ?_)
        obtain ⟨rfl, rfl⟩ := hqh1
        refine go_if_ne 9 (nx := 7) dX6_back_4 rfl rfl (fun c4 => ?_) (fun c4 => False.elim (absurd c4 (by rw [hc]; decide)))
        refine go_aload_n 0 (nx := 10) dX6_back_9 rfl rfl rfl ?_
        refine go_iload_n 1 (nx := 11) dX6_back_10 rfl rfl rfl ?_
        refine go_Vr (nx := 14) [_] kc_X6_211 ⟨_, _, rfl⟩ (by omega) hX (s_imageOf hn H W) dX6_back_11 rfl rfl (Nat.le_of_ble_eq_true rfl) (Nat.le_of_ble_eq_true rfl) ⟨Nat.le_refl _, Nat.le_refl _⟩ rfl (fun rh2 h2 hqh2 => ?_)
        obtain ⟨rfl, rfl⟩ := hqh2
        rw [if_neg (nI_k (by decide) (by decide) (by decide))]
        refine go_astore_n (lv' := [_, _, _]) (nx := 15) dX6_back_14 rfl (by decide) rfl rfl ?_
        refine go_aload_n 0 (nx := 16) dX6_back_15 rfl rfl rfl ?_
        refine go_gf (nx := 19) fg_X6_73 dX6_back_16 (by omega) hI rfl rfl ?_
        refine go_if_ne 25 (nx := 22) dX6_back_19 rfl rfl (fun c19 => ?_) (fun c19 => False.elim (absurd c19 (by decide)))
        refine go_aload_n 1 (nx := 26) dX6_back_25 rfl rfl rfl ?_
        refine go_gf (nx := 29) fg_X6_26 dX6_back_26 (by omega) hX rfl rfl ?_
        refine go_aload_n 0 (nx := 30) dX6_back_29 rfl rfl rfl ?_
        refine go_gf (nx := 33) fg_X6_215 dX6_back_30 (by omega) hI rfl rfl ?_
        refine go_Vv (nx := 36) [_] kc_X6_218 ⟨_, _, rfl⟩ (by omega) hN (s_copyFrom (q2 := 17 + 1) (by omega) (by omega) (by omega) ⟨hN, hkn, hct, hsi, hcr⟩ hIm) dX6_back_33 rfl rfl (Nat.le_of_ble_eq_true rfl) (Nat.le_of_ble_eq_true rfl) ⟨Nat.le_refl _, Nat.le_refl _⟩ rfl (fun h3 hqh3 => ?_)
        obtain ⟨hNow, hFh3⟩ := hqh3
        have H := H.setNow hNow hFh3
        have hX := (hFh3 0 (by omega)).trans hX
        obtain ⟨kn, ct, si, cr, ⟨hN, hkn, hct, hsi, hcr⟩, hK, hC, hS, hR⟩ := id hNow
        refine go_aload_n 1 (nx := 37) dX6_back_36 rfl rfl rfl ?_
        refine go_gf (nx := 40) fg_X6_26 dX6_back_37 (by omega) hX rfl rfl ?_
        refine go_gf (nx := 43) fg_X6_134 dX6_back_40 (by omega) hN rfl rfl ?_
        refine go_reti dX6_back_43 ⟨_, rfl, rfl⟩ ?_
        rw [fBack, nBack, if_pos hc, if_pos hc, iOf, if_neg (nI_k (by decide) (by decide) (by decide))]
        exact ⟨rfl, H, hFh3.wide (by omega) (by omega)⟩
  · skip
    obtain ⟨ht, hX, hTx, hRd, hNow, hI0, hI1, hFt, hTo, hDr⟩ := id H
    have hX : h 0 = .inr (6, [.ref (kb G + 1), .ref (kb G + 3), .ref (kb G + 6), .ref (kb G + 11), .ref (kb G + 17), .ref (kb G + 23), .ref (kb G + t), .ref (kb G + (65 - t)), .long tr]) := hX
    have hTx : oText G tx sz h := hTx
    have hNow : oNow G 6 ν h := hNow
    have hI0 : oImg G 11 i0 h := hI0
    have hI1 : oImg G 17 i1 h := hI1
    have hTo : oTown G t T h := hTo
    obtain ⟨hwT, hwN, hY, hw0, hw1, hsz, htx⟩ := id W
    have hwT : wT T := hwT
    have hwN : wN T.1 ν := hwN
    have hY : ν.2.2.2.1 ≤ 99 := hY
    have hsz : sz ≤ 400 := hsz
    have hP8 := hwT.1
    obtain ⟨kn, ct, si, cr, ⟨hN, hkn, hct, hsi, hcr⟩, hK, hC, hS, hR⟩ := id hNow
    obtain ⟨tk, tc, ⟨hT, htk, htc⟩, hTk, hTc⟩ := id hTo
    refine Spi.of (by decide) (Nat.le_of_ble_eq_true rfl) ?_
    refine Go.loc (lv' := [(0, _), (1, _)]) rfl ?_
    refine go_iload_n 1 (nx := 1) dX6_back_0 rfl rfl rfl ?_
    refine go_Si (nx := 4) [_] kc_X6_161 s_isChoice dX6_back_1 rfl rfl (Nat.le_of_ble_eq_true rfl) (Nat.le_of_ble_eq_true rfl) ⟨Nat.le_refl _, Nat.le_refl _⟩ rfl (fun rh1 h1 hqh1 => ?_)
    obtain ⟨rfl, rfl⟩ := hqh1
    refine go_if_ne 9 (nx := 7) dX6_back_4 rfl rfl (fun c4 => False.elim (absurd c4 (by rw [hc]; decide))) (fun c4 => ?_)
    refine go_iconst (v := (-1)) (nx := 8) dX6_back_7 (by decide) rfl ?_
    refine go_reti dX6_back_8 ⟨_, rfl, rfl⟩ ?_
    rw [fBack, nBack, if_neg (by rw [hc]; decide), if_neg (by rw [hc]; decide)]
    exact ⟨rfl, H, kFr.rf⟩
