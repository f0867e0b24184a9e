/-! LeastKnown: the object behind a reading -/
theorem oX.setRead {G : kG} {t : Nat} {s : mS} {h h' : kH} (H : oX G t s h) (hR : oRead G h') (hA : aTown G (65 - t) h') (hF : tfr (65 - t) h h') : oX G t s h' := by
  obtain ⟨ht, h1, ⟨q1, q2, a, q3, q4⟩, h3, h4, h5, h6, h7, h8, h9⟩ := H
  have f0 : kFr 3 6 h (fun j => if 3 ≤ j ∧ j < 6 then h' j else h j) := fun j hj => by
    show (if 3 ≤ j ∧ j < 6 then h' j else h j) = h j
    rw [if_neg (by omega)]
  have f1 : kFr (65 - t) (65 - t + 3) (fun j => if 3 ≤ j ∧ j < 6 then h' j else h j) h' := fun j hj => by
    show h' j = (if 3 ≤ j ∧ j < 6 then h' j else h j)
    by_cases e : 3 ≤ j ∧ j < 6
    · rw [if_pos e]
    · rw [if_neg e]; exact hF j e (by omega)
  refine ⟨ht, (hF 0 (by omega) (by omega)).trans h1, ⟨(hF 1 (by omega) (by omega)).trans q1, q2, a, (hF 2 (by omega) (by omega)).trans q3, q4⟩, hR, (h4.fr f0 (by omega)).fr f1 (by omega), (h5.fr f0 (by omega)).fr f1 (by omega), (h6.fr f0 (by omega)).fr f1 (by omega), (h7.fr f0 (by omega)).fr f1 (by omega), (h8.fr f0 (by omega)).fr f1 (by omega), hA⟩
theorem oX.swap {G : kG} {t : Nat} {s : mS} {h h' : kH} {T : mT} (H : oX G t s h) (hD : oTown G (65 - t) T h) (hO : oMain G (65 - t) s.2.2.2.2.2.2 h') (hF : kFr 0 1 h h') : oX G (65 - t) (s.1, s.2.1, s.2.2.1, s.2.2.2.1, s.2.2.2.2.1, T, s.2.2.2.2.2.2) h' := by
  obtain ⟨ht, h1, h2, h3, h4, h5, h6, h7, h8, h9⟩ := H
  refine ⟨by omega, hO, h2.fr hF (by omega), h3.fr hF (by omega), h4.fr hF (by omega), h5.fr hF (by omega), h6.fr hF (by omega), h7.fr hF (by omega), hD.fr hF (by omega), ?_⟩
  rw [show 65 - (65 - t) = t by omega]
  exact (h8.a).fr hF (by omega)
theorem neg10 : ∀ p, p < 401 → ¬ (0 : Int32) ≤ -10 - nI p := by decide +kernel
theorem rAll_w {s : Nat → Nat} {m : Nat} (hs : ∀ i, m ≤ i → s i = 12) : ∀ (f k : Nat) (σ : RD) (k2 : Nat) (T2 : mT), wR s m σ → rAll s f k σ = .inr (k2, T2) → wT T2 ∧ k2 ≤ k + f
  | 0, k, σ, k2, T2, hw, e => nomatch e
  | f + 1, k, σ, k2, T2, hw, e => by
    by_cases h : s σ.1 = 12
    · rw [rAll_ok h] at e
      cases e
      exact ⟨hw.1, by omega⟩
    · cases eI : rItem s σ with
      | inl j =>
        rw [rAll_in h eI] at e
        cases e
      | inr τ =>
        rw [rAll_go h eI] at e
        have q := rAll_w hs f (k + 1) τ k2 T2 ((rItem_w hs hw).2 τ eI).1 e
        exact ⟨q.1, by omega⟩
theorem rdTown_w {tx : Nat → Nat} {sz k : Nat} {T : mT} (h : rdTown tx sz = .inr (k, T)) : wT T ∧ k ≤ 401 := by
  have q := rAll_w (m := tmn tx sz) (fun _ => tSt_end) 401 0 (0, T0, false, false) k T ⟨wT_0, Nat.zero_le _⟩ h
  exact ⟨q.1, by omega⟩
theorem x_town {G : kG} {n t sz : Nat} {h : kH} {tx : Nat → Nat} {ν : mN} {i0 i1 : Option mN} {T : mT} {tr : Int64} (hWD : WDok G) (hn : 37 ≤ n) (H : oX G t (tx, sz, ν, i0, i1, T, tr) h) (W : wS (tx, sz, ν, i0, i1, T, tr)) : Spi G mX6_town 10 [.ref (kb G + 0)] n h (fun v h' => v = fTown tx sz ∧ (∃ u, oX G u (sTown (tx, sz, ν, i0, i1, T, tr)) h') ∧ kFr 0 37 h h') := by
  rcases hrd : rdTown tx sz with j | ⟨k, T2⟩
  · skip
    obtain ⟨ht, hX, hTx, hRd, hNow, hI0, hI1, hFt, hTo, hDr⟩ := id H
    have hX : h 0 = .inr (6, [.ref (kb G + 1), .ref (kb G + 3), .ref (kb G + 6), .ref (kb G + 11), .ref (kb G + 17), .ref (kb G + 23), .ref (kb G + t), .ref (kb G + (65 - t)), .long tr]) := hX
    have hTx : oText G tx sz h := hTx
    have hNow : oNow G 6 ν h := hNow
    have hI0 : oImg G 11 i0 h := hI0
    have hI1 : oImg G 17 i1 h := hI1
    have hTo : oTown G t T h := hTo
    obtain ⟨hwT, hwN, hY, hw0, hw1, hsz, htx⟩ := id W
    have hwT : wT T := hwT
    have hwN : wN T.1 ν := hwN
    have hY : ν.2.2.2.1 ≤ 99 := hY
    have hsz : sz ≤ 400 := hsz
    have hP8 := hwT.1
    obtain ⟨kn, ct, si, cr, ⟨hN, hkn, hct, hsi, hcr⟩, hK, hC, hS, hR⟩ := id hNow
    obtain ⟨tk, tc, ⟨hT, htk, htc⟩, hTk, hTc⟩ := id hTo
    obtain ⟨tk3, pl3, cu3, fa3, lt3, ft3, hRc, -⟩ := id hRd
    obtain ⟨htc, -, ba, hby, hba⟩ := id hTx
    obtain ⟨kf0, hJ0, hA0, -⟩ := hI0.any
    obtain ⟨kf1, hJ1, hA1, -⟩ := hI1.any
    have hv : fTown tx sz = -10 - nI (tpl tx sz j) := by unfold fTown; rw [hrd]
    have hs : sTown (tx, sz, ν, i0, i1, T, tr) = (tx, sz, ν, i0, i1, T, tr) := by simp only [sTown, hrd]
    have hj := tpl_le (tx := tx) (sz := sz) j
    refine Spi.of (by decide) (Nat.le_of_ble_eq_true rfl) ?_
    refine Go.loc (lv' := [(0, _)]) rfl ?_
    refine go_aload_n 0 (nx := 1) dX6_town_0 rfl rfl rfl ?_
    refine go_gf (nx := 4) fg_X6_19 dX6_town_1 (by omega) hX rfl rfl ?_
    refine go_aload_n 0 (nx := 5) dX6_town_4 rfl rfl rfl ?_
    refine go_gf (nx := 8) fg_X6_10 dX6_town_5 (by omega) hX rfl rfl ?_
    refine go_aload_n 0 (nx := 9) dX6_town_8 rfl rfl rfl ?_
    refine go_gf (nx := 12) fg_X6_54 dX6_town_9 (by omega) hX rfl rfl ?_
    refine go_Vi (nx := 15) [_, _] kc_X6_69 ⟨_, _, rfl⟩ (by omega) hRc (s_read hWD hn hTx htx hRd (by omega) (by omega) hDr) dX6_town_12 rfl rfl (Nat.le_of_ble_eq_true rfl) (Nat.le_of_ble_eq_true rfl) ⟨Nat.le_refl _, Nat.le_refl _⟩ rfl (fun rh1 h1 hqh1 => ?_)
    obtain ⟨rfl, hRT, hRo, hFh1⟩ := hqh1
    rw [hrd] at hRT
    have hRT : aTown G (65 - t) h1 := hRT
    have H := H.setRead hRo hRT hFh1
    refine go_istore_n (lv' := [_, _]) (nx := 16) dX6_town_15 rfl (by decide) rfl rfl ?_
    refine go_iload_n 0 (nx := 17) dX6_town_16 rfl rfl rfl ?_
    refine go_if_ge 22 (nx := 20) dX6_town_17 rfl rfl (fun c17 => False.elim (absurd (hv ▸ c17) (neg10 _ (by omega)))) (fun c17 => ?_)
    refine go_iload_n 0 (nx := 21) dX6_town_20 rfl rfl rfl ?_
    refine go_reti dX6_town_21 ⟨_, rfl, rfl⟩ ?_
    exact ⟨rfl, ⟨t, by rw [hs]; exact H⟩, fun j hj => hFh1 j (by omega) (by omega)⟩
  · skip
    obtain ⟨ht, hX, hTx, hRd, hNow, hI0, hI1, hFt, hTo, hDr⟩ := id H
    have hX : h 0 = .inr (6, [.ref (kb G + 1), .ref (kb G + 3), .ref (kb G + 6), .ref (kb G + 11), .ref (kb G + 17), .ref (kb G + 23), .ref (kb G + t), .ref (kb G + (65 - t)), .long tr]) := hX
    have hTx : oText G tx sz h := hTx
    have hNow : oNow G 6 ν h := hNow
    have hI0 : oImg G 11 i0 h := hI0
    have hI1 : oImg G 17 i1 h := hI1
    have hTo : oTown G t T h := hTo
    obtain ⟨hwT, hwN, hY, hw0, hw1, hsz, htx⟩ := id W
    have hwT : wT T := hwT
    have hwN : wN T.1 ν := hwN
    have hY : ν.2.2.2.1 ≤ 99 := hY
    have hsz : sz ≤ 400 := hsz
    have hP8 := hwT.1
    obtain ⟨kn, ct, si, cr, ⟨hN, hkn, hct, hsi, hcr⟩, hK, hC, hS, hR⟩ := id hNow
    obtain ⟨tk, tc, ⟨hT, htk, htc⟩, hTk, hTc⟩ := id hTo
    obtain ⟨tk3, pl3, cu3, fa3, lt3, ft3, hRc, -⟩ := id hRd
    obtain ⟨htc, -, ba, hby, hba⟩ := id hTx
    obtain ⟨kf0, hJ0, hA0, -⟩ := hI0.any
    obtain ⟨kf1, hJ1, hA1, -⟩ := hI1.any
    have hv : fTown tx sz = nI k := by unfold fTown; rw [hrd]
    have hs : sTown (tx, sz, ν, i0, i1, T, tr) = (tx, 0, nAnew T2, none, none, T2, tr) := by simp only [sTown, hrd]
    have hk := (rdTown_w hrd).2
    refine Spi.of (by decide) (Nat.le_of_ble_eq_true rfl) ?_
    refine Go.loc (lv' := [(0, _)]) rfl ?_
    refine go_aload_n 0 (nx := 1) dX6_town_0 rfl rfl rfl ?_
    refine go_gf (nx := 4) fg_X6_19 dX6_town_1 (by omega) hX rfl rfl ?_
    refine go_aload_n 0 (nx := 5) dX6_town_4 rfl rfl rfl ?_
    refine go_gf (nx := 8) fg_X6_10 dX6_town_5 (by omega) hX rfl rfl ?_
    refine go_aload_n 0 (nx := 9) dX6_town_8 rfl rfl rfl ?_
    refine go_gf (nx := 12) fg_X6_54 dX6_town_9 (by omega) hX rfl rfl ?_
    refine go_Vi (nx := 15) [_, _] kc_X6_69 ⟨_, _, rfl⟩ (by omega) hRc (s_read hWD hn hTx htx hRd (by omega) (by omega) hDr) dX6_town_12 rfl rfl (Nat.le_of_ble_eq_true rfl) (Nat.le_of_ble_eq_true rfl) ⟨Nat.le_refl _, Nat.le_refl _⟩ rfl (fun rh1 h1 hqh1 => ?_)
    obtain ⟨rfl, hRT, hRo, hFh1⟩ := hqh1
    rw [hrd] at hRT
    have hRT : oTown G (65 - t) T2 h1 := hRT
    have H := H.setRead hRo hRT.a hFh1
    obtain ⟨-, hX, hTx, hRd, hNow, hI0, hI1, hFt, hTo, hDr⟩ := id H
    have hX : h1 0 = .inr (6, [.ref (kb G + 1), .ref (kb G + 3), .ref (kb G + 6), .ref (kb G + 11), .ref (kb G + 17), .ref (kb G + 23), .ref (kb G + t), .ref (kb G + (65 - t)), .long tr]) := hX
    have hTx : oText G tx sz h1 := hTx
    have hNow : oNow G 6 ν h1 := hNow
    have hI0 : oImg G 11 i0 h1 := hI0
    have hI1 : oImg G 17 i1 h1 := hI1
    obtain ⟨kn, ct, si, cr, ⟨hN, hkn, hct, hsi, hcr⟩, -⟩ := id hNow
    obtain ⟨tk3, pl3, cu3, fa3, lt3, ft3, hRc, -⟩ := id hRd
    obtain ⟨htc, -, ba, hby, hba⟩ := id hTx
    obtain ⟨kf0, hJ0, hA0, -⟩ := hI0.any
    obtain ⟨kf1, hJ1, hA1, -⟩ := hI1.any
    refine go_istore_n (lv' := [_, _]) (nx := 16) dX6_town_15 rfl (by decide) rfl rfl ?_
    refine go_iload_n 0 (nx := 17) dX6_town_16 rfl rfl rfl ?_
    refine go_if_ge 22 (nx := 20) dX6_town_17 rfl rfl (fun c17 => ?_) (fun c17 => False.elim (absurd (hv ▸ nI_pos' (by omega)) c17))
    refine go_aload_n 1 (nx := 23) dX6_town_22 rfl rfl rfl ?_
    refine go_gf (nx := 26) fg_X6_50 dX6_town_23 (by omega) hX rfl rfl ?_
    refine go_astore_n (lv' := [_, _, _]) (nx := 27) dX6_town_26 rfl (by decide) rfl rfl ?_
    refine go_aload_n 2 (nx := 28) dX6_town_27 rfl rfl rfl ?_
    refine go_aload_n 2 (nx := 29) dX6_town_28 rfl rfl rfl ?_
    refine go_gf (nx := 32) fg_X6_54 dX6_town_29 (by omega) hX rfl rfl ?_
    refine go_pf (fs' := [_, _, _, _, _, _, _, _, _]) (nx := 35) (fp_X6_50 _) dX6_town_32 (by omega) hX (Nat.le_of_ble_eq_true rfl) ⟨rfl, rfl⟩ rfl rfl (fun h2 eh2 fh2 => ?_)
    have hN := (fh2 (6) (by omega)).trans hN
    have hkn := (fh2 (6 + 1) (by omega)).trans hkn
    have hct := (fh2 (6 + 2) (by omega)).trans hct
    have hsi := (fh2 (6 + 3) (by omega)).trans hsi
    have hcr := (fh2 (6 + 4) (by omega)).trans hcr
    have htc := (fh2 (1) (by omega)).trans htc
    have hRc := (fh2 (3) (by omega)).trans hRc
    have hJ0 := (fh2 (11) (by omega)).trans hJ0
    have hJ1 := (fh2 (17) (by omega)).trans hJ1
    have hX := eh2
    refine go_aload_n 2 (nx := 36) dX6_town_35 rfl rfl rfl ?_
    refine go_aload_n 0 (nx := 37) dX6_town_36 rfl rfl rfl ?_
    refine go_pf (fs' := [_, _, _, _, _, _, _, _, _]) (nx := 40) (fp_X6_54 _) dX6_town_37 (by omega) hX (Nat.le_of_ble_eq_true rfl) ⟨rfl, rfl⟩ rfl rfl (fun h3 eh3 fh3 => ?_)
    have hN := (fh3 (6) (by omega)).trans hN
    have hkn := (fh3 (6 + 1) (by omega)).trans hkn
    have hct := (fh3 (6 + 2) (by omega)).trans hct
    have hsi := (fh3 (6 + 3) (by omega)).trans hsi
    have hcr := (fh3 (6 + 4) (by omega)).trans hcr
    have htc := (fh3 (1) (by omega)).trans htc
    have hRc := (fh3 (3) (by omega)).trans hRc
    have hJ0 := (fh3 (11) (by omega)).trans hJ0
    have hJ1 := (fh3 (17) (by omega)).trans hJ1
    have hX := eh3
    have f13 : kFr 0 1 h1 h3 := fun j hj => (fh3 j (by omega)).trans (fh2 j (by omega))
    have hM : oMain G (65 - t) tr h3 := by
      show h3 0 = _
      rw [hX, show 65 - (65 - t) = t by omega]
    have H := H.swap hRT hM f13
    have hRT := hRT.fr f13 (by omega)
    refine go_aload_n 2 (nx := 41) dX6_town_40 rfl rfl rfl ?_
    refine go_gf (nx := 44) fg_X6_10 dX6_town_41 (by omega) hX rfl rfl ?_
    refine go_iconst (v := nI 0) (nx := 45) dX6_town_44 (by decide) rfl ?_
    refine go_pf (fs' := [_, _]) (nx := 48) (fp_X6_61 _) dX6_town_45 (by omega) htc (Nat.le_of_ble_eq_true rfl) ⟨rfl, rfl⟩ rfl rfl (fun h4 eh4 fh4 => ?_)
    have hX := (fh4 (0) (by omega)).trans hX
    have hN := (fh4 (6) (by omega)).trans hN
    have hkn := (fh4 (6 + 1) (by omega)).trans hkn
    have hct := (fh4 (6 + 2) (by omega)).trans hct
    have hsi := (fh4 (6 + 3) (by omega)).trans hsi
    have hcr := (fh4 (6 + 4) (by omega)).trans hcr
    have hRc := (fh4 (3) (by omega)).trans hRc
    have hJ0 := (fh4 (11) (by omega)).trans hJ0
    have hJ1 := (fh4 (17) (by omega)).trans hJ1
    have htc := eh4
    have H := H.setText (tx := tx) (sz := 0) ⟨htc, Nat.zero_le _, ba, (fh4 2 (by omega)).trans ((f13 2 (by omega)).trans hby), fun j hj => absurd hj (Nat.not_lt_zero j)⟩ (fun j hj => fh4 j (by omega))
    have hRT := hRT.fr (lo := 1) (hi := 3) (fun j hj => fh4 j (by omega)) (by omega)
    refine go_aload_n 2 (nx := 49) dX6_town_48 rfl rfl rfl ?_
    refine go_gf (nx := 52) fg_X6_26 dX6_town_49 (by omega) hX rfl rfl ?_
    refine go_aload_n 2 (nx := 53) dX6_town_52 rfl rfl rfl ?_
    refine go_gf (nx := 56) fg_X6_50 dX6_town_53 (by omega) hX rfl rfl ?_
    refine go_Vv (nx := 59) [_] kc_X6_57 ⟨_, _, rfl⟩ (by omega) hN (s_begin (by omega) (by omega) (by omega) ⟨hN, hkn, hct, hsi, hcr⟩ hRT) dX6_town_56 rfl rfl (Nat.le_of_ble_eq_true rfl) (Nat.le_of_ble_eq_true rfl) ⟨Nat.le_refl _, Nat.le_refl _⟩ rfl (fun h5 hqh5 => ?_)
    obtain ⟨hNow, hFh5⟩ := hqh5
    have H := H.setNow hNow hFh5
    have hX := (hFh5 0 (by omega)).trans hX
    have hJ0 := (hFh5 11 (by omega)).trans hJ0
    have hJ1 := (hFh5 17 (by omega)).trans hJ1
    have hA0 := ((hA0.fr f13 (by omega)).fr (lo := 1) (hi := 3) (fun j hj => fh4 j (by omega)) (by omega)).fr hFh5 (by omega)
    have hA1 := ((hA1.fr f13 (by omega)).fr (lo := 1) (hi := 3) (fun j hj => fh4 j (by omega)) (by omega)).fr hFh5 (by omega)
    skip
    refine go_aload_n 2 (nx := 60) dX6_town_59 rfl rfl rfl ?_
    refine go_gf (nx := 63) fg_X6_33 dX6_town_60 (by omega) hX rfl rfl ?_
    refine go_iconst (v := nI 0) (nx := 64) dX6_town_63 (by decide) rfl ?_
    refine go_pf (fs' := [_, _]) (nx := 67) (fp_X6_73 _) dX6_town_64 (by omega) hJ0 (Nat.le_of_ble_eq_true rfl) ⟨rfl, rfl⟩ rfl rfl (fun h6 eh6 fh6 => ?_)
    have hX := (fh6 (0) (by omega)).trans hX
    have hJ1 := (fh6 (17) (by omega)).trans hJ1
    have hJ0 := eh6
    have f6 : kFr 11 12 h5 h6 := fun j hj => fh6 j (by omega)
    have H := H.setImg0 (o := none) ⟨hJ0, hA0.fr f6 (by omega)⟩ (f6.wide (by omega) (by omega))
    refine go_aload_n 2 (nx := 68) dX6_town_67 rfl rfl rfl ?_
    refine go_gf (nx := 71) fg_X6_37 dX6_town_68 (by omega) hX rfl rfl ?_
    refine go_iconst (v := nI 0) (nx := 72) dX6_town_71 (by decide) rfl ?_
    refine go_pf (fs' := [_, _]) (nx := 75) (fp_X6_73 _) dX6_town_72 (by omega) hJ1 (Nat.le_of_ble_eq_true rfl) ⟨rfl, rfl⟩ rfl rfl (fun h7 eh7 fh7 => ?_)
    have hX := (fh7 (0) (by omega)).trans hX
    have hJ0 := (fh7 (11) (by omega)).trans hJ0
    have hJ1 := eh7
    have f7 : kFr 17 18 h6 h7 := fun j hj => fh7 j (by omega)
    have H := H.setImg1 (o := none) ⟨hJ1, (hA1.fr f6 (by omega)).fr f7 (by omega)⟩ (f7.wide (by omega) (by omega))
    refine go_iload_n 1 (nx := 76) dX6_town_75 rfl rfl rfl ?_
    refine go_reti dX6_town_76 ⟨_, rfl, rfl⟩ ?_
    refine ⟨rfl, ⟨65 - t, by rw [hs]; exact H⟩, fun j hj => ?_⟩
    rw [fh7 j (by omega), fh6 j (by omega), hFh5 j (by omega), fh4 j (by omega), fh3 j (by omega), fh2 j (by omega)]
    exact hFh1 j (by omega) (by omega)
