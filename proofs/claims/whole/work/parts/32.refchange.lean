/-! the reference: what changes NOW and the town -/
theorem oM.setT {G : kG} {s : mS} {h h' : kH} {F : Nat → Int32} {T : mT} (H : oM G s h) (hO : mO G F s.2.2.2.2.2.2 s.2.1 T h') (h1 : T.2.1 = s.2.2.2.2.2.1.2.1) (h2 : T.2.2.1 = s.2.2.2.2.2.1.2.2.1) (hF : kFr 37 38 h h') : oM G (s.1, s.2.1, s.2.2.1, s.2.2.2.1, s.2.2.2.2.1, T, s.2.2.2.2.2.2) h' := by
  obtain ⟨-, q2, ⟨a, q3, q3'⟩, ⟨b, q4, q4'⟩, q5, q6, q7, q8, q9, q10, q11⟩ := H
  exact ⟨⟨F, hO⟩, q2.fr hF (by omega), ⟨a, (hF 39 (by omega)).trans q3, fun p hp => by rw [h1]; exact q3' p hp⟩, ⟨b, (hF 40 (by omega)).trans q4, fun p hp => by rw [h2]; exact q4' p hp⟩, q5.fr hF (by omega), q6.fr hF (by omega), q7.fr hF (by omega), q8.fr hF (by omega), q9.fr hF (by omega), q10.fr hF (by omega), q11.fr hF (by omega)⟩
theorem m_meet {G : kG} {n sz : Nat} {h : kH} {tx : Nat → Nat} {ν : mN} {i0 i1 : Option mN} {T : mT} {tr : Int64} {x y : Int32} (hn : 49 ≤ n) (H : oM G (tx, sz, ν, i0, i1, T, tr) h) (W : wS (tx, sz, ν, i0, i1, T, tr)) : Spi G mX7_meet 3 [.ref (kb G + 37), .int x, .int y] n h (fun v h' => v = fMeet T ν x y ∧ oM G (tx, sz, nMeet T ν x y, i0, i1, T, tr) h' ∧ kFr 37 49 h h') := by
  obtain ⟨hwT, hwN, hY, hw0, hw1, hsz, htx⟩ := id W
  have hwT : wT T := hwT
  have hwN : wN T.1 ν := hwN
  have hY : ν.2.2.2.1 ≤ 99 := hY
  have hsz : sz ≤ 400 := hsz
  have hP := hwT.1
  obtain ⟨⟨F, HO⟩, -⟩ := id H
  have hM : h 37 = .inr (7, [.int (F 0), .long tr, .ref (kb G + 38), .int (nI sz), .int (F 4), .int (F 5), .int (F 6), .int (F 7), .int (F 8), .ref (kb G + 39), .ref (kb G + 40), .int (nI T.1), .int (F 12), .int (nI T.2.2.2.1), .int (F 14), .int (nI T.2.2.2.2.1), .int (F 16), .int (nI T.2.2.2.2.2), .int (F 18), .int (F 19), .int (F 20), .ref (kb G + 41), .ref (kb G + 42), .ref (kb G + 43), .ref (kb G + 44), .ref (kb G + 45), .ref (kb G + 46), .ref (kb G + 47), .ref (kb G + 48)]) := HO
  refine Spi.of (by decide) (Nat.le_of_ble_eq_true rfl) ?_
  refine Go.loc (lv' := [(0, _), (1, _), (2, _)]) rfl ?_
  refine go_aload_n 0 (nx := 1) dX7_meet_0 rfl rfl rfl ?_
  refine go_iconst (v := nI 0) (nx := 2) dX7_meet_1 (by decide) rfl ?_
  refine go_pf (fs' := [_, _, _, _, _, _, _, _, _, _, _, _, _, _, _, _, _, _, _, _, _, _, _, _, _, _, _, _, _]) (nx := 5) (fp_X7_51 _) dX7_meet_2 (by omega) hM (Nat.le_of_ble_eq_true rfl) ⟨rfl, rfl⟩ rfl rfl (fun h1 eh1 fh1 => ?_)
  have hM := eh1
  have hZ : kFr 37 49 h h1 := fun j hj => fh1 j (by omega)
  have H := H.setO (F := upd F 0 (nI 0)) (tr := tr) hM (fun j hj => fh1 j (by omega))
  have H : oM G (tx, sz, ν, i0, i1, T, tr) h1 := H
  obtain ⟨⟨F5, HO⟩, HTm, HKt, HH, HS, HSp, HKe, HRi, HPa, HAh, HDo⟩ := id H
  have HO : mO G F5 tr sz T h1 := HO
  have HTm : oTm G tx sz h1 := HTm
  have HKt : oKt G T h1 := HKt
  have HH : oHab G T h1 := HH
  have HS : oS G ν h1 := HS
  have HKe : oKe G i0 i1 h1 := HKe
  have hM : h1 37 = .inr (7, [.int (F5 0), .long tr, .ref (kb G + 38), .int (nI sz), .int (F5 4), .int (F5 5), .int (F5 6), .int (F5 7), .int (F5 8), .ref (kb G + 39), .ref (kb G + 40), .int (nI T.1), .int (F5 12), .int (nI T.2.2.2.1), .int (F5 14), .int (nI T.2.2.2.2.1), .int (F5 16), .int (nI T.2.2.2.2.2), .int (F5 18), .int (F5 19), .int (F5 20), .ref (kb G + 41), .ref (kb G + 42), .ref (kb G + 43), .ref (kb G + 44), .ref (kb G + 45), .ref (kb G + 46), .ref (kb G + 47), .ref (kb G + 48)]) := HO
  obtain ⟨sa, hs, hs1, hs2, hs3, hs4, hs5⟩ := id HS
  refine go_aload_n 0 (nx := 6) dX7_meet_5 rfl rfl rfl ?_
  refine go_iload_n 1 (nx := 7) dX7_meet_6 rfl rfl rfl ?_
  refine go_iload_n 2 (nx := 8) dX7_meet_7 rfl rfl rfl ?_
  refine go_Vi (nx := 11) [_, _] kc_X7_150 ⟨_, _, rfl⟩ (by omega) hM (m_areTwo hn HO hP) dX7_meet_8 rfl rfl (Nat.le_of_ble_eq_true rfl) (Nat.le_of_ble_eq_true rfl) ⟨Nat.le_refl _, Nat.le_refl _⟩ rfl (fun rh2 h2 hqh2 => ?_)
  obtain ⟨rfl, rfl⟩ := hqh2
  refine go_if_eq 30 (nx := 14) dX7_meet_11 rfl rfl (fun c11 => ?_) (fun c11 => ?_)
  · skip
    refine go_iconst (v := (-1)) (nx := 31) dX7_meet_30 (by decide) rfl ?_
    refine go_reti dX7_meet_31 ⟨_, rfl, rfl⟩ ?_
    rw [fMeet, nMeet, if_neg (by rw [tb0 c11]; decide), if_neg (by rw [tb0 c11]; decide)]
    exact ⟨rfl, H, hZ⟩
  · skip
    obtain ⟨a, b, ha, hb, hab, rfl, rfl⟩ := pair_of hP (tbn0 c11)
    have ha8 : a < 8 := by omega
    have hb8 : b < 8 := by omega
    refine go_aload_n 0 (nx := 15) dX7_meet_14 rfl rfl rfl ?_
    refine go_iload_n 1 (nx := 16) dX7_meet_15 rfl rfl rfl ?_
    refine go_iload_n 2 (nx := 17) dX7_meet_16 rfl rfl rfl ?_
    refine go_Vi (nx := 20) [_, _] kc_X7_171 ⟨_, _, rfl⟩ (by omega) hM (m_learns hn HO HS rfl ha8 rfl hb8) dX7_meet_17 rfl rfl (Nat.le_of_ble_eq_true rfl) (Nat.le_of_ble_eq_true rfl) ⟨Nat.le_refl _, Nat.le_refl _⟩ rfl (fun rh3 h3 hqh3 => ?_)
    obtain ⟨rfl, HS, hFh3⟩ := hqh3
    have H := H.setS HS hFh3
    have HO : mO G F5 tr sz T h3 := HO.fr hFh3 (by omega)
    have hM := (hFh3 37 (by omega)).trans hM
    have hZ := hZ.tr (hFh3.wide (by omega) (by omega))
    obtain ⟨sa, hs, hs1, hs2, hs3, hs4, hs5⟩ := id HS
    refine go_aload_n 0 (nx := 21) dX7_meet_20 rfl rfl rfl ?_
    refine go_iload_n 2 (nx := 22) dX7_meet_21 rfl rfl rfl ?_
    refine go_iload_n 1 (nx := 23) dX7_meet_22 rfl rfl rfl ?_
    refine go_Vi (nx := 26) [_, _] kc_X7_171 ⟨_, _, rfl⟩ (by omega) hM (m_learns hn HO HS rfl hb8 rfl ha8) dX7_meet_23 rfl rfl (Nat.le_of_ble_eq_true rfl) (Nat.le_of_ble_eq_true rfl) ⟨Nat.le_refl _, Nat.le_refl _⟩ rfl (fun rh4 h4 hqh4 => ?_)
    obtain ⟨rfl, HS, hFh4⟩ := hqh4
    have H := H.setS HS hFh4
    have HO : mO G F5 tr sz T h4 := HO.fr hFh4 (by omega)
    have hM := (hFh4 37 (by omega)).trans hM
    have hZ := hZ.tr (hFh4.wide (by omega) (by omega))
    obtain ⟨sa, hs, hs1, hs2, hs3, hs4, hs5⟩ := id HS
    refine go_iadd (nx := 27) dX7_meet_26 rfl ?_
    refine go_goto 31 dX7_meet_27 rfl ?_
    refine go_reti dX7_meet_31 ⟨_, rfl, rfl⟩ ?_
    rw [fMeet, nMeet, if_pos (tbn0 c11), if_pos (tbn0 c11), cl_nI (by omega), cl_nI (by omega)]
    refine ⟨?_, H, hZ⟩
    rw [show (mLearn ν a b).1 b a = ν.1 b a from by show (ν.1 b a || (b == a && a == b)) = _; simp [hab]]
theorem m_introduce {G : kG} {n sz : Nat} {h : kH} {tx : Nat → Nat} {ν : mN} {i0 i1 : Option mN} {T : mT} {tr : Int64} {x y z : Int32} (hn : 49 ≤ n) (H : oM G (tx, sz, ν, i0, i1, T, tr) h) (W : wS (tx, sz, ν, i0, i1, T, tr)) : Spi G mX7_introduce 3 [.ref (kb G + 37), .int x, .int y, .int z] n h (fun v h' => v = fIntro T ν x y z ∧ oM G (tx, sz, nIntro T ν x y z, i0, i1, T, tr) h' ∧ kFr 37 49 h h') := by
  obtain ⟨hwT, hwN, hY, hw0, hw1, hsz, htx⟩ := id W
  have hwT : wT T := hwT
  have hwN : wN T.1 ν := hwN
  have hY : ν.2.2.2.1 ≤ 99 := hY
  have hsz : sz ≤ 400 := hsz
  have hP := hwT.1
  obtain ⟨⟨F, HO⟩, -⟩ := id H
  have hM : h 37 = .inr (7, [.int (F 0), .long tr, .ref (kb G + 38), .int (nI sz), .int (F 4), .int (F 5), .int (F 6), .int (F 7), .int (F 8), .ref (kb G + 39), .ref (kb G + 40), .int (nI T.1), .int (F 12), .int (nI T.2.2.2.1), .int (F 14), .int (nI T.2.2.2.2.1), .int (F 16), .int (nI T.2.2.2.2.2), .int (F 18), .int (F 19), .int (F 20), .ref (kb G + 41), .ref (kb G + 42), .ref (kb G + 43), .ref (kb G + 44), .ref (kb G + 45), .ref (kb G + 46), .ref (kb G + 47), .ref (kb G + 48)]) := HO
  refine Spi.of (by decide) (Nat.le_of_ble_eq_true rfl) ?_
  refine Go.loc (lv' := [(0, _), (1, _), (2, _), (3, _)]) rfl ?_
  refine go_aload_n 0 (nx := 1) dX7_introduce_0 rfl rfl rfl ?_
  refine go_iconst (v := nI 0) (nx := 2) dX7_introduce_1 (by decide) rfl ?_
  refine go_pf (fs' := [_, _, _, _, _, _, _, _, _, _, _, _, _, _, _, _, _, _, _, _, _, _, _, _, _, _, _, _, _]) (nx := 5) (fp_X7_51 _) dX7_introduce_2 (by omega) hM (Nat.le_of_ble_eq_true rfl) ⟨rfl, rfl⟩ rfl rfl (fun h1 eh1 fh1 => ?_)
  have hM := eh1
  have hZ : kFr 37 49 h h1 := fun j hj => fh1 j (by omega)
  have H := H.setO (F := upd F 0 (nI 0)) (tr := tr) hM (fun j hj => fh1 j (by omega))
  have H : oM G (tx, sz, ν, i0, i1, T, tr) h1 := H
  obtain ⟨⟨F5, HO⟩, HTm, HKt, HH, HS, HSp, HKe, HRi, HPa, HAh, HDo⟩ := id H
  have HO : mO G F5 tr sz T h1 := HO
  have HTm : oTm G tx sz h1 := HTm
  have HKt : oKt G T h1 := HKt
  have HH : oHab G T h1 := HH
  have HS : oS G ν h1 := HS
  have HKe : oKe G i0 i1 h1 := HKe
  have hM : h1 37 = .inr (7, [.int (F5 0), .long tr, .ref (kb G + 38), .int (nI sz), .int (F5 4), .int (F5 5), .int (F5 6), .int (F5 7), .int (F5 8), .ref (kb G + 39), .ref (kb G + 40), .int (nI T.1), .int (F5 12), .int (nI T.2.2.2.1), .int (F5 14), .int (nI T.2.2.2.2.1), .int (F5 16), .int (nI T.2.2.2.2.2), .int (F5 18), .int (F5 19), .int (F5 20), .ref (kb G + 41), .ref (kb G + 42), .ref (kb G + 43), .ref (kb G + 44), .ref (kb G + 45), .ref (kb G + 46), .ref (kb G + 47), .ref (kb G + 48)]) := HO
  obtain ⟨sa, hs, hs1, hs2, hs3, hs4, hs5⟩ := id HS
  refine go_aload_n 0 (nx := 6) dX7_introduce_5 rfl rfl rfl ?_
  refine go_iload_n 1 (nx := 7) dX7_introduce_6 rfl rfl rfl ?_
  refine go_iload_n 2 (nx := 8) dX7_introduce_7 rfl rfl rfl ?_
  refine go_Vi (nx := 11) [_, _] kc_X7_150 ⟨_, _, rfl⟩ (by omega) hM (m_areTwo hn HO hP) dX7_introduce_8 rfl rfl (Nat.le_of_ble_eq_true rfl) (Nat.le_of_ble_eq_true rfl) ⟨Nat.le_refl _, Nat.le_refl _⟩ rfl (fun rh2 h2 hqh2 => ?_)
  obtain ⟨rfl, rfl⟩ := hqh2
  refine go_if_eq 32 (nx := 14) dX7_introduce_11 rfl rfl (fun c11 => ?_) (fun c11 => ?_)
  · skip
    refine go_iconst (v := (-1)) (nx := 33) dX7_introduce_32 (by decide) rfl ?_
    refine go_reti dX7_introduce_33 ⟨_, rfl, rfl⟩ ?_
    have e : triB T x y z = false := by simp [triB, tb0 c11]
    rw [fIntro, nIntro, if_neg (by rw [e]; decide), if_neg (by rw [e]; simp)]
    exact ⟨rfl, H, hZ⟩
  · skip
    refine go_aload_n 0 (nx := 15) dX7_introduce_14 rfl rfl rfl ?_
    refine go_iload_n 1 (nx := 16) dX7_introduce_15 rfl rfl rfl ?_
    refine go_iload_n 3 (nx := 17) dX7_introduce_16 rfl rfl rfl ?_
    refine go_Vi (nx := 20) [_, _] kc_X7_150 ⟨_, _, rfl⟩ (by omega) hM (m_areTwo hn HO hP) dX7_introduce_17 rfl rfl (Nat.le_of_ble_eq_true rfl) (Nat.le_of_ble_eq_true rfl) ⟨Nat.le_refl _, Nat.le_refl _⟩ rfl (fun rh3 h3 hqh3 => ?_)
    obtain ⟨rfl, rfl⟩ := hqh3
    refine go_if_eq 32 (nx := 23) dX7_introduce_20 rfl rfl (fun c20 => ?_) (fun c20 => ?_)
    · skip
      refine go_iconst (v := (-1)) (nx := 33) dX7_introduce_32 (by decide) rfl ?_
      refine go_reti dX7_introduce_33 ⟨_, rfl, rfl⟩ ?_
      have e : triB T x y z = false := by simp [triB, tb0 c20]
      rw [fIntro, nIntro, if_neg (by rw [e]; decide), if_neg (by rw [e]; simp)]
      exact ⟨rfl, H, hZ⟩
    · skip
      refine go_aload_n 0 (nx := 24) dX7_introduce_23 rfl rfl rfl ?_
      refine go_iload_n 2 (nx := 25) dX7_introduce_24 rfl rfl rfl ?_
      refine go_iload_n 3 (nx := 26) dX7_introduce_25 rfl rfl rfl ?_
      refine go_Vi (nx := 29) [_, _] kc_X7_150 ⟨_, _, rfl⟩ (by omega) hM (m_areTwo hn HO hP) dX7_introduce_26 rfl rfl (Nat.le_of_ble_eq_true rfl) (Nat.le_of_ble_eq_true rfl) ⟨Nat.le_refl _, Nat.le_refl _⟩ rfl (fun rh4 h4 hqh4 => ?_)
      obtain ⟨rfl, rfl⟩ := hqh4
      refine go_if_ne 34 (nx := 32) dX7_introduce_29 rfl rfl (fun c29 => ?_) (fun c29 => ?_)
      · skip
        obtain ⟨a, b, ha, hb, hab, rfl, rfl⟩ := pair_of hP (tbn0 c11)
        obtain ⟨c, hc, rfl⟩ := per_of hP (by have q := tbn0 c20; simp only [pairB, Bool.and_eq_true] at q; exact q.1.2)
        have ha8 : a < 8 := by omega
        have hb8 : b < 8 := by omega
        have hc8 : c < 8 := by omega
        refine go_aload_n 0 (nx := 35) dX7_introduce_34 rfl rfl rfl ?_
        refine go_iload_n 1 (nx := 36) dX7_introduce_35 rfl rfl rfl ?_
        refine go_iload_n 3 (nx := 37) dX7_introduce_36 rfl rfl rfl ?_
        refine go_Vi (nx := 40) [_, _] kc_X7_154 ⟨_, _, rfl⟩ (by omega) hM (m_isKnown hn HO HS rfl ha8 rfl hc8) dX7_introduce_37 rfl rfl (Nat.le_of_ble_eq_true rfl) (Nat.le_of_ble_eq_true rfl) ⟨Nat.le_refl _, Nat.le_refl _⟩ rfl (fun rh5 h5 hqh5 => ?_)
        obtain ⟨rfl, rfl⟩ := hqh5
        refine go_if_ne 46 (nx := 43) dX7_introduce_40 rfl rfl (fun c40 => ?_) (fun c40 => ?_)
        · skip
          refine go_aload_n 0 (nx := 47) dX7_introduce_46 rfl rfl rfl ?_
          refine go_iload_n 2 (nx := 48) dX7_introduce_47 rfl rfl rfl ?_
          refine go_iload_n 3 (nx := 49) dX7_introduce_48 rfl rfl rfl ?_
          refine go_Vi (nx := 52) [_, _] kc_X7_171 ⟨_, _, rfl⟩ (by omega) hM (m_learns hn HO HS rfl hb8 rfl hc8) dX7_introduce_49 rfl rfl (Nat.le_of_ble_eq_true rfl) (Nat.le_of_ble_eq_true rfl) ⟨Nat.le_refl _, Nat.le_refl _⟩ rfl (fun rh6 h6 hqh6 => ?_)
          obtain ⟨rfl, HS, hFh6⟩ := hqh6
          have H := H.setS HS hFh6
          have HO : mO G F5 tr sz T h6 := HO.fr hFh6 (by omega)
          have hM := (hFh6 37 (by omega)).trans hM
          have hZ := hZ.tr (hFh6.wide (by omega) (by omega))
          obtain ⟨sa, hs, hs1, hs2, hs3, hs4, hs5⟩ := id HS
          refine go_reti dX7_introduce_52 ⟨_, rfl, rfl⟩ ?_
          have e : triB T (nI a) (nI b) (nI c) = true := by simp [triB, tbn0 c11, tbn0 c20, tbn0 c29]
          rw [fIntro, nIntro, if_pos e, cl_nI (by omega), cl_nI (by omega), cl_nI (by omega), if_pos (tbn0 c40), if_pos (by rw [e, tbn0 c40]; rfl)]
          exact ⟨rfl, H, hZ⟩
        · skip
          refine go_bipush (v := (-2)) (nx := 45) dX7_introduce_43 (by decide) rfl ?_
          refine go_reti dX7_introduce_45 ⟨_, rfl, rfl⟩ ?_
          have e : triB T (nI a) (nI b) (nI c) = true := by simp [triB, tbn0 c11, tbn0 c20, tbn0 c29]
          rw [fIntro, nIntro, if_pos e, cl_nI (by omega), cl_nI (by omega), if_neg (by rw [tb0 c40]; decide), if_neg (by rw [tb0 c40]; simp)]
          exact ⟨rfl, H, hZ⟩
      · skip
        refine go_iconst (v := (-1)) (nx := 33) dX7_introduce_32 (by decide) rfl ?_
        refine go_reti dX7_introduce_33 ⟨_, rfl, rfl⟩ ?_
        have e : triB T x y z = false := by simp [triB, tb0 c29]
        rw [fIntro, nIntro, if_neg (by rw [e]; decide), if_neg (by rw [e]; simp)]
        exact ⟨rfl, H, hZ⟩
theorem row_mv {K : mK} {p a c : Nat} (hp : p < 8) : row (fun x y => K x y && !(y == p && decide (x < a + 1))) c = if c = a then row (fun x y => K x y && !(y == p && decide (x < a))) c &&& (255 - 2 ^ p) else row (fun x y => K x y && !(y == p && decide (x < a))) c := by
  split
  · rename_i e
    subst e
    rw [row, row, bits_clr _ hp]
    exact bits_ext fun i _ => by simp
  · rename_i e
    refine bits_ext fun i _ => ?_
    show (K c i && !(i == p && decide (c < a + 1))) = (K c i && !(i == p && decide (c < a)))
    rw [show decide (c < a + 1) = decide (c < a) by simp; omega]
theorem l_mmoves {G : kG} {n sz : Nat} {h : kH} {tx : Nat → Nat} {ν : mN} {i0 i1 : Option mN} {T : mT} {tr : Int64} {p : Nat} {h0 : kH} {was : Int32} (hn : 49 ≤ n) (W : wS (tx, sz, ν, i0, i1, T, tr)) (hp : p < T.1) : ∀ (d a : Nat) (h : kH), T.1 - a < d → a ≤ T.1 → oM G (tx, sz, ((fun x y => ν.1 x y && !(y == p && decide (x < a))), ν.2), i0, i1, T, tr) h → kFr 37 49 h0 h → Go G mX7_moves (2, 0, 0) 23 [(3, .int (nI a)), (2, .int was), (0, .ref (kb G + 37)), (1, .int (nI p))] [] (n, 0, 0) h (kQi mX7_moves n (fun v h' => v = was ∧ oM G (tx, sz, mMove ν p, i0, i1, T, tr) h' ∧ kFr 37 49 h0 h')) := by
  intro d
  obtain ⟨hwT, hwN, -⟩ := id W
  have hwT : wT T := hwT
  have hwN : wN T.1 ν := hwN
  have hP := hwT.1
  induction d with
  | zero => intro a h hd; omega
  | succ d ih =>
    intro a h hd ha H hZ
    obtain ⟨⟨F, HO⟩, -, -, -, HS, -⟩ := id H
    have hM : h 37 = .inr (7, [.int (F 0), .long tr, .ref (kb G + 38), .int (nI sz), .int (F 4), .int (F 5), .int (F 6), .int (F 7), .int (F 8), .ref (kb G + 39), .ref (kb G + 40), .int (nI T.1), .int (F 12), .int (nI T.2.2.2.1), .int (F 14), .int (nI T.2.2.2.2.1), .int (F 16), .int (nI T.2.2.2.2.2), .int (F 18), .int (F 19), .int (F 20), .ref (kb G + 41), .ref (kb G + 42), .ref (kb G + 43), .ref (kb G + 44), .ref (kb G + 45), .ref (kb G + 46), .ref (kb G + 47), .ref (kb G + 48)]) := HO
    obtain ⟨sa, hs, hs1, hs2, hs3, hs4, hs5⟩ := id HS
    refine go_iload_n 0 (nx := 24) dX7_moves_23 rfl rfl rfl ?_
    refine go_aload_n 2 (nx := 25) dX7_moves_24 rfl rfl rfl ?_
    refine go_gf (nx := 28) fg_X7_137 dX7_moves_25 (by omega) hM rfl rfl ?_
    refine go_icmp_ge 51 (nx := 31) dX7_moves_28 rfl rfl (fun c28 => ?_) (fun c28 => ?_)
    · skip
      refine go_iload_n 1 (nx := 52) dX7_moves_51 rfl rfl rfl ?_
      refine go_reti dX7_moves_52 ⟨_, rfl, rfl⟩ ?_
      have e8 : a = T.1 := by have := kle c28; omega
      subst e8
      have e : mMove ν p = (fun x y => ν.1 x y && !(y == p && decide (x < T.1)), ν.2) := by
        unfold mMove
        refine congrArg (·, ν.2) (funext fun x => funext fun y => ?_)
        cases e : ν.1 x y
        · rfl
        · simp [(hwN.1 x y e).1]
      rw [e]
      exact ⟨rfl, H, hZ⟩
    · skip
      have h8 := knle c28
      refine go_aload_n 2 (nx := 32) dX7_moves_31 rfl rfl rfl ?_
      refine go_gf (nx := 35) fg_X7_19 dX7_moves_32 (by omega) hM rfl rfl ?_
      refine go_iload_n 0 (nx := 36) dX7_moves_35 rfl rfl rfl ?_
      refine go_dup2_11 (nx := 37) dX7_moves_36 rfl rfl rfl ?_
      refine go_ial (a) (nx := 38) dX7_moves_37 (by omega) hs rfl (by omega) (by omega) rfl ?_
      rw [hs1 a (by omega)]
      refine go_iconst (v := nI 1) (nx := 39) dX7_moves_38 (by decide) rfl ?_
      refine go_iload_n 3 (nx := 40) dX7_moves_39 rfl rfl rfl ?_
      refine go_ishl (nx := 41) dX7_moves_40 rfl ?_
      refine go_iconst (v := (-1)) (nx := 42) dX7_moves_41 (by decide) rfl ?_
      refine go_ixor (nx := 43) dX7_moves_42 rfl ?_
      refine go_iand (nx := 44) dX7_moves_43 rfl ?_
      rw [i_clr _ (row_lt _ _) p (by omega)]
      refine go_ias (a) (nx := 45) dX7_moves_44 (by omega) hs rfl (by omega) (by omega) rfl (fun h1 eh1 fh1 => ?_)
      have hM := (fh1 (37) (by omega)).trans hM
      have hs := eh1
      refine go_iinc 0 (v := nI (a + 1)) (lv' := [_, _, _, _]) (nx := 48) dX7_moves_45 rfl (nI_inc a) (by decide) rfl rfl ?_
      refine go_goto 23 dX7_moves_48 rfl ?_
      refine Go.sub [0, 1, 2, 3] rfl ?_
      have fx : kFr 41 42 _ h1 := fun j hj => fh1 j (by omega)
      refine ih (a + 1) _ (by omega) (by omega) (H.setS (ν := (fun x y => ν.1 x y && !(y == p && decide (x < a + 1)), ν.2)) ⟨_, hs, fun c hc => ?_, fun j hj => ?_, ?_, fun c hc => ?_, ?_⟩ fx) (hZ.tr (fx.wide (by omega) (by omega)))
      · rw [row_mv (by omega)]
        by_cases e : c = a
        · subst e; rw [pk_us, if_pos rfl]
        · rw [pk_un e, if_neg e]; exact hs1 c hc
      · rw [pk_un (by omega)]; exact hs2 j hj
      · rw [pk_un (by omega)]; exact hs3
      · rw [pk_un (by omega)]; exact hs4 c hc
      · rw [pk_un (by omega)]; exact hs5
theorem m_moves {G : kG} {n sz : Nat} {h : kH} {tx : Nat → Nat} {ν : mN} {i0 i1 : Option mN} {T : mT} {tr : Int64} {x : Int32} (hn : 49 ≤ n) (H : oM G (tx, sz, ν, i0, i1, T, tr) h) (W : wS (tx, sz, ν, i0, i1, T, tr)) : Spi G mX7_moves 2 [.ref (kb G + 37), .int x] n h (fun v h' => v = fMoves T ν x ∧ oM G (tx, sz, nMoves T ν x, i0, i1, T, tr) h' ∧ kFr 37 49 h h') := by
  obtain ⟨hwT, hwN, hY, hw0, hw1, hsz, htx⟩ := id W
  have hwT : wT T := hwT
  have hwN : wN T.1 ν := hwN
  have hY : ν.2.2.2.1 ≤ 99 := hY
  have hsz : sz ≤ 400 := hsz
  have hP := hwT.1
  obtain ⟨⟨F, HO⟩, -⟩ := id H
  have hM : h 37 = .inr (7, [.int (F 0), .long tr, .ref (kb G + 38), .int (nI sz), .int (F 4), .int (F 5), .int (F 6), .int (F 7), .int (F 8), .ref (kb G + 39), .ref (kb G + 40), .int (nI T.1), .int (F 12), .int (nI T.2.2.2.1), .int (F 14), .int (nI T.2.2.2.2.1), .int (F 16), .int (nI T.2.2.2.2.2), .int (F 18), .int (F 19), .int (F 20), .ref (kb G + 41), .ref (kb G + 42), .ref (kb G + 43), .ref (kb G + 44), .ref (kb G + 45), .ref (kb G + 46), .ref (kb G + 47), .ref (kb G + 48)]) := HO
  refine Spi.of (by decide) (Nat.le_of_ble_eq_true rfl) ?_
  refine Go.loc (lv' := [(0, _), (1, _)]) rfl ?_
  refine go_aload_n 0 (nx := 1) dX7_moves_0 rfl rfl rfl ?_
  refine go_iconst (v := nI 0) (nx := 2) dX7_moves_1 (by decide) rfl ?_
  refine go_pf (fs' := [_, _, _, _, _, _, _, _, _, _, _, _, _, _, _, _, _, _, _, _, _, _, _, _, _, _, _, _, _]) (nx := 5) (fp_X7_51 _) dX7_moves_2 (by omega) hM (Nat.le_of_ble_eq_true rfl) ⟨rfl, rfl⟩ rfl rfl (fun h1 eh1 fh1 => ?_)
  have hM := eh1
  have hZ : kFr 37 49 h h1 := fun j hj => fh1 j (by omega)
  have H := H.setO (F := upd F 0 (nI 0)) (tr := tr) hM (fun j hj => fh1 j (by omega))
  have H : oM G (tx, sz, ν, i0, i1, T, tr) h1 := H
  obtain ⟨⟨F5, HO⟩, HTm, HKt, HH, HS, HSp, HKe, HRi, HPa, HAh, HDo⟩ := id H
  have HO : mO G F5 tr sz T h1 := HO
  have HTm : oTm G tx sz h1 := HTm
  have HKt : oKt G T h1 := HKt
  have HH : oHab G T h1 := HH
  have HS : oS G ν h1 := HS
  have HKe : oKe G i0 i1 h1 := HKe
  have hM : h1 37 = .inr (7, [.int (F5 0), .long tr, .ref (kb G + 38), .int (nI sz), .int (F5 4), .int (F5 5), .int (F5 6), .int (F5 7), .int (F5 8), .ref (kb G + 39), .ref (kb G + 40), .int (nI T.1), .int (F5 12), .int (nI T.2.2.2.1), .int (F5 14), .int (nI T.2.2.2.2.1), .int (F5 16), .int (nI T.2.2.2.2.2), .int (F5 18), .int (F5 19), .int (F5 20), .ref (kb G + 41), .ref (kb G + 42), .ref (kb G + 43), .ref (kb G + 44), .ref (kb G + 45), .ref (kb G + 46), .ref (kb G + 47), .ref (kb G + 48)]) := HO
  obtain ⟨sa, hs, hs1, hs2, hs3, hs4, hs5⟩ := id HS
  refine go_aload_n 0 (nx := 6) dX7_moves_5 rfl rfl rfl ?_
  refine go_iload_n 1 (nx := 7) dX7_moves_6 rfl rfl rfl ?_
  refine go_Vi (nx := 10) [_] kc_X7_146 ⟨_, _, rfl⟩ (by omega) hM (m_isPerson hn HO hP) dX7_moves_7 rfl rfl (Nat.le_of_ble_eq_true rfl) (Nat.le_of_ble_eq_true rfl) ⟨Nat.le_refl _, Nat.le_refl _⟩ rfl (fun rh2 h2 hqh2 => ?_)
  obtain ⟨rfl, rfl⟩ := hqh2
  refine go_if_ne 15 (nx := 13) dX7_moves_10 rfl rfl (fun c10 => ?_) (fun c10 => ?_)
  · skip
    obtain ⟨a, ha, rfl⟩ := per_of hP (tbn0 c10)
    refine go_aload_n 0 (nx := 16) dX7_moves_15 rfl rfl rfl ?_
    refine go_iload_n 1 (nx := 17) dX7_moves_16 rfl rfl rfl ?_
    refine go_Vi (nx := 20) [_] kc_X7_158 ⟨_, _, rfl⟩ (by omega) hM (m_countOf hn HO HS hP hwN.1 rfl (by omega)) dX7_moves_17 rfl rfl (Nat.le_of_ble_eq_true rfl) (Nat.le_of_ble_eq_true rfl) ⟨Nat.le_refl _, Nat.le_refl _⟩ rfl (fun rh3 h3 hqh3 => ?_)
    obtain ⟨rfl, rfl⟩ := hqh3
    refine go_istore_n (lv' := [_, _, _]) (nx := 21) dX7_moves_20 rfl (by decide) rfl rfl ?_
    refine go_iconst (v := nI 0) (nx := 22) dX7_moves_21 (by decide) rfl ?_
    refine go_istore_n (lv' := [_, _, _, _]) (nx := 23) dX7_moves_22 rfl (by decide) rfl rfl ?_
    refine Go.sub [0, 1, 2, 3] rfl ?_
    rw [fMoves, nMoves, if_pos (tbn0 c10), if_pos (tbn0 c10), cl_nI (by omega)]
    refine l_mmoves (h := fun _ => .inr (0, [])) hn W ha (T.1 + 1) 0 _ (by omega) (by omega) ?_ hZ
    rw [show (fun x y => ν.1 x y && !(y == a && decide (x < 0)), ν.2) = ν from by simp]
    exact H
  · skip
    refine go_iconst (v := (-1)) (nx := 14) dX7_moves_13 (by decide) rfl ?_
    refine go_reti dX7_moves_14 ⟨_, rfl, rfl⟩ ?_
    rw [fMoves, nMoves, if_neg (by rw [tb0 c10]; decide), if_neg (by rw [tb0 c10]; decide)]
    exact ⟨rfl, H, hZ⟩
theorem m_rules {G : kG} {n sz : Nat} {h : kH} {tx : Nat → Nat} {ν : mN} {i0 i1 : Option mN} {T : mT} {tr : Int64} {x y : Int32} (hn : 49 ≤ n) (H : oM G (tx, sz, ν, i0, i1, T, tr) h) (W : wS (tx, sz, ν, i0, i1, T, tr)) : Spi G mX7_rules 1 [.ref (kb G + 37), .int x, .int y] n h (fun v h' => v = fRules T x y ∧ oM G (tx, sz, ν, i0, i1, tRules T x y, tr) h' ∧ kFr 37 49 h h') := by
  obtain ⟨hwT, hwN, hY, hw0, hw1, hsz, htx⟩ := id W
  have hwT : wT T := hwT
  have hwN : wN T.1 ν := hwN
  have hY : ν.2.2.2.1 ≤ 99 := hY
  have hsz : sz ≤ 400 := hsz
  have hP := hwT.1
  obtain ⟨⟨F, HO⟩, -⟩ := id H
  have hM : h 37 = .inr (7, [.int (F 0), .long tr, .ref (kb G + 38), .int (nI sz), .int (F 4), .int (F 5), .int (F 6), .int (F 7), .int (F 8), .ref (kb G + 39), .ref (kb G + 40), .int (nI T.1), .int (F 12), .int (nI T.2.2.2.1), .int (F 14), .int (nI T.2.2.2.2.1), .int (F 16), .int (nI T.2.2.2.2.2), .int (F 18), .int (F 19), .int (F 20), .ref (kb G + 41), .ref (kb G + 42), .ref (kb G + 43), .ref (kb G + 44), .ref (kb G + 45), .ref (kb G + 46), .ref (kb G + 47), .ref (kb G + 48)]) := HO
  refine Spi.of (by decide) (Nat.le_of_ble_eq_true rfl) ?_
  refine Go.loc (lv' := [(0, _), (1, _), (2, _)]) rfl ?_
  refine go_aload_n 0 (nx := 1) dX7_rules_0 rfl rfl rfl ?_
  refine go_iconst (v := nI 0) (nx := 2) dX7_rules_1 (by decide) rfl ?_
  refine go_pf (fs' := [_, _, _, _, _, _, _, _, _, _, _, _, _, _, _, _, _, _, _, _, _, _, _, _, _, _, _, _, _]) (nx := 5) (fp_X7_51 _) dX7_rules_2 (by omega) hM (Nat.le_of_ble_eq_true rfl) ⟨rfl, rfl⟩ rfl rfl (fun h1 eh1 fh1 => ?_)
  have hM := eh1
  have hZ : kFr 37 49 h h1 := fun j hj => fh1 j (by omega)
  have H := H.setO (F := upd F 0 (nI 0)) (tr := tr) hM (fun j hj => fh1 j (by omega))
  have H : oM G (tx, sz, ν, i0, i1, T, tr) h1 := H
  obtain ⟨⟨F5, HO⟩, HTm, HKt, HH, HS, HSp, HKe, HRi, HPa, HAh, HDo⟩ := id H
  have HO : mO G F5 tr sz T h1 := HO
  have HTm : oTm G tx sz h1 := HTm
  have HKt : oKt G T h1 := HKt
  have HH : oHab G T h1 := HH
  have HS : oS G ν h1 := HS
  have HKe : oKe G i0 i1 h1 := HKe
  have hM : h1 37 = .inr (7, [.int (F5 0), .long tr, .ref (kb G + 38), .int (nI sz), .int (F5 4), .int (F5 5), .int (F5 6), .int (F5 7), .int (F5 8), .ref (kb G + 39), .ref (kb G + 40), .int (nI T.1), .int (F5 12), .int (nI T.2.2.2.1), .int (F5 14), .int (nI T.2.2.2.2.1), .int (F5 16), .int (nI T.2.2.2.2.2), .int (F5 18), .int (F5 19), .int (F5 20), .ref (kb G + 41), .ref (kb G + 42), .ref (kb G + 43), .ref (kb G + 44), .ref (kb G + 45), .ref (kb G + 46), .ref (kb G + 47), .ref (kb G + 48)]) := HO
  obtain ⟨sa, hs, hs1, hs2, hs3, hs4, hs5⟩ := id HS
  refine go_iload_n 1 (nx := 6) dX7_rules_5 rfl rfl rfl ?_
  refine go_iconst (v := nI 0) (nx := 7) dX7_rules_6 (by decide) rfl ?_
  refine go_iconst (v := nI 3) (nx := 8) dX7_rules_7 (by decide) rfl ?_
  refine go_Si (nx := 11) [_, _, _] kc_X7_54 s_in dX7_rules_8 rfl rfl (Nat.le_of_ble_eq_true rfl) (Nat.le_of_ble_eq_true rfl) ⟨Nat.le_refl _, Nat.le_refl _⟩ rfl (fun rh2 h2 hqh2 => ?_)
  obtain ⟨rfl, rfl⟩ := hqh2
  refine go_if_eq 33 (nx := 14) dX7_rules_11 rfl rfl (fun c11 => ?_) (fun c11 => ?_)
  · skip
    refine go_iconst (v := (-1)) (nx := 34) dX7_rules_33 (by decide) rfl ?_
    refine go_reti dX7_rules_34 ⟨_, rfl, rfl⟩ ?_
    have z := tb0 c11
    have e : rulB x y = false := by simp only [inB] at z; unfold rulB; rw [show (0 : Int32) = nI 0 from rfl, z]; simp
    rw [fRules, tRules, if_neg (by rw [e]; decide), if_neg (by rw [e]; decide)]
    exact ⟨rfl, H, hZ⟩
  · skip
    refine go_iload_n 2 (nx := 15) dX7_rules_14 rfl rfl rfl ?_
    refine go_iconst (v := nI 0) (nx := 16) dX7_rules_15 (by decide) rfl ?_
    refine go_iload_n 1 (nx := 17) dX7_rules_16 rfl rfl rfl ?_
    refine go_iconst (v := nI 2) (nx := 18) dX7_rules_17 (by decide) rfl ?_
    refine go_icmp_ne 26 (nx := 21) dX7_rules_18 rfl rfl (fun c18 => ?_) (fun c18 => ?_)
    · skip
      refine go_iconst (v := nI 0) (nx := 27) dX7_rules_26 (by decide) rfl ?_
      refine go_Si (nx := 30) [_, _, _] kc_X7_54 s_in dX7_rules_27 rfl rfl (Nat.le_of_ble_eq_true rfl) (Nat.le_of_ble_eq_true rfl) ⟨Nat.le_refl _, Nat.le_refl _⟩ rfl (fun rh3 h3 hqh3 => ?_)
      obtain ⟨rfl, rfl⟩ := hqh3
      refine go_if_ne 35 (nx := 33) dX7_rules_30 rfl rfl (fun c30 => ?_) (fun c30 => ?_)
      · skip
        refine go_aload_n 0 (nx := 36) dX7_rules_35 rfl rfl rfl ?_
        refine go_gf (nx := 39) fg_X7_143 dX7_rules_36 (by omega) hM rfl rfl ?_
        refine go_istore_n (lv' := [_, _, _, _]) (nx := 40) dX7_rules_39 rfl (by decide) rfl rfl ?_
        refine go_aload_n 1 (nx := 41) dX7_rules_40 rfl rfl rfl ?_
        refine go_iload_n 2 (nx := 42) dX7_rules_41 rfl rfl rfl ?_
        refine go_pf (fs' := [_, _, _, _, _, _, _, _, _, _, _, _, _, _, _, _, _, _, _, _, _, _, _, _, _, _, _, _, _]) (nx := 45) (fp_X7_143 _) dX7_rules_42 (by omega) hM (Nat.le_of_ble_eq_true rfl) ⟨rfl, rfl⟩ rfl rfl (fun h4 eh4 fh4 => ?_)
        have hs := (fh4 (41) (by omega)).trans hs
        have hM := eh4
        refine go_aload_n 1 (nx := 46) dX7_rules_45 rfl rfl rfl ?_
        refine go_iload_n 2 (nx := 47) dX7_rules_46 rfl rfl rfl ?_
        refine go_iconst (v := nI 2) (nx := 48) dX7_rules_47 (by decide) rfl ?_
        refine go_icmp_ne 55 (nx := 51) dX7_rules_48 rfl rfl (fun c48 => ?_) (fun c48 => False.elim (c18 c48))
        refine go_aload_n 1 (nx := 56) dX7_rules_55 rfl rfl rfl ?_
        refine go_gf (nx := 59) fg_X7_44 dX7_rules_56 (by omega) hM rfl rfl ?_
        refine go_pf (fs' := [_, _, _, _, _, _, _, _, _, _, _, _, _, _, _, _, _, _, _, _, _, _, _, _, _, _, _, _, _]) (nx := 62) (fp_X7_44 _) dX7_rules_59 (by omega) hM (Nat.le_of_ble_eq_true rfl) ⟨rfl, rfl⟩ rfl rfl (fun h5 eh5 fh5 => ?_)
        have hs := (fh5 (41) (by omega)).trans hs
        have hM := eh5
        refine go_iload_n 0 (nx := 63) dX7_rules_62 rfl rfl rfl ?_
        refine go_reti dX7_rules_63 ⟨_, rfl, rfl⟩ ?_
        have z1 := tbn0 c11
        have z2 := tbn0 c30
        have e2 : ¬ x = nI 2 := c18
        have e : rulB x y = true := by simp only [inB] at z1 z2; unfold rulB; rw [if_neg e2, show (0 : Int32) = nI 0 from rfl, z1, z2]; rfl
        simp only [inB, Bool.and_eq_true, decide_eq_true_eq] at z1 z2
        obtain ⟨a, ha, rfl⟩ := nI_of (x := x) (Int32.not_lt.mpr z1.1)
        obtain ⟨b, hb, rfl⟩ := nI_of (x := y) (Int32.not_lt.mpr z2.1)
        rw [fRules, tRules, if_pos e, if_pos e, cl_nI ha, cl_nI hb, if_neg e2]
        have fx : kFr 37 38 _ h5 := fun j hj => (fh5 j (by omega)).trans (fh4 j (by omega))
        exact ⟨rfl, H.setT (F := F5) (T := (T.1, T.2.1, T.2.2.1, T.2.2.2.1, a, T.2.2.2.2.2)) hM rfl rfl fx, hZ.tr (fx.wide (by omega) (by omega))⟩
      · skip
        refine go_iconst (v := (-1)) (nx := 34) dX7_rules_33 (by decide) rfl ?_
        refine go_reti dX7_rules_34 ⟨_, rfl, rfl⟩ ?_
        have e2 : ¬ x = nI 2 := c18
        have z := tb0 c30
        have e : rulB x y = false := by simp only [inB] at z; unfold rulB; rw [if_neg e2, show (0 : Int32) = nI 0 from rfl, z]; simp
        rw [fRules, tRules, if_neg (by rw [e]; decide), if_neg (by rw [e]; decide)]
        exact ⟨rfl, H, hZ⟩
    · skip
      refine go_bipush (v := nI 7) (nx := 23) dX7_rules_21 (by decide) rfl ?_
      refine go_goto 27 dX7_rules_23 rfl ?_
      refine go_Si (nx := 30) [_, _, _] kc_X7_54 s_in dX7_rules_27 rfl rfl (Nat.le_of_ble_eq_true rfl) (Nat.le_of_ble_eq_true rfl) ⟨Nat.le_refl _, Nat.le_refl _⟩ rfl (fun rh3 h3 hqh3 => ?_)
      obtain ⟨rfl, rfl⟩ := hqh3
      refine go_if_ne 35 (nx := 33) dX7_rules_30 rfl rfl (fun c30 => ?_) (fun c30 => ?_)
      · skip
        refine go_aload_n 0 (nx := 36) dX7_rules_35 rfl rfl rfl ?_
        refine go_gf (nx := 39) fg_X7_143 dX7_rules_36 (by omega) hM rfl rfl ?_
        refine go_istore_n (lv' := [_, _, _, _]) (nx := 40) dX7_rules_39 rfl (by decide) rfl rfl ?_
        refine go_aload_n 1 (nx := 41) dX7_rules_40 rfl rfl rfl ?_
        refine go_iload_n 2 (nx := 42) dX7_rules_41 rfl rfl rfl ?_
        refine go_pf (fs' := [_, _, _, _, _, _, _, _, _, _, _, _, _, _, _, _, _, _, _, _, _, _, _, _, _, _, _, _, _]) (nx := 45) (fp_X7_143 _) dX7_rules_42 (by omega) hM (Nat.le_of_ble_eq_true rfl) ⟨rfl, rfl⟩ rfl rfl (fun h4 eh4 fh4 => ?_)
        have hs := (fh4 (41) (by omega)).trans hs
        have hM := eh4
        refine go_aload_n 1 (nx := 46) dX7_rules_45 rfl rfl rfl ?_
        refine go_iload_n 2 (nx := 47) dX7_rules_46 rfl rfl rfl ?_
        refine go_iconst (v := nI 2) (nx := 48) dX7_rules_47 (by decide) rfl ?_
        refine go_icmp_ne 55 (nx := 51) dX7_rules_48 rfl rfl (fun c48 => False.elim (c48 c18)) (fun c48 => ?_)
        refine go_iload_n 3 (nx := 52) dX7_rules_51 rfl rfl rfl ?_
        refine go_goto 59 dX7_rules_52 rfl ?_
        refine go_pf (fs' := [_, _, _, _, _, _, _, _, _, _, _, _, _, _, _, _, _, _, _, _, _, _, _, _, _, _, _, _, _]) (nx := 62) (fp_X7_44 _) dX7_rules_59 (by omega) hM (Nat.le_of_ble_eq_true rfl) ⟨rfl, rfl⟩ rfl rfl (fun h5 eh5 fh5 => ?_)
        have hs := (fh5 (41) (by omega)).trans hs
        have hM := eh5
        refine go_iload_n 0 (nx := 63) dX7_rules_62 rfl rfl rfl ?_
        refine go_reti dX7_rules_63 ⟨_, rfl, rfl⟩ ?_
        have z1 := tbn0 c11
        have z2 := tbn0 c30
        have e2 : x = nI 2 := c18
        have e : rulB x y = true := by simp only [inB] at z1 z2; unfold rulB; rw [if_pos e2, show (0 : Int32) = nI 0 from rfl, z1, z2]; rfl
        simp only [inB, Bool.and_eq_true, decide_eq_true_eq] at z1 z2
        obtain ⟨a, ha, rfl⟩ := nI_of (x := x) (Int32.not_lt.mpr z1.1)
        obtain ⟨b, hb, rfl⟩ := nI_of (x := y) (Int32.not_lt.mpr z2.1)
        rw [fRules, tRules, if_pos e, if_pos e, cl_nI ha, cl_nI hb, if_pos e2]
        have fx : kFr 37 38 _ h5 := fun j hj => (fh5 j (by omega)).trans (fh4 j (by omega))
        exact ⟨rfl, H.setT (F := F5) (T := (T.1, T.2.1, T.2.2.1, T.2.2.2.1, a, b)) hM rfl rfl fx, hZ.tr (fx.wide (by omega) (by omega))⟩
      · skip
        refine go_iconst (v := (-1)) (nx := 34) dX7_rules_33 (by decide) rfl ?_
        refine go_reti dX7_rules_34 ⟨_, rfl, rfl⟩ ?_
        have e2 : x = nI 2 := c18
        have z := tb0 c30
        have e : rulB x y = false := by simp only [inB] at z; unfold rulB; rw [if_pos e2, show (0 : Int32) = nI 0 from rfl, z]; simp
        rw [fRules, tRules, if_neg (by rw [e]; decide), if_neg (by rw [e]; decide)]
        exact ⟨rfl, H, hZ⟩
def bgF (T : mT) (a : Nat → Int32) (k : Nat) : Int32 := if k < 8 then a k else if k < 72 then -1 else if k = 81 then -9 else 0
theorem l_begins {G : kG} {n sz : Nat} {h : kH} {tx : Nat → Nat} {ν : mN} {i0 i1 : Option mN} {T : mT} {tr : Int64} {F : Nat → Int32} {h0 : kH} (hn : 49 ≤ n) : ∀ (d k : Nat) (h : kH) (ka sa : Nat → Int32), 82 - k < d → k ≤ 82 → mO G F tr sz T h → h 39 = .inl (G.2.1, 16, .inl ka) → (∀ p, p < 8 → ka p = nI (row T.2.1 p)) → h 41 = .inl (G.2.1, 82, .inl sa) → (∀ j, j < k → sa j = bgF T ka j) → kFr 41 42 h0 h → Go G mX7_begins (0, 0, 0) 2 [(1, .int (nI k)), (0, .ref (kb G + 37))] [] (n, 0, 0) h (kQv mX7_begins n (fun h' => oS G (nAnew T) h' ∧ kFr 41 42 h0 h')) := by
  intro d
  induction d with
  | zero => intro k h ka sa hd; omega
  | succ d ih =>
    intro k h ka sa hd hk HO hkt hka hs hj hF
    have hM : h 37 = .inr (7, [.int (F 0), .long tr, .ref (kb G + 38), .int (nI sz), .int (F 4), .int (F 5), .int (F 6), .int (F 7), .int (F 8), .ref (kb G + 39), .ref (kb G + 40), .int (nI T.1), .int (F 12), .int (nI T.2.2.2.1), .int (F 14), .int (nI T.2.2.2.2.1), .int (F 16), .int (nI T.2.2.2.2.2), .int (F 18), .int (F 19), .int (F 20), .ref (kb G + 41), .ref (kb G + 42), .ref (kb G + 43), .ref (kb G + 44), .ref (kb G + 45), .ref (kb G + 46), .ref (kb G + 47), .ref (kb G + 48)]) := HO
    refine go_iload_n 0 (nx := 3) dX7_begins_2 rfl rfl rfl ?_
    refine go_bipush (v := nI 82) (nx := 5) dX7_begins_3 (by decide) rfl ?_
    refine go_icmp_ge 57 (nx := 8) dX7_begins_5 rfl rfl (fun c5 => ?_) (fun c5 => ?_)
    · skip
      refine go_retv dX7_begins_57 rfl ?_
      have e8 : k = 82 := by have := kle c5; omega
      subst e8
      refine ⟨⟨sa, hs, fun p hp => ?_, fun j hj2 => ?_, ?_, fun p hp => ?_, ?_⟩, hF⟩
      · rw [hj p (by omega), bgF, if_pos hp, hka p hp]; rfl
      · rw [hj (8 + j) (by omega), bgF, if_neg (by omega), if_pos (by omega)]; rfl
      · rw [hj 72 (by omega)]; rfl
      · rw [hj (73 + p) (by omega), bgF, if_neg (by omega), if_neg (by omega), if_neg (by omega)]; rfl
      · rw [hj 81 (by omega)]; rfl
    · skip
      refine go_aload_n 1 (nx := 9) dX7_begins_8 rfl rfl rfl ?_
      refine go_gf (nx := 12) fg_X7_19 dX7_begins_9 (by omega) hM rfl rfl ?_
      refine go_iload_n 0 (nx := 13) dX7_begins_12 rfl rfl rfl ?_
      refine go_iload_n 0 (nx := 14) dX7_begins_13 rfl rfl rfl ?_
      refine go_bipush (v := nI 8) (nx := 16) dX7_begins_14 (by decide) rfl ?_
      refine go_icmp_ge 28 (nx := 19) dX7_begins_16 rfl rfl (fun c16 => ?_) (fun c16 => ?_)
      · skip
        refine go_iload_n 0 (nx := 29) dX7_begins_28 rfl rfl rfl ?_
        refine go_bipush (v := nI 72) (nx := 31) dX7_begins_29 (by decide) rfl ?_
        refine go_icmp_ge 38 (nx := 34) dX7_begins_31 rfl rfl (fun c31 => ?_) (fun c31 => ?_)
        · skip
          refine go_iload_n 0 (nx := 39) dX7_begins_38 rfl rfl rfl ?_
          refine go_bipush (v := nI 81) (nx := 41) dX7_begins_39 (by decide) rfl ?_
          refine go_icmp_ne 49 (nx := 44) dX7_begins_41 rfl rfl (fun c41 => ?_) (fun c41 => ?_)
          · skip
            refine go_iconst (v := nI 0) (nx := 50) dX7_begins_49 (by decide) rfl ?_
            refine go_ias (k) (nx := 51) dX7_begins_50 (by omega) hs rfl (by have := knle c5; omega) (by omega) rfl (fun h1 eh1 fh1 => ?_)
            have hM := (fh1 (37) (by omega)).trans hM
            have hkt := (fh1 (39) (by omega)).trans hkt
            have hs := eh1
            have hF := hF.tr (fun j hj => fh1 j (by omega))
            refine go_iinc 0 (v := nI (k + 1)) (lv' := [_, _]) (nx := 54) dX7_begins_51 rfl (nI_inc k) (by decide) rfl rfl ?_
            refine go_goto 2 dX7_begins_54 rfl ?_
            refine Go.sub [0, 1] rfl ?_
            have h8 := knle c5
            refine ih (k + 1) _ ka _ (by omega) (by omega) hM hkt hka hs (fun j hj2 => ?_) hF
            by_cases e : j = k
            · subst e
              rw [pk_us]
              unfold bgF
              rw [if_neg (by have := kle c16; omega), if_neg (by have := kle c31; omega), if_neg (fun z => c41 (by rw [z]))]
              rfl
            · rw [pk_un e]; exact hj j (by omega)
          · skip
            refine go_bipush (v := (-9)) (nx := 46) dX7_begins_44 (by decide) rfl ?_
            refine go_goto 50 dX7_begins_46 rfl ?_
            refine go_ias (k) (nx := 51) dX7_begins_50 (by omega) hs rfl (by have := knle c5; omega) (by omega) rfl (fun h1 eh1 fh1 => ?_)
            have hM := (fh1 (37) (by omega)).trans hM
            have hkt := (fh1 (39) (by omega)).trans hkt
            have hs := eh1
            have hF := hF.tr (fun j hj => fh1 j (by omega))
            refine go_iinc 0 (v := nI (k + 1)) (lv' := [_, _]) (nx := 54) dX7_begins_51 rfl (nI_inc k) (by decide) rfl rfl ?_
            refine go_goto 2 dX7_begins_54 rfl ?_
            refine Go.sub [0, 1] rfl ?_
            have h8 := knle c5
            refine ih (k + 1) _ ka _ (by omega) (by omega) hM hkt hka hs (fun j hj2 => ?_) hF
            by_cases e : j = k
            · subst e
              rw [pk_us]
              unfold bgF
              rw [if_neg (by have := kle c16; omega), if_neg (by have := kle c31; omega), if_pos (keq c41)]
            · rw [pk_un e]; exact hj j (by omega)
        · skip
          refine go_iconst (v := (-1)) (nx := 35) dX7_begins_34 (by decide) rfl ?_
          refine go_goto 50 dX7_begins_35 rfl ?_
          refine go_ias (k) (nx := 51) dX7_begins_50 (by omega) hs rfl (by have := knle c5; omega) (by omega) rfl (fun h1 eh1 fh1 => ?_)
          have hM := (fh1 (37) (by omega)).trans hM
          have hkt := (fh1 (39) (by omega)).trans hkt
          have hs := eh1
          have hF := hF.tr (fun j hj => fh1 j (by omega))
          refine go_iinc 0 (v := nI (k + 1)) (lv' := [_, _]) (nx := 54) dX7_begins_51 rfl (nI_inc k) (by decide) rfl rfl ?_
          refine go_goto 2 dX7_begins_54 rfl ?_
          refine Go.sub [0, 1] rfl ?_
          have h8 := knle c5
          refine ih (k + 1) _ ka _ (by omega) (by omega) hM hkt hka hs (fun j hj2 => ?_) hF
          by_cases e : j = k
          · subst e
            rw [pk_us]
            unfold bgF
            rw [if_neg (by have := kle c16; omega), if_pos (knle c31)]
          · rw [pk_un e]; exact hj j (by omega)
      · skip
        refine go_aload_n 1 (nx := 20) dX7_begins_19 rfl rfl rfl ?_
        refine go_gf (nx := 23) fg_X7_13 dX7_begins_20 (by omega) hM rfl rfl ?_
        refine go_iload_n 0 (nx := 24) dX7_begins_23 rfl rfl rfl ?_
        refine go_ial (k) (nx := 25) dX7_begins_24 (by omega) hkt rfl (by have := knle c16; omega) (by omega) rfl ?_
        refine go_goto 50 dX7_begins_25 rfl ?_
        refine go_ias (k) (nx := 51) dX7_begins_50 (by omega) hs rfl (by have := knle c5; omega) (by omega) rfl (fun h1 eh1 fh1 => ?_)
        have hM := (fh1 (37) (by omega)).trans hM
        have hkt := (fh1 (39) (by omega)).trans hkt
        have hs := eh1
        have hF := hF.tr (fun j hj => fh1 j (by omega))
        refine go_iinc 0 (v := nI (k + 1)) (lv' := [_, _]) (nx := 54) dX7_begins_51 rfl (nI_inc k) (by decide) rfl rfl ?_
        refine go_goto 2 dX7_begins_54 rfl ?_
        refine Go.sub [0, 1] rfl ?_
        have h8 := knle c5
        refine ih (k + 1) _ ka _ (by omega) (by omega) hM hkt hka hs (fun j hj2 => ?_) hF
        by_cases e : j = k
        · subst e
          rw [pk_us]
          unfold bgF
          rw [if_pos (knle c16)]
        · rw [pk_un e]; exact hj j (by omega)
theorem m_begins {G : kG} {n sz : Nat} {h : kH} {tx : Nat → Nat} {ν : mN} {i0 i1 : Option mN} {T : mT} {tr : Int64} {F : Nat → Int32} (hn : 49 ≤ n) (HO : mO G F tr sz T h) (HKt : oKt G T h) (HX : xArr G 41 82 h) : Spv G mX7_begins 0 [.ref (kb G + 37)] n h (fun h' => oS G (nAnew T) h' ∧ kFr 41 42 h h') := by
  obtain ⟨ka, hkt, hka⟩ := HKt
  obtain ⟨sa, hs⟩ := HX
  refine Spv.of (by decide) (Nat.le_of_ble_eq_true rfl) ?_
  refine go_iconst (v := nI 0) (nx := 1) dX7_begins_0 (by decide) rfl ?_
  refine go_istore_n (lv' := [_, _]) (nx := 2) dX7_begins_1 rfl (by decide) rfl rfl ?_
  refine Go.sub [0, 1] rfl ?_
  exact l_begins (tx := fun _ => 0) (ν := nAnew T) (i0 := none) (i1 := none) (h := h) hn 83 0 h ka sa (by omega) (by omega) HO hkt hka hs (fun j hj => absurd hj (Nat.not_lt_zero j)) kFr.rf
theorem m_anew {G : kG} {n sz : Nat} {h : kH} {tx : Nat → Nat} {ν : mN} {i0 i1 : Option mN} {T : mT} {tr : Int64} (hn : 49 ≤ n) (H : oM G (tx, sz, ν, i0, i1, T, tr) h) (W : wS (tx, sz, ν, i0, i1, T, tr)) : Spi G mX7_anew 1 [.ref (kb G + 37)] n h (fun v h' => v = nI ν.2.2.2.1 ∧ oM G (tx, sz, nAnew T, i0, i1, T, tr) h' ∧ kFr 37 49 h h') := by
  obtain ⟨hwT, hwN, hY, hw0, hw1, hsz, htx⟩ := id W
  have hwT : wT T := hwT
  have hwN : wN T.1 ν := hwN
  have hY : ν.2.2.2.1 ≤ 99 := hY
  have hsz : sz ≤ 400 := hsz
  have hP := hwT.1
  obtain ⟨⟨F, HO⟩, -⟩ := id H
  have hM : h 37 = .inr (7, [.int (F 0), .long tr, .ref (kb G + 38), .int (nI sz), .int (F 4), .int (F 5), .int (F 6), .int (F 7), .int (F 8), .ref (kb G + 39), .ref (kb G + 40), .int (nI T.1), .int (F 12), .int (nI T.2.2.2.1), .int (F 14), .int (nI T.2.2.2.2.1), .int (F 16), .int (nI T.2.2.2.2.2), .int (F 18), .int (F 19), .int (F 20), .ref (kb G + 41), .ref (kb G + 42), .ref (kb G + 43), .ref (kb G + 44), .ref (kb G + 45), .ref (kb G + 46), .ref (kb G + 47), .ref (kb G + 48)]) := HO
  refine Spi.of (by decide) (Nat.le_of_ble_eq_true rfl) ?_
  refine Go.loc (lv' := [(0, _)]) rfl ?_
  refine go_aload_n 0 (nx := 1) dX7_anew_0 rfl rfl rfl ?_
  refine go_iconst (v := nI 0) (nx := 2) dX7_anew_1 (by decide) rfl ?_
  refine go_pf (fs' := [_, _, _, _, _, _, _, _, _, _, _, _, _, _, _, _, _, _, _, _, _, _, _, _, _, _, _, _, _]) (nx := 5) (fp_X7_51 _) dX7_anew_2 (by omega) hM (Nat.le_of_ble_eq_true rfl) ⟨rfl, rfl⟩ rfl rfl (fun h1 eh1 fh1 => ?_)
  have hM := eh1
  have hZ : kFr 37 49 h h1 := fun j hj => fh1 j (by omega)
  have H := H.setO (F := upd F 0 (nI 0)) (tr := tr) hM (fun j hj => fh1 j (by omega))
  have H : oM G (tx, sz, ν, i0, i1, T, tr) h1 := H
  obtain ⟨⟨F5, HO⟩, HTm, HKt, HH, HS, HSp, HKe, HRi, HPa, HAh, HDo⟩ := id H
  have HO : mO G F5 tr sz T h1 := HO
  have HTm : oTm G tx sz h1 := HTm
  have HKt : oKt G T h1 := HKt
  have HH : oHab G T h1 := HH
  have HS : oS G ν h1 := HS
  have HKe : oKe G i0 i1 h1 := HKe
  have hM : h1 37 = .inr (7, [.int (F5 0), .long tr, .ref (kb G + 38), .int (nI sz), .int (F5 4), .int (F5 5), .int (F5 6), .int (F5 7), .int (F5 8), .ref (kb G + 39), .ref (kb G + 40), .int (nI T.1), .int (F5 12), .int (nI T.2.2.2.1), .int (F5 14), .int (nI T.2.2.2.2.1), .int (F5 16), .int (nI T.2.2.2.2.2), .int (F5 18), .int (F5 19), .int (F5 20), .ref (kb G + 41), .ref (kb G + 42), .ref (kb G + 43), .ref (kb G + 44), .ref (kb G + 45), .ref (kb G + 46), .ref (kb G + 47), .ref (kb G + 48)]) := HO
  obtain ⟨sa, hs, hs1, hs2, hs3, hs4, hs5⟩ := id HS
  refine go_aload_n 0 (nx := 6) dX7_anew_5 rfl rfl rfl ?_
  refine go_gf (nx := 9) fg_X7_19 dX7_anew_6 (by omega) hM rfl rfl ?_
  refine go_bipush (v := nI 72) (nx := 11) dX7_anew_9 (by decide) rfl ?_
  refine go_ial (72) (nx := 12) dX7_anew_11 (by omega) hs rfl (by omega) (by omega) rfl ?_
  rw [hs3]
  refine go_istore_n (lv' := [_, _]) (nx := 13) dX7_anew_12 rfl (by decide) rfl rfl ?_
  refine go_aload_n 1 (nx := 14) dX7_anew_13 rfl rfl rfl ?_
  refine go_Vv (nx := 17) [] kc_X7_48 ⟨_, _, rfl⟩ (by omega) hM (m_begins (tx := tx) (ν := ν) (i0 := i0) (i1 := i1) hn HO HKt ⟨sa, hs⟩) dX7_anew_14 rfl rfl (Nat.le_of_ble_eq_true rfl) (Nat.le_of_ble_eq_true rfl) ⟨Nat.le_refl _, Nat.le_refl _⟩ rfl (fun h2 hqh2 => ?_)
  obtain ⟨HS, hFh2⟩ := hqh2
  have H := H.setS HS hFh2
  have HO : mO G F5 tr sz T h2 := HO.fr hFh2 (by omega)
  have hM := (hFh2 37 (by omega)).trans hM
  have hZ := hZ.tr (hFh2.wide (by omega) (by omega))
  obtain ⟨sa, hs, hs1, hs2, hs3, hs4, hs5⟩ := id HS
  refine go_iload_n 0 (nx := 18) dX7_anew_17 rfl rfl rfl ?_
  refine go_reti dX7_anew_18 ⟨_, rfl, rfl⟩ ?_
  exact ⟨rfl, H, hZ⟩
