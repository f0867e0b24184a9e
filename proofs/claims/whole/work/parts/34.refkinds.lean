/-! the reference: type, count, rate, keep, back -/
theorem oM.setTx {G : kG} {s : mS} {h h' : kH} {F : Nat → Int32} {tx : Nat → Nat} {sz : Nat} (H : oM G s h) (hO : mO G F s.2.2.2.2.2.2 sz s.2.2.2.2.2.1 h') (hT : oTm G tx sz h') (hF : kFr 37 39 h h') : oM G (tx, sz, s.2.2) h' := by
  obtain ⟨-, -, q3, q4, q5, q6, q7, q8, q9, q10, q11⟩ := H
  exact ⟨⟨F, hO⟩, hT, q3.fr hF (by omega), q4.fr hF (by omega), q5.fr hF (by omega), q6.fr hF (by omega), q7.fr hF (by omega), q8.fr hF (by omega), q9.fr hF (by omega), q10.fr hF (by omega), q11.fr hF (by omega)⟩
theorem b8_L (v : Int64) (r : Nat) : ((v >>> ((nI 8 * nI r).toInt64 &&& 63)) &&& 255).toInt32 = nI (b8 v r) := by
  rw [← b8_I, Int64.toInt32_and]
  rfl
theorem l_mtype {G : kG} {n sz : Nat} {tx : Nat → Nat} {ν : mN} {i0 i1 : Option mN} {T : mT} {tr : Int64} {m : Nat} {h0 : kH} {v : Int64} (hn : 49 ≤ n) : ∀ (r : Nat) (tx : Nat → Nat) (sz : Nat) (h : kH), sz + r ≤ 400 → oM G (tx, sz, ν, i0, i1, T, tr) h → kFr 37 49 h0 h → Go G mX7_type (1, 0, 0) 37 [(4, .int (nI r - 1)), (0, .ref (kb G + 37)), (1, .long v), (3, .int (nI m))] [] (n, 0, 0) h (kQi mX7_type n (fun u h' => u = nI (sz + r) ∧ oM G (tyL v r tx sz, sz + r, ν, i0, i1, T, tr) h' ∧ kFr 37 49 h0 h')) := by
  intro r
  induction r with
  | zero =>
    intro tx sz h hs H hZ
    obtain ⟨⟨F, HO⟩, HTm, -⟩ := id H
    have HTm : oTm G tx sz h := HTm
    have HO : mO G F tr sz T h := HO
    have hM : h 37 = .inr (7, [.int (F 0), .long tr, .ref (kb G + 38), .int (nI sz), .int (F 4), .int (F 5), .int (F 6), .int (F 7), .int (F 8), .ref (kb G + 39), .ref (kb G + 40), .int (nI T.1), .int (F 12), .int (nI T.2.2.2.1), .int (F 14), .int (nI T.2.2.2.2.1), .int (F 16), .int (nI T.2.2.2.2.2), .int (F 18), .int (F 19), .int (F 20), .ref (kb G + 41), .ref (kb G + 42), .ref (kb G + 43), .ref (kb G + 44), .ref (kb G + 45), .ref (kb G + 46), .ref (kb G + 47), .ref (kb G + 48)]) := HO
    refine go_iload 0 (nx := 39) dX7_type_37 rfl rfl ?_
    refine go_if_lt 79 (nx := 42) dX7_type_39 rfl rfl (fun c39 => ?_) (fun c39 => False.elim (absurd (by decide) c39))
    refine go_aload_n 1 (nx := 80) dX7_type_79 rfl rfl rfl ?_
    refine go_gf (nx := 83) fg_X7_58 dX7_type_80 (by omega) hM rfl rfl ?_
    refine go_reti dX7_type_83 ⟨_, rfl, rfl⟩ ?_
    exact ⟨rfl, H, hZ⟩
  | succ r ih =>
    intro tx sz h hs H hZ
    obtain ⟨⟨F, HO⟩, HTm, -⟩ := id H
    have HTm : oTm G tx sz h := HTm
    have HO : mO G F tr sz T h := HO
    have hM : h 37 = .inr (7, [.int (F 0), .long tr, .ref (kb G + 38), .int (nI sz), .int (F 4), .int (F 5), .int (F 6), .int (F 7), .int (F 8), .ref (kb G + 39), .ref (kb G + 40), .int (nI T.1), .int (F 12), .int (nI T.2.2.2.1), .int (F 14), .int (nI T.2.2.2.2.1), .int (F 16), .int (nI T.2.2.2.2.2), .int (F 18), .int (F 19), .int (F 20), .ref (kb G + 41), .ref (kb G + 42), .ref (kb G + 43), .ref (kb G + 44), .ref (kb G + 45), .ref (kb G + 46), .ref (kb G + 47), .ref (kb G + 48)]) := HO
    obtain ⟨ta, htm, hta⟩ := HTm
    rw [nI_pred]
    refine go_iload 0 (nx := 39) dX7_type_37 rfl rfl ?_
    refine go_if_lt 79 (nx := 42) dX7_type_39 rfl rfl (fun c39 => False.elim (absurd c39 (nI_pos (by omega)))) (fun c39 => ?_)
    refine go_aload_n 1 (nx := 43) dX7_type_42 rfl rfl rfl ?_
    refine go_gf (nx := 46) fg_X7_7 dX7_type_43 (by omega) hM rfl rfl ?_
    refine go_aload_n 1 (nx := 47) dX7_type_46 rfl rfl rfl ?_
    refine go_gf (nx := 50) fg_X7_58 dX7_type_47 (by omega) hM rfl rfl ?_
    refine go_lload_n 2 (nx := 51) dX7_type_50 rfl rfl rfl ?_
    refine go_bipush (v := nI 8) (nx := 53) dX7_type_51 (by decide) rfl ?_
    refine go_iload 0 (nx := 55) dX7_type_53 rfl rfl ?_
    refine go_imul (nx := 56) dX7_type_55 rfl ?_
    refine go_lshr (nx := 57) dX7_type_56 rfl ?_
    refine go_ldc2 (nx := 60) kl_X7_61 dX7_type_57 rfl ?_
    refine go_land (nx := 61) dX7_type_60 rfl ?_
    refine go_l2i (nx := 62) dX7_type_61 rfl ?_
    rw [b8_L]
    refine go_ias (sz) (nx := 63) dX7_type_62 (by omega) htm rfl (by omega) (by omega) rfl (fun h1 eh1 fh1 => ?_)
    have hM := (fh1 (37) (by omega)).trans hM
    have htm := eh1
    refine go_aload_n 1 (nx := 64) dX7_type_63 rfl rfl rfl ?_
    refine go_dup (nx := 65) dX7_type_64 rfl rfl ?_
    refine go_gf (nx := 68) fg_X7_58 dX7_type_65 (by omega) hM rfl rfl ?_
    refine go_iconst (v := nI 1) (nx := 69) dX7_type_68 (by decide) rfl ?_
    refine go_iadd (nx := 70) dX7_type_69 rfl ?_
    rw [nI_add]
    refine go_pf (fs' := [_, _, _, _, _, _, _, _, _, _, _, _, _, _, _, _, _, _, _, _, _, _, _, _, _, _, _, _, _]) (nx := 73) (fp_X7_58 _) dX7_type_70 (by omega) hM (Nat.le_of_ble_eq_true rfl) ⟨rfl, rfl⟩ rfl rfl (fun h2 eh2 fh2 => ?_)
    have htm := (fh2 (38) (by omega)).trans htm
    have hM := eh2
    refine go_iinc 0 (v := nI r - 1) (lv' := [_, _, _, _]) (nx := 76) dX7_type_73 rfl (nI_dec r) (by decide) rfl rfl ?_
    refine go_goto 37 dX7_type_76 rfl ?_
    refine Go.sub [0, 1, 2, 3] rfl ?_
    have fx : kFr 37 39 _ h2 := fun j hj => (fh2 j (by omega)).trans (fh1 j (by omega))
    rw [show sz + (r + 1) = sz + 1 + r by omega]
    refine ih (pushT tx sz (b8 v r)) (sz + 1) _ (by omega) (H.setTx (F := F) hM ⟨_, htm, fun j hj => ?_⟩ fx) (hZ.tr (fx.wide (by omega) (by omega)))
    by_cases e : j = sz
    · subst e; rw [pk_us]; simp [pushT]
    · rw [pk_un e, hta j (by omega)]; simp [pushT, e]
theorem m_type {G : kG} {n sz : Nat} {h : kH} {tx : Nat → Nat} {ν : mN} {i0 i1 : Option mN} {T : mT} {tr : Int64} {v : Int64} {x : Int32} (hn : 49 ≤ n) (H : oM G (tx, sz, ν, i0, i1, T, tr) h) (W : wS (tx, sz, ν, i0, i1, T, tr)) : Spi G mX7_type 1 [.ref (kb G + 37), .long v, .int x] n h (fun u h' => u = fType sz x ∧ oM G (sType (tx, sz, ν, i0, i1, T, tr) v x) h' ∧ kFr 37 49 h h') := by
  obtain ⟨hwT, hwN, hY, hw0, hw1, hsz, htx⟩ := id W
  have hwT : wT T := hwT
  have hwN : wN T.1 ν := hwN
  have hY : ν.2.2.2.1 ≤ 99 := hY
  have hsz : sz ≤ 400 := hsz
  have hP := hwT.1
  obtain ⟨⟨F, HO⟩, -⟩ := id H
  have hM : h 37 = .inr (7, [.int (F 0), .long tr, .ref (kb G + 38), .int (nI sz), .int (F 4), .int (F 5), .int (F 6), .int (F 7), .int (F 8), .ref (kb G + 39), .ref (kb G + 40), .int (nI T.1), .int (F 12), .int (nI T.2.2.2.1), .int (F 14), .int (nI T.2.2.2.2.1), .int (F 16), .int (nI T.2.2.2.2.2), .int (F 18), .int (F 19), .int (F 20), .ref (kb G + 41), .ref (kb G + 42), .ref (kb G + 43), .ref (kb G + 44), .ref (kb G + 45), .ref (kb G + 46), .ref (kb G + 47), .ref (kb G + 48)]) := HO
  refine Spi.of (by decide) (Nat.le_of_ble_eq_true rfl) ?_
  refine Go.loc (lv' := [(0, _), (1, _), (3, _)]) rfl ?_
  refine go_aload_n 0 (nx := 1) dX7_type_0 rfl rfl rfl ?_
  refine go_iconst (v := nI 0) (nx := 2) dX7_type_1 (by decide) rfl ?_
  refine go_pf (fs' := [_, _, _, _, _, _, _, _, _, _, _, _, _, _, _, _, _, _, _, _, _, _, _, _, _, _, _, _, _]) (nx := 5) (fp_X7_51 _) dX7_type_2 (by omega) hM (Nat.le_of_ble_eq_true rfl) ⟨rfl, rfl⟩ rfl rfl (fun h1 eh1 fh1 => ?_)
  have hM := eh1
  have hZ : kFr 37 49 h h1 := fun j hj => fh1 j (by omega)
  have H := H.setO (F := upd F 0 (nI 0)) (tr := tr) hM (fun j hj => fh1 j (by omega))
  have H : oM G (tx, sz, ν, i0, i1, T, tr) h1 := H
  obtain ⟨⟨F5, HO⟩, HTm, HKt, HH, HS, HSp, HKe, HRi, HPa, HAh, HDo⟩ := id H
  have HO : mO G F5 tr sz T h1 := HO
  have HTm : oTm G tx sz h1 := HTm
  have HKt : oKt G T h1 := HKt
  have HH : oHab G T h1 := HH
  have HS : oS G ν h1 := HS
  have HKe : oKe G i0 i1 h1 := HKe
  have hM : h1 37 = .inr (7, [.int (F5 0), .long tr, .ref (kb G + 38), .int (nI sz), .int (F5 4), .int (F5 5), .int (F5 6), .int (F5 7), .int (F5 8), .ref (kb G + 39), .ref (kb G + 40), .int (nI T.1), .int (F5 12), .int (nI T.2.2.2.1), .int (F5 14), .int (nI T.2.2.2.2.1), .int (F5 16), .int (nI T.2.2.2.2.2), .int (F5 18), .int (F5 19), .int (F5 20), .ref (kb G + 41), .ref (kb G + 42), .ref (kb G + 43), .ref (kb G + 44), .ref (kb G + 45), .ref (kb G + 46), .ref (kb G + 47), .ref (kb G + 48)]) := HO
  obtain ⟨sa, hs, hs1, hs2, hs3, hs4, hs5⟩ := id HS
  refine go_iload_n 2 (nx := 6) dX7_type_5 rfl rfl rfl ?_
  refine go_iconst (v := nI 1) (nx := 7) dX7_type_6 (by decide) rfl ?_
  refine go_bipush (v := nI 8) (nx := 9) dX7_type_7 (by decide) rfl ?_
  refine go_Si (nx := 12) [_, _, _] kc_X7_54 s_in dX7_type_9 rfl rfl (Nat.le_of_ble_eq_true rfl) (Nat.le_of_ble_eq_true rfl) ⟨Nat.le_refl _, Nat.le_refl _⟩ rfl (fun rh2 h2 hqh2 => ?_)
  obtain ⟨rfl, rfl⟩ := hqh2
  refine go_if_ne 17 (nx := 15) dX7_type_12 rfl rfl (fun c12 => ?_) (fun c12 => ?_)
  · skip
    have e : tyB x = true := tbn0 c12
    have e9 := e
    simp only [tyB, Bool.and_eq_true, decide_eq_true_eq] at e9
    obtain ⟨m, hm1, hm, rfl⟩ := ge1_of (x := x) (Int32.not_lt.mpr e9.1)
    have hm8 := kle e9.2
    refine go_aload_n 0 (nx := 18) dX7_type_17 rfl rfl rfl ?_
    refine go_gf (nx := 21) fg_X7_58 dX7_type_18 (by omega) hM rfl rfl ?_
    refine go_iload_n 2 (nx := 22) dX7_type_21 rfl rfl rfl ?_
    refine go_iadd (nx := 23) dX7_type_22 rfl ?_
    rw [nI_add]
    refine go_sipush (v := nI 400) (nx := 26) dX7_type_23 (by decide) rfl ?_
    refine go_icmp_le 32 (nx := 29) dX7_type_26 rfl rfl (fun c26 => ?_) (fun c26 => ?_)
    · skip
      refine go_iload_n 2 (nx := 33) dX7_type_32 rfl rfl rfl ?_
      refine go_iconst (v := nI 1) (nx := 34) dX7_type_33 (by decide) rfl ?_
      refine go_isub (nx := 35) dX7_type_34 rfl ?_
      refine go_istore (lv' := [_, _, _, _]) (nx := 37) dX7_type_35 (by decide) rfl rfl ?_
      refine Go.sub [0, 1, 2, 3] rfl ?_
      have z := kle c26 (by omega) (by decide)
      rw [fType, sType, if_pos e, cl_nI (by omega), if_pos z, if_pos (by rw [e]; simp; exact z)]
      exact l_mtype (tx := tx) (sz := sz) hn m tx sz _ z H hZ
    · skip
      refine go_bipush (v := (-3)) (nx := 31) dX7_type_29 (by decide) rfl ?_
      refine go_reti dX7_type_31 ⟨_, rfl, rfl⟩ ?_
      have z := knle c26 (by omega) (by decide)
      rw [fType, sType, if_pos e, cl_nI (by omega), if_neg (by omega), if_neg (by rw [e]; simp; exact z)]
      exact ⟨rfl, H, hZ⟩
  · skip
    refine go_iconst (v := (-1)) (nx := 16) dX7_type_15 (by decide) rfl ?_
    refine go_reti dX7_type_16 ⟨_, rfl, rfl⟩ ?_
    have e : tyB x = false := tb0 c12
    rw [fType, sType, if_neg (by rw [e]; decide), if_neg (by rw [e]; simp)]
    exact ⟨rfl, H, hZ⟩
theorem l_mcnt {G : kG} {n sz : Nat} {tx : Nat → Nat} {ν : mN} {i0 i1 : Option mN} {T : mT} {tr : Int64} {h0 h : kH} {x : Int32} (hn : 49 ≤ n) (W : wS (tx, sz, ν, i0, i1, T, tr)) (H : oM G (tx, sz, ν, i0, i1, T, tr) h) (hZ : kFr 37 49 h0 h) : ∀ (d p : Nat), T.1 - p < d → p ≤ T.1 → Go G mX7_count (2, 0, 0) 9 [(3, .int (nI p)), (2, .int (nI (fb_ct (fun p => (T.2.2.1 p).isSome) p))), (0, .ref (kb G + 37)), (1, .int x)] [] (n, 0, 0) h (kQi mX7_count n (fun v h' => v = fCount T ν sz x ∧ oM G (tx, sz, ν, i0, i1, T, tr) h' ∧ kFr 37 49 h0 h')) := by
  intro d
  obtain ⟨hwT, hwN, -⟩ := id W
  have hwT : wT T := hwT
  have hwN : wN T.1 ν := hwN
  have hP := hwT.1
  obtain ⟨⟨F, HO⟩, -, -, HH, HS, -⟩ := id H
  have HO : mO G F tr sz T h := HO
  have hM : h 37 = .inr (7, [.int (F 0), .long tr, .ref (kb G + 38), .int (nI sz), .int (F 4), .int (F 5), .int (F 6), .int (F 7), .int (F 8), .ref (kb G + 39), .ref (kb G + 40), .int (nI T.1), .int (F 12), .int (nI T.2.2.2.1), .int (F 14), .int (nI T.2.2.2.2.1), .int (F 16), .int (nI T.2.2.2.2.2), .int (F 18), .int (F 19), .int (F 20), .ref (kb G + 41), .ref (kb G + 42), .ref (kb G + 43), .ref (kb G + 44), .ref (kb G + 45), .ref (kb G + 46), .ref (kb G + 47), .ref (kb G + 48)]) := HO
  obtain ⟨hba, hhb, hha⟩ := id HH
  obtain ⟨sa, hs, hs1, hs2, hs3, hs4, hs5⟩ := id HS
  induction d with
  | zero => intro p hd; omega
  | succ d ih =>
    intro p hd hp
    refine go_iload_n 0 (nx := 10) dX7_count_9 rfl rfl rfl ?_
    refine go_aload_n 2 (nx := 11) dX7_count_10 rfl rfl rfl ?_
    refine go_gf (nx := 14) fg_X7_137 dX7_count_11 (by omega) hM rfl rfl ?_
    refine go_icmp_ge 42 (nx := 17) dX7_count_14 rfl rfl (fun c14 => ?_) (fun c14 => ?_)
    · skip
      have e8 : p = T.1 := by have := kle c14; omega
      subst e8
      refine go_iload_n 3 (nx := 43) dX7_count_42 rfl rfl rfl ?_
      refine go_if_ne 53 (nx := 46) dX7_count_43 rfl rfl (fun c43 => ?_) (fun c43 => ?_)
      · skip
        refine go_iload_n 3 (nx := 54) dX7_count_53 rfl rfl rfl ?_
        refine go_iconst (v := nI 1) (nx := 55) dX7_count_54 (by decide) rfl ?_
        refine go_icmp_ne 65 (nx := 58) dX7_count_55 rfl rfl (fun c55 => ?_) (fun c55 => ?_)
        · skip
          refine go_iload_n 3 (nx := 66) dX7_count_65 rfl rfl rfl ?_
          refine go_iconst (v := nI 2) (nx := 67) dX7_count_66 (by decide) rfl ?_
          refine go_icmp_ne 74 (nx := 70) dX7_count_67 rfl rfl (fun c67 => ?_) (fun c67 => ?_)
          · skip
            refine go_iload_n 3 (nx := 75) dX7_count_74 rfl rfl rfl ?_
            refine go_iconst (v := nI 3) (nx := 76) dX7_count_75 (by decide) rfl ?_
            refine go_icmp_ne 86 (nx := 79) dX7_count_76 rfl rfl (fun c76 => ?_) (fun c76 => ?_)
            · skip
              refine go_iconst (v := (-1)) (nx := 87) dX7_count_86 (by decide) rfl ?_
              refine go_reti dX7_count_87 ⟨_, rfl, rfl⟩ ?_
              refine ⟨?_, H, hZ⟩
              rw [fCount, if_neg (show ¬ _ = nI 0 from c43), if_neg (show ¬ _ = nI 1 from c55), if_neg (show ¬ _ = nI 2 from c67), if_neg (show ¬ _ = nI 3 from c76)]
            · skip
              refine go_aload_n 2 (nx := 80) dX7_count_79 rfl rfl rfl ?_
              refine go_gf (nx := 83) fg_X7_58 dX7_count_80 (by omega) hM rfl rfl ?_
              refine go_goto 87 dX7_count_83 rfl ?_
              refine go_reti dX7_count_87 ⟨_, rfl, rfl⟩ ?_
              refine ⟨?_, H, hZ⟩
              rw [fCount, if_neg (show ¬ _ = nI 0 from c43), if_neg (show ¬ _ = nI 1 from c55), if_neg (show ¬ _ = nI 2 from c67), if_pos (show _ = nI 3 from c76)]
          · skip
            refine go_iload_n 1 (nx := 71) dX7_count_70 rfl rfl rfl ?_
            refine go_goto 87 dX7_count_71 rfl ?_
            refine go_reti dX7_count_87 ⟨_, rfl, rfl⟩ ?_
            refine ⟨?_, H, hZ⟩
            rw [fCount, if_neg (show ¬ _ = nI 0 from c43), if_neg (show ¬ _ = nI 1 from c55), if_pos (show _ = nI 2 from c67)]
        · skip
          refine go_aload_n 2 (nx := 59) dX7_count_58 rfl rfl rfl ?_
          refine go_Vi (nx := 62) [] kc_X7_177 ⟨_, _, rfl⟩ (by omega) hM (m_countAll hn HO HS hP hwN.1) dX7_count_59 rfl rfl (Nat.le_of_ble_eq_true rfl) (Nat.le_of_ble_eq_true rfl) ⟨Nat.le_refl _, Nat.le_refl _⟩ rfl (fun rh1 h1 hqh1 => ?_)
          obtain ⟨rfl, rfl⟩ := hqh1
          refine go_goto 87 dX7_count_62 rfl ?_
          refine go_reti dX7_count_87 ⟨_, rfl, rfl⟩ ?_
          refine ⟨?_, H, hZ⟩
          rw [fCount, if_neg (show ¬ _ = nI 0 from c43), if_pos (show _ = nI 1 from c55)]
      · skip
        refine go_aload_n 2 (nx := 47) dX7_count_46 rfl rfl rfl ?_
        refine go_gf (nx := 50) fg_X7_137 dX7_count_47 (by omega) hM rfl rfl ?_
        refine go_goto 87 dX7_count_50 rfl ?_
        refine go_reti dX7_count_87 ⟨_, rfl, rfl⟩ ?_
        refine ⟨?_, H, hZ⟩
        rw [fCount, if_pos (show _ = nI 0 from c43)]
    · skip
      have h8 := knle c14
      refine go_iload_n 1 (nx := 18) dX7_count_17 rfl rfl rfl ?_
      refine go_aload_n 2 (nx := 19) dX7_count_18 rfl rfl rfl ?_
      refine go_gf (nx := 22) fg_X7_16 dX7_count_19 (by omega) hM rfl rfl ?_
      refine go_iload_n 0 (nx := 23) dX7_count_22 rfl rfl rfl ?_
      refine go_ial (p) (nx := 24) dX7_count_23 (by omega) hhb rfl (by omega) (by omega) rfl ?_
      rw [hha p (by omega)]
      have hnn := hab_none (o := T.2.2.1 p) (fun b e => by have := hwT.2.2.1 p b e; omega)
      refine go_bipush (v := (-9)) (nx := 26) dX7_count_24 (by decide) rfl ?_
      refine go_icmp_eq 33 (nx := 29) dX7_count_26 rfl rfl (fun c26 => ?_) (fun c26 => ?_)
      · skip
        refine go_iconst (v := nI 0) (nx := 34) dX7_count_33 (by decide) rfl ?_
        refine go_iadd (nx := 35) dX7_count_34 rfl ?_
        rw [nI_add]
        refine go_istore_n (lv' := [_, _, _, _]) (nx := 36) dX7_count_35 rfl (by decide) rfl rfl ?_
        refine go_iinc 1 (v := nI (p + 1)) (lv' := [_, _, _, _]) (nx := 39) dX7_count_36 rfl (nI_inc p) (by decide) rfl rfl ?_
        refine go_goto 9 dX7_count_39 rfl ?_
        refine Go.sub [0, 1, 2, 3] rfl ?_
        have k := ih (p + 1) (by omega) (by omega)
        rw [show fb_ct (fun p => (T.2.2.1 p).isSome) (p + 1) = fb_ct (fun p => (T.2.2.1 p).isSome) p + 0 from by
          show _ + (if (T.2.2.1 p).isSome = true then 1 else 0) = _
          rw [hnn.mp c26]; rfl] at k
        exact k
      · skip
        refine go_iconst (v := nI 1) (nx := 30) dX7_count_29 (by decide) rfl ?_
        refine go_goto 34 dX7_count_30 rfl ?_
        refine go_iadd (nx := 35) dX7_count_34 rfl ?_
        rw [nI_add]
        refine go_istore_n (lv' := [_, _, _, _]) (nx := 36) dX7_count_35 rfl (by decide) rfl rfl ?_
        refine go_iinc 1 (v := nI (p + 1)) (lv' := [_, _, _, _]) (nx := 39) dX7_count_36 rfl (nI_inc p) (by decide) rfl rfl ?_
        refine go_goto 9 dX7_count_39 rfl ?_
        refine Go.sub [0, 1, 2, 3] rfl ?_
        have k := ih (p + 1) (by omega) (by omega)
        rw [show fb_ct (fun p => (T.2.2.1 p).isSome) (p + 1) = fb_ct (fun p => (T.2.2.1 p).isSome) p + 1 from by
          show _ + (if (T.2.2.1 p).isSome = true then 1 else 0) = _
          rw [show (T.2.2.1 p).isSome = true by cases e : T.2.2.1 p with | none => exact absurd (hnn.mpr e) c26 | some b => rfl]; rfl] at k
        exact k
theorem m_count {G : kG} {n sz : Nat} {h : kH} {tx : Nat → Nat} {ν : mN} {i0 i1 : Option mN} {T : mT} {tr : Int64} {x : Int32} (hn : 49 ≤ n) (H : oM G (tx, sz, ν, i0, i1, T, tr) h) (W : wS (tx, sz, ν, i0, i1, T, tr)) : Spi G mX7_count 2 [.ref (kb G + 37), .int x] n h (fun v h' => v = fCount T ν sz x ∧ oM G (tx, sz, ν, i0, i1, T, tr) h' ∧ kFr 37 49 h h') := by
  obtain ⟨hwT, hwN, hY, hw0, hw1, hsz, htx⟩ := id W
  have hwT : wT T := hwT
  have hwN : wN T.1 ν := hwN
  have hY : ν.2.2.2.1 ≤ 99 := hY
  have hsz : sz ≤ 400 := hsz
  have hP := hwT.1
  obtain ⟨⟨F, HO⟩, -⟩ := id H
  have hM : h 37 = .inr (7, [.int (F 0), .long tr, .ref (kb G + 38), .int (nI sz), .int (F 4), .int (F 5), .int (F 6), .int (F 7), .int (F 8), .ref (kb G + 39), .ref (kb G + 40), .int (nI T.1), .int (F 12), .int (nI T.2.2.2.1), .int (F 14), .int (nI T.2.2.2.2.1), .int (F 16), .int (nI T.2.2.2.2.2), .int (F 18), .int (F 19), .int (F 20), .ref (kb G + 41), .ref (kb G + 42), .ref (kb G + 43), .ref (kb G + 44), .ref (kb G + 45), .ref (kb G + 46), .ref (kb G + 47), .ref (kb G + 48)]) := HO
  refine Spi.of (by decide) (Nat.le_of_ble_eq_true rfl) ?_
  refine Go.loc (lv' := [(0, _), (1, _)]) rfl ?_
  refine go_aload_n 0 (nx := 1) dX7_count_0 rfl rfl rfl ?_
  refine go_iconst (v := nI 0) (nx := 2) dX7_count_1 (by decide) rfl ?_
  refine go_pf (fs' := [_, _, _, _, _, _, _, _, _, _, _, _, _, _, _, _, _, _, _, _, _, _, _, _, _, _, _, _, _]) (nx := 5) (fp_X7_51 _) dX7_count_2 (by omega) hM (Nat.le_of_ble_eq_true rfl) ⟨rfl, rfl⟩ rfl rfl (fun h1 eh1 fh1 => ?_)
  have hM := eh1
  have hZ : kFr 37 49 h h1 := fun j hj => fh1 j (by omega)
  have H := H.setO (F := upd F 0 (nI 0)) (tr := tr) hM (fun j hj => fh1 j (by omega))
  have H : oM G (tx, sz, ν, i0, i1, T, tr) h1 := H
  obtain ⟨⟨F5, HO⟩, HTm, HKt, HH, HS, HSp, HKe, HRi, HPa, HAh, HDo⟩ := id H
  have HO : mO G F5 tr sz T h1 := HO
  have HTm : oTm G tx sz h1 := HTm
  have HKt : oKt G T h1 := HKt
  have HH : oHab G T h1 := HH
  have HS : oS G ν h1 := HS
  have HKe : oKe G i0 i1 h1 := HKe
  have hM : h1 37 = .inr (7, [.int (F5 0), .long tr, .ref (kb G + 38), .int (nI sz), .int (F5 4), .int (F5 5), .int (F5 6), .int (F5 7), .int (F5 8), .ref (kb G + 39), .ref (kb G + 40), .int (nI T.1), .int (F5 12), .int (nI T.2.2.2.1), .int (F5 14), .int (nI T.2.2.2.2.1), .int (F5 16), .int (nI T.2.2.2.2.2), .int (F5 18), .int (F5 19), .int (F5 20), .ref (kb G + 41), .ref (kb G + 42), .ref (kb G + 43), .ref (kb G + 44), .ref (kb G + 45), .ref (kb G + 46), .ref (kb G + 47), .ref (kb G + 48)]) := HO
  obtain ⟨sa, hs, hs1, hs2, hs3, hs4, hs5⟩ := id HS
  refine go_iconst (v := nI 0) (nx := 6) dX7_count_5 (by decide) rfl ?_
  refine go_istore_n (lv' := [_, _, _]) (nx := 7) dX7_count_6 rfl (by decide) rfl rfl ?_
  refine go_iconst (v := nI 0) (nx := 8) dX7_count_7 (by decide) rfl ?_
  refine go_istore_n (lv' := [_, _, _, _]) (nx := 9) dX7_count_8 rfl (by decide) rfl rfl ?_
  refine Go.sub [0, 1, 2, 3] rfl ?_
  exact l_mcnt hn W H hZ (T.1 + 1) 0 (by omega) (by omega)
theorem m_rate {G : kG} {n sz : Nat} {h : kH} {tx : Nat → Nat} {ν : mN} {i0 i1 : Option mN} {T : mT} {tr : Int64} {x y : Int32} (hn : 49 ≤ n) (H : oM G (tx, sz, ν, i0, i1, T, tr) h) (W : wS (tx, sz, ν, i0, i1, T, tr)) : Spi G mX7_rate 2 [.ref (kb G + 37), .int x, .int y] n h (fun v h' => v = fRate T ν x y ∧ oM G (tx, sz, ν, i0, i1, T, (rTrace T x y tr)) h' ∧ kFr 37 49 h h') := by
  obtain ⟨hwT, hwN, hY, hw0, hw1, hsz, htx⟩ := id W
  have hwT : wT T := hwT
  have hwN : wN T.1 ν := hwN
  have hY : ν.2.2.2.1 ≤ 99 := hY
  have hsz : sz ≤ 400 := hsz
  have hP := hwT.1
  obtain ⟨⟨F, HO⟩, -⟩ := id H
  have hM : h 37 = .inr (7, [.int (F 0), .long tr, .ref (kb G + 38), .int (nI sz), .int (F 4), .int (F 5), .int (F 6), .int (F 7), .int (F 8), .ref (kb G + 39), .ref (kb G + 40), .int (nI T.1), .int (F 12), .int (nI T.2.2.2.1), .int (F 14), .int (nI T.2.2.2.2.1), .int (F 16), .int (nI T.2.2.2.2.2), .int (F 18), .int (F 19), .int (F 20), .ref (kb G + 41), .ref (kb G + 42), .ref (kb G + 43), .ref (kb G + 44), .ref (kb G + 45), .ref (kb G + 46), .ref (kb G + 47), .ref (kb G + 48)]) := HO
  refine Spi.of (by decide) (Nat.le_of_ble_eq_true rfl) ?_
  refine Go.loc (lv' := [(0, _), (1, _), (2, _)]) rfl ?_
  refine go_aload_n 0 (nx := 1) dX7_rate_0 rfl rfl rfl ?_
  refine go_iconst (v := nI 0) (nx := 2) dX7_rate_1 (by decide) rfl ?_
  refine go_pf (fs' := [_, _, _, _, _, _, _, _, _, _, _, _, _, _, _, _, _, _, _, _, _, _, _, _, _, _, _, _, _]) (nx := 5) (fp_X7_51 _) dX7_rate_2 (by omega) hM (Nat.le_of_ble_eq_true rfl) ⟨rfl, rfl⟩ rfl rfl (fun h1 eh1 fh1 => ?_)
  have hM := eh1
  have hZ : kFr 37 49 h h1 := fun j hj => fh1 j (by omega)
  have H := H.setO (F := upd F 0 (nI 0)) (tr := tr) hM (fun j hj => fh1 j (by omega))
  have H : oM G (tx, sz, ν, i0, i1, T, tr) h1 := H
  obtain ⟨⟨F5, HO⟩, HTm, HKt, HH, HS, HSp, HKe, HRi, HPa, HAh, HDo⟩ := id H
  have HO : mO G F5 tr sz T h1 := HO
  have HTm : oTm G tx sz h1 := HTm
  have HKt : oKt G T h1 := HKt
  have HH : oHab G T h1 := HH
  have HS : oS G ν h1 := HS
  have HKe : oKe G i0 i1 h1 := HKe
  have hM : h1 37 = .inr (7, [.int (F5 0), .long tr, .ref (kb G + 38), .int (nI sz), .int (F5 4), .int (F5 5), .int (F5 6), .int (F5 7), .int (F5 8), .ref (kb G + 39), .ref (kb G + 40), .int (nI T.1), .int (F5 12), .int (nI T.2.2.2.1), .int (F5 14), .int (nI T.2.2.2.2.1), .int (F5 16), .int (nI T.2.2.2.2.2), .int (F5 18), .int (F5 19), .int (F5 20), .ref (kb G + 41), .ref (kb G + 42), .ref (kb G + 43), .ref (kb G + 44), .ref (kb G + 45), .ref (kb G + 46), .ref (kb G + 47), .ref (kb G + 48)]) := HO
  obtain ⟨sa, hs, hs1, hs2, hs3, hs4, hs5⟩ := id HS
  refine go_iload_n 1 (nx := 6) dX7_rate_5 rfl rfl rfl ?_
  refine go_iconst (v := nI 0) (nx := 7) dX7_rate_6 (by decide) rfl ?_
  refine go_iconst (v := nI 5) (nx := 8) dX7_rate_7 (by decide) rfl ?_
  refine go_Si (nx := 11) [_, _, _] kc_X7_54 s_in dX7_rate_8 rfl rfl (Nat.le_of_ble_eq_true rfl) (Nat.le_of_ble_eq_true rfl) ⟨Nat.le_refl _, Nat.le_refl _⟩ rfl (fun rh2 h2 hqh2 => ?_)
  obtain ⟨rfl, rfl⟩ := hqh2
  refine go_if_eq 22 (nx := 14) dX7_rate_11 rfl rfl (fun c11 => ?_) (fun c11 => ?_)
  · skip
    refine go_ldc (nx := 24) kl_X7_157 dX7_rate_22 rfl ?_
    refine go_reti dX7_rate_24 ⟨_, rfl, rfl⟩ ?_
    have e : kinB x = false := tb0 c11
    rw [fRate, rTrace, if_neg (by rw [e]; simp), if_neg (by rw [e]; simp)]
    exact ⟨rfl, H, hZ⟩
  · skip
    refine go_aload_n 0 (nx := 15) dX7_rate_14 rfl rfl rfl ?_
    refine go_iload_n 2 (nx := 16) dX7_rate_15 rfl rfl rfl ?_
    refine go_Vi (nx := 19) [_] kc_X7_146 ⟨_, _, rfl⟩ (by omega) hM (m_isPerson hn HO hP) dX7_rate_16 rfl rfl (Nat.le_of_ble_eq_true rfl) (Nat.le_of_ble_eq_true rfl) ⟨Nat.le_refl _, Nat.le_refl _⟩ rfl (fun rh3 h3 hqh3 => ?_)
    obtain ⟨rfl, rfl⟩ := hqh3
    refine go_if_ne 25 (nx := 22) dX7_rate_19 rfl rfl (fun c19 => ?_) (fun c19 => ?_)
    · skip
      obtain ⟨a, ha, rfl⟩ := per_of hP (tbn0 c19)
      refine go_aload_n 0 (nx := 26) dX7_rate_25 rfl rfl rfl ?_
      refine go_iload_n 2 (nx := 27) dX7_rate_26 rfl rfl rfl ?_
      refine go_Vi (nx := 30) [_] kc_X7_158 ⟨_, _, rfl⟩ (by omega) hM (m_countOf hn HO HS hP hwN.1 rfl (by omega)) dX7_rate_27 rfl rfl (Nat.le_of_ble_eq_true rfl) (Nat.le_of_ble_eq_true rfl) ⟨Nat.le_refl _, Nat.le_refl _⟩ rfl (fun rh4 h4 hqh4 => ?_)
      obtain ⟨rfl, rfl⟩ := hqh4
      refine go_istore_n (lv' := [_, _, _, _]) (nx := 31) dX7_rate_30 rfl (by decide) rfl rfl ?_
      refine go_iload_n 0 (nx := 32) dX7_rate_31 rfl rfl rfl ?_
      refine go_aload_n 1 (nx := 33) dX7_rate_32 rfl rfl rfl ?_
      refine go_gf (nx := 36) fg_X7_19 dX7_rate_33 (by omega) hM rfl rfl ?_
      refine go_iload_n 3 (nx := 37) dX7_rate_36 rfl rfl rfl ?_
      refine go_ial (a) (nx := 38) dX7_rate_37 (by omega) hs rfl (by omega) (by omega) rfl ?_
      rw [hs1 a (by omega)]
      refine go_Si (nx := 41) [_] kc_X7_161 (m_ones rfl (row_lt _ _)) dX7_rate_38 rfl rfl (Nat.le_of_ble_eq_true rfl) (Nat.le_of_ble_eq_true rfl) ⟨Nat.le_refl _, Nat.le_refl _⟩ rfl (fun rh5 h5 hqh5 => ?_)
      obtain ⟨rfl, rfl⟩ := hqh5
      rw [show popc (row ν.1 a) = acq ν.1 a from popc_bits _]
      refine go_isub (nx := 42) dX7_rate_41 rfl ?_
      refine go_istore (lv' := [_, _, _, _, _]) (nx := 44) dX7_rate_42 (by decide) rfl rfl ?_
      refine go_iload_n 1 (nx := 45) dX7_rate_44 rfl rfl rfl ?_
      refine go_aload_n 2 (nx := 46) dX7_rate_45 rfl rfl rfl ?_
      refine go_gf (nx := 49) fg_X7_19 dX7_rate_46 (by omega) hM rfl rfl ?_
      refine go_bipush (v := nI 73) (nx := 51) dX7_rate_49 (by decide) rfl ?_
      refine go_iload_n 4 (nx := 52) dX7_rate_51 rfl rfl rfl ?_
      refine go_iadd (nx := 53) dX7_rate_52 rfl ?_
      refine go_ial (73 + a) (nx := 54) dX7_rate_53 (by omega) hs (by rw [nI_add]) (by omega) (by omega) rfl ?_
      rw [hs4 a (by omega)]
      refine go_iadd (nx := 55) dX7_rate_54 rfl ?_
      refine go_istore (lv' := [_, _, _, _, _, _]) (nx := 57) dX7_rate_55 (by decide) rfl rfl ?_
      refine go_aload_n 3 (nx := 58) dX7_rate_57 rfl rfl rfl ?_
      refine go_dup (nx := 59) dX7_rate_58 rfl rfl ?_
      refine go_gf (nx := 62) fg_X7_220 dX7_rate_59 (by omega) hM rfl rfl ?_
      refine go_iload_n 4 (nx := 63) dX7_rate_62 rfl rfl rfl ?_
      refine go_if_ne 70 (nx := 66) dX7_rate_63 rfl rfl (fun c63 => ?_) (fun c63 => ?_)
      · skip
        refine go_iload_n 4 (nx := 71) dX7_rate_70 rfl rfl rfl ?_
        refine go_iconst (v := nI 1) (nx := 72) dX7_rate_71 (by decide) rfl ?_
        refine go_icmp_ne 81 (nx := 75) dX7_rate_72 rfl rfl (fun c72 => ?_) (fun c72 => ?_)
        · skip
          refine go_iload_n 4 (nx := 82) dX7_rate_81 rfl rfl rfl ?_
          refine go_iconst (v := nI 2) (nx := 83) dX7_rate_82 (by decide) rfl ?_
          refine go_icmp_ne 92 (nx := 86) dX7_rate_83 rfl rfl (fun c83 => ?_) (fun c83 => ?_)
          · skip
            refine go_iload_n 4 (nx := 93) dX7_rate_92 rfl rfl rfl ?_
            refine go_iconst (v := nI 3) (nx := 94) dX7_rate_93 (by decide) rfl ?_
            refine go_icmp_ne 103 (nx := 97) dX7_rate_94 rfl rfl (fun c94 => ?_) (fun c94 => ?_)
            · skip
              refine go_iload_n 4 (nx := 104) dX7_rate_103 rfl rfl rfl ?_
              refine go_iconst (v := nI 4) (nx := 105) dX7_rate_104 (by decide) rfl ?_
              refine go_icmp_ne 114 (nx := 108) dX7_rate_105 rfl rfl (fun c105 => ?_) (fun c105 => ?_)
              · skip
                refine go_ldc2 (nx := 117) kl_X7_232 dX7_rate_114 rfl ?_
                refine go_ladd (nx := 118) dX7_rate_117 rfl ?_
                refine go_pf (fs' := [_, _, _, _, _, _, _, _, _, _, _, _, _, _, _, _, _, _, _, _, _, _, _, _, _, _, _, _, _]) (nx := 121) (fp_X7_220 _) dX7_rate_118 (by omega) hM (Nat.le_of_ble_eq_true rfl) ⟨rfl, rfl⟩ rfl rfl (fun h6 eh6 fh6 => ?_)
                have hs := (fh6 (41) (by omega)).trans hs
                have hM := eh6
                refine go_iload_n 4 (nx := 122) dX7_rate_121 rfl rfl rfl ?_
                refine go_if_ne 129 (nx := 125) dX7_rate_122 rfl rfl (fun c122 => ?_) (fun c122 => False.elim (c63 c122))
                refine go_iload_n 4 (nx := 130) dX7_rate_129 rfl rfl rfl ?_
                refine go_iconst (v := nI 1) (nx := 131) dX7_rate_130 (by decide) rfl ?_
                refine go_icmp_ne 139 (nx := 134) dX7_rate_131 rfl rfl (fun c131 => ?_) (fun c131 => False.elim (c72 c131))
                refine go_iload_n 4 (nx := 140) dX7_rate_139 rfl rfl rfl ?_
                refine go_iconst (v := nI 2) (nx := 141) dX7_rate_140 (by decide) rfl ?_
                refine go_icmp_ne 149 (nx := 144) dX7_rate_141 rfl rfl (fun c141 => ?_) (fun c141 => False.elim (c83 c141))
                refine go_iload_n 4 (nx := 150) dX7_rate_149 rfl rfl rfl ?_
                refine go_iconst (v := nI 3) (nx := 151) dX7_rate_150 (by decide) rfl ?_
                refine go_icmp_ne 161 (nx := 154) dX7_rate_151 rfl rfl (fun c151 => ?_) (fun c151 => False.elim (c94 c151))
                refine go_iload_n 4 (nx := 162) dX7_rate_161 rfl rfl rfl ?_
                refine go_iconst (v := nI 4) (nx := 163) dX7_rate_162 (by decide) rfl ?_
                refine go_icmp_ne 173 (nx := 166) dX7_rate_163 rfl rfl (fun c163 => ?_) (fun c163 => False.elim (c105 c163))
                refine go_iload_n 2 (nx := 174) dX7_rate_173 rfl rfl rfl ?_
                refine go_aload_n 3 (nx := 175) dX7_rate_174 rfl rfl rfl ?_
                refine go_gf (nx := 178) fg_X7_19 dX7_rate_175 (by omega) hM rfl rfl ?_
                refine go_bipush (v := nI 72) (nx := 180) dX7_rate_178 (by decide) rfl ?_
                refine go_ial (72) (nx := 181) dX7_rate_180 (by omega) hs rfl (by omega) (by omega) rfl ?_
                rw [hs3]
                refine go_isub (nx := 182) dX7_rate_181 rfl ?_
                refine go_reti dX7_rate_182 ⟨_, rfl, rfl⟩ ?_
                have e : (kinB x && perB T (nI a)) = true := by rw [show kinB x = true from tbn0 c11, tbn0 c19]; rfl
                rw [fRate, rTrace, if_pos e, if_pos e, if_neg (show ¬ x = nI 0 from c63), if_neg (show ¬ x = nI 1 from c72), if_neg (show ¬ x = nI 2 from c83), if_neg (show ¬ x = nI 3 from c94), if_neg (show ¬ x = nI 4 from c105), if_neg (show ¬ x = nI 0 from c63), if_neg (show ¬ x = nI 1 from c72), if_neg (show ¬ x = nI 2 from c83), if_neg (show ¬ x = nI 3 from c94), if_neg (show ¬ x = nI 4 from c105), cl_nI (by omega)]
                have fx : kFr 37 38 _ h6 := fun j hj => fh6 j (by omega)
                exact ⟨rfl, H.setO (F := F5) (tr := tr + 100001) hM fx, hZ.tr (fx.wide (by omega) (by omega))⟩
              · skip
                refine go_ldc2 (nx := 111) kl_X7_230 dX7_rate_108 rfl ?_
                refine go_goto 117 dX7_rate_111 rfl ?_
                refine go_ladd (nx := 118) dX7_rate_117 rfl ?_
                refine go_pf (fs' := [_, _, _, _, _, _, _, _, _, _, _, _, _, _, _, _, _, _, _, _, _, _, _, _, _, _, _, _, _]) (nx := 121) (fp_X7_220 _) dX7_rate_118 (by omega) hM (Nat.le_of_ble_eq_true rfl) ⟨rfl, rfl⟩ rfl rfl (fun h6 eh6 fh6 => ?_)
                have hs := (fh6 (41) (by omega)).trans hs
                have hM := eh6
                refine go_iload_n 4 (nx := 122) dX7_rate_121 rfl rfl rfl ?_
                refine go_if_ne 129 (nx := 125) dX7_rate_122 rfl rfl (fun c122 => ?_) (fun c122 => False.elim (c63 c122))
                refine go_iload_n 4 (nx := 130) dX7_rate_129 rfl rfl rfl ?_
                refine go_iconst (v := nI 1) (nx := 131) dX7_rate_130 (by decide) rfl ?_
                refine go_icmp_ne 139 (nx := 134) dX7_rate_131 rfl rfl (fun c131 => ?_) (fun c131 => False.elim (c72 c131))
                refine go_iload_n 4 (nx := 140) dX7_rate_139 rfl rfl rfl ?_
                refine go_iconst (v := nI 2) (nx := 141) dX7_rate_140 (by decide) rfl ?_
                refine go_icmp_ne 149 (nx := 144) dX7_rate_141 rfl rfl (fun c141 => ?_) (fun c141 => False.elim (c83 c141))
                refine go_iload_n 4 (nx := 150) dX7_rate_149 rfl rfl rfl ?_
                refine go_iconst (v := nI 3) (nx := 151) dX7_rate_150 (by decide) rfl ?_
                refine go_icmp_ne 161 (nx := 154) dX7_rate_151 rfl rfl (fun c151 => ?_) (fun c151 => False.elim (c94 c151))
                refine go_iload_n 4 (nx := 162) dX7_rate_161 rfl rfl rfl ?_
                refine go_iconst (v := nI 4) (nx := 163) dX7_rate_162 (by decide) rfl ?_
                refine go_icmp_ne 173 (nx := 166) dX7_rate_163 rfl rfl (fun c163 => False.elim (c163 c105)) (fun c163 => ?_)
                refine go_iload 1 (nx := 168) dX7_rate_166 rfl rfl ?_
                refine go_iload_n 5 (nx := 169) dX7_rate_168 rfl rfl rfl ?_
                refine go_iadd (nx := 170) dX7_rate_169 rfl ?_
                refine go_goto 182 dX7_rate_170 rfl ?_
                refine go_reti dX7_rate_182 ⟨_, rfl, rfl⟩ ?_
                have e : (kinB x && perB T (nI a)) = true := by rw [show kinB x = true from tbn0 c11, tbn0 c19]; rfl
                rw [fRate, rTrace, if_pos e, if_pos e, if_neg (show ¬ x = nI 0 from c63), if_neg (show ¬ x = nI 1 from c72), if_neg (show ¬ x = nI 2 from c83), if_neg (show ¬ x = nI 3 from c94), if_pos (show x = nI 4 from c105), if_neg (show ¬ x = nI 0 from c63), if_neg (show ¬ x = nI 1 from c72), if_neg (show ¬ x = nI 2 from c83), if_neg (show ¬ x = nI 3 from c94), if_pos (show x = nI 4 from c105), cl_nI (by omega)]
                have fx : kFr 37 38 _ h6 := fun j hj => fh6 j (by omega)
                exact ⟨rfl, H.setO (F := F5) (tr := tr + 10011) hM fx, hZ.tr (fx.wide (by omega) (by omega))⟩
            · skip
              refine go_ldc2 (nx := 100) kl_X7_228 dX7_rate_97 rfl ?_
              refine go_goto 117 dX7_rate_100 rfl ?_
              refine go_ladd (nx := 118) dX7_rate_117 rfl ?_
              refine go_pf (fs' := [_, _, _, _, _, _, _, _, _, _, _, _, _, _, _, _, _, _, _, _, _, _, _, _, _, _, _, _, _]) (nx := 121) (fp_X7_220 _) dX7_rate_118 (by omega) hM (Nat.le_of_ble_eq_true rfl) ⟨rfl, rfl⟩ rfl rfl (fun h6 eh6 fh6 => ?_)
              have hs := (fh6 (41) (by omega)).trans hs
              have hM := eh6
              refine go_iload_n 4 (nx := 122) dX7_rate_121 rfl rfl rfl ?_
              refine go_if_ne 129 (nx := 125) dX7_rate_122 rfl rfl (fun c122 => ?_) (fun c122 => False.elim (c63 c122))
              refine go_iload_n 4 (nx := 130) dX7_rate_129 rfl rfl rfl ?_
              refine go_iconst (v := nI 1) (nx := 131) dX7_rate_130 (by decide) rfl ?_
              refine go_icmp_ne 139 (nx := 134) dX7_rate_131 rfl rfl (fun c131 => ?_) (fun c131 => False.elim (c72 c131))
              refine go_iload_n 4 (nx := 140) dX7_rate_139 rfl rfl rfl ?_
              refine go_iconst (v := nI 2) (nx := 141) dX7_rate_140 (by decide) rfl ?_
              refine go_icmp_ne 149 (nx := 144) dX7_rate_141 rfl rfl (fun c141 => ?_) (fun c141 => False.elim (c83 c141))
              refine go_iload_n 4 (nx := 150) dX7_rate_149 rfl rfl rfl ?_
              refine go_iconst (v := nI 3) (nx := 151) dX7_rate_150 (by decide) rfl ?_
              refine go_icmp_ne 161 (nx := 154) dX7_rate_151 rfl rfl (fun c151 => False.elim (c151 c94)) (fun c151 => ?_)
              refine go_iconst (v := nI 2) (nx := 155) dX7_rate_154 (by decide) rfl ?_
              refine go_iload 0 (nx := 157) dX7_rate_155 rfl rfl ?_
              refine go_imul (nx := 158) dX7_rate_157 rfl ?_
              refine go_goto 182 dX7_rate_158 rfl ?_
              refine go_reti dX7_rate_182 ⟨_, rfl, rfl⟩ ?_
              have e : (kinB x && perB T (nI a)) = true := by rw [show kinB x = true from tbn0 c11, tbn0 c19]; rfl
              rw [fRate, rTrace, if_pos e, if_pos e, if_neg (show ¬ x = nI 0 from c63), if_neg (show ¬ x = nI 1 from c72), if_neg (show ¬ x = nI 2 from c83), if_pos (show x = nI 3 from c94), if_neg (show ¬ x = nI 0 from c63), if_neg (show ¬ x = nI 1 from c72), if_neg (show ¬ x = nI 2 from c83), if_pos (show x = nI 3 from c94), cl_nI (by omega)]
              have fx : kFr 37 38 _ h6 := fun j hj => fh6 j (by omega)
              exact ⟨rfl, H.setO (F := F5) (tr := tr + 1101) hM fx, hZ.tr (fx.wide (by omega) (by omega))⟩
          · skip
            refine go_ldc2 (nx := 89) kl_X7_226 dX7_rate_86 rfl ?_
            refine go_goto 117 dX7_rate_89 rfl ?_
            refine go_ladd (nx := 118) dX7_rate_117 rfl ?_
            refine go_pf (fs' := [_, _, _, _, _, _, _, _, _, _, _, _, _, _, _, _, _, _, _, _, _, _, _, _, _, _, _, _, _]) (nx := 121) (fp_X7_220 _) dX7_rate_118 (by omega) hM (Nat.le_of_ble_eq_true rfl) ⟨rfl, rfl⟩ rfl rfl (fun h6 eh6 fh6 => ?_)
            have hs := (fh6 (41) (by omega)).trans hs
            have hM := eh6
            refine go_iload_n 4 (nx := 122) dX7_rate_121 rfl rfl rfl ?_
            refine go_if_ne 129 (nx := 125) dX7_rate_122 rfl rfl (fun c122 => ?_) (fun c122 => False.elim (c63 c122))
            refine go_iload_n 4 (nx := 130) dX7_rate_129 rfl rfl rfl ?_
            refine go_iconst (v := nI 1) (nx := 131) dX7_rate_130 (by decide) rfl ?_
            refine go_icmp_ne 139 (nx := 134) dX7_rate_131 rfl rfl (fun c131 => ?_) (fun c131 => False.elim (c72 c131))
            refine go_iload_n 4 (nx := 140) dX7_rate_139 rfl rfl rfl ?_
            refine go_iconst (v := nI 2) (nx := 141) dX7_rate_140 (by decide) rfl ?_
            refine go_icmp_ne 149 (nx := 144) dX7_rate_141 rfl rfl (fun c141 => False.elim (c141 c83)) (fun c141 => ?_)
            refine go_iload 0 (nx := 146) dX7_rate_144 rfl rfl ?_
            refine go_goto 182 dX7_rate_146 rfl ?_
            refine go_reti dX7_rate_182 ⟨_, rfl, rfl⟩ ?_
            have e : (kinB x && perB T (nI a)) = true := by rw [show kinB x = true from tbn0 c11, tbn0 c19]; rfl
            rw [fRate, rTrace, if_pos e, if_pos e, if_neg (show ¬ x = nI 0 from c63), if_neg (show ¬ x = nI 1 from c72), if_pos (show x = nI 2 from c83), if_neg (show ¬ x = nI 0 from c63), if_neg (show ¬ x = nI 1 from c72), if_pos (show x = nI 2 from c83), cl_nI (by omega)]
            have fx : kFr 37 38 _ h6 := fun j hj => fh6 j (by omega)
            exact ⟨rfl, H.setO (F := F5) (tr := tr + 101) hM fx, hZ.tr (fx.wide (by omega) (by omega))⟩
        · skip
          refine go_ldc2 (nx := 78) kl_X7_224 dX7_rate_75 rfl ?_
          refine go_goto 117 dX7_rate_78 rfl ?_
          refine go_ladd (nx := 118) dX7_rate_117 rfl ?_
          refine go_pf (fs' := [_, _, _, _, _, _, _, _, _, _, _, _, _, _, _, _, _, _, _, _, _, _, _, _, _, _, _, _, _]) (nx := 121) (fp_X7_220 _) dX7_rate_118 (by omega) hM (Nat.le_of_ble_eq_true rfl) ⟨rfl, rfl⟩ rfl rfl (fun h6 eh6 fh6 => ?_)
          have hs := (fh6 (41) (by omega)).trans hs
          have hM := eh6
          refine go_iload_n 4 (nx := 122) dX7_rate_121 rfl rfl rfl ?_
          refine go_if_ne 129 (nx := 125) dX7_rate_122 rfl rfl (fun c122 => ?_) (fun c122 => False.elim (c63 c122))
          refine go_iload_n 4 (nx := 130) dX7_rate_129 rfl rfl rfl ?_
          refine go_iconst (v := nI 1) (nx := 131) dX7_rate_130 (by decide) rfl ?_
          refine go_icmp_ne 139 (nx := 134) dX7_rate_131 rfl rfl (fun c131 => False.elim (c131 c72)) (fun c131 => ?_)
          refine go_iload 1 (nx := 136) dX7_rate_134 rfl rfl ?_
          refine go_goto 182 dX7_rate_136 rfl ?_
          refine go_reti dX7_rate_182 ⟨_, rfl, rfl⟩ ?_
          have e : (kinB x && perB T (nI a)) = true := by rw [show kinB x = true from tbn0 c11, tbn0 c19]; rfl
          rw [fRate, rTrace, if_pos e, if_pos e, if_neg (show ¬ x = nI 0 from c63), if_pos (show x = nI 1 from c72), if_neg (show ¬ x = nI 0 from c63), if_pos (show x = nI 1 from c72), cl_nI (by omega)]
          have fx : kFr 37 38 _ h6 := fun j hj => fh6 j (by omega)
          exact ⟨rfl, H.setO (F := F5) (tr := tr + 11) hM fx, hZ.tr (fx.wide (by omega) (by omega))⟩
      · skip
        refine go_lconst (v := 1) (nx := 67) dX7_rate_66 (by decide) rfl ?_
        refine go_goto 117 dX7_rate_67 rfl ?_
        refine go_ladd (nx := 118) dX7_rate_117 rfl ?_
        refine go_pf (fs' := [_, _, _, _, _, _, _, _, _, _, _, _, _, _, _, _, _, _, _, _, _, _, _, _, _, _, _, _, _]) (nx := 121) (fp_X7_220 _) dX7_rate_118 (by omega) hM (Nat.le_of_ble_eq_true rfl) ⟨rfl, rfl⟩ rfl rfl (fun h6 eh6 fh6 => ?_)
        have hs := (fh6 (41) (by omega)).trans hs
        have hM := eh6
        refine go_iload_n 4 (nx := 122) dX7_rate_121 rfl rfl rfl ?_
        refine go_if_ne 129 (nx := 125) dX7_rate_122 rfl rfl (fun c122 => False.elim (c122 c63)) (fun c122 => ?_)
        refine go_iload_n 2 (nx := 126) dX7_rate_125 rfl rfl rfl ?_
        refine go_goto 182 dX7_rate_126 rfl ?_
        refine go_reti dX7_rate_182 ⟨_, rfl, rfl⟩ ?_
        have e : (kinB x && perB T (nI a)) = true := by rw [show kinB x = true from tbn0 c11, tbn0 c19]; rfl
        rw [fRate, rTrace, if_pos e, if_pos e, if_pos (show x = nI 0 from c63), if_pos (show x = nI 0 from c63), cl_nI (by omega)]
        have fx : kFr 37 38 _ h6 := fun j hj => fh6 j (by omega)
        exact ⟨rfl, H.setO (F := F5) (tr := tr + 1) hM fx, hZ.tr (fx.wide (by omega) (by omega))⟩
    · skip
      refine go_ldc (nx := 24) kl_X7_157 dX7_rate_22 rfl ?_
      refine go_reti dX7_rate_24 ⟨_, rfl, rfl⟩ ?_
      have e : perB T y = false := tb0 c19
      rw [fRate, rTrace, if_neg (by rw [e]; simp), if_neg (by rw [e]; simp)]
      exact ⟨rfl, H, hZ⟩
theorem in01 {x : Int32} : inB (nI 0) (nI 1) x = choB x := by
  unfold inB choB
  rw [Bool.eq_iff_iff]
  simp only [Bool.and_eq_true, Bool.or_eq_true, decide_eq_true_eq]
  rw [Int32.le_iff_toInt_le, Int32.le_iff_toInt_le, ← Int32.toInt_inj, ← Int32.toInt_inj, show (nI 0).toInt = 0 from rfl, show (nI 1).toInt = 1 from rfl, show (0 : Int32).toInt = 0 from rfl, show (1 : Int32).toInt = 1 from rfl]
  omega
theorem l_mkeep {G : kG} {n sz : Nat} {tx : Nat → Nat} {ν : mN} {i0 i1 : Option mN} {T : mT} {tr : Int64} {F : Nat → Int32} {h0 : kH} {i : Nat} {sa a0 ba : Nat → Int32} (hn : 49 ≤ n) (hi : i < 2) (hs3 : sa 72 = nI ν.2.2.2.1) : ∀ (d k : Nat) (h : kH) (a : Nat → Int32), 82 - k < d → k ≤ 82 → mO G F tr sz T h → h 41 = .inl (G.2.1, 82, .inl sa) → h 43 = .inl (G.2.1, 164, .inl a) → h 44 = .inl (G.2.2.1, 2, .inl ba) → (∀ j, j < k → a (82 * i + j) = sa j) → (∀ j, (j < 82 * i ∨ 82 * i + 82 ≤ j) → a j = a0 j) → kFr 43 45 h0 h → Go G mX7_keep (1, 0, 0) 18 [(2, .int (nI k)), (0, .ref (kb G + 37)), (1, .int (nI i))] [] (n, 0, 0) h (kQi mX7_keep n (fun v h' => v = nI ν.2.2.2.1 ∧ (∃ a : Nat → Int32, h' 43 = .inl (G.2.1, 164, .inl a) ∧ h' 44 = .inl (G.2.2.1, 2, .inl (upd ba i (nI 1))) ∧ (∀ j, j < 82 → a (82 * i + j) = sa j) ∧ (∀ j, (j < 82 * i ∨ 82 * i + 82 ≤ j) → a j = a0 j)) ∧ kFr 43 45 h0 h')) := by
  intro d
  induction d with
  | zero => intro k h a hd; omega
  | succ d ih =>
    intro k h a hd hk HO hs hke hik hj hj2 hF
    have hM : h 37 = .inr (7, [.int (F 0), .long tr, .ref (kb G + 38), .int (nI sz), .int (F 4), .int (F 5), .int (F 6), .int (F 7), .int (F 8), .ref (kb G + 39), .ref (kb G + 40), .int (nI T.1), .int (F 12), .int (nI T.2.2.2.1), .int (F 14), .int (nI T.2.2.2.2.1), .int (F 16), .int (nI T.2.2.2.2.2), .int (F 18), .int (F 19), .int (F 20), .ref (kb G + 41), .ref (kb G + 42), .ref (kb G + 43), .ref (kb G + 44), .ref (kb G + 45), .ref (kb G + 46), .ref (kb G + 47), .ref (kb G + 48)]) := HO
    refine go_iload_n 0 (nx := 19) dX7_keep_18 rfl rfl rfl ?_
    refine go_bipush (v := nI 82) (nx := 21) dX7_keep_19 (by decide) rfl ?_
    refine go_icmp_ge 47 (nx := 24) dX7_keep_21 rfl rfl (fun c21 => ?_) (fun c21 => ?_)
    · skip
      refine go_aload_n 1 (nx := 48) dX7_keep_47 rfl rfl rfl ?_
      refine go_gf (nx := 51) fg_X7_28 dX7_keep_48 (by omega) hM rfl rfl ?_
      refine go_iload_n 2 (nx := 52) dX7_keep_51 rfl rfl rfl ?_
      refine go_iconst (v := nI 1) (nx := 53) dX7_keep_52 (by decide) rfl ?_
      refine go_bas (i) (nx := 54) dX7_keep_53 (by omega) hik rfl hi (by omega) rfl rfl (fun h1 eh1 fh1 => ?_)
      have hM := (fh1 (37) (by omega)).trans hM
      have hs := (fh1 (41) (by omega)).trans hs
      have hke := (fh1 (43) (by omega)).trans hke
      have hik := eh1
      have hF := hF.tr (fun j hj => fh1 j (by omega))
      refine go_aload_n 1 (nx := 55) dX7_keep_54 rfl rfl rfl ?_
      refine go_gf (nx := 58) fg_X7_19 dX7_keep_55 (by omega) hM rfl rfl ?_
      refine go_bipush (v := nI 72) (nx := 60) dX7_keep_58 (by decide) rfl ?_
      refine go_ial (72) (nx := 61) dX7_keep_60 (by omega) hs rfl (by omega) (by omega) rfl ?_
      refine go_reti dX7_keep_61 ⟨_, rfl, rfl⟩ ?_
      have e8 : k = 82 := by have := kle c21; omega
      subst e8
      exact ⟨hs3, ⟨a, hke, hik, hj, hj2⟩, hF⟩
    · skip
      have h8 := knle c21
      refine go_aload_n 1 (nx := 25) dX7_keep_24 rfl rfl rfl ?_
      refine go_gf (nx := 28) fg_X7_25 dX7_keep_25 (by omega) hM rfl rfl ?_
      refine go_bipush (v := nI 82) (nx := 30) dX7_keep_28 (by decide) rfl ?_
      refine go_iload_n 2 (nx := 31) dX7_keep_30 rfl rfl rfl ?_
      refine go_imul (nx := 32) dX7_keep_31 rfl ?_
      refine go_iload_n 0 (nx := 33) dX7_keep_32 rfl rfl rfl ?_
      refine go_iadd (nx := 34) dX7_keep_33 rfl ?_
      refine go_aload_n 1 (nx := 35) dX7_keep_34 rfl rfl rfl ?_
      refine go_gf (nx := 38) fg_X7_19 dX7_keep_35 (by omega) hM rfl rfl ?_
      refine go_iload_n 0 (nx := 39) dX7_keep_38 rfl rfl rfl ?_
      refine go_ial (k) (nx := 40) dX7_keep_39 (by omega) hs rfl (by omega) (by omega) rfl ?_
      refine go_ias (82 * i + k) (nx := 41) dX7_keep_40 (by omega) hke (by rw [pk_mul, nI_add]) (by omega) (by omega) rfl (fun h1 eh1 fh1 => ?_)
      have hM := (fh1 (37) (by omega)).trans hM
      have hs := (fh1 (41) (by omega)).trans hs
      have hik := (fh1 (44) (by omega)).trans hik
      have hke := eh1
      have hF := hF.tr (fun j hj => fh1 j (by omega))
      refine go_iinc 0 (v := nI (k + 1)) (lv' := [_, _, _]) (nx := 44) dX7_keep_41 rfl (nI_inc k) (by decide) rfl rfl ?_
      refine go_goto 18 dX7_keep_44 rfl ?_
      refine Go.sub [0, 1, 2] rfl ?_
      refine ih (k + 1) _ _ (by omega) (by omega) hM hs hke hik (fun j hj3 => ?_) (fun j hj3 => ?_) hF
      · by_cases e : j = k
        · subst e; rw [pk_us]
        · rw [pk_un (by omega)]; exact hj j (by omega)
      · rw [pk_un (by omega)]; exact hj2 j hj3
theorem oM.setKe {G : kG} {s : mS} {h h' : kH} {i0 i1 : Option mN} (H : oM G s h) (hK : oKe G i0 i1 h') (hF : kFr 43 45 h h') : oM G (s.1, s.2.1, s.2.2.1, i0, i1, s.2.2.2.2.2) h' := by
  obtain ⟨⟨F, h1⟩, q2, q3, q4, q5, q6, -, q8, q9, q10, q11⟩ := H
  exact ⟨⟨F, h1.fr hF (by omega)⟩, q2.fr hF (by omega), q3.fr hF (by omega), q4.fr hF (by omega), q5.fr hF (by omega), q6.fr hF (by omega), hK, q8.fr hF (by omega), q9.fr hF (by omega), q10.fr hF (by omega), q11.fr hF (by omega)⟩
theorem m_keep {G : kG} {n sz : Nat} {h : kH} {tx : Nat → Nat} {ν : mN} {i0 i1 : Option mN} {T : mT} {tr : Int64} {x : Int32} (hn : 49 ≤ n) (H : oM G (tx, sz, ν, i0, i1, T, tr) h) (W : wS (tx, sz, ν, i0, i1, T, tr)) : Spi G mX7_keep 1 [.ref (kb G + 37), .int x] n h (fun v h' => v = fKeep ν x ∧ oM G (sKeep (tx, sz, ν, i0, i1, T, tr) x) h' ∧ kFr 37 49 h h') := by
  obtain ⟨hwT, hwN, hY, hw0, hw1, hsz, htx⟩ := id W
  have hwT : wT T := hwT
  have hwN : wN T.1 ν := hwN
  have hY : ν.2.2.2.1 ≤ 99 := hY
  have hsz : sz ≤ 400 := hsz
  have hP := hwT.1
  obtain ⟨⟨F, HO⟩, -⟩ := id H
  have hM : h 37 = .inr (7, [.int (F 0), .long tr, .ref (kb G + 38), .int (nI sz), .int (F 4), .int (F 5), .int (F 6), .int (F 7), .int (F 8), .ref (kb G + 39), .ref (kb G + 40), .int (nI T.1), .int (F 12), .int (nI T.2.2.2.1), .int (F 14), .int (nI T.2.2.2.2.1), .int (F 16), .int (nI T.2.2.2.2.2), .int (F 18), .int (F 19), .int (F 20), .ref (kb G + 41), .ref (kb G + 42), .ref (kb G + 43), .ref (kb G + 44), .ref (kb G + 45), .ref (kb G + 46), .ref (kb G + 47), .ref (kb G + 48)]) := HO
  refine Spi.of (by decide) (Nat.le_of_ble_eq_true rfl) ?_
  refine Go.loc (lv' := [(0, _), (1, _)]) rfl ?_
  refine go_aload_n 0 (nx := 1) dX7_keep_0 rfl rfl rfl ?_
  refine go_iconst (v := nI 0) (nx := 2) dX7_keep_1 (by decide) rfl ?_
  refine go_pf (fs' := [_, _, _, _, _, _, _, _, _, _, _, _, _, _, _, _, _, _, _, _, _, _, _, _, _, _, _, _, _]) (nx := 5) (fp_X7_51 _) dX7_keep_2 (by omega) hM (Nat.le_of_ble_eq_true rfl) ⟨rfl, rfl⟩ rfl rfl (fun h1 eh1 fh1 => ?_)
  have hM := eh1
  have hZ : kFr 37 49 h h1 := fun j hj => fh1 j (by omega)
  have H := H.setO (F := upd F 0 (nI 0)) (tr := tr) hM (fun j hj => fh1 j (by omega))
  have H : oM G (tx, sz, ν, i0, i1, T, tr) h1 := H
  obtain ⟨⟨F5, HO⟩, HTm, HKt, HH, HS, HSp, HKe, HRi, HPa, HAh, HDo⟩ := id H
  have HO : mO G F5 tr sz T h1 := HO
  have HTm : oTm G tx sz h1 := HTm
  have HKt : oKt G T h1 := HKt
  have HH : oHab G T h1 := HH
  have HS : oS G ν h1 := HS
  have HKe : oKe G i0 i1 h1 := HKe
  have hM : h1 37 = .inr (7, [.int (F5 0), .long tr, .ref (kb G + 38), .int (nI sz), .int (F5 4), .int (F5 5), .int (F5 6), .int (F5 7), .int (F5 8), .ref (kb G + 39), .ref (kb G + 40), .int (nI T.1), .int (F5 12), .int (nI T.2.2.2.1), .int (F5 14), .int (nI T.2.2.2.2.1), .int (F5 16), .int (nI T.2.2.2.2.2), .int (F5 18), .int (F5 19), .int (F5 20), .ref (kb G + 41), .ref (kb G + 42), .ref (kb G + 43), .ref (kb G + 44), .ref (kb G + 45), .ref (kb G + 46), .ref (kb G + 47), .ref (kb G + 48)]) := HO
  obtain ⟨sa, hs, hs1, hs2, hs3, hs4, hs5⟩ := id HS
  refine go_iload_n 1 (nx := 6) dX7_keep_5 rfl rfl rfl ?_
  refine go_iconst (v := nI 0) (nx := 7) dX7_keep_6 (by decide) rfl ?_
  refine go_iconst (v := nI 1) (nx := 8) dX7_keep_7 (by decide) rfl ?_
  refine go_Si (nx := 11) [_, _, _] kc_X7_54 s_in dX7_keep_8 rfl rfl (Nat.le_of_ble_eq_true rfl) (Nat.le_of_ble_eq_true rfl) ⟨Nat.le_refl _, Nat.le_refl _⟩ rfl (fun rh2 h2 hqh2 => ?_)
  obtain ⟨rfl, rfl⟩ := hqh2
  refine go_if_ne 16 (nx := 14) dX7_keep_11 rfl rfl (fun c11 => ?_) (fun c11 => ?_)
  · skip
    refine go_iconst (v := nI 0) (nx := 17) dX7_keep_16 (by decide) rfl ?_
    refine go_istore_n (lv' := [_, _, _]) (nx := 18) dX7_keep_17 rfl (by decide) rfl rfl ?_
    refine Go.sub [0, 1, 2] rfl ?_
    have hc : choB x = true := by rw [← in01]; exact tbn0 c11
    obtain ⟨ka, ba, hke, hik, hb0, hb1, hk0, hk1⟩ := id HKe
    rcases cho_of hc with rfl | rfl
    · refine (l_mkeep (tx := tx) (ν := ν) (i0 := i0) (i1 := i1) (i := 0) (a0 := ka) hn (by decide) hs3 83 0 _ ka (by omega) (by omega) HO hs hke hik (fun j hj => absurd hj (Nat.not_lt_zero j)) (fun _ _ => rfl) kFr.rf).mono ?_
      rintro r z' h' ⟨rfl, q2, v, rfl, rfl, ⟨a, qa, qb, qj, qo⟩, qF⟩
      refine ⟨rfl, q2, _, rfl, ?_⟩
      rw [fKeep, sKeep, if_pos hc, if_pos rfl]
      refine ⟨rfl, H.setKe (i0 := some ν) (i1 := i1) ⟨a, _, qa, qb, pk_us, (pk_un (by decide)).trans hb1, fun μ e => ?_, fun μ e => ?_⟩ qF, hZ.tr (qF.wide (by omega) (by omega))⟩
      · cases e
        exact sIs.ext (fun k hk => (congrArg a (by omega)).trans (qj k hk)) ⟨hs1, hs2, hs3, hs4, hs5⟩
      · exact sIs.ext (fun k hk => qo (82 + k) (by omega)) (hk1 μ e)
    · refine (l_mkeep (tx := tx) (ν := ν) (i0 := i0) (i1 := i1) (i := 1) (a0 := ka) hn (by decide) hs3 83 0 _ ka (by omega) (by omega) HO hs hke hik (fun j hj => absurd hj (Nat.not_lt_zero j)) (fun _ _ => rfl) kFr.rf).mono ?_
      rintro r z' h' ⟨rfl, q2, v, rfl, rfl, ⟨a, qa, qb, qj, qo⟩, qF⟩
      refine ⟨rfl, q2, _, rfl, ?_⟩
      rw [fKeep, sKeep, if_pos hc, if_neg (nI_k (by decide) (by decide) (by decide)), if_pos rfl]
      refine ⟨rfl, H.setKe (i0 := i0) (i1 := some ν) ⟨a, _, qa, qb, (pk_un (by decide)).trans hb0, pk_us, fun μ e => ?_, fun μ e => ?_⟩ qF, hZ.tr (qF.wide (by omega) (by omega))⟩
      · exact sIs.ext (fun k hk => qo k (by omega)) (hk0 μ e)
      · cases e
        exact sIs.ext (fun k hk => qj k hk) ⟨hs1, hs2, hs3, hs4, hs5⟩
  · skip
    refine go_iconst (v := (-1)) (nx := 15) dX7_keep_14 (by decide) rfl ?_
    refine go_reti dX7_keep_15 ⟨_, rfl, rfl⟩ ?_
    have hc : choB x = false := by rw [← in01]; exact tb0 c11
    rw [fKeep, sKeep, if_neg (by rw [hc]; decide), if_neg (fun q => by rw [q] at hc; exact absurd hc (by decide)), if_neg (fun q => by rw [q] at hc; exact absurd hc (by decide))]
    exact ⟨rfl, H, hZ⟩
