/-! the reference: back, reigns, ring, parties -/
theorem l_mback {G : kG} {n sz : Nat} {tx : Nat → Nat} {ν : mN} {i0 i1 : Option mN} {T : mT} {tr : Int64} {F : Nat → Int32} {h0 : kH} {i : Nat} {ka : Nat → Int32} (hn : 49 ≤ n) (hi : i < 2) : ∀ (d k : Nat) (h : kH) (a : Nat → Int32), 82 - k < d → k ≤ 82 → mO G F tr sz T h → h 41 = .inl (G.2.1, 82, .inl a) → h 43 = .inl (G.2.1, 164, .inl ka) → (∀ j, j < k → a j = ka (82 * i + j)) → kFr 41 42 h0 h → Go G mX7_back (1, 0, 0) 30 [(2, .int (nI k)), (0, .ref (kb G + 37)), (1, .int (nI i))] [] (n, 0, 0) h (kQi mX7_back n (fun v h' => v = ka (82 * i + 72) ∧ (∃ a : Nat → Int32, h' 41 = .inl (G.2.1, 82, .inl a) ∧ ∀ j, j < 82 → a j = ka (82 * i + j)) ∧ kFr 41 42 h0 h')) := by
  intro d
  induction d with
  | zero => intro k h a hd; omega
  | succ d ih =>
    intro k h a hd hk HO hs hke hj hF
    have hM : h 37 = .inr (7, [.int (F 0), .long tr, .ref (kb G + 38), .int (nI sz), .int (F 4), .int (F 5), .int (F 6), .int (F 7), .int (F 8), .ref (kb G + 39), .ref (kb G + 40), .int (nI T.1), .int (F 12), .int (nI T.2.2.2.1), .int (F 14), .int (nI T.2.2.2.2.1), .int (F 16), .int (nI T.2.2.2.2.2), .int (F 18), .int (F 19), .int (F 20), .ref (kb G + 41), .ref (kb G + 42), .ref (kb G + 43), .ref (kb G + 44), .ref (kb G + 45), .ref (kb G + 46), .ref (kb G + 47), .ref (kb G + 48)]) := HO
    refine go_iload_n 0 (nx := 31) dX7_back_30 rfl rfl rfl ?_
    refine go_bipush (v := nI 82) (nx := 33) dX7_back_31 (by decide) rfl ?_
    refine go_icmp_ge 59 (nx := 36) dX7_back_33 rfl rfl (fun c33 => ?_) (fun c33 => ?_)
    · skip
      refine go_aload_n 1 (nx := 60) dX7_back_59 rfl rfl rfl ?_
      refine go_gf (nx := 63) fg_X7_19 dX7_back_60 (by omega) hM rfl rfl ?_
      refine go_bipush (v := nI 72) (nx := 65) dX7_back_63 (by decide) rfl ?_
      refine go_ial (72) (nx := 66) dX7_back_65 (by omega) hs rfl (by omega) (by omega) rfl ?_
      refine go_reti dX7_back_66 ⟨_, rfl, rfl⟩ ?_
      have e8 : k = 82 := by have := kle c33; omega
      subst e8
      exact ⟨hj 72 (by decide), ⟨a, hs, hj⟩, hF⟩
    · skip
      refine go_aload_n 1 (nx := 37) dX7_back_36 rfl rfl rfl ?_
      refine go_gf (nx := 40) fg_X7_19 dX7_back_37 (by omega) hM rfl rfl ?_
      refine go_iload_n 0 (nx := 41) dX7_back_40 rfl rfl rfl ?_
      refine go_aload_n 1 (nx := 42) dX7_back_41 rfl rfl rfl ?_
      refine go_gf (nx := 45) fg_X7_25 dX7_back_42 (by omega) hM rfl rfl ?_
      refine go_bipush (v := nI 82) (nx := 47) dX7_back_45 (by decide) rfl ?_
      refine go_iload_n 2 (nx := 48) dX7_back_47 rfl rfl rfl ?_
      refine go_imul (nx := 49) dX7_back_48 rfl ?_
      refine go_iload_n 0 (nx := 50) dX7_back_49 rfl rfl rfl ?_
      refine go_iadd (nx := 51) dX7_back_50 rfl ?_
      refine go_ial (82 * i + k) (nx := 52) dX7_back_51 (by omega) hke (by rw [pk_mul, nI_add]) (by have := knle c33; omega) (by omega) rfl ?_
      refine go_ias (k) (nx := 53) dX7_back_52 (by omega) hs rfl (knle c33) (by omega) rfl (fun h1 eh1 fh1 => ?_)
      have hM := (fh1 (37) (by omega)).trans hM
      have hke := (fh1 (43) (by omega)).trans hke
      have hs := eh1
      have hF := hF.tr (fun j hj => fh1 j (by omega))
      refine go_iinc 0 (v := nI (k + 1)) (lv' := [_, _, _]) (nx := 56) dX7_back_53 rfl (nI_inc k) (by decide) rfl rfl ?_
      refine go_goto 30 dX7_back_56 rfl ?_
      refine Go.sub [0, 1, 2] rfl ?_
      have h8 := knle c33
      refine ih (k + 1) _ _ (by omega) (by omega) hM hs hke (fun j hj3 => ?_) hF
      by_cases e : j = k
      · subst e; rw [pk_us]
      · rw [pk_un (by omega)]; exact hj j (by omega)
theorem m_back {G : kG} {n sz : Nat} {h : kH} {tx : Nat → Nat} {ν : mN} {i0 i1 : Option mN} {T : mT} {tr : Int64} {x : Int32} (hn : 49 ≤ n) (H : oM G (tx, sz, ν, i0, i1, T, tr) h) (W : wS (tx, sz, ν, i0, i1, T, tr)) : Spi G mX7_back 1 [.ref (kb G + 37), .int x] n h (fun v h' => v = fBack i0 i1 x ∧ oM G (tx, sz, (nBack ν i0 i1 x), i0, i1, T, tr) h' ∧ kFr 37 49 h h') := by
  obtain ⟨hwT, hwN, hY, hw0, hw1, hsz, htx⟩ := id W
  have hwT : wT T := hwT
  have hwN : wN T.1 ν := hwN
  have hY : ν.2.2.2.1 ≤ 99 := hY
  have hsz : sz ≤ 400 := hsz
  have hP := hwT.1
  obtain ⟨⟨F, HO⟩, -⟩ := id H
  have hM : h 37 = .inr (7, [.int (F 0), .long tr, .ref (kb G + 38), .int (nI sz), .int (F 4), .int (F 5), .int (F 6), .int (F 7), .int (F 8), .ref (kb G + 39), .ref (kb G + 40), .int (nI T.1), .int (F 12), .int (nI T.2.2.2.1), .int (F 14), .int (nI T.2.2.2.2.1), .int (F 16), .int (nI T.2.2.2.2.2), .int (F 18), .int (F 19), .int (F 20), .ref (kb G + 41), .ref (kb G + 42), .ref (kb G + 43), .ref (kb G + 44), .ref (kb G + 45), .ref (kb G + 46), .ref (kb G + 47), .ref (kb G + 48)]) := HO
  refine Spi.of (by decide) (Nat.le_of_ble_eq_true rfl) ?_
  refine Go.loc (lv' := [(0, _), (1, _)]) rfl ?_
  refine go_aload_n 0 (nx := 1) dX7_back_0 rfl rfl rfl ?_
  refine go_iconst (v := nI 0) (nx := 2) dX7_back_1 (by decide) rfl ?_
  refine go_pf (fs' := [_, _, _, _, _, _, _, _, _, _, _, _, _, _, _, _, _, _, _, _, _, _, _, _, _, _, _, _, _]) (nx := 5) (fp_X7_51 _) dX7_back_2 (by omega) hM (Nat.le_of_ble_eq_true rfl) ⟨rfl, rfl⟩ rfl rfl (fun h1 eh1 fh1 => ?_)
  have hM := eh1
  have hZ : kFr 37 49 h h1 := fun j hj => fh1 j (by omega)
  have H := H.setO (F := upd F 0 (nI 0)) (tr := tr) hM (fun j hj => fh1 j (by omega))
  have H : oM G (tx, sz, ν, i0, i1, T, tr) h1 := H
  obtain ⟨⟨F5, HO⟩, HTm, HKt, HH, HS, HSp, HKe, HRi, HPa, HAh, HDo⟩ := id H
  have HO : mO G F5 tr sz T h1 := HO
  have HTm : oTm G tx sz h1 := HTm
  have HKt : oKt G T h1 := HKt
  have HH : oHab G T h1 := HH
  have HS : oS G ν h1 := HS
  have HKe : oKe G i0 i1 h1 := HKe
  have hM : h1 37 = .inr (7, [.int (F5 0), .long tr, .ref (kb G + 38), .int (nI sz), .int (F5 4), .int (F5 5), .int (F5 6), .int (F5 7), .int (F5 8), .ref (kb G + 39), .ref (kb G + 40), .int (nI T.1), .int (F5 12), .int (nI T.2.2.2.1), .int (F5 14), .int (nI T.2.2.2.2.1), .int (F5 16), .int (nI T.2.2.2.2.2), .int (F5 18), .int (F5 19), .int (F5 20), .ref (kb G + 41), .ref (kb G + 42), .ref (kb G + 43), .ref (kb G + 44), .ref (kb G + 45), .ref (kb G + 46), .ref (kb G + 47), .ref (kb G + 48)]) := HO
  obtain ⟨sa, hs, hs1, hs2, hs3, hs4, hs5⟩ := id HS
  refine go_iload_n 1 (nx := 6) dX7_back_5 rfl rfl rfl ?_
  refine go_iconst (v := nI 0) (nx := 7) dX7_back_6 (by decide) rfl ?_
  refine go_iconst (v := nI 1) (nx := 8) dX7_back_7 (by decide) rfl ?_
  refine go_Si (nx := 11) [_, _, _] kc_X7_54 s_in dX7_back_8 rfl rfl (Nat.le_of_ble_eq_true rfl) (Nat.le_of_ble_eq_true rfl) ⟨Nat.le_refl _, Nat.le_refl _⟩ rfl (fun rh2 h2 hqh2 => ?_)
  obtain ⟨rfl, rfl⟩ := hqh2
  refine go_if_ne 16 (nx := 14) dX7_back_11 rfl rfl (fun c11 => ?_) (fun c11 => ?_)
  · skip
    have hc : choB x = true := by rw [← in01]; exact tbn0 c11
    obtain ⟨ka, ba, hke, hik, hb0, hb1, hk0, hk1⟩ := id HKe
    obtain ⟨z, hz2, hz⟩ : ∃ z, z < 2 ∧ x = nI z := (cho_of hc).elim (fun e => ⟨0, by decide, e⟩) (fun e => ⟨1, by decide, e⟩)
    subst hz
    have hz3 : z = 0 ∨ z = 1 := by omega
    refine go_aload_n 0 (nx := 17) dX7_back_16 rfl rfl rfl ?_
    refine go_gf (nx := 20) fg_X7_28 dX7_back_17 (by omega) hM rfl rfl ?_
    refine go_iload_n 1 (nx := 21) dX7_back_20 rfl rfl rfl ?_
    refine go_bal (z) (nx := 22) dX7_back_21 (by omega) hik rfl hz2 (by omega) rfl ?_
    refine go_if_ne 28 (nx := 25) dX7_back_22 rfl rfl (fun c22 => ?_) (fun c22 => ?_)
    · skip
      refine go_iconst (v := nI 0) (nx := 29) dX7_back_28 (by decide) rfl ?_
      refine go_istore_n (lv' := [_, _, _]) (nx := 30) dX7_back_29 rfl (by decide) rfl rfl ?_
      refine Go.sub [0, 1, 2] rfl ?_
      rcases hz3 with rfl | rfl
      · cases e0 : i0 with
        | none => exact absurd (by rw [hb0, e0]; rfl) c22
        | some μ =>
          refine (l_mback (tx := tx) (ν := ν) (i0 := i0) (i1 := i1) (i := 0) hn (by decide) 83 0 _ sa (by omega) (by omega) HO hs hke (fun j hj => absurd hj (Nat.not_lt_zero j)) kFr.rf).mono ?_
          rintro r z' h' ⟨rfl, q2, v, rfl, rfl, ⟨a, qa, qj⟩, qF⟩
          refine ⟨rfl, q2, _, rfl, ?_⟩
          have hS : sIs a μ := sIs.ext (fun k hk => (qj k hk).trans (by first | rfl | exact congrArg ka (by omega))) (hk0 μ e0)
          rw [fBack, nBack, if_pos hc, if_pos hc, iOf, if_pos rfl]
          subst e0
          exact ⟨(qj 72 (by decide)).symm.trans hS.2.2.1, H.setS ⟨a, qa, hS⟩ qF, hZ.tr (qF.wide (by omega) (by omega))⟩
      · cases e1 : i1 with
        | none => exact absurd (by rw [hb1, e1]; rfl) c22
        | some μ =>
          refine (l_mback (tx := tx) (ν := ν) (i0 := i0) (i1 := i1) (i := 1) hn (by decide) 83 0 _ sa (by omega) (by omega) HO hs hke (fun j hj => absurd hj (Nat.not_lt_zero j)) kFr.rf).mono ?_
          rintro r z' h' ⟨rfl, q2, v, rfl, rfl, ⟨a, qa, qj⟩, qF⟩
          refine ⟨rfl, q2, _, rfl, ?_⟩
          have hS : sIs a μ := sIs.ext (fun k hk => (qj k hk).trans (by first | rfl | exact congrArg ka (by omega))) (hk1 μ e1)
          rw [fBack, nBack, if_pos hc, if_pos hc, iOf, if_neg (nI_k (by decide) (by decide) (by decide))]
          subst e1
          exact ⟨(qj 72 (by decide)).symm.trans hS.2.2.1, H.setS ⟨a, qa, hS⟩ qF, hZ.tr (qF.wide (by omega) (by omega))⟩
    · skip
      refine go_bipush (v := (-2)) (nx := 27) dX7_back_25 (by decide) rfl ?_
      refine go_reti dX7_back_27 ⟨_, rfl, rfl⟩ ?_
      rcases hz3 with rfl | rfl
      · cases e0 : i0 with
        | none => rw [fBack, nBack, if_pos hc, if_pos hc, iOf, if_pos rfl]; subst e0; exact ⟨rfl, H, hZ⟩
        | some μ => rw [e0] at hb0; exact absurd (show (1 : Int32) = 0 from hb0.symm.trans c22) (by decide)
      · cases e1 : i1 with
        | none => rw [fBack, nBack, if_pos hc, if_pos hc, iOf, if_neg (nI_k (by decide) (by decide) (by decide))]; subst e1; exact ⟨rfl, H, hZ⟩
        | some μ => rw [e1] at hb1; exact absurd (show (1 : Int32) = 0 from hb1.symm.trans c22) (by decide)
  · skip
    refine go_iconst (v := (-1)) (nx := 15) dX7_back_14 (by decide) rfl ?_
    refine go_reti dX7_back_15 ⟨_, rfl, rfl⟩ ?_
    have hc : choB x = false := by rw [← in01]; exact tb0 c11
    rw [fBack, nBack, if_neg (by rw [hc]; decide), if_neg (by rw [hc]; decide)]
    exact ⟨rfl, H, hZ⟩
theorem oSp.xa {G : kG} {ν : mN} {h : kH} (H : oSp G ν h) : xArr G 42 82 h := by
  obtain ⟨a, q, -⟩ := H
  exact ⟨a, q⟩
theorem oS.xa {G : kG} {ν : mN} {h : kH} (H : oS G ν h) : xArr G 41 82 h := by
  obtain ⟨a, q, -⟩ := H
  exact ⟨a, q⟩
theorem oM.setSp {G : kG} {s : mS} {h h' : kH} (H : oM G s h) (hS : oS G s.2.2.1 h') (h6 : xArr G 42 82 h') (h8 : xArr G 45 40 h') (hF : ∀ j, (j < 41 ∨ j = 43 ∨ j = 44 ∨ 46 ≤ j) → h' j = h j) : oM G s h' := by
  have H' := H
  obtain ⟨-, -, -, -, -, -, -, -, ⟨a9, q9⟩, ⟨a10, q10⟩, ⟨a11, q11⟩⟩ := H'
  exact H.setX hS h6 h8 ⟨a9, (hF 46 (by omega)).trans q9⟩ ⟨a10, (hF 47 (by omega)).trans q10⟩ ⟨a11, (hF 48 (by omega)).trans q11⟩ (fun j hj => hF j (by omega))
theorem l_mreigns {G : kG} {n sz : Nat} {tx : Nat → Nat} {ν : mN} {i0 i1 : Option mN} {T : mT} {tr : Int64} {F : Nat → Int32} {m : Nat} {h0 : kH} (hn : 49 ≤ n) (hwT : wT T) (hwN : wN T.1 ν) (hP0 : 0 < T.1) (hY : ν.2.2.2.1 ≤ 99) (hm : m ≤ 40) : ∀ (d i : Nat) (h : kH) (last : Int32), m + 1 - i < d → i ≤ m + 1 → (0 < i → last = nI (mWho T (mSp T (i - 1) ν))) → mO G F tr sz T h → oHab G T h → oS G (mSp T i ν) h → oSp G ν h → kFr 41 43 h0 h → Go G mX7_reigns (4, 0, 0) 37 [(3, .int (nI i)), (2, .int last), (0, .ref (kb G + 37)), (1, .int (nI m))] [] (n, 0, 0) h (kQi mX7_reigns n (fun v h' => v = nI (mWho T (mSp T m ν)) ∧ oS G ν h' ∧ xArr G 42 82 h' ∧ kFr 41 43 h0 h')) := by
  intro d
  induction d with
  | zero => intro i h last hd; omega
  | succ d ih =>
    intro i h last hd hi hla HO HH HS HSp hF
    have hM : h 37 = .inr (7, [.int (F 0), .long tr, .ref (kb G + 38), .int (nI sz), .int (F 4), .int (F 5), .int (F 6), .int (F 7), .int (F 8), .ref (kb G + 39), .ref (kb G + 40), .int (nI T.1), .int (F 12), .int (nI T.2.2.2.1), .int (F 14), .int (nI T.2.2.2.2.1), .int (F 16), .int (nI T.2.2.2.2.2), .int (F 18), .int (F 19), .int (F 20), .ref (kb G + 41), .ref (kb G + 42), .ref (kb G + 43), .ref (kb G + 44), .ref (kb G + 45), .ref (kb G + 46), .ref (kb G + 47), .ref (kb G + 48)]) := HO
    refine go_iload_n 0 (nx := 38) dX7_reigns_37 rfl rfl rfl ?_
    refine go_iload_n 3 (nx := 39) dX7_reigns_38 rfl rfl rfl ?_
    refine go_icmp_gt 53 (nx := 42) dX7_reigns_39 rfl rfl (fun c39 => ?_) (fun c39 => ?_)
    · skip
      have z1 := klt c39
      refine go_aload_n 2 (nx := 54) dX7_reigns_53 rfl rfl rfl ?_
      refine go_iconst (v := nI 0) (nx := 55) dX7_reigns_54 (by decide) rfl ?_
      refine go_Vv (nx := 58) [_] kc_X7_180 ⟨_, _, rfl⟩ (by omega) hM (m_asideF (tx := tx) (ν := ν) (i0 := i0) (i1 := i1) hn HO HSp HS.xa rfl) dX7_reigns_55 rfl rfl (Nat.le_of_ble_eq_true rfl) (Nat.le_of_ble_eq_true rfl) ⟨Nat.le_refl _, Nat.le_refl _⟩ rfl (fun h1 hqh1 => ?_)
      obtain ⟨HS2, hFh1⟩ := hqh1
      have HSp := HSp.fr hFh1 (by omega)
      have hF := hF.tr (hFh1.wide (by omega) (by omega))
      refine go_iload_n 1 (nx := 59) dX7_reigns_58 rfl rfl rfl ?_
      refine go_reti dX7_reigns_59 ⟨_, rfl, rfl⟩ ?_
      have e8 : i = m + 1 := by omega
      subst e8
      exact ⟨hla (by omega), HS2, HSp.xa, hF⟩
    · skip
      have z1 := knlt c39
      refine go_aload_n 2 (nx := 43) dX7_reigns_42 rfl rfl rfl ?_
      refine go_Vi (nx := 46) [] kc_X7_174 ⟨_, _, rfl⟩ (by omega) hM (m_springs hn HO HH HS hwT (wN_sp hwT hwN hP0 i) hP0 (by rw [mSp_y]; omega)) dX7_reigns_43 rfl rfl (Nat.le_of_ble_eq_true rfl) (Nat.le_of_ble_eq_true rfl) ⟨Nat.le_refl _, Nat.le_refl _⟩ rfl (fun rh1 h1 hqh1 => ?_)
      obtain ⟨rfl, HS, hFh1⟩ := hqh1
      have HO := HO.fr hFh1 (by omega)
      have HH := HH.fr hFh1 (by omega)
      have HSp := HSp.fr hFh1 (by omega)
      have hF := hF.tr (hFh1.wide (by omega) (by omega))
      refine go_istore_n (lv' := [_, _, _, _]) (nx := 47) dX7_reigns_46 rfl (by decide) rfl rfl ?_
      refine go_iinc 1 (v := nI (i + 1)) (lv' := [_, _, _, _]) (nx := 50) dX7_reigns_47 rfl (nI_inc i) (by decide) rfl rfl ?_
      refine go_goto 37 dX7_reigns_50 rfl ?_
      refine Go.sub [0, 1, 2, 3] rfl ?_
      exact ih (i + 1) _ _ (by omega) (by omega) (fun _ => rfl) HO HH HS HSp hF
theorem m_reigns {G : kG} {n sz : Nat} {h : kH} {tx : Nat → Nat} {ν : mN} {i0 i1 : Option mN} {T : mT} {tr : Int64} {x : Int32} (hn : 49 ≤ n) (H : oM G (tx, sz, ν, i0, i1, T, tr) h) (W : wS (tx, sz, ν, i0, i1, T, tr)) : Spi G mX7_reigns 4 [.ref (kb G + 37), .int x] n h (fun v h' => v = fReigns T ν x ∧ oM G (tx, sz, ν, i0, i1, T, tr) h' ∧ kFr 37 49 h h') := by
  obtain ⟨hwT, hwN, hY, hw0, hw1, hsz, htx⟩ := id W
  have hwT : wT T := hwT
  have hwN : wN T.1 ν := hwN
  have hY : ν.2.2.2.1 ≤ 99 := hY
  have hsz : sz ≤ 400 := hsz
  have hP := hwT.1
  obtain ⟨⟨F, HO⟩, -⟩ := id H
  have hM : h 37 = .inr (7, [.int (F 0), .long tr, .ref (kb G + 38), .int (nI sz), .int (F 4), .int (F 5), .int (F 6), .int (F 7), .int (F 8), .ref (kb G + 39), .ref (kb G + 40), .int (nI T.1), .int (F 12), .int (nI T.2.2.2.1), .int (F 14), .int (nI T.2.2.2.2.1), .int (F 16), .int (nI T.2.2.2.2.2), .int (F 18), .int (F 19), .int (F 20), .ref (kb G + 41), .ref (kb G + 42), .ref (kb G + 43), .ref (kb G + 44), .ref (kb G + 45), .ref (kb G + 46), .ref (kb G + 47), .ref (kb G + 48)]) := HO
  refine Spi.of (by decide) (Nat.le_of_ble_eq_true rfl) ?_
  refine Go.loc (lv' := [(0, _), (1, _)]) rfl ?_
  refine go_aload_n 0 (nx := 1) dX7_reigns_0 rfl rfl rfl ?_
  refine go_iconst (v := nI 0) (nx := 2) dX7_reigns_1 (by decide) rfl ?_
  refine go_pf (fs' := [_, _, _, _, _, _, _, _, _, _, _, _, _, _, _, _, _, _, _, _, _, _, _, _, _, _, _, _, _]) (nx := 5) (fp_X7_51 _) dX7_reigns_2 (by omega) hM (Nat.le_of_ble_eq_true rfl) ⟨rfl, rfl⟩ rfl rfl (fun h1 eh1 fh1 => ?_)
  have hM := eh1
  have hZ : kFr 37 49 h h1 := fun j hj => fh1 j (by omega)
  have H := H.setO (F := upd F 0 (nI 0)) (tr := tr) hM (fun j hj => fh1 j (by omega))
  have H : oM G (tx, sz, ν, i0, i1, T, tr) h1 := H
  obtain ⟨⟨F5, HO⟩, HTm, HKt, HH, HS, HSp, HKe, HRi, HPa, HAh, HDo⟩ := id H
  have HO : mO G F5 tr sz T h1 := HO
  have HTm : oTm G tx sz h1 := HTm
  have HKt : oKt G T h1 := HKt
  have HH : oHab G T h1 := HH
  have HS : oS G ν h1 := HS
  have HKe : oKe G i0 i1 h1 := HKe
  have hM : h1 37 = .inr (7, [.int (F5 0), .long tr, .ref (kb G + 38), .int (nI sz), .int (F5 4), .int (F5 5), .int (F5 6), .int (F5 7), .int (F5 8), .ref (kb G + 39), .ref (kb G + 40), .int (nI T.1), .int (F5 12), .int (nI T.2.2.2.1), .int (F5 14), .int (nI T.2.2.2.2.1), .int (F5 16), .int (nI T.2.2.2.2.2), .int (F5 18), .int (F5 19), .int (F5 20), .ref (kb G + 41), .ref (kb G + 42), .ref (kb G + 43), .ref (kb G + 44), .ref (kb G + 45), .ref (kb G + 46), .ref (kb G + 47), .ref (kb G + 48)]) := HO
  obtain ⟨sa, hs, hs1, hs2, hs3, hs4, hs5⟩ := id HS
  refine go_iload_n 1 (nx := 6) dX7_reigns_5 rfl rfl rfl ?_
  refine go_iconst (v := nI 0) (nx := 7) dX7_reigns_6 (by decide) rfl ?_
  refine go_bipush (v := nI 40) (nx := 9) dX7_reigns_7 (by decide) rfl ?_
  refine go_Si (nx := 12) [_, _, _] kc_X7_54 s_in dX7_reigns_9 rfl rfl (Nat.le_of_ble_eq_true rfl) (Nat.le_of_ble_eq_true rfl) ⟨Nat.le_refl _, Nat.le_refl _⟩ rfl (fun rh2 h2 hqh2 => ?_)
  obtain ⟨rfl, rfl⟩ := hqh2
  refine go_if_ne 17 (nx := 15) dX7_reigns_12 rfl rfl (fun c12 => ?_) (fun c12 => ?_)
  · skip
    have e := tbn0 c12
    have e9 := e
    simp only [inB, Bool.and_eq_true, decide_eq_true_eq] at e9
    obtain ⟨m, hm, rfl⟩ := nI_of (x := x) (Int32.not_lt.mpr e9.1)
    have hm8 := kle e9.2
    refine go_aload_n 0 (nx := 18) dX7_reigns_17 rfl rfl rfl ?_
    refine go_gf (nx := 21) fg_X7_137 dX7_reigns_18 (by omega) hM rfl rfl ?_
    refine go_if_ne 27 (nx := 24) dX7_reigns_21 rfl rfl (fun c21 => ?_) (fun c21 => ?_)
    · skip
      have z2 : ¬ T.1 = 0 := fun q => c21 (by rw [q]; rfl)
      refine go_aload_n 0 (nx := 28) dX7_reigns_27 rfl rfl rfl ?_
      refine go_iconst (v := nI 1) (nx := 29) dX7_reigns_28 (by decide) rfl ?_
      refine go_Vv (nx := 32) [_] kc_X7_180 ⟨_, _, rfl⟩ (by omega) hM (m_asideT (tx := tx) (ν := ν) (i0 := i0) (i1 := i1) hn HO HS HSp rfl) dX7_reigns_29 rfl rfl (Nat.le_of_ble_eq_true rfl) (Nat.le_of_ble_eq_true rfl) ⟨Nat.le_refl _, Nat.le_refl _⟩ rfl (fun h3 hqh3 => ?_)
      obtain ⟨HSp2, hFh3⟩ := hqh3
      have HO := HO.fr hFh3 (by omega)
      have HH := HH.fr hFh3 (by omega)
      have HS := HS.fr hFh3 (by omega)
      have hF0 : kFr 41 43 _ h3 := hFh3.wide (by omega) (by omega)
      refine go_bipush (v := (-9)) (nx := 34) dX7_reigns_32 (by decide) rfl ?_
      refine go_istore_n (lv' := [_, _, _]) (nx := 35) dX7_reigns_34 rfl (by decide) rfl rfl ?_
      refine go_iconst (v := nI 0) (nx := 36) dX7_reigns_35 (by decide) rfl ?_
      refine go_istore_n (lv' := [_, _, _, _]) (nx := 37) dX7_reigns_36 rfl (by decide) rfl rfl ?_
      refine Go.sub [0, 1, 2, 3] rfl ?_
      refine (l_mreigns (tx := tx) (i0 := i0) (i1 := i1) hn hwT hwN (by omega) hY hm8 (m + 2) 0 _ _ (by omega) (by omega) (fun z => absurd z (Nat.lt_irrefl 0)) HO HH HS HSp2 hF0).mono ?_
      rintro r z' h' ⟨rfl, q2, v, rfl, rfl, qS, qX, qF⟩
      refine ⟨rfl, q2, _, rfl, ?_⟩
      rw [fReigns, if_pos (show inB 0 (nI 40) (nI m) = true from e), if_neg z2, cl_nI (by omega)]
      refine ⟨rfl, H.setSp qS qX (HRi.fr qF (by omega)) (fun j hj => qF j (by omega)), hZ.tr (qF.wide (by omega) (by omega))⟩
    · skip
      refine go_bipush (v := (-2)) (nx := 26) dX7_reigns_24 (by decide) rfl ?_
      refine go_reti dX7_reigns_26 ⟨_, rfl, rfl⟩ ?_
      rw [fReigns, if_pos (show inB 0 (nI 40) (nI m) = true from e), if_pos (keq (b := 0) c21 (by omega) (by decide))]
      exact ⟨rfl, H, hZ⟩
  · skip
    refine go_iconst (v := (-1)) (nx := 16) dX7_reigns_15 (by decide) rfl ?_
    refine go_reti dX7_reigns_16 ⟨_, rfl, rfl⟩ ?_
    rw [fReigns, if_neg (by rw [show inB 0 (nI 40) x = false from tb0 c12]; decide)]
    exact ⟨rfl, H, hZ⟩
theorem ff_nn {s : Nat → Bool} {m : Nat} (h : ff s m = none) (hs : s m = false) : ff s (m + 1) = none := by
  simp only [ff]
  rw [h, if_neg (by rw [hs]; decide)]
def rfr (h h' : kH) : Prop := ∀ j, (j < 41 ∨ j = 43 ∨ j = 44 ∨ 46 ≤ j) → h' j = h j
theorem rfr.rf {h : kH} : rfr h h := fun _ _ => rfl
theorem rfr.tr {lo hi : Nat} {h h1 h2 : kH} (H : rfr h h1) (F : kFr lo hi h1 h2) (hd : (41 ≤ lo ∧ hi ≤ 43) ∨ (45 ≤ lo ∧ hi ≤ 46)) : rfr h h2 := fun j hj => (F j (by omega)).trans (H j hj)
theorem mW_lt8 {T : mT} {ν : mN} (hw : wT T) (hP0 : 0 < T.1) (k : Nat) : mW T ν k < 8 := Nat.lt_of_lt_of_le (mW_lt hP0 k) hw.1
theorem rgF_n {W : Nat → Nat} {p : Nat} (e : p = 11) (h : ff (fun p => decide (1 ≤ p) && rgB W p) p = none) : rgF W = -9 := by
  subst e
  unfold rgF
  rw [h]
theorem rgF_s {W : Nat → Nat} {p : Nat} (h1 : 1 ≤ p) (h : p < 11) (hq : ff (fun p => decide (1 ≤ p) && rgB W p) p = none) (e : rgB W p = true) : rgF W = nI p := by
  unfold rgF
  rw [ff_at (p := p) h hq (by simp [h1, e])]
theorem l_mring3 {G : kG} {n sz : Nat} {tx : Nat → Nat} {ν : mN} {i0 i1 : Option mN} {T : mT} {tr : Int64} {F : Nat → Int32} {W : Nat → Nat} {p : Nat} {h : kH} {a : Nat → Int32} (hn : 49 ≤ n) (hM0 : mO G F tr sz T h) (hri : h 45 = .inl (G.2.1, 40, .inl a)) (ha : ∀ j, j < 40 → a j = nI (W j)) (hW : ∀ j, W j < 8) (hp : p ≤ 10) (hp1 : 1 ≤ p) (hq : ff (fun p => decide (1 ≤ p) && rgB W p) p = none) (Q : Int32 → kH → Prop)
    (hyes : rgB W p = true → Q (nI p) h) (hno : rgB W p = false → Go G mX7_ring (4, 0, 0) 51 [(1, .int (nI (p + 1))), (0, .ref (kb G + 37))] [] (n, 0, 0) h (kQi mX7_ring n Q)) : ∀ (d i : Nat), 20 - i < d → i ≤ 20 → p ≤ i → Go G mX7_ring (4, 0, 0) 64 [(3, .int (nI (20 + i))), (2, .int (bI (allN (fun i => decide (i < p) || (W (20 + i) == W (20 + (i - p)))) i))), (1, .int (nI p)), (0, .ref (kb G + 37))] [] (n, 0, 0) h (kQi mX7_ring n Q) := by
  intro d
  have hM : h 37 = .inr (7, [.int (F 0), .long tr, .ref (kb G + 38), .int (nI sz), .int (F 4), .int (F 5), .int (F 6), .int (F 7), .int (F 8), .ref (kb G + 39), .ref (kb G + 40), .int (nI T.1), .int (F 12), .int (nI T.2.2.2.1), .int (F 14), .int (nI T.2.2.2.2.1), .int (F 16), .int (nI T.2.2.2.2.2), .int (F 18), .int (F 19), .int (F 20), .ref (kb G + 41), .ref (kb G + 42), .ref (kb G + 43), .ref (kb G + 44), .ref (kb G + 45), .ref (kb G + 46), .ref (kb G + 47), .ref (kb G + 48)]) := hM0
  induction d with
  | zero => intro i hd; omega
  | succ d ih =>
    intro i hd hi hpi
    refine go_iload_n 0 (nx := 65) dX7_ring_64 rfl rfl rfl ?_
    refine go_bipush (v := nI 40) (nx := 67) dX7_ring_65 (by decide) rfl ?_
    refine go_icmp_ge 103 (nx := 70) dX7_ring_67 rfl rfl (fun c67 => ?_) (fun c67 => ?_)
    · skip
      refine go_iload_n 1 (nx := 104) dX7_ring_103 rfl rfl rfl ?_
      refine go_if_eq 109 (nx := 107) dX7_ring_104 rfl rfl (fun c104 => ?_) (fun c104 => ?_)
      · skip
        refine go_iinc 2 (v := nI (p + 1)) (lv' := [_, _, _, _]) (nx := 112) dX7_ring_109 rfl (nI_inc p) (by decide) rfl rfl ?_
        refine go_goto 51 dX7_ring_112 rfl ?_
        refine Go.sub [0, 3] rfl ?_
        have e8 : i = 20 := by have := kle c67; omega
        subst e8
        exact hno (tb0 c104)
      · skip
        refine go_iload_n 2 (nx := 108) dX7_ring_107 rfl rfl rfl ?_
        refine go_reti dX7_ring_108 ⟨_, rfl, rfl⟩ ?_
        have e8 : i = 20 := by have := kle c67; omega
        subst e8
        exact hyes (tbn0 c104)
    · skip
      have z9 := knle c67
      refine go_iload_n 1 (nx := 71) dX7_ring_70 rfl rfl rfl ?_
      refine go_if_eq 95 (nx := 74) dX7_ring_71 rfl rfl (fun c71 => ?_) (fun c71 => ?_)
      · skip
        refine go_iconst (v := nI 0) (nx := 96) dX7_ring_95 (by decide) rfl ?_
        refine go_istore_n (lv' := [_, _, _, _]) (nx := 97) dX7_ring_96 rfl (by decide) rfl rfl ?_
        refine go_iinc 1 (v := nI (20 + (i + 1))) (lv' := [_, _, _, _]) (nx := 100) dX7_ring_97 rfl (nI_inc (20 + i)) (by decide) rfl rfl ?_
        refine go_goto 64 dX7_ring_100 rfl ?_
        refine Go.sub [0, 1, 2, 3] rfl ?_
        have k := ih (i + 1) (by omega) (by omega) (by omega)
        rw [show bI (allN (fun i => decide (i < p) || (W (20 + i) == W (20 + (i - p)))) (i + 1)) = 0 by
          show bI (allN _ i && (decide (i < p) || (W (20 + i) == W (20 + (i - p))))) = _
          rw [tb0 c71]; rfl] at k
        exact k
      · skip
        refine go_aload_n 3 (nx := 75) dX7_ring_74 rfl rfl rfl ?_
        refine go_gf (nx := 78) fg_X7_32 dX7_ring_75 (by omega) hM rfl rfl ?_
        refine go_iload_n 0 (nx := 79) dX7_ring_78 rfl rfl rfl ?_
        refine go_ial (20 + i) (nx := 80) dX7_ring_79 (by omega) hri rfl (by have := knle c67; omega) (by omega) rfl ?_
        rw [ha (20 + i) (by omega)]
        refine go_aload_n 3 (nx := 81) dX7_ring_80 rfl rfl rfl ?_
        refine go_gf (nx := 84) fg_X7_32 dX7_ring_81 (by omega) hM rfl rfl ?_
        refine go_iload_n 0 (nx := 85) dX7_ring_84 rfl rfl rfl ?_
        refine go_iload_n 2 (nx := 86) dX7_ring_85 rfl rfl rfl ?_
        refine go_isub (nx := 87) dX7_ring_86 rfl ?_
        refine go_ial (20 + (i - p)) (nx := 88) dX7_ring_87 (by omega) hri (by rw [pk_sub (by omega)]; exact congrArg nI (by omega)) (by have := knle c67; omega) (by omega) rfl ?_
        rw [ha (20 + (i - p)) (by omega)]
        refine go_icmp_ne 95 (nx := 91) dX7_ring_88 rfl rfl (fun c88 => ?_) (fun c88 => ?_)
        · skip
          refine go_iconst (v := nI 0) (nx := 96) dX7_ring_95 (by decide) rfl ?_
          refine go_istore_n (lv' := [_, _, _, _]) (nx := 97) dX7_ring_96 rfl (by decide) rfl rfl ?_
          refine go_iinc 1 (v := nI (20 + (i + 1))) (lv' := [_, _, _, _]) (nx := 100) dX7_ring_97 rfl (nI_inc (20 + i)) (by decide) rfl rfl ?_
          refine go_goto 64 dX7_ring_100 rfl ?_
          refine Go.sub [0, 1, 2, 3] rfl ?_
          have k := ih (i + 1) (by omega) (by omega) (by omega)
          rw [show bI (allN (fun i => decide (i < p) || (W (20 + i) == W (20 + (i - p)))) (i + 1)) = 0 by
            show bI (allN _ i && (decide (i < p) || (W (20 + i) == W (20 + (i - p))))) = _
            rw [tbn0 c71, decide_eq_false (by omega), beq_eq_false_iff_ne.mpr (fun e => c88 (by rw [e]))]; rfl] at k
          exact k
        · skip
          refine go_iconst (v := nI 1) (nx := 92) dX7_ring_91 (by decide) rfl ?_
          refine go_goto 96 dX7_ring_92 rfl ?_
          refine go_istore_n (lv' := [_, _, _, _]) (nx := 97) dX7_ring_96 rfl (by decide) rfl rfl ?_
          refine go_iinc 1 (v := nI (20 + (i + 1))) (lv' := [_, _, _, _]) (nx := 100) dX7_ring_97 rfl (nI_inc (20 + i)) (by decide) rfl rfl ?_
          refine go_goto 64 dX7_ring_100 rfl ?_
          refine Go.sub [0, 1, 2, 3] rfl ?_
          have k := ih (i + 1) (by omega) (by omega) (by omega)
          rw [show bI (allN (fun i => decide (i < p) || (W (20 + i) == W (20 + (i - p)))) (i + 1)) = 1 by
            show bI (allN _ i && (decide (i < p) || (W (20 + i) == W (20 + (i - p))))) = _
            rw [tbn0 c71, beq_iff_eq.mpr (keq c88 (by have := hW (20 + i); omega) (by have := hW (20 + (i - p)); omega)), Bool.or_true, Bool.and_true]; rfl] at k
          exact k
theorem l_mring2 {G : kG} {n sz : Nat} {tx : Nat → Nat} {ν : mN} {i0 i1 : Option mN} {T : mT} {tr : Int64} {F : Nat → Int32} {W : Nat → Nat} {h : kH} {a : Nat → Int32} (hn : 49 ≤ n) (hM0 : mO G F tr sz T h) (hri : h 45 = .inl (G.2.1, 40, .inl a)) (ha : ∀ j, j < 40 → a j = nI (W j)) (hW : ∀ j, W j < 8) : ∀ (d p : Nat), 11 - p < d → p ≤ 11 → 1 ≤ p → ff (fun p => decide (1 ≤ p) && rgB W p) p = none → Go G mX7_ring (4, 0, 0) 51 [(1, .int (nI p)), (0, .ref (kb G + 37))] [] (n, 0, 0) h (kQi mX7_ring n (fun v h' => v = rgF W ∧ h' = h)) := by
  intro d
  have hM : h 37 = .inr (7, [.int (F 0), .long tr, .ref (kb G + 38), .int (nI sz), .int (F 4), .int (F 5), .int (F 6), .int (F 7), .int (F 8), .ref (kb G + 39), .ref (kb G + 40), .int (nI T.1), .int (F 12), .int (nI T.2.2.2.1), .int (F 14), .int (nI T.2.2.2.2.1), .int (F 16), .int (nI T.2.2.2.2.2), .int (F 18), .int (F 19), .int (F 20), .ref (kb G + 41), .ref (kb G + 42), .ref (kb G + 43), .ref (kb G + 44), .ref (kb G + 45), .ref (kb G + 46), .ref (kb G + 47), .ref (kb G + 48)]) := hM0
  induction d with
  | zero => intro p hd; omega
  | succ d ih =>
    intro p hd hp hp1 hq
    refine go_iload_n 0 (nx := 52) dX7_ring_51 rfl rfl rfl ?_
    refine go_bipush (v := nI 11) (nx := 54) dX7_ring_52 (by decide) rfl ?_
    refine go_icmp_ge 115 (nx := 57) dX7_ring_54 rfl rfl (fun c54 => ?_) (fun c54 => ?_)
    · skip
      refine go_bipush (v := (-9)) (nx := 117) dX7_ring_115 (by decide) rfl ?_
      refine go_reti dX7_ring_117 ⟨_, rfl, rfl⟩ ?_
      have e8 : p = 11 := by have := kle c54; omega
      exact ⟨(rgF_n e8 hq).symm, rfl⟩
    · skip
      refine go_iconst (v := nI 1) (nx := 58) dX7_ring_57 (by decide) rfl ?_
      refine go_istore_n (lv' := [_, _, _]) (nx := 59) dX7_ring_58 rfl (by decide) rfl rfl ?_
      refine go_bipush (v := nI 20) (nx := 61) dX7_ring_59 (by decide) rfl ?_
      refine go_iload_n 1 (nx := 62) dX7_ring_61 rfl rfl rfl ?_
      refine go_iadd (nx := 63) dX7_ring_62 rfl ?_
      refine go_istore_n (lv' := [_, _, _, _]) (nx := 64) dX7_ring_63 rfl (by decide) rfl rfl ?_
      refine Go.sub [0, 1, 2, 3] rfl ?_
      have z9 := knle c54
      have k := l_mring3 (tx := tx) (ν := ν) (i0 := i0) (i1 := i1) hn hM0 hri ha hW (by omega) hp1 hq (fun v h' => v = rgF W ∧ h' = h) (fun e => ⟨(rgF_s hp1 z9 hq e).symm, rfl⟩) (fun e => ih (p + 1) (by omega) (by omega) (by omega) (ff_nn hq (by simp [e]))) 21 p (by omega) (by omega) (Nat.le_refl _)
      rw [show bI (allN (fun i => decide (i < p) || (W (20 + i) == W (20 + (i - p)))) p) = 1 from congrArg bI (allN_iff.mpr fun i hi => by simp [hi]), ← nI_add] at k
      exact k
theorem l_mring1 {G : kG} {n sz : Nat} {tx : Nat → Nat} {ν : mN} {i0 i1 : Option mN} {T : mT} {tr : Int64} {F : Nat → Int32} {h0 : kH} (hn : 49 ≤ n) (hwT : wT T) (hwN : wN T.1 ν) (hP0 : 0 < T.1) (hY : ν.2.2.2.1 ≤ 99) : ∀ (d k : Nat) (h : kH) (a : Nat → Int32), 40 - k < d → k ≤ 40 → mO G F tr sz T h → oHab G T h → oS G (mSp T k ν) h → oSp G ν h → h 45 = .inl (G.2.1, 40, .inl a) → (∀ j, j < k → a j = nI (mW T ν j)) → rfr h0 h → Go G mX7_ring (4, 0, 0) 22 [(1, .int (nI k)), (0, .ref (kb G + 37))] [] (n, 0, 0) h (kQi mX7_ring n (fun v h' => v = rgF (mW T ν) ∧ oS G ν h' ∧ xArr G 42 82 h' ∧ xArr G 45 40 h' ∧ rfr h0 h')) := by
  intro d
  induction d with
  | zero => intro k h a hd; omega
  | succ d ih =>
    intro k h a hd hk HO HH HS HSp hri hj hF
    have hM : h 37 = .inr (7, [.int (F 0), .long tr, .ref (kb G + 38), .int (nI sz), .int (F 4), .int (F 5), .int (F 6), .int (F 7), .int (F 8), .ref (kb G + 39), .ref (kb G + 40), .int (nI T.1), .int (F 12), .int (nI T.2.2.2.1), .int (F 14), .int (nI T.2.2.2.2.1), .int (F 16), .int (nI T.2.2.2.2.2), .int (F 18), .int (F 19), .int (F 20), .ref (kb G + 41), .ref (kb G + 42), .ref (kb G + 43), .ref (kb G + 44), .ref (kb G + 45), .ref (kb G + 46), .ref (kb G + 47), .ref (kb G + 48)]) := HO
    refine go_iload_n 0 (nx := 23) dX7_ring_22 rfl rfl rfl ?_
    refine go_bipush (v := nI 40) (nx := 25) dX7_ring_23 (by decide) rfl ?_
    refine go_icmp_ge 44 (nx := 28) dX7_ring_25 rfl rfl (fun c25 => ?_) (fun c25 => ?_)
    · skip
      have z1 := kle c25
      refine go_aload_n 1 (nx := 45) dX7_ring_44 rfl rfl rfl ?_
      refine go_iconst (v := nI 0) (nx := 46) dX7_ring_45 (by decide) rfl ?_
      refine go_Vv (nx := 49) [_] kc_X7_180 ⟨_, _, rfl⟩ (by omega) hM (m_asideF (tx := tx) (ν := ν) (i0 := i0) (i1 := i1) hn HO HSp HS.xa rfl) dX7_ring_46 rfl rfl (Nat.le_of_ble_eq_true rfl) (Nat.le_of_ble_eq_true rfl) ⟨Nat.le_refl _, Nat.le_refl _⟩ rfl (fun h1 hqh1 => ?_)
      obtain ⟨HS2, hFh1⟩ := hqh1
      have HSp := HSp.fr hFh1 (by omega)
      have HO := HO.fr hFh1 (by omega)
      have hri := (hFh1 45 (by omega)).trans hri
      have hF := hF.tr hFh1 (by omega)
      refine go_iconst (v := nI 1) (nx := 50) dX7_ring_49 (by decide) rfl ?_
      refine go_istore_n (lv' := [_, _]) (nx := 51) dX7_ring_50 rfl (by decide) rfl rfl ?_
      have e8 : k = 40 := by omega
      subst e8
      refine Go.sub [0, 1] rfl ?_
      refine (l_mring2 (tx := tx) (ν := ν) (i0 := i0) (i1 := i1) hn HO hri hj (mW_lt8 hwT hP0) 11 1 (by omega) (by omega) (by omega) rfl).mono ?_
      rintro r z' h' ⟨rfl, q2, v, rfl, rfl, rfl⟩
      exact ⟨rfl, q2, _, rfl, rfl, HS2, HSp.xa, ⟨_, hri⟩, hF⟩
    · skip
      have z1 := knle c25
      refine go_aload_n 1 (nx := 29) dX7_ring_28 rfl rfl rfl ?_
      refine go_gf (nx := 32) fg_X7_32 dX7_ring_29 (by omega) hM rfl rfl ?_
      refine go_iload_n 0 (nx := 33) dX7_ring_32 rfl rfl rfl ?_
      refine go_aload_n 1 (nx := 34) dX7_ring_33 rfl rfl rfl ?_
      refine go_Vi (nx := 37) [] kc_X7_174 ⟨_, _, rfl⟩ (by omega) hM (m_springs hn HO HH HS hwT (wN_sp hwT hwN hP0 k) hP0 (by rw [mSp_y]; omega)) dX7_ring_34 rfl rfl (Nat.le_of_ble_eq_true rfl) (Nat.le_of_ble_eq_true rfl) ⟨Nat.le_refl _, Nat.le_refl _⟩ rfl (fun rh1 h1 hqh1 => ?_)
      obtain ⟨rfl, HS, hFh1⟩ := hqh1
      have HO := HO.fr hFh1 (by omega)
      have HH := HH.fr hFh1 (by omega)
      have HSp := HSp.fr hFh1 (by omega)
      have hri := (hFh1 45 (by omega)).trans hri
      have hF := hF.tr hFh1 (by omega)
      have hM : h1 37 = .inr (7, [.int (F 0), .long tr, .ref (kb G + 38), .int (nI sz), .int (F 4), .int (F 5), .int (F 6), .int (F 7), .int (F 8), .ref (kb G + 39), .ref (kb G + 40), .int (nI T.1), .int (F 12), .int (nI T.2.2.2.1), .int (F 14), .int (nI T.2.2.2.2.1), .int (F 16), .int (nI T.2.2.2.2.2), .int (F 18), .int (F 19), .int (F 20), .ref (kb G + 41), .ref (kb G + 42), .ref (kb G + 43), .ref (kb G + 44), .ref (kb G + 45), .ref (kb G + 46), .ref (kb G + 47), .ref (kb G + 48)]) := HO
      refine go_ias (k) (nx := 38) dX7_ring_37 (by omega) hri rfl z1 (by omega) rfl (fun h2 eh2 fh2 => ?_)
      have hM := (fh2 (37) (by omega)).trans hM
      have hri := eh2
      refine go_iinc 0 (v := nI (k + 1)) (lv' := [_, _]) (nx := 41) dX7_ring_38 rfl (nI_inc k) (by decide) rfl rfl ?_
      refine go_goto 22 dX7_ring_41 rfl ?_
      refine Go.sub [0, 1] rfl ?_
      have fx : kFr 45 46 _ h2 := fun j hj => fh2 j (by omega)
      refine ih (k + 1) _ _ (by omega) (by omega) (HO.fr fx (by omega)) (HH.fr fx (by omega)) (HS.fr fx (by omega)) (HSp.fr fx (by omega)) hri (fun j hj3 => ?_) (hF.tr fx (by omega))
      by_cases e : j = k
      · subst e; rw [pk_us]; rfl
      · rw [pk_un (by omega)]; exact hj j (by omega)
theorem m_ring {G : kG} {n sz : Nat} {h : kH} {tx : Nat → Nat} {ν : mN} {i0 i1 : Option mN} {T : mT} {tr : Int64} (hn : 49 ≤ n) (H : oM G (tx, sz, ν, i0, i1, T, tr) h) (W : wS (tx, sz, ν, i0, i1, T, tr)) : Spi G mX7_ring 4 [.ref (kb G + 37)] n h (fun v h' => v = fRing T ν ∧ oM G (tx, sz, ν, i0, i1, T, tr) h' ∧ kFr 37 49 h h') := by
  obtain ⟨hwT, hwN, hY, hw0, hw1, hsz, htx⟩ := id W
  have hwT : wT T := hwT
  have hwN : wN T.1 ν := hwN
  have hY : ν.2.2.2.1 ≤ 99 := hY
  have hsz : sz ≤ 400 := hsz
  have hP := hwT.1
  obtain ⟨⟨F, HO⟩, -⟩ := id H
  have hM : h 37 = .inr (7, [.int (F 0), .long tr, .ref (kb G + 38), .int (nI sz), .int (F 4), .int (F 5), .int (F 6), .int (F 7), .int (F 8), .ref (kb G + 39), .ref (kb G + 40), .int (nI T.1), .int (F 12), .int (nI T.2.2.2.1), .int (F 14), .int (nI T.2.2.2.2.1), .int (F 16), .int (nI T.2.2.2.2.2), .int (F 18), .int (F 19), .int (F 20), .ref (kb G + 41), .ref (kb G + 42), .ref (kb G + 43), .ref (kb G + 44), .ref (kb G + 45), .ref (kb G + 46), .ref (kb G + 47), .ref (kb G + 48)]) := HO
  refine Spi.of (by decide) (Nat.le_of_ble_eq_true rfl) ?_
  refine Go.loc (lv' := [(0, _)]) rfl ?_
  refine go_aload_n 0 (nx := 1) dX7_ring_0 rfl rfl rfl ?_
  refine go_iconst (v := nI 0) (nx := 2) dX7_ring_1 (by decide) rfl ?_
  refine go_pf (fs' := [_, _, _, _, _, _, _, _, _, _, _, _, _, _, _, _, _, _, _, _, _, _, _, _, _, _, _, _, _]) (nx := 5) (fp_X7_51 _) dX7_ring_2 (by omega) hM (Nat.le_of_ble_eq_true rfl) ⟨rfl, rfl⟩ rfl rfl (fun h1 eh1 fh1 => ?_)
  have hM := eh1
  have hZ : kFr 37 49 h h1 := fun j hj => fh1 j (by omega)
  have H := H.setO (F := upd F 0 (nI 0)) (tr := tr) hM (fun j hj => fh1 j (by omega))
  have H : oM G (tx, sz, ν, i0, i1, T, tr) h1 := H
  obtain ⟨⟨F5, HO⟩, HTm, HKt, HH, HS, HSp, HKe, HRi, HPa, HAh, HDo⟩ := id H
  have HO : mO G F5 tr sz T h1 := HO
  have HTm : oTm G tx sz h1 := HTm
  have HKt : oKt G T h1 := HKt
  have HH : oHab G T h1 := HH
  have HS : oS G ν h1 := HS
  have HKe : oKe G i0 i1 h1 := HKe
  have hM : h1 37 = .inr (7, [.int (F5 0), .long tr, .ref (kb G + 38), .int (nI sz), .int (F5 4), .int (F5 5), .int (F5 6), .int (F5 7), .int (F5 8), .ref (kb G + 39), .ref (kb G + 40), .int (nI T.1), .int (F5 12), .int (nI T.2.2.2.1), .int (F5 14), .int (nI T.2.2.2.2.1), .int (F5 16), .int (nI T.2.2.2.2.2), .int (F5 18), .int (F5 19), .int (F5 20), .ref (kb G + 41), .ref (kb G + 42), .ref (kb G + 43), .ref (kb G + 44), .ref (kb G + 45), .ref (kb G + 46), .ref (kb G + 47), .ref (kb G + 48)]) := HO
  obtain ⟨sa, hs, hs1, hs2, hs3, hs4, hs5⟩ := id HS
  refine go_aload_n 0 (nx := 6) dX7_ring_5 rfl rfl rfl ?_
  refine go_gf (nx := 9) fg_X7_137 dX7_ring_6 (by omega) hM rfl rfl ?_
  refine go_if_ne 15 (nx := 12) dX7_ring_9 rfl rfl (fun c9 => ?_) (fun c9 => ?_)
  · skip
    have z2 : ¬ T.1 = 0 := fun q => c9 (by rw [q]; rfl)
    refine go_aload_n 0 (nx := 16) dX7_ring_15 rfl rfl rfl ?_
    refine go_iconst (v := nI 1) (nx := 17) dX7_ring_16 (by decide) rfl ?_
    refine go_Vv (nx := 20) [_] kc_X7_180 ⟨_, _, rfl⟩ (by omega) hM (m_asideT (tx := tx) (ν := ν) (i0 := i0) (i1 := i1) hn HO HS HSp rfl) dX7_ring_17 rfl rfl (Nat.le_of_ble_eq_true rfl) (Nat.le_of_ble_eq_true rfl) ⟨Nat.le_refl _, Nat.le_refl _⟩ rfl (fun h2 hqh2 => ?_)
    obtain ⟨HSp2, hFh2⟩ := hqh2
    have HO := HO.fr hFh2 (by omega)
    have HH := HH.fr hFh2 (by omega)
    have HS := HS.fr hFh2 (by omega)
    have hF0 : kFr 41 43 _ h2 := hFh2.wide (by omega) (by omega)
    refine go_iconst (v := nI 0) (nx := 21) dX7_ring_20 (by decide) rfl ?_
    refine go_istore_n (lv' := [_, _]) (nx := 22) dX7_ring_21 rfl (by decide) rfl rfl ?_
    obtain ⟨ra, hri⟩ := HRi
    refine Go.sub [0, 1] rfl ?_
    refine (l_mring1 (tx := tx) (i0 := i0) (i1 := i1) hn hwT hwN (by omega) hY 41 0 _ _ (by omega) (by omega) HO HH HS HSp2 ((hF0 45 (by omega)).trans hri) (fun j hj => absurd hj (Nat.not_lt_zero j)) rfr.rf).mono ?_
    rintro r z' h' ⟨rfl, q2, v, rfl, rfl, qS, qX, qR, qF⟩
    refine ⟨rfl, q2, _, rfl, ?_⟩
    rw [fRing, if_neg z2]
    exact ⟨rfl, H.setSp qS qX qR (fun j hj => (qF j hj).trans (hF0 j (by omega))), fun j hj => (qF j (by omega)).trans ((hF0 j (by omega)).trans (hZ j hj))⟩
  · skip
    refine go_bipush (v := (-2)) (nx := 14) dX7_ring_12 (by decide) rfl ?_
    refine go_reti dX7_ring_14 ⟨_, rfl, rfl⟩ ?_
    rw [fRing, if_pos (keq (b := 0) c9 (by omega) (by decide))]
    exact ⟨rfl, H, hZ⟩
