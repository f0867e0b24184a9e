/-! the reference: readsItem -/
def pR (G : kG) (tx : Nat → Nat) (sz : Nat) (tr : Int64) (T : mT) (R : Nat ⊕ (Nat × mT)) (fF fL : Bool) (h : kH) : Prop := match R with
  | .inl j => (∃ dP dF dL dJ wF wL : Int32, pE G tx sz tr T (.inl j) dP dF dL dJ wF wL h) ∧ pD G T T0 h
  | .inr (c2, D2) => pE G tx sz tr T (.inr c2) (nI D2.1) (nI D2.2.2.2.1) (nI D2.2.2.2.2.1) (nI D2.2.2.2.2.2) (bI fF) (bI fL) h ∧ pD G T D2 h
theorem pD.w {G : kG} {T D : mT} {h : kH} (H : pD G T D h) : pD G T T0 h := by
  obtain ⟨a, b, h1, h2, h3, h4, -⟩ := H
  exact ⟨a, b, h1, h2, h3, h4, fun p hp => absurd hp (Nat.not_lt_zero p), fun p hp => absurd hp (Nat.not_lt_zero p)⟩
theorem pQ_pR {G : kG} {tx : Nat → Nat} {sz w c : Nat} {tr : Int64} {T D : mT} {fF fL : Bool} {h : kH} (H : pQ G tx sz tr T (rdP (tSt tx sz) w c D) D (nI D.2.2.2.1) (nI D.2.2.2.2.1) (nI D.2.2.2.2.2) (bI fF) (bI fL) h) : pR G tx sz tr T (rdP (tSt tx sz) w c D) fF fL h := by
  rw [rdP] at H ⊢
  by_cases e1 : rA D w (tSt tx sz c) = true
  · rw [if_pos e1] at H ⊢
    by_cases e2 : rB D (tSt tx sz c) (tSt tx sz (c + 1)) = true
    · rw [if_pos e2] at H ⊢
      exact H
    · rw [if_neg e2] at H ⊢
      exact ⟨⟨_, _, _, _, _, _, H.1⟩, H.2.w⟩
  · rw [if_neg e1] at H ⊢
    exact ⟨⟨_, _, _, _, _, _, H.1⟩, H.2.w⟩
theorem m_ri0 {G : kG} {n sz : Nat} {tx : Nat → Nat} {T D : mT} {tr : Int64} {fF fL : Bool} {c : Nat} {h : kH} (hn : 49 ≤ n) (HE : pE G tx sz tr T (.inr c) (nI D.1) (nI D.2.2.2.1) (nI D.2.2.2.2.1) (nI D.2.2.2.2.2) (bI fF) (bI fL) h) (HD : pD G T D h) (HT : oTm G tx sz h) (h256 : ∀ j, tx j < 256) (hs4 : sz ≤ 400) (hw : wT D) (hP8 : D.1 < 8) : Spv G mX7_readsItem 6 [.ref (kb G + 37), .int (nI 0)] n h (fun h' => pR G tx sz tr T (.inr (c, (D.1 + 1, D.2))) fF fL h' ∧ oTm G tx sz h' ∧ tmr h h') := by
  obtain ⟨th, nx, tk, pl, va, HO, HC⟩ := id HE
  have hM := HO
  unfold pO at hM
  obtain ⟨k, hnk, hk, hti, hnx, hpl, htk⟩ := id HC
  obtain ⟨ka, ba, hkt, hhb, hk1, hb1, hk2, hb2⟩ := id HD
  have hP := hw.1
  have hZ : tmr h h := tmr.rf
  refine Spv.of (by decide) (Nat.le_of_ble_eq_true rfl) ?_
  refine Go.loc (lv' := [(0, _), (1, _)]) rfl ?_
  refine go_iload_n 1 (nx := 1) dX7_readsItem_0 rfl rfl rfl ?_
  refine go_if_ne 44 (nx := 4) dX7_readsItem_1 rfl rfl (fun c1 => False.elim (absurd rfl c1)) (fun c1 => ?_)
  refine go_aload_n 0 (nx := 5) dX7_readsItem_4 rfl rfl rfl ?_
  refine go_gf (nx := 8) fg_X7_13 dX7_readsItem_5 (by omega) hM rfl rfl ?_
  refine go_bipush (v := nI 8) (nx := 10) dX7_readsItem_8 (by decide) rfl ?_
  refine go_aload_n 0 (nx := 11) dX7_readsItem_10 rfl rfl rfl ?_
  refine go_gf (nx := 14) fg_X7_107 dX7_readsItem_11 (by omega) hM rfl rfl ?_
  refine go_iadd (nx := 15) dX7_readsItem_14 rfl ?_
  refine go_iconst (v := nI 0) (nx := 16) dX7_readsItem_15 (by decide) rfl ?_
  refine go_ias (8 + D.1) (nx := 17) dX7_readsItem_16 (by omega) hkt (by rw [nI_add]) (by omega) (by omega) rfl (fun h1 eh1 fh1 => ?_)
  have hM := (fh1 (37) (by omega)).trans hM
  have hhb := (fh1 (40) (by omega)).trans hhb
  have hkt := eh1
  refine go_aload_n 0 (nx := 18) dX7_readsItem_17 rfl rfl rfl ?_
  refine go_gf (nx := 21) fg_X7_16 dX7_readsItem_18 (by omega) hM rfl rfl ?_
  refine go_bipush (v := nI 8) (nx := 23) dX7_readsItem_21 (by decide) rfl ?_
  refine go_aload_n 0 (nx := 24) dX7_readsItem_23 rfl rfl rfl ?_
  refine go_gf (nx := 27) fg_X7_107 dX7_readsItem_24 (by omega) hM rfl rfl ?_
  refine go_iadd (nx := 28) dX7_readsItem_27 rfl ?_
  refine go_bipush (v := (-9)) (nx := 30) dX7_readsItem_28 (by decide) rfl ?_
  refine go_ias (8 + D.1) (nx := 31) dX7_readsItem_30 (by omega) hhb (by rw [nI_add]) (by omega) (by omega) rfl (fun h2 eh2 fh2 => ?_)
  have hM := (fh2 (37) (by omega)).trans hM
  have hkt := (fh2 (39) (by omega)).trans hkt
  have hhb := eh2
  refine go_aload_n 0 (nx := 32) dX7_readsItem_31 rfl rfl rfl ?_
  refine go_dup (nx := 33) dX7_readsItem_32 rfl rfl ?_
  refine go_gf (nx := 36) fg_X7_107 dX7_readsItem_33 (by omega) hM rfl rfl ?_
  refine go_iconst (v := nI 1) (nx := 37) dX7_readsItem_36 (by decide) rfl ?_
  refine go_iadd (nx := 38) dX7_readsItem_37 rfl ?_
  rw [nI_add]
  refine go_pf (fs' := [_, _, _, _, _, _, _, _, _, _, _, _, _, _, _, _, _, _, _, _, _, _, _, _, _, _, _, _, _]) (nx := 41) (fp_X7_107 _) dX7_readsItem_38 (by omega) hM (Nat.le_of_ble_eq_true rfl) ⟨rfl, rfl⟩ rfl rfl (fun h3 eh3 fh3 => ?_)
  have hkt := (fh3 (39) (by omega)).trans hkt
  have hhb := (fh3 (40) (by omega)).trans hhb
  have hM := eh3
  refine go_goto 145 dX7_readsItem_41 rfl ?_
  refine go_retv dX7_readsItem_145 rfl ?_
  have fa : kFr 39 40 h h1 := fun j hj => fh1 j (by omega)
  have fb : kFr 40 41 h1 h2 := fun j hj => fh2 j (by omega)
  have fc : kFr 37 38 h2 h3 := fun j hj => fh3 j (by omega)
  refine ⟨⟨⟨_, _, _, _, _, hM, HC⟩, _, _, hkt, hhb, fun p hp => ?_, fun p hp => ?_, fun p hp => ?_, fun p hp => ?_⟩, ((HT.fr fa (by omega)).fr fb (by omega)).fr fc (by omega), ((hZ.k fa (by omega)).k fb (by omega)).k fc (by omega)⟩
  · rw [pk_un (by omega)]; exact hk1 p hp
  · rw [pk_un (by omega)]; exact hb1 p hp
  · replace hp : p < D.1 + 1 := hp
    by_cases q : p = D.1
    · rw [q, pk_us]
      rw [show row D.2.1 D.1 = 0 from bits_zero.mpr fun i _ => by
        cases e : D.2.1 D.1 i
        · rfl
        · have := (hw.2.1 D.1 i e).1; omega]
    · rw [pk_un (by omega)]; exact hk2 p (by omega)
  · replace hp : p < D.1 + 1 := hp
    by_cases q : p = D.1
    · rw [q, pk_us]
      rw [show D.2.2.1 D.1 = none from by
        cases e : D.2.2.1 D.1 with
        | none => rfl
        | some b => have := (hw.2.2.1 D.1 b e).1; omega]
      rfl
    · rw [pk_un (by omega)]; exact hb2 p (by omega)
theorem m_ri4 {G : kG} {n sz : Nat} {tx : Nat → Nat} {T D : mT} {tr : Int64} {fF fL : Bool} {c : Nat} {h : kH} (hn : 49 ≤ n) (HE : pE G tx sz tr T (.inr c) (nI D.1) (nI D.2.2.2.1) (nI D.2.2.2.2.1) (nI D.2.2.2.2.2) (bI fF) (bI fL) h) (HD : pD G T D h) (HT : oTm G tx sz h) (h256 : ∀ j, tx j < 256) (hs4 : sz ≤ 400) (hw : wT D) : Spv G mX7_readsItem 6 [.ref (kb G + 37), .int (nI 4)] n h (fun h' => pR G tx sz tr T (rdF (tSt tx sz) c D) true fL h' ∧ oTm G tx sz h' ∧ tmr h h') := by
  cases eN : rN (tSt tx sz c) 9 with
  | true =>
    obtain ⟨th, nx, tk, pl, va, HO, HC⟩ := id HE
    have hM := HO
    unfold pO at hM
    obtain ⟨k, hnk, hk, hti, hnx, hpl, htk⟩ := id HC
    refine Spv.of (by decide) (Nat.le_of_ble_eq_true rfl) ?_
    refine Go.loc (lv' := [(0, _), (1, _)]) rfl ?_
    refine go_iload_n 1 (nx := 1) dX7_readsItem_0 rfl rfl rfl ?_
    refine go_if_ne 44 (nx := 4) dX7_readsItem_1 rfl rfl (fun c1 => ?_) (fun c1 => False.elim (absurd c1 (by decide)))
    refine go_iload_n 1 (nx := 45) dX7_readsItem_44 rfl rfl rfl ?_
    refine go_iconst (v := nI 4) (nx := 46) dX7_readsItem_45 (by decide) rfl ?_
    refine go_icmp_ne 68 (nx := 49) dX7_readsItem_46 rfl rfl (fun c46 => False.elim (absurd rfl c46)) (fun c46 => ?_)
    refine go_aload_n 0 (nx := 50) dX7_readsItem_49 rfl rfl rfl ?_
    refine go_aload_n 0 (nx := 51) dX7_readsItem_50 rfl rfl rfl ?_
    refine go_iconst (v := nI 0) (nx := 52) dX7_readsItem_51 (by decide) rfl ?_
    refine go_bipush (v := nI 9) (nx := 54) dX7_readsItem_52 (by decide) rfl ?_
    refine go_Vi (nx := 57) [_, _] kc_X7_110 ⟨_, _, rfl⟩ (by omega) hM (m_number hn HE HT h256 hs4 (by decide) rfl) dX7_readsItem_54 rfl rfl (Nat.le_of_ble_eq_true rfl) (Nat.le_of_ble_eq_true rfl) ⟨Nat.le_refl _, Nat.le_refl _⟩ rfl (fun rh1 h1 hqh1 => ?_)
    obtain ⟨hvh1, HE2, hFh1⟩ := hqh1
    simp only [tkV, tkR, eN, if_true, Bool.false_eq_true, if_false] at hvh1 HE2
    subst hvh1
    obtain ⟨th2, nx2, tk2, pl2, va2, hM, HC2⟩ := HE2
    unfold pO at hM
    refine go_pf (fs' := [_, _, _, _, _, _, _, _, _, _, _, _, _, _, _, _, _, _, _, _, _, _, _, _, _, _, _, _, _]) (nx := 60) (fp_X7_114 _) dX7_readsItem_57 (by omega) hM (Nat.le_of_ble_eq_true rfl) ⟨rfl, rfl⟩ rfl rfl (fun h2 eh2 fh2 => ?_)
    have hM := eh2
    refine go_aload_n 0 (nx := 61) dX7_readsItem_60 rfl rfl rfl ?_
    refine go_iconst (v := nI 1) (nx := 62) dX7_readsItem_61 (by decide) rfl ?_
    refine go_pf (fs' := [_, _, _, _, _, _, _, _, _, _, _, _, _, _, _, _, _, _, _, _, _, _, _, _, _, _, _, _, _]) (nx := 65) (fp_X7_117 _) dX7_readsItem_62 (by omega) hM (Nat.le_of_ble_eq_true rfl) ⟨rfl, rfl⟩ rfl rfl (fun h3 eh3 fh3 => ?_)
    have hM := eh3
    refine go_goto 145 dX7_readsItem_65 rfl ?_
    refine go_retv dX7_readsItem_145 rfl ?_
    have fx : kFr 37 38 h h3 := fun j hj => by rw [fh3 j (by omega), fh2 j (by omega), hFh1 j hj]
    rw [rdF, if_pos eN]
    exact ⟨⟨⟨_, _, _, _, _, hM, HC2⟩, HD.fr fx (by omega)⟩, HT.fr fx (by omega), tmr.rf.k fx (by omega)⟩
  | false =>
    obtain ⟨th, nx, tk, pl, va, HO, HC⟩ := id HE
    have hM := HO
    unfold pO at hM
    obtain ⟨k, hnk, hk, hti, hnx, hpl, htk⟩ := id HC
    refine Spv.of (by decide) (Nat.le_of_ble_eq_true rfl) ?_
    refine Go.loc (lv' := [(0, _), (1, _)]) rfl ?_
    refine go_iload_n 1 (nx := 1) dX7_readsItem_0 rfl rfl rfl ?_
    refine go_if_ne 44 (nx := 4) dX7_readsItem_1 rfl rfl (fun c1 => ?_) (fun c1 => False.elim (absurd c1 (by decide)))
    refine go_iload_n 1 (nx := 45) dX7_readsItem_44 rfl rfl rfl ?_
    refine go_iconst (v := nI 4) (nx := 46) dX7_readsItem_45 (by decide) rfl ?_
    refine go_icmp_ne 68 (nx := 49) dX7_readsItem_46 rfl rfl (fun c46 => False.elim (absurd rfl c46)) (fun c46 => ?_)
    refine go_aload_n 0 (nx := 50) dX7_readsItem_49 rfl rfl rfl ?_
    refine go_aload_n 0 (nx := 51) dX7_readsItem_50 rfl rfl rfl ?_
    refine go_iconst (v := nI 0) (nx := 52) dX7_readsItem_51 (by decide) rfl ?_
    refine go_bipush (v := nI 9) (nx := 54) dX7_readsItem_52 (by decide) rfl ?_
    refine go_Vi (nx := 57) [_, _] kc_X7_110 ⟨_, _, rfl⟩ (by omega) hM (m_number hn HE HT h256 hs4 (by decide) rfl) dX7_readsItem_54 rfl rfl (Nat.le_of_ble_eq_true rfl) (Nat.le_of_ble_eq_true rfl) ⟨Nat.le_refl _, Nat.le_refl _⟩ rfl (fun rh1 h1 hqh1 => ?_)
    obtain ⟨hvh1, HE2, hFh1⟩ := hqh1
    simp only [tkV, tkR, eN, if_true, Bool.false_eq_true, if_false] at hvh1 HE2
    subst hvh1
    obtain ⟨th2, nx2, tk2, pl2, va2, hM⟩ := HE2
    unfold pO at hM
    refine go_pf (fs' := [_, _, _, _, _, _, _, _, _, _, _, _, _, _, _, _, _, _, _, _, _, _, _, _, _, _, _, _, _]) (nx := 60) (fp_X7_114 _) dX7_readsItem_57 (by omega) hM (Nat.le_of_ble_eq_true rfl) ⟨rfl, rfl⟩ rfl rfl (fun h2 eh2 fh2 => ?_)
    have hM := eh2
    refine go_aload_n 0 (nx := 61) dX7_readsItem_60 rfl rfl rfl ?_
    refine go_iconst (v := nI 1) (nx := 62) dX7_readsItem_61 (by decide) rfl ?_
    refine go_pf (fs' := [_, _, _, _, _, _, _, _, _, _, _, _, _, _, _, _, _, _, _, _, _, _, _, _, _, _, _, _, _]) (nx := 65) (fp_X7_117 _) dX7_readsItem_62 (by omega) hM (Nat.le_of_ble_eq_true rfl) ⟨rfl, rfl⟩ rfl rfl (fun h3 eh3 fh3 => ?_)
    have hM := eh3
    refine go_goto 145 dX7_readsItem_65 rfl ?_
    refine go_retv dX7_readsItem_145 rfl ?_
    have fx : kFr 37 38 h h3 := fun j hj => by rw [fh3 j (by omega), fh2 j (by omega), hFh1 j hj]
    rw [rdF, if_neg (by rw [eN]; decide)]
    exact ⟨⟨⟨_, _, _, _, _, _, _, _, _, _, _, hM⟩, (HD.fr fx (by omega)).w⟩, HT.fr fx (by omega), tmr.rf.k fx (by omega)⟩
theorem m_ri5 {G : kG} {n sz : Nat} {tx : Nat → Nat} {T D : mT} {tr : Int64} {fF fL : Bool} {c : Nat} {h : kH} (hn : 49 ≤ n) (HE : pE G tx sz tr T (.inr c) (nI D.1) (nI D.2.2.2.1) (nI D.2.2.2.2.1) (nI D.2.2.2.2.2) (bI fF) (bI fL) h) (HD : pD G T D h) (HT : oTm G tx sz h) (h256 : ∀ j, tx j < 256) (hs4 : sz ≤ 400) (hw : wT D) : Spv G mX7_readsItem 6 [.ref (kb G + 37), .int (nI 5)] n h (fun h' => pR G tx sz tr T (rdL (tSt tx sz) c D) fF true h' ∧ oTm G tx sz h' ∧ tmr h h') := by
  cases eN : rN (tSt tx sz (c + 1)) 7 with
  | true =>
    obtain ⟨th, nx, tk, pl, va, HO, HC⟩ := id HE
    have hM := HO
    unfold pO at hM
    obtain ⟨k, hnk, hk, hti, hnx, hpl, htk⟩ := id HC
    have HT0 := HT
    refine Spv.of (by decide) (Nat.le_of_ble_eq_true rfl) ?_
    refine Go.loc (lv' := [(0, _), (1, _)]) rfl ?_
    refine go_iload_n 1 (nx := 1) dX7_readsItem_0 rfl rfl rfl ?_
    refine go_if_ne 44 (nx := 4) dX7_readsItem_1 rfl rfl (fun c1 => ?_) (fun c1 => False.elim (absurd c1 (by decide)))
    refine go_iload_n 1 (nx := 45) dX7_readsItem_44 rfl rfl rfl ?_
    refine go_iconst (v := nI 4) (nx := 46) dX7_readsItem_45 (by decide) rfl ?_
    refine go_icmp_ne 68 (nx := 49) dX7_readsItem_46 rfl rfl (fun c46 => ?_) (fun c46 => False.elim (absurd c46 (by decide)))
    refine go_iload_n 1 (nx := 69) dX7_readsItem_68 rfl rfl rfl ?_
    refine go_iconst (v := nI 5) (nx := 70) dX7_readsItem_69 (by decide) rfl ?_
    refine go_icmp_ne 140 (nx := 73) dX7_readsItem_70 rfl rfl (fun c70 => False.elim (absurd rfl c70)) (fun c70 => ?_)
    refine go_aload_n 0 (nx := 74) dX7_readsItem_73 rfl rfl rfl ?_
    refine go_aload_n 0 (nx := 75) dX7_readsItem_74 rfl rfl rfl ?_
    refine go_gf (nx := 78) fg_X7_83 dX7_readsItem_75 (by omega) hM rfl rfl ?_
    refine go_iconst (v := nI 1) (nx := 79) dX7_readsItem_78 (by decide) rfl ?_
    refine go_icmp_ne 95 (nx := 82) dX7_readsItem_79 rfl rfl (fun c79 => ?_) (fun c79 => ?_)
    · skip
      refine go_iconst (v := nI 0) (nx := 96) dX7_readsItem_95 (by decide) rfl ?_
      refine go_Vi (nx := 99) [_] kc_X7_103 ⟨_, _, rfl⟩ (by omega) hM (m_takesF hn hM rfl) dX7_readsItem_96 rfl rfl (Nat.le_of_ble_eq_true rfl) (Nat.le_of_ble_eq_true rfl) ⟨Nat.le_refl _, Nat.le_refl _⟩ rfl (fun rh1 h1 hqh1 => ?_)
      obtain ⟨rfl, hM, hFh1⟩ := hqh1
      have h10 := fun q => c79 ((tkv_word htk).mpr q)
      have eL : ¬ (6 ≤ tSt tx sz c ∧ tSt tx sz c ≤ 9) := fun q => h10 (by omega)
      rw [rdL, if_neg eL]
      rw [hpl] at hM
      unfold pO at hM
      have HT := HT.fr hFh1 (by omega)
      refine go_istore_n (lv' := [_, _, _]) (nx := 100) dX7_readsItem_99 rfl (by decide) rfl rfl ?_
      refine go_aload_n 1 (nx := 101) dX7_readsItem_100 rfl rfl rfl ?_
      refine go_iload_n 0 (nx := 102) dX7_readsItem_101 rfl rfl rfl ?_
      refine go_bipush (v := nI 6) (nx := 104) dX7_readsItem_102 (by decide) rfl ?_
      refine go_isub (nx := 105) dX7_readsItem_104 rfl ?_
      skip
      refine go_pf (fs' := [_, _, _, _, _, _, _, _, _, _, _, _, _, _, _, _, _, _, _, _, _, _, _, _, _, _, _, _, _]) (nx := 108) (fp_X7_121 _) dX7_readsItem_105 (by omega) hM (Nat.le_of_ble_eq_true rfl) ⟨rfl, rfl⟩ rfl rfl (fun h2 eh2 fh2 => ?_)
      have hM := eh2
      refine go_aload_n 1 (nx := 109) dX7_readsItem_108 rfl rfl rfl ?_
      refine go_Vi (nx := 112) [] kc_X7_96 ⟨_, _, rfl⟩ (by omega) hM (m_isWell hn hM) dX7_readsItem_109 rfl rfl (Nat.le_of_ble_eq_true rfl) (Nat.le_of_ble_eq_true rfl) ⟨Nat.le_refl _, Nat.le_refl _⟩ rfl (fun rh3 h3 hqh3 => ?_)
      obtain ⟨rfl, rfl⟩ := hqh3
      refine go_if_eq 132 (nx := 115) dX7_readsItem_112 rfl rfl (fun c112 => ?_) (fun c112 => False.elim (c112 (by rw [decide_eq_false (tpl_pos hs4)]; rfl)))
      refine go_aload_n 1 (nx := 133) dX7_readsItem_132 rfl rfl rfl ?_
      refine go_iconst (v := nI 1) (nx := 134) dX7_readsItem_133 (by decide) rfl ?_
      refine go_pf (fs' := [_, _, _, _, _, _, _, _, _, _, _, _, _, _, _, _, _, _, _, _, _, _, _, _, _, _, _, _, _]) (nx := 137) (fp_X7_127 _) dX7_readsItem_134 (by omega) hM (Nat.le_of_ble_eq_true rfl) ⟨rfl, rfl⟩ rfl rfl (fun h4 eh4 fh4 => ?_)
      have hM := eh4
      refine go_goto 145 dX7_readsItem_137 rfl ?_
      refine go_retv dX7_readsItem_145 rfl ?_
      have fx : kFr 37 38 h h4 := fun j hj => by rw [fh4 j (by omega), fh2 j (by omega), hFh1 j hj]
      exact ⟨⟨⟨_, _, _, _, _, _, _, _, _, _, _, hM⟩, (HD.fr fx (by omega)).w⟩, HT0.fr fx (by omega), tmr.rf.k fx (by omega)⟩
    · skip
      refine go_aload_n 0 (nx := 83) dX7_readsItem_82 rfl rfl rfl ?_
      refine go_gf (nx := 86) fg_X7_90 dX7_readsItem_83 (by omega) hM rfl rfl ?_
      refine go_bipush (v := nI 6) (nx := 88) dX7_readsItem_86 (by decide) rfl ?_
      refine go_icmp_lt 95 (nx := 91) dX7_readsItem_88 rfl rfl (fun c88 => ?_) (fun c88 => ?_)
      · skip
        refine go_iconst (v := nI 0) (nx := 96) dX7_readsItem_95 (by decide) rfl ?_
        refine go_Vi (nx := 99) [_] kc_X7_103 ⟨_, _, rfl⟩ (by omega) hM (m_takesF hn hM rfl) dX7_readsItem_96 rfl rfl (Nat.le_of_ble_eq_true rfl) (Nat.le_of_ble_eq_true rfl) ⟨Nat.le_refl _, Nat.le_refl _⟩ rfl (fun rh1 h1 hqh1 => ?_)
        obtain ⟨rfl, hM, hFh1⟩ := hqh1
        have h10 := (tkv_word htk).mp c79
        have hvw := tkv_wv htk h10
        rw [hvw] at c88
        have h6 := klt c88 (by omega) (by decide)
        have eL : ¬ (6 ≤ tSt tx sz c ∧ tSt tx sz c ≤ 9) := fun q => by omega
        rw [rdL, if_neg eL]
        rw [hpl] at hM
        unfold pO at hM
        have HT := HT.fr hFh1 (by omega)
        refine go_istore_n (lv' := [_, _, _]) (nx := 100) dX7_readsItem_99 rfl (by decide) rfl rfl ?_
        refine go_aload_n 1 (nx := 101) dX7_readsItem_100 rfl rfl rfl ?_
        refine go_iload_n 0 (nx := 102) dX7_readsItem_101 rfl rfl rfl ?_
        refine go_bipush (v := nI 6) (nx := 104) dX7_readsItem_102 (by decide) rfl ?_
        refine go_isub (nx := 105) dX7_readsItem_104 rfl ?_
        skip
        refine go_pf (fs' := [_, _, _, _, _, _, _, _, _, _, _, _, _, _, _, _, _, _, _, _, _, _, _, _, _, _, _, _, _]) (nx := 108) (fp_X7_121 _) dX7_readsItem_105 (by omega) hM (Nat.le_of_ble_eq_true rfl) ⟨rfl, rfl⟩ rfl rfl (fun h2 eh2 fh2 => ?_)
        have hM := eh2
        refine go_aload_n 1 (nx := 109) dX7_readsItem_108 rfl rfl rfl ?_
        refine go_Vi (nx := 112) [] kc_X7_96 ⟨_, _, rfl⟩ (by omega) hM (m_isWell hn hM) dX7_readsItem_109 rfl rfl (Nat.le_of_ble_eq_true rfl) (Nat.le_of_ble_eq_true rfl) ⟨Nat.le_refl _, Nat.le_refl _⟩ rfl (fun rh3 h3 hqh3 => ?_)
        obtain ⟨rfl, rfl⟩ := hqh3
        refine go_if_eq 132 (nx := 115) dX7_readsItem_112 rfl rfl (fun c112 => ?_) (fun c112 => False.elim (c112 (by rw [decide_eq_false (tpl_pos hs4)]; rfl)))
        refine go_aload_n 1 (nx := 133) dX7_readsItem_132 rfl rfl rfl ?_
        refine go_iconst (v := nI 1) (nx := 134) dX7_readsItem_133 (by decide) rfl ?_
        refine go_pf (fs' := [_, _, _, _, _, _, _, _, _, _, _, _, _, _, _, _, _, _, _, _, _, _, _, _, _, _, _, _, _]) (nx := 137) (fp_X7_127 _) dX7_readsItem_134 (by omega) hM (Nat.le_of_ble_eq_true rfl) ⟨rfl, rfl⟩ rfl rfl (fun h4 eh4 fh4 => ?_)
        have hM := eh4
        refine go_goto 145 dX7_readsItem_137 rfl ?_
        refine go_retv dX7_readsItem_145 rfl ?_
        have fx : kFr 37 38 h h4 := fun j hj => by rw [fh4 j (by omega), fh2 j (by omega), hFh1 j hj]
        exact ⟨⟨⟨_, _, _, _, _, _, _, _, _, _, _, hM⟩, (HD.fr fx (by omega)).w⟩, HT0.fr fx (by omega), tmr.rf.k fx (by omega)⟩
      · skip
        refine go_iconst (v := nI 1) (nx := 92) dX7_readsItem_91 (by decide) rfl ?_
        refine go_goto 96 dX7_readsItem_92 rfl ?_
        refine go_Vi (nx := 99) [_] kc_X7_103 ⟨_, _, rfl⟩ (by omega) hM (m_takesT hn hM HC HT h256 hs4 rfl) dX7_readsItem_96 rfl rfl (Nat.le_of_ble_eq_true rfl) (Nat.le_of_ble_eq_true rfl) ⟨Nat.le_refl _, Nat.le_refl _⟩ rfl (fun rh1 h1 hqh1 => ?_)
        obtain ⟨rfl, ⟨nx2, tk2, pl2, va2, hM, HC2⟩, hFh1⟩ := hqh1
        have h10 := (tkv_word htk).mp c79
        have hvw := tkv_wv htk h10
        rw [hvw] at c88
        have h6 := knlt c88 (by omega) (by decide)
        have eL : 6 ≤ tSt tx sz c ∧ tSt tx sz c ≤ 9 := ⟨h6, by omega⟩
        rw [rdL, if_pos eL, hvw]
        unfold pO at hM
        have HT := HT.fr hFh1 (by omega)
        refine go_istore_n (lv' := [_, _, _]) (nx := 100) dX7_readsItem_99 rfl (by decide) rfl rfl ?_
        refine go_aload_n 1 (nx := 101) dX7_readsItem_100 rfl rfl rfl ?_
        refine go_iload_n 0 (nx := 102) dX7_readsItem_101 rfl rfl rfl ?_
        refine go_bipush (v := nI 6) (nx := 104) dX7_readsItem_102 (by decide) rfl ?_
        refine go_isub (nx := 105) dX7_readsItem_104 rfl ?_
        rw [pk_sub h6]
        refine go_pf (fs' := [_, _, _, _, _, _, _, _, _, _, _, _, _, _, _, _, _, _, _, _, _, _, _, _, _, _, _, _, _]) (nx := 108) (fp_X7_121 _) dX7_readsItem_105 (by omega) hM (Nat.le_of_ble_eq_true rfl) ⟨rfl, rfl⟩ rfl rfl (fun h2 eh2 fh2 => ?_)
        have hM := eh2
        refine go_aload_n 1 (nx := 109) dX7_readsItem_108 rfl rfl rfl ?_
        refine go_Vi (nx := 112) [] kc_X7_96 ⟨_, _, rfl⟩ (by omega) hM (m_isWell hn hM) dX7_readsItem_109 rfl rfl (Nat.le_of_ble_eq_true rfl) (Nat.le_of_ble_eq_true rfl) ⟨Nat.le_refl _, Nat.le_refl _⟩ rfl (fun rh3 h3 hqh3 => ?_)
        obtain ⟨rfl, rfl⟩ := hqh3
        refine go_if_eq 132 (nx := 115) dX7_readsItem_112 rfl rfl (fun c112 => False.elim (absurd c112 (by decide))) (fun c112 => ?_)
        refine go_iload_n 0 (nx := 116) dX7_readsItem_115 rfl rfl rfl ?_
        refine go_bipush (v := nI 8) (nx := 118) dX7_readsItem_116 (by decide) rfl ?_
        refine go_icmp_ne 132 (nx := 121) dX7_readsItem_118 rfl rfl (fun c118 => ?_) (fun c118 => ?_)
        · skip
          refine go_aload_n 1 (nx := 133) dX7_readsItem_132 rfl rfl rfl ?_
          refine go_iconst (v := nI 1) (nx := 134) dX7_readsItem_133 (by decide) rfl ?_
          refine go_pf (fs' := [_, _, _, _, _, _, _, _, _, _, _, _, _, _, _, _, _, _, _, _, _, _, _, _, _, _, _, _, _]) (nx := 137) (fp_X7_127 _) dX7_readsItem_134 (by omega) hM (Nat.le_of_ble_eq_true rfl) ⟨rfl, rfl⟩ rfl rfl (fun h4 eh4 fh4 => ?_)
          have hM := eh4
          refine go_goto 145 dX7_readsItem_137 rfl ?_
          refine go_retv dX7_readsItem_145 rfl ?_
          have fx : kFr 37 38 h h4 := fun j hj => by rw [fh4 j (by omega), fh2 j (by omega), hFh1 j hj]
          rw [if_neg (fun q => c118 (by rw [q]))]
          exact ⟨⟨⟨_, _, _, _, _, hM, HC2⟩, HD.fr fx (by omega)⟩, HT0.fr fx (by omega), tmr.rf.k fx (by omega)⟩
        · skip
          refine go_aload_n 1 (nx := 122) dX7_readsItem_121 rfl rfl rfl ?_
          refine go_aload_n 1 (nx := 123) dX7_readsItem_122 rfl rfl rfl ?_
          refine go_iconst (v := nI 0) (nx := 124) dX7_readsItem_123 (by decide) rfl ?_
          refine go_bipush (v := nI 7) (nx := 126) dX7_readsItem_124 (by decide) rfl ?_
          refine go_Vi (nx := 129) [_, _] kc_X7_110 ⟨_, _, rfl⟩ (by omega) hM (m_number hn (R := .inr (c + 1)) ⟨_, _, _, _, _, hM, HC2⟩ (HT.fr (fun j hj => fh2 j (by omega) : kFr 37 38 _ _) (by omega)) h256 hs4 (by decide) rfl) dX7_readsItem_126 rfl rfl (Nat.le_of_ble_eq_true rfl) (Nat.le_of_ble_eq_true rfl) ⟨Nat.le_refl _, Nat.le_refl _⟩ rfl (fun rh4 h4 hqh4 => ?_)
          obtain ⟨hvh4, HE2, hFh4⟩ := hqh4
          simp only [tkV, tkR, eN, if_true, Bool.false_eq_true, if_false] at hvh4 HE2
          subst hvh4
          obtain ⟨th3, nx3, tk3, pl3, va3, hM, HC3⟩ := HE2
          unfold pO at hM
          refine go_pf (fs' := [_, _, _, _, _, _, _, _, _, _, _, _, _, _, _, _, _, _, _, _, _, _, _, _, _, _, _, _, _]) (nx := 132) (fp_X7_124 _) dX7_readsItem_129 (by omega) hM (Nat.le_of_ble_eq_true rfl) ⟨rfl, rfl⟩ rfl rfl (fun h5 eh5 fh5 => ?_)
          have hM := eh5
          refine go_aload_n 1 (nx := 133) dX7_readsItem_132 rfl rfl rfl ?_
          refine go_iconst (v := nI 1) (nx := 134) dX7_readsItem_133 (by decide) rfl ?_
          refine go_pf (fs' := [_, _, _, _, _, _, _, _, _, _, _, _, _, _, _, _, _, _, _, _, _, _, _, _, _, _, _, _, _]) (nx := 137) (fp_X7_127 _) dX7_readsItem_134 (by omega) hM (Nat.le_of_ble_eq_true rfl) ⟨rfl, rfl⟩ rfl rfl (fun h6 eh6 fh6 => ?_)
          have hM := eh6
          refine go_goto 145 dX7_readsItem_137 rfl ?_
          refine go_retv dX7_readsItem_145 rfl ?_
          have fx : kFr 37 38 h h6 := fun j hj => by rw [fh6 j (by omega), fh5 j (by omega), hFh4 j hj, fh2 j (by omega), hFh1 j hj]
          have e8 : tSt tx sz c = 8 := keq c118 (by omega) (by decide)
          rw [e8, if_pos rfl, if_pos eN]
          rw [e8] at hM
          exact ⟨⟨⟨_, _, _, _, _, hM, HC3⟩, HD.fr fx (by omega)⟩, HT0.fr fx (by omega), tmr.rf.k fx (by omega)⟩
  | false =>
    obtain ⟨th, nx, tk, pl, va, HO, HC⟩ := id HE
    have hM := HO
    unfold pO at hM
    obtain ⟨k, hnk, hk, hti, hnx, hpl, htk⟩ := id HC
    have HT0 := HT
    refine Spv.of (by decide) (Nat.le_of_ble_eq_true rfl) ?_
    refine Go.loc (lv' := [(0, _), (1, _)]) rfl ?_
    refine go_iload_n 1 (nx := 1) dX7_readsItem_0 rfl rfl rfl ?_
    refine go_if_ne 44 (nx := 4) dX7_readsItem_1 rfl rfl (fun c1 => ?_) (fun c1 => False.elim (absurd c1 (by decide)))
    refine go_iload_n 1 (nx := 45) dX7_readsItem_44 rfl rfl rfl ?_
    refine go_iconst (v := nI 4) (nx := 46) dX7_readsItem_45 (by decide) rfl ?_
    refine go_icmp_ne 68 (nx := 49) dX7_readsItem_46 rfl rfl (fun c46 => ?_) (fun c46 => False.elim (absurd c46 (by decide)))
    refine go_iload_n 1 (nx := 69) dX7_readsItem_68 rfl rfl rfl ?_
    refine go_iconst (v := nI 5) (nx := 70) dX7_readsItem_69 (by decide) rfl ?_
    refine go_icmp_ne 140 (nx := 73) dX7_readsItem_70 rfl rfl (fun c70 => False.elim (absurd rfl c70)) (fun c70 => ?_)
    refine go_aload_n 0 (nx := 74) dX7_readsItem_73 rfl rfl rfl ?_
    refine go_aload_n 0 (nx := 75) dX7_readsItem_74 rfl rfl rfl ?_
    refine go_gf (nx := 78) fg_X7_83 dX7_readsItem_75 (by omega) hM rfl rfl ?_
    refine go_iconst (v := nI 1) (nx := 79) dX7_readsItem_78 (by decide) rfl ?_
    refine go_icmp_ne 95 (nx := 82) dX7_readsItem_79 rfl rfl (fun c79 => ?_) (fun c79 => ?_)
    · skip
      refine go_iconst (v := nI 0) (nx := 96) dX7_readsItem_95 (by decide) rfl ?_
      refine go_Vi (nx := 99) [_] kc_X7_103 ⟨_, _, rfl⟩ (by omega) hM (m_takesF hn hM rfl) dX7_readsItem_96 rfl rfl (Nat.le_of_ble_eq_true rfl) (Nat.le_of_ble_eq_true rfl) ⟨Nat.le_refl _, Nat.le_refl _⟩ rfl (fun rh1 h1 hqh1 => ?_)
      obtain ⟨rfl, hM, hFh1⟩ := hqh1
      have h10 := fun q => c79 ((tkv_word htk).mpr q)
      have eL : ¬ (6 ≤ tSt tx sz c ∧ tSt tx sz c ≤ 9) := fun q => h10 (by omega)
      rw [rdL, if_neg eL]
      rw [hpl] at hM
      unfold pO at hM
      have HT := HT.fr hFh1 (by omega)
      refine go_istore_n (lv' := [_, _, _]) (nx := 100) dX7_readsItem_99 rfl (by decide) rfl rfl ?_
      refine go_aload_n 1 (nx := 101) dX7_readsItem_100 rfl rfl rfl ?_
      refine go_iload_n 0 (nx := 102) dX7_readsItem_101 rfl rfl rfl ?_
      refine go_bipush (v := nI 6) (nx := 104) dX7_readsItem_102 (by decide) rfl ?_
      refine go_isub (nx := 105) dX7_readsItem_104 rfl ?_
      skip
      refine go_pf (fs' := [_, _, _, _, _, _, _, _, _, _, _, _, _, _, _, _, _, _, _, _, _, _, _, _, _, _, _, _, _]) (nx := 108) (fp_X7_121 _) dX7_readsItem_105 (by omega) hM (Nat.le_of_ble_eq_true rfl) ⟨rfl, rfl⟩ rfl rfl (fun h2 eh2 fh2 => ?_)
      have hM := eh2
      refine go_aload_n 1 (nx := 109) dX7_readsItem_108 rfl rfl rfl ?_
      refine go_Vi (nx := 112) [] kc_X7_96 ⟨_, _, rfl⟩ (by omega) hM (m_isWell hn hM) dX7_readsItem_109 rfl rfl (Nat.le_of_ble_eq_true rfl) (Nat.le_of_ble_eq_true rfl) ⟨Nat.le_refl _, Nat.le_refl _⟩ rfl (fun rh3 h3 hqh3 => ?_)
      obtain ⟨rfl, rfl⟩ := hqh3
      refine go_if_eq 132 (nx := 115) dX7_readsItem_112 rfl rfl (fun c112 => ?_) (fun c112 => False.elim (c112 (by rw [decide_eq_false (tpl_pos hs4)]; rfl)))
      refine go_aload_n 1 (nx := 133) dX7_readsItem_132 rfl rfl rfl ?_
      refine go_iconst (v := nI 1) (nx := 134) dX7_readsItem_133 (by decide) rfl ?_
      refine go_pf (fs' := [_, _, _, _, _, _, _, _, _, _, _, _, _, _, _, _, _, _, _, _, _, _, _, _, _, _, _, _, _]) (nx := 137) (fp_X7_127 _) dX7_readsItem_134 (by omega) hM (Nat.le_of_ble_eq_true rfl) ⟨rfl, rfl⟩ rfl rfl (fun h4 eh4 fh4 => ?_)
      have hM := eh4
      refine go_goto 145 dX7_readsItem_137 rfl ?_
      refine go_retv dX7_readsItem_145 rfl ?_
      have fx : kFr 37 38 h h4 := fun j hj => by rw [fh4 j (by omega), fh2 j (by omega), hFh1 j hj]
      exact ⟨⟨⟨_, _, _, _, _, _, _, _, _, _, _, hM⟩, (HD.fr fx (by omega)).w⟩, HT0.fr fx (by omega), tmr.rf.k fx (by omega)⟩
    · skip
      refine go_aload_n 0 (nx := 83) dX7_readsItem_82 rfl rfl rfl ?_
      refine go_gf (nx := 86) fg_X7_90 dX7_readsItem_83 (by omega) hM rfl rfl ?_
      refine go_bipush (v := nI 6) (nx := 88) dX7_readsItem_86 (by decide) rfl ?_
      refine go_icmp_lt 95 (nx := 91) dX7_readsItem_88 rfl rfl (fun c88 => ?_) (fun c88 => ?_)
      · skip
        refine go_iconst (v := nI 0) (nx := 96) dX7_readsItem_95 (by decide) rfl ?_
        refine go_Vi (nx := 99) [_] kc_X7_103 ⟨_, _, rfl⟩ (by omega) hM (m_takesF hn hM rfl) dX7_readsItem_96 rfl rfl (Nat.le_of_ble_eq_true rfl) (Nat.le_of_ble_eq_true rfl) ⟨Nat.le_refl _, Nat.le_refl _⟩ rfl (fun rh1 h1 hqh1 => ?_)
        obtain ⟨rfl, hM, hFh1⟩ := hqh1
        have h10 := (tkv_word htk).mp c79
        have hvw := tkv_wv htk h10
        rw [hvw] at c88
        have h6 := klt c88 (by omega) (by decide)
        have eL : ¬ (6 ≤ tSt tx sz c ∧ tSt tx sz c ≤ 9) := fun q => by omega
        rw [rdL, if_neg eL]
        rw [hpl] at hM
        unfold pO at hM
        have HT := HT.fr hFh1 (by omega)
        refine go_istore_n (lv' := [_, _, _]) (nx := 100) dX7_readsItem_99 rfl (by decide) rfl rfl ?_
        refine go_aload_n 1 (nx := 101) dX7_readsItem_100 rfl rfl rfl ?_
        refine go_iload_n 0 (nx := 102) dX7_readsItem_101 rfl rfl rfl ?_
        refine go_bipush (v := nI 6) (nx := 104) dX7_readsItem_102 (by decide) rfl ?_
        refine go_isub (nx := 105) dX7_readsItem_104 rfl ?_
        skip
        refine go_pf (fs' := [_, _, _, _, _, _, _, _, _, _, _, _, _, _, _, _, _, _, _, _, _, _, _, _, _, _, _, _, _]) (nx := 108) (fp_X7_121 _) dX7_readsItem_105 (by omega) hM (Nat.le_of_ble_eq_true rfl) ⟨rfl, rfl⟩ rfl rfl (fun h2 eh2 fh2 => ?_)
        have hM := eh2
        refine go_aload_n 1 (nx := 109) dX7_readsItem_108 rfl rfl rfl ?_
        refine go_Vi (nx := 112) [] kc_X7_96 ⟨_, _, rfl⟩ (by omega) hM (m_isWell hn hM) dX7_readsItem_109 rfl rfl (Nat.le_of_ble_eq_true rfl) (Nat.le_of_ble_eq_true rfl) ⟨Nat.le_refl _, Nat.le_refl _⟩ rfl (fun rh3 h3 hqh3 => ?_)
        obtain ⟨rfl, rfl⟩ := hqh3
        refine go_if_eq 132 (nx := 115) dX7_readsItem_112 rfl rfl (fun c112 => ?_) (fun c112 => False.elim (c112 (by rw [decide_eq_false (tpl_pos hs4)]; rfl)))
        refine go_aload_n 1 (nx := 133) dX7_readsItem_132 rfl rfl rfl ?_
        refine go_iconst (v := nI 1) (nx := 134) dX7_readsItem_133 (by decide) rfl ?_
        refine go_pf (fs' := [_, _, _, _, _, _, _, _, _, _, _, _, _, _, _, _, _, _, _, _, _, _, _, _, _, _, _, _, _]) (nx := 137) (fp_X7_127 _) dX7_readsItem_134 (by omega) hM (Nat.le_of_ble_eq_true rfl) ⟨rfl, rfl⟩ rfl rfl (fun h4 eh4 fh4 => ?_)
        have hM := eh4
        refine go_goto 145 dX7_readsItem_137 rfl ?_
        refine go_retv dX7_readsItem_145 rfl ?_
        have fx : kFr 37 38 h h4 := fun j hj => by rw [fh4 j (by omega), fh2 j (by omega), hFh1 j hj]
        exact ⟨⟨⟨_, _, _, _, _, _, _, _, _, _, _, hM⟩, (HD.fr fx (by omega)).w⟩, HT0.fr fx (by omega), tmr.rf.k fx (by omega)⟩
      · skip
        refine go_iconst (v := nI 1) (nx := 92) dX7_readsItem_91 (by decide) rfl ?_
        refine go_goto 96 dX7_readsItem_92 rfl ?_
        refine go_Vi (nx := 99) [_] kc_X7_103 ⟨_, _, rfl⟩ (by omega) hM (m_takesT hn hM HC HT h256 hs4 rfl) dX7_readsItem_96 rfl rfl (Nat.le_of_ble_eq_true rfl) (Nat.le_of_ble_eq_true rfl) ⟨Nat.le_refl _, Nat.le_refl _⟩ rfl (fun rh1 h1 hqh1 => ?_)
        obtain ⟨rfl, ⟨nx2, tk2, pl2, va2, hM, HC2⟩, hFh1⟩ := hqh1
        have h10 := (tkv_word htk).mp c79
        have hvw := tkv_wv htk h10
        rw [hvw] at c88
        have h6 := knlt c88 (by omega) (by decide)
        have eL : 6 ≤ tSt tx sz c ∧ tSt tx sz c ≤ 9 := ⟨h6, by omega⟩
        rw [rdL, if_pos eL, hvw]
        unfold pO at hM
        have HT := HT.fr hFh1 (by omega)
        refine go_istore_n (lv' := [_, _, _]) (nx := 100) dX7_readsItem_99 rfl (by decide) rfl rfl ?_
        refine go_aload_n 1 (nx := 101) dX7_readsItem_100 rfl rfl rfl ?_
        refine go_iload_n 0 (nx := 102) dX7_readsItem_101 rfl rfl rfl ?_
        refine go_bipush (v := nI 6) (nx := 104) dX7_readsItem_102 (by decide) rfl ?_
        refine go_isub (nx := 105) dX7_readsItem_104 rfl ?_
        rw [pk_sub h6]
        refine go_pf (fs' := [_, _, _, _, _, _, _, _, _, _, _, _, _, _, _, _, _, _, _, _, _, _, _, _, _, _, _, _, _]) (nx := 108) (fp_X7_121 _) dX7_readsItem_105 (by omega) hM (Nat.le_of_ble_eq_true rfl) ⟨rfl, rfl⟩ rfl rfl (fun h2 eh2 fh2 => ?_)
        have hM := eh2
        refine go_aload_n 1 (nx := 109) dX7_readsItem_108 rfl rfl rfl ?_
        refine go_Vi (nx := 112) [] kc_X7_96 ⟨_, _, rfl⟩ (by omega) hM (m_isWell hn hM) dX7_readsItem_109 rfl rfl (Nat.le_of_ble_eq_true rfl) (Nat.le_of_ble_eq_true rfl) ⟨Nat.le_refl _, Nat.le_refl _⟩ rfl (fun rh3 h3 hqh3 => ?_)
        obtain ⟨rfl, rfl⟩ := hqh3
        refine go_if_eq 132 (nx := 115) dX7_readsItem_112 rfl rfl (fun c112 => False.elim (absurd c112 (by decide))) (fun c112 => ?_)
        refine go_iload_n 0 (nx := 116) dX7_readsItem_115 rfl rfl rfl ?_
        refine go_bipush (v := nI 8) (nx := 118) dX7_readsItem_116 (by decide) rfl ?_
        refine go_icmp_ne 132 (nx := 121) dX7_readsItem_118 rfl rfl (fun c118 => ?_) (fun c118 => ?_)
        · skip
          refine go_aload_n 1 (nx := 133) dX7_readsItem_132 rfl rfl rfl ?_
          refine go_iconst (v := nI 1) (nx := 134) dX7_readsItem_133 (by decide) rfl ?_
          refine go_pf (fs' := [_, _, _, _, _, _, _, _, _, _, _, _, _, _, _, _, _, _, _, _, _, _, _, _, _, _, _, _, _]) (nx := 137) (fp_X7_127 _) dX7_readsItem_134 (by omega) hM (Nat.le_of_ble_eq_true rfl) ⟨rfl, rfl⟩ rfl rfl (fun h4 eh4 fh4 => ?_)
          have hM := eh4
          refine go_goto 145 dX7_readsItem_137 rfl ?_
          refine go_retv dX7_readsItem_145 rfl ?_
          have fx : kFr 37 38 h h4 := fun j hj => by rw [fh4 j (by omega), fh2 j (by omega), hFh1 j hj]
          rw [if_neg (fun q => c118 (by rw [q]))]
          exact ⟨⟨⟨_, _, _, _, _, hM, HC2⟩, HD.fr fx (by omega)⟩, HT0.fr fx (by omega), tmr.rf.k fx (by omega)⟩
        · skip
          refine go_aload_n 1 (nx := 122) dX7_readsItem_121 rfl rfl rfl ?_
          refine go_aload_n 1 (nx := 123) dX7_readsItem_122 rfl rfl rfl ?_
          refine go_iconst (v := nI 0) (nx := 124) dX7_readsItem_123 (by decide) rfl ?_
          refine go_bipush (v := nI 7) (nx := 126) dX7_readsItem_124 (by decide) rfl ?_
          refine go_Vi (nx := 129) [_, _] kc_X7_110 ⟨_, _, rfl⟩ (by omega) hM (m_number hn (R := .inr (c + 1)) ⟨_, _, _, _, _, hM, HC2⟩ (HT.fr (fun j hj => fh2 j (by omega) : kFr 37 38 _ _) (by omega)) h256 hs4 (by decide) rfl) dX7_readsItem_126 rfl rfl (Nat.le_of_ble_eq_true rfl) (Nat.le_of_ble_eq_true rfl) ⟨Nat.le_refl _, Nat.le_refl _⟩ rfl (fun rh4 h4 hqh4 => ?_)
          obtain ⟨hvh4, HE2, hFh4⟩ := hqh4
          simp only [tkV, tkR, eN, if_true, Bool.false_eq_true, if_false] at hvh4 HE2
          subst hvh4
          obtain ⟨th3, nx3, tk3, pl3, va3, hM⟩ := HE2
          unfold pO at hM
          refine go_pf (fs' := [_, _, _, _, _, _, _, _, _, _, _, _, _, _, _, _, _, _, _, _, _, _, _, _, _, _, _, _, _]) (nx := 132) (fp_X7_124 _) dX7_readsItem_129 (by omega) hM (Nat.le_of_ble_eq_true rfl) ⟨rfl, rfl⟩ rfl rfl (fun h5 eh5 fh5 => ?_)
          have hM := eh5
          refine go_aload_n 1 (nx := 133) dX7_readsItem_132 rfl rfl rfl ?_
          refine go_iconst (v := nI 1) (nx := 134) dX7_readsItem_133 (by decide) rfl ?_
          refine go_pf (fs' := [_, _, _, _, _, _, _, _, _, _, _, _, _, _, _, _, _, _, _, _, _, _, _, _, _, _, _, _, _]) (nx := 137) (fp_X7_127 _) dX7_readsItem_134 (by omega) hM (Nat.le_of_ble_eq_true rfl) ⟨rfl, rfl⟩ rfl rfl (fun h6 eh6 fh6 => ?_)
          have hM := eh6
          refine go_goto 145 dX7_readsItem_137 rfl ?_
          refine go_retv dX7_readsItem_145 rfl ?_
          have fx : kFr 37 38 h h6 := fun j hj => by rw [fh6 j (by omega), fh5 j (by omega), hFh4 j hj, fh2 j (by omega), hFh1 j hj]
          have e8 : tSt tx sz c = 8 := keq c118 (by omega) (by decide)
          rw [e8, if_pos rfl, if_neg (by rw [eN]; decide)]
          exact ⟨⟨⟨_, _, _, _, _, _, _, _, _, _, _, hM⟩, (HD.fr fx (by omega)).w⟩, HT0.fr fx (by omega), tmr.rf.k fx (by omega)⟩
theorem m_ri3 {G : kG} {n sz : Nat} {tx : Nat → Nat} {T D : mT} {tr : Int64} {fF fL : Bool} {c : Nat} {h : kH} (hn : 49 ≤ n) (HE : pE G tx sz tr T (.inr c) (nI D.1) (nI D.2.2.2.1) (nI D.2.2.2.2.1) (nI D.2.2.2.2.2) (bI fF) (bI fL) h) (HD : pD G T D h) (HT : oTm G tx sz h) (h256 : ∀ j, tx j < 256) (hs4 : sz ≤ 400) (hw : wT D) {w : Nat} (hw3 : w = 1 ∨ w = 2 ∨ w = 3) : Spv G mX7_readsItem 6 [.ref (kb G + 37), .int (nI w)] n h (fun h' => pR G tx sz tr T (rdP (tSt tx sz) w c D) fF fL h' ∧ oTm G tx sz h' ∧ tmr h h') := by
  obtain ⟨th, nx, tk, pl, va, HO, HC⟩ := id HE
  have hM := HO
  unfold pO at hM
  obtain ⟨k, hnk, hk, hti, hnx, hpl, htk⟩ := id HC
  have w0 : ¬ nI w = 0 := fun q => by have := keq (b := 0) q (by omega) (by decide); omega
  have w4 : ¬ nI w = nI 4 := fun q => by have := keq q (by omega) (by decide); omega
  have w5 : ¬ nI w = nI 5 := fun q => by have := keq q (by omega) (by decide); omega
  refine Spv.of (by decide) (Nat.le_of_ble_eq_true rfl) ?_
  refine Go.loc (lv' := [(0, _), (1, _)]) rfl ?_
  refine go_iload_n 1 (nx := 1) dX7_readsItem_0 rfl rfl rfl ?_
  refine go_if_ne 44 (nx := 4) dX7_readsItem_1 rfl rfl (fun c1 => ?_) (fun c1 => False.elim (w0 c1))
  refine go_iload_n 1 (nx := 45) dX7_readsItem_44 rfl rfl rfl ?_
  refine go_iconst (v := nI 4) (nx := 46) dX7_readsItem_45 (by decide) rfl ?_
  refine go_icmp_ne 68 (nx := 49) dX7_readsItem_46 rfl rfl (fun c46 => ?_) (fun c46 => False.elim (w4 c46))
  refine go_iload_n 1 (nx := 69) dX7_readsItem_68 rfl rfl rfl ?_
  refine go_iconst (v := nI 5) (nx := 70) dX7_readsItem_69 (by decide) rfl ?_
  refine go_icmp_ne 140 (nx := 73) dX7_readsItem_70 rfl rfl (fun c70 => ?_) (fun c70 => False.elim (w5 c70))
  refine go_aload_n 0 (nx := 141) dX7_readsItem_140 rfl rfl rfl ?_
  refine go_iload_n 1 (nx := 142) dX7_readsItem_141 rfl rfl rfl ?_
  refine go_Vv (nx := 145) [_] kc_X7_130 ⟨_, _, rfl⟩ (by omega) hM (m_readsTwo hn HE HD HT h256 hs4 hw rfl (by omega)) dX7_readsItem_142 rfl rfl (Nat.le_of_ble_eq_true rfl) (Nat.le_of_ble_eq_true rfl) ⟨Nat.le_refl _, Nat.le_refl _⟩ rfl (fun h1 hqh1 => ?_)
  obtain ⟨HQ, HT2, hR⟩ := hqh1
  refine go_retv dX7_readsItem_145 rfl ?_
  exact ⟨pQ_pR HQ, HT2, hR⟩
