/-! begin, copyFrom, fewestAsks, isParty, spring -/
theorem l_begin {G : kG} {n q t : Nat} {h0 : kH} {T : mT} {si cr : Nat → Int32} {rg yr la : Int32} (hq : q + 5 ≤ n) (ht : t + 3 ≤ n) (hd0 : t + 3 ≤ q ∨ q + 5 ≤ t) : ∀ (d p : Nat) (kn ct : Nat → Int32) (h : kH), 8 - p < d → p ≤ 8 → rNow G q kn ct si cr rg yr la h → oTown G t T h → kFr q (q + 5) h0 h → (∀ b, b < p → kn b = nI (col T.2.1 b) ∧ ct b = nI (cnt T.2.1 b)) → Go G mX2_begin (2, 0, 0) 2 [(2, .int (nI p)), (0, .ref (kb G + q)), (1, .ref (kb G + t))] [] (n, 0, 0) h (kQv mX2_begin n (fun h' => oNow G q (T.2.1, fun _ => -1, fun _ => 0, 0, -9) h' ∧ kFr q (q + 5) h0 h')) := by
  intro d
  induction d with
  | zero => intro p kn ct h hd; omega
  | succ d ih =>
    intro p kn ct h hd hp H HT hF hb
    obtain ⟨hN, hkn, hct, hsi, hcr⟩ := H
    obtain ⟨tk, tc, ⟨hT, htk, htc⟩, hTk, hTc⟩ := id HT
    refine go_iload_n 0 (nx := 3) dX2_begin_2 rfl rfl rfl ?_
    refine go_bipush (v := nI 8) (nx := 5) dX2_begin_3 (by decide) rfl ?_
    refine go_icmp_ge 27 (nx := 8) dX2_begin_5 rfl rfl (fun c5 => ?_) (fun c5 => ?_)
    · skip
      refine go_aload_n 1 (nx := 28) dX2_begin_27 rfl rfl rfl ?_
      refine go_gf (nx := 31) fg_X2_18 dX2_begin_28 (by omega) hN rfl rfl ?_
      refine go_iconst (v := (-1)) (nx := 32) dX2_begin_31 (by decide) rfl ?_
      refine go_SNv (nx := 35) [_, _] kc_X2_35 (s_fill (by omega) hsi (by omega)) dX2_begin_32 rfl rfl (Nat.le_of_ble_eq_true rfl) (Nat.le_of_ble_eq_true rfl) ⟨Nat.le_refl _, Nat.le_refl _⟩ rfl (fun h1 hqh1 => ?_)
      obtain ⟨⟨gs, hgh1, eh1⟩, fh1⟩ := hqh1
      have hN := (fh1 (q) (by omega)).trans hN
      have hkn := (fh1 (q + 1) (by omega)).trans hkn
      have hct := (fh1 (q + 2) (by omega)).trans hct
      have hcr := (fh1 (q + 4) (by omega)).trans hcr
      have hT := (fh1 (t) (by omega)).trans hT
      have htk := (fh1 (t + 1) (by omega)).trans htk
      have htc := (fh1 (t + 2) (by omega)).trans htc
      have hsi := eh1
      have hF := hF.tr (fun j hj => fh1 j (by omega))
      refine go_aload_n 1 (nx := 36) dX2_begin_35 rfl rfl rfl ?_
      refine go_gf (nx := 39) fg_X2_21 dX2_begin_36 (by omega) hN rfl rfl ?_
      refine go_iconst (v := nI 0) (nx := 40) dX2_begin_39 (by decide) rfl ?_
      refine go_SNv (nx := 43) [_, _] kc_X2_35 (s_fill (by omega) hcr (by omega)) dX2_begin_40 rfl rfl (Nat.le_of_ble_eq_true rfl) (Nat.le_of_ble_eq_true rfl) ⟨Nat.le_refl _, Nat.le_refl _⟩ rfl (fun h2 hqh2 => ?_)
      obtain ⟨⟨gc, hgh2, eh2⟩, fh2⟩ := hqh2
      have hN := (fh2 (q) (by omega)).trans hN
      have hkn := (fh2 (q + 1) (by omega)).trans hkn
      have hct := (fh2 (q + 2) (by omega)).trans hct
      have hsi := (fh2 (q + 3) (by omega)).trans hsi
      have hT := (fh2 (t) (by omega)).trans hT
      have htk := (fh2 (t + 1) (by omega)).trans htk
      have htc := (fh2 (t + 2) (by omega)).trans htc
      have hcr := eh2
      have hF := hF.tr (fun j hj => fh2 j (by omega))
      refine go_aload_n 1 (nx := 44) dX2_begin_43 rfl rfl rfl ?_
      refine go_iconst (v := nI 0) (nx := 45) dX2_begin_44 (by decide) rfl ?_
      refine go_pf (fs' := [_, _, _, _, _, _, _]) (nx := 48) (fp_X2_39 _) dX2_begin_45 (by omega) hN (Nat.le_of_ble_eq_true rfl) ⟨rfl, rfl⟩ rfl rfl (fun h3 eh3 fh3 => ?_)
      have hkn := (fh3 (q + 1) (by omega)).trans hkn
      have hct := (fh3 (q + 2) (by omega)).trans hct
      have hsi := (fh3 (q + 3) (by omega)).trans hsi
      have hcr := (fh3 (q + 4) (by omega)).trans hcr
      have hT := (fh3 (t) (by omega)).trans hT
      have htk := (fh3 (t + 1) (by omega)).trans htk
      have htc := (fh3 (t + 2) (by omega)).trans htc
      have hN := eh3
      have hF := hF.tr (fun j hj => fh3 j (by omega))
      refine go_aload_n 1 (nx := 49) dX2_begin_48 rfl rfl rfl ?_
      refine go_iconst (v := nI 0) (nx := 50) dX2_begin_49 (by decide) rfl ?_
      refine go_pf (fs' := [_, _, _, _, _, _, _]) (nx := 53) (fp_X2_43 _) dX2_begin_50 (by omega) hN (Nat.le_of_ble_eq_true rfl) ⟨rfl, rfl⟩ rfl rfl (fun h4 eh4 fh4 => ?_)
      have hkn := (fh4 (q + 1) (by omega)).trans hkn
      have hct := (fh4 (q + 2) (by omega)).trans hct
      have hsi := (fh4 (q + 3) (by omega)).trans hsi
      have hcr := (fh4 (q + 4) (by omega)).trans hcr
      have hT := (fh4 (t) (by omega)).trans hT
      have htk := (fh4 (t + 1) (by omega)).trans htk
      have htc := (fh4 (t + 2) (by omega)).trans htc
      have hN := eh4
      have hF := hF.tr (fun j hj => fh4 j (by omega))
      refine go_aload_n 1 (nx := 54) dX2_begin_53 rfl rfl rfl ?_
      refine go_bipush (v := (-9)) (nx := 56) dX2_begin_54 (by decide) rfl ?_
      refine go_pf (fs' := [_, _, _, _, _, _, _]) (nx := 59) (fp_X2_46 _) dX2_begin_56 (by omega) hN (Nat.le_of_ble_eq_true rfl) ⟨rfl, rfl⟩ rfl rfl (fun h5 eh5 fh5 => ?_)
      have hkn := (fh5 (q + 1) (by omega)).trans hkn
      have hct := (fh5 (q + 2) (by omega)).trans hct
      have hsi := (fh5 (q + 3) (by omega)).trans hsi
      have hcr := (fh5 (q + 4) (by omega)).trans hcr
      have hT := (fh5 (t) (by omega)).trans hT
      have htk := (fh5 (t + 1) (by omega)).trans htk
      have htc := (fh5 (t + 2) (by omega)).trans htc
      have hN := eh5
      have hF := hF.tr (fun j hj => fh5 j (by omega))
      refine go_retv dX2_begin_59 rfl ?_
      have e8 : p = 8 := by have := kle c5; omega
      subst e8
      exact ⟨⟨kn, ct, gs, gc, ⟨hN, hkn, hct, hsi, hcr⟩, fun b h => (hb b h).1, fun b h => (hb b h).2, hgh1, hgh2⟩, hF⟩
    · skip
      refine go_aload_n 1 (nx := 9) dX2_begin_8 rfl rfl rfl ?_
      refine go_iload_n 0 (nx := 10) dX2_begin_9 rfl rfl rfl ?_
      refine go_aload_n 2 (nx := 11) dX2_begin_10 rfl rfl rfl ?_
      refine go_gf (nx := 14) fg_X2_24 dX2_begin_11 (by omega) hT rfl rfl ?_
      refine go_iload_n 0 (nx := 15) dX2_begin_14 rfl rfl rfl ?_
      refine go_SNi (nx := 18) [_, _] kc_X2_27 (s_at_in (by omega) htk (by omega) rfl (knle c5)) dX2_begin_15 rfl rfl (Nat.le_of_ble_eq_true rfl) (Nat.le_of_ble_eq_true rfl) ⟨Nat.le_refl _, Nat.le_refl _⟩ rfl (fun rh1 h1 hqh1 => ?_)
      obtain ⟨rfl, rfl⟩ := hqh1
      refine go_Vv (nx := 21) [_, _] kc_X2_31 ⟨_, _, rfl⟩ (by omega) hN (s_setKnowers hq ⟨hN, hkn, hct, hsi, hcr⟩ rfl (knle c5) (by rw [hTk p (knle c5)]) (col_lt _ _)) dX2_begin_18 rfl rfl (Nat.le_of_ble_eq_true rfl) (Nat.le_of_ble_eq_true rfl) ⟨Nat.le_refl _, Nat.le_refl _⟩ rfl (fun h2 hqh2 => ?_)
      obtain ⟨hR1, hFh2⟩ := hqh2
      have hF := hF.tr hFh2
      have HT := HT.fr hFh2 (by omega)
      refine go_iinc 0 (v := nI (p + 1)) (lv' := [_, _, _]) (nx := 24) dX2_begin_21 rfl (nI_inc p) (by decide) rfl rfl ?_
      refine go_goto 2 dX2_begin_24 rfl ?_
      refine Go.sub [0, 1, 2] rfl ?_
      have h8 := knle c5
      refine ih (p + 1) _ _ _ (by omega) (by omega) hR1 HT hF (fun b hb2 => ?_)
      by_cases e : b = p
      · subst e; rw [pk_us, pk_us, cnt_popc]; exact ⟨rfl, rfl⟩
      · rw [pk_un e, pk_un e]; exact hb b (by omega)
theorem s_begin {G : kG} {n q t : Nat} {h : kH} {T : mT} {kn ct si cr : Nat → Int32} {rg yr la : Int32} (hq : q + 5 ≤ n) (ht : t + 3 ≤ n) (hd0 : t + 3 ≤ q ∨ q + 5 ≤ t) (H : rNow G q kn ct si cr rg yr la h) (HT : oTown G t T h) : Spv G mX2_begin 2 [.ref (kb G + q), .ref (kb G + t)] n h (fun h' => oNow G q (T.2.1, fun _ => -1, fun _ => 0, 0, -9) h' ∧ kFr q (q + 5) h h') := by
  refine Spv.of (by decide) (Nat.le_of_ble_eq_true rfl) ?_
  refine go_iconst (v := nI 0) (nx := 1) dX2_begin_0 (by decide) rfl ?_
  refine go_istore_n (lv' := [_, _, _]) (nx := 2) dX2_begin_1 rfl (by decide) rfl rfl ?_
  exact l_begin hq ht hd0 9 0 kn ct h (by omega) (by omega) H HT kFr.rf (fun b hb => absurd hb (Nat.not_lt_zero b))
theorem s_copyFrom {G : kG} {n q q2 : Nat} {h : kH} {ν : mN} {kn ct si cr : Nat → Int32} {rg yr la : Int32} (hq : q + 5 ≤ n) (hq2 : q2 + 5 ≤ n) (hd0 : q2 + 5 ≤ q ∨ q + 5 ≤ q2) (H : rNow G q kn ct si cr rg yr la h) (H2 : oNow G q2 ν h) : Spv G mX2_copyFrom 1 [.ref (kb G + q), .ref (kb G + q2)] n h (fun h' => oNow G q ν h' ∧ kFr q (q + 5) h h') := by
  obtain ⟨hN, hkn, hct, hsi, hcr⟩ := H
  obtain ⟨mkn, mct, msi, mcr, ⟨hM, hmkn, hmct, hmsi, hmcr⟩, hK, hC, hS, hR⟩ := H2
  have hF : kFr q (q + 5) h h := kFr.rf
  refine Spv.of (by decide) (Nat.le_of_ble_eq_true rfl) ?_
  refine go_aload_n 1 (nx := 1) dX2_copyFrom_0 rfl rfl rfl ?_
  refine go_gf (nx := 4) fg_X2_9 dX2_copyFrom_1 (by omega) hM rfl rfl ?_
  refine go_aload_n 0 (nx := 5) dX2_copyFrom_4 rfl rfl rfl ?_
  refine go_gf (nx := 8) fg_X2_9 dX2_copyFrom_5 (by omega) hN rfl rfl ?_
  refine go_SNv (nx := 11) [_, _] kc_X2_49 (s_copy (by omega) (by omega) (by omega) hmkn hkn (by omega)) dX2_copyFrom_8 rfl rfl (Nat.le_of_ble_eq_true rfl) (Nat.le_of_ble_eq_true rfl) ⟨Nat.le_refl _, Nat.le_refl _⟩ rfl (fun h1 hqh1 => ?_)
  obtain ⟨⟨g1, hgh1, eh1⟩, fh1⟩ := hqh1
  have hN := (fh1 (q) (by omega)).trans hN
  have hct := (fh1 (q + 2) (by omega)).trans hct
  have hsi := (fh1 (q + 3) (by omega)).trans hsi
  have hcr := (fh1 (q + 4) (by omega)).trans hcr
  have hM := (fh1 (q2) (by omega)).trans hM
  have hmkn := (fh1 (q2 + 1) (by omega)).trans hmkn
  have hmct := (fh1 (q2 + 2) (by omega)).trans hmct
  have hmsi := (fh1 (q2 + 3) (by omega)).trans hmsi
  have hmcr := (fh1 (q2 + 4) (by omega)).trans hmcr
  have hkn := eh1
  have hF := hF.tr (fun j hj => fh1 j (by omega))
  refine go_aload_n 1 (nx := 12) dX2_copyFrom_11 rfl rfl rfl ?_
  refine go_gf (nx := 15) fg_X2_15 dX2_copyFrom_12 (by omega) hM rfl rfl ?_
  refine go_aload_n 0 (nx := 16) dX2_copyFrom_15 rfl rfl rfl ?_
  refine go_gf (nx := 19) fg_X2_15 dX2_copyFrom_16 (by omega) hN rfl rfl ?_
  refine go_SNv (nx := 22) [_, _] kc_X2_49 (s_copy (by omega) (by omega) (by omega) hmct hct (by omega)) dX2_copyFrom_19 rfl rfl (Nat.le_of_ble_eq_true rfl) (Nat.le_of_ble_eq_true rfl) ⟨Nat.le_refl _, Nat.le_refl _⟩ rfl (fun h2 hqh2 => ?_)
  obtain ⟨⟨g2, hgh2, eh2⟩, fh2⟩ := hqh2
  have hN := (fh2 (q) (by omega)).trans hN
  have hkn := (fh2 (q + 1) (by omega)).trans hkn
  have hsi := (fh2 (q + 3) (by omega)).trans hsi
  have hcr := (fh2 (q + 4) (by omega)).trans hcr
  have hM := (fh2 (q2) (by omega)).trans hM
  have hmkn := (fh2 (q2 + 1) (by omega)).trans hmkn
  have hmct := (fh2 (q2 + 2) (by omega)).trans hmct
  have hmsi := (fh2 (q2 + 3) (by omega)).trans hmsi
  have hmcr := (fh2 (q2 + 4) (by omega)).trans hmcr
  have hct := eh2
  have hF := hF.tr (fun j hj => fh2 j (by omega))
  refine go_aload_n 1 (nx := 23) dX2_copyFrom_22 rfl rfl rfl ?_
  refine go_gf (nx := 26) fg_X2_18 dX2_copyFrom_23 (by omega) hM rfl rfl ?_
  refine go_aload_n 0 (nx := 27) dX2_copyFrom_26 rfl rfl rfl ?_
  refine go_gf (nx := 30) fg_X2_18 dX2_copyFrom_27 (by omega) hN rfl rfl ?_
  refine go_SNv (nx := 33) [_, _] kc_X2_49 (s_copy (by omega) (by omega) (by omega) hmsi hsi (by omega)) dX2_copyFrom_30 rfl rfl (Nat.le_of_ble_eq_true rfl) (Nat.le_of_ble_eq_true rfl) ⟨Nat.le_refl _, Nat.le_refl _⟩ rfl (fun h3 hqh3 => ?_)
  obtain ⟨⟨g3, hgh3, eh3⟩, fh3⟩ := hqh3
  have hN := (fh3 (q) (by omega)).trans hN
  have hkn := (fh3 (q + 1) (by omega)).trans hkn
  have hct := (fh3 (q + 2) (by omega)).trans hct
  have hcr := (fh3 (q + 4) (by omega)).trans hcr
  have hM := (fh3 (q2) (by omega)).trans hM
  have hmkn := (fh3 (q2 + 1) (by omega)).trans hmkn
  have hmct := (fh3 (q2 + 2) (by omega)).trans hmct
  have hmsi := (fh3 (q2 + 3) (by omega)).trans hmsi
  have hmcr := (fh3 (q2 + 4) (by omega)).trans hmcr
  have hsi := eh3
  have hF := hF.tr (fun j hj => fh3 j (by omega))
  refine go_aload_n 1 (nx := 34) dX2_copyFrom_33 rfl rfl rfl ?_
  refine go_gf (nx := 37) fg_X2_21 dX2_copyFrom_34 (by omega) hM rfl rfl ?_
  refine go_aload_n 0 (nx := 38) dX2_copyFrom_37 rfl rfl rfl ?_
  refine go_gf (nx := 41) fg_X2_21 dX2_copyFrom_38 (by omega) hN rfl rfl ?_
  refine go_SNv (nx := 44) [_, _] kc_X2_49 (s_copy (by omega) (by omega) (by omega) hmcr hcr (by omega)) dX2_copyFrom_41 rfl rfl (Nat.le_of_ble_eq_true rfl) (Nat.le_of_ble_eq_true rfl) ⟨Nat.le_refl _, Nat.le_refl _⟩ rfl (fun h4 hqh4 => ?_)
  obtain ⟨⟨g4, hgh4, eh4⟩, fh4⟩ := hqh4
  have hN := (fh4 (q) (by omega)).trans hN
  have hkn := (fh4 (q + 1) (by omega)).trans hkn
  have hct := (fh4 (q + 2) (by omega)).trans hct
  have hsi := (fh4 (q + 3) (by omega)).trans hsi
  have hM := (fh4 (q2) (by omega)).trans hM
  have hmkn := (fh4 (q2 + 1) (by omega)).trans hmkn
  have hmct := (fh4 (q2 + 2) (by omega)).trans hmct
  have hmsi := (fh4 (q2 + 3) (by omega)).trans hmsi
  have hmcr := (fh4 (q2 + 4) (by omega)).trans hmcr
  have hcr := eh4
  have hF := hF.tr (fun j hj => fh4 j (by omega))
  refine go_aload_n 0 (nx := 45) dX2_copyFrom_44 rfl rfl rfl ?_
  refine go_aload_n 1 (nx := 46) dX2_copyFrom_45 rfl rfl rfl ?_
  refine go_gf (nx := 49) fg_X2_39 dX2_copyFrom_46 (by omega) hM rfl rfl ?_
  refine go_pf (fs' := [_, _, _, _, _, _, _]) (nx := 52) (fp_X2_39 _) dX2_copyFrom_49 (by omega) hN (Nat.le_of_ble_eq_true rfl) ⟨rfl, rfl⟩ rfl rfl (fun h5 eh5 fh5 => ?_)
  have hkn := (fh5 (q + 1) (by omega)).trans hkn
  have hct := (fh5 (q + 2) (by omega)).trans hct
  have hsi := (fh5 (q + 3) (by omega)).trans hsi
  have hcr := (fh5 (q + 4) (by omega)).trans hcr
  have hM := (fh5 (q2) (by omega)).trans hM
  have hmkn := (fh5 (q2 + 1) (by omega)).trans hmkn
  have hmct := (fh5 (q2 + 2) (by omega)).trans hmct
  have hmsi := (fh5 (q2 + 3) (by omega)).trans hmsi
  have hmcr := (fh5 (q2 + 4) (by omega)).trans hmcr
  have hN := eh5
  have hF := hF.tr (fun j hj => fh5 j (by omega))
  refine go_aload_n 0 (nx := 53) dX2_copyFrom_52 rfl rfl rfl ?_
  refine go_aload_n 1 (nx := 54) dX2_copyFrom_53 rfl rfl rfl ?_
  refine go_gf (nx := 57) fg_X2_43 dX2_copyFrom_54 (by omega) hM rfl rfl ?_
  refine go_pf (fs' := [_, _, _, _, _, _, _]) (nx := 60) (fp_X2_43 _) dX2_copyFrom_57 (by omega) hN (Nat.le_of_ble_eq_true rfl) ⟨rfl, rfl⟩ rfl rfl (fun h6 eh6 fh6 => ?_)
  have hkn := (fh6 (q + 1) (by omega)).trans hkn
  have hct := (fh6 (q + 2) (by omega)).trans hct
  have hsi := (fh6 (q + 3) (by omega)).trans hsi
  have hcr := (fh6 (q + 4) (by omega)).trans hcr
  have hM := (fh6 (q2) (by omega)).trans hM
  have hmkn := (fh6 (q2 + 1) (by omega)).trans hmkn
  have hmct := (fh6 (q2 + 2) (by omega)).trans hmct
  have hmsi := (fh6 (q2 + 3) (by omega)).trans hmsi
  have hmcr := (fh6 (q2 + 4) (by omega)).trans hmcr
  have hN := eh6
  have hF := hF.tr (fun j hj => fh6 j (by omega))
  refine go_aload_n 0 (nx := 61) dX2_copyFrom_60 rfl rfl rfl ?_
  refine go_aload_n 1 (nx := 62) dX2_copyFrom_61 rfl rfl rfl ?_
  refine go_gf (nx := 65) fg_X2_46 dX2_copyFrom_62 (by omega) hM rfl rfl ?_
  refine go_pf (fs' := [_, _, _, _, _, _, _]) (nx := 68) (fp_X2_46 _) dX2_copyFrom_65 (by omega) hN (Nat.le_of_ble_eq_true rfl) ⟨rfl, rfl⟩ rfl rfl (fun h7 eh7 fh7 => ?_)
  have hkn := (fh7 (q + 1) (by omega)).trans hkn
  have hct := (fh7 (q + 2) (by omega)).trans hct
  have hsi := (fh7 (q + 3) (by omega)).trans hsi
  have hcr := (fh7 (q + 4) (by omega)).trans hcr
  have hM := (fh7 (q2) (by omega)).trans hM
  have hmkn := (fh7 (q2 + 1) (by omega)).trans hmkn
  have hmct := (fh7 (q2 + 2) (by omega)).trans hmct
  have hmsi := (fh7 (q2 + 3) (by omega)).trans hmsi
  have hmcr := (fh7 (q2 + 4) (by omega)).trans hmcr
  have hN := eh7
  have hF := hF.tr (fun j hj => fh7 j (by omega))
  refine go_retv dX2_copyFrom_68 rfl ?_
  exact ⟨⟨g1, g2, g3, g4, ⟨hN, hkn, hct, hsi, hcr⟩, fun b hb => (hgh1 b hb).trans (hK b hb), fun b hb => (hgh2 b hb).trans (hC b hb), fun j hj => (hgh3 j hj).trans (hS j hj), fun p hp => (hgh4 p hp).trans (hR p hp)⟩, hF⟩
def askS (K : mK) (p j P : Nat) : Nat → Nat × Nat
  | 0 => (0, 0)
  | q + 1 => if q ≠ p ∧ (askS K p j P q).1 < j ∧ j ≤ (askS K p j P q).1 + (P - 1 - (askS K p j P q).2) then ((askS K p j P q).1 + (K q p).toNat, (askS K p j P q).2 + 1) else askS K p j P q
theorem askS_b {K : mK} {p j P : Nat} : ∀ (q : Nat), (askS K p j P q).2 + (if p < q then 1 else 0) ≤ q ∧ (askS K p j P q).1 ≤ (askS K p j P q).2
  | 0 => by simp [askS]
  | q + 1 => by
    have ih := askS_b (K := K) (p := p) (j := j) (P := P) q
    have hb := Bool.toNat_le (K q p)
    simp only [askS]
    split
    · rename_i hc
      have h1 := hc.1
      split at ih <;> split <;> simp only [] <;> omega
    · split at ih <;> split <;> omega
theorem askS_stop {K : mK} {p j P q : Nat} (h : ¬ ((askS K p j P q).1 < j ∧ j ≤ (askS K p j P q).1 + (P - 1 - (askS K p j P q).2))) : ∀ (m : Nat), askS K p j P (q + m) = askS K p j P q
  | 0 => rfl
  | m + 1 => by
    have ih := askS_stop h m
    rw [← Nat.add_assoc]
    simp only [askS]
    rw [ih, if_neg (fun z => h z.2)]
theorem l_asks {G : kG} {n q0 p j P : Nat} {h : kH} {ν : mN} (hq : q0 + 5 ≤ n) (H : oNow G q0 ν h) (hp : p < P) (hP : P ≤ 8) (hj : j ≤ 8) : ∀ (d q : Nat), P - q < d → q ≤ P → Go G mX2_fewestAsks (2, 0, 0) 9 [(6, .int (nI q)), (5, .int (nI (askS ν.1 p j P q).1)), (4, .int (nI (askS ν.1 p j P q).2)), (0, .ref (kb G + q0)), (1, .int (nI p)), (2, .int (nI j)), (3, .int (nI P))] [] (n, 0, 0) h (kQi mX2_fewestAsks n (fun v h' => v = nI (askS ν.1 p j P P).2 ∧ h' = h)) := by
  intro d
  have H' := H
  obtain ⟨kn, ct, si, cr, ⟨hN, hkn, hct, hsi, hcr⟩, hK, hC, hS, hR⟩ := H
  induction d with
  | zero => intro q hd; omega
  | succ d ih =>
    intro q hd hqP
    have hb := askS_b (K := ν.1) (p := p) (j := j) (P := P) q
    generalize he : askS ν.1 p j P q = s at hb ⊢
    refine go_iload 0 (nx := 11) dX2_fewestAsks_9 rfl rfl ?_
    refine go_iload_n 6 (nx := 12) dX2_fewestAsks_11 rfl rfl rfl ?_
    refine go_icmp_ge 76 (nx := 15) dX2_fewestAsks_12 rfl rfl (fun c12 => ?_) (fun c12 => ?_)
    · skip
      refine go_iload 2 (nx := 78) dX2_fewestAsks_76 rfl rfl ?_
      refine go_reti dX2_fewestAsks_78 ⟨_, rfl, rfl⟩ ?_
      have e8 : q = P := by have := kle c12; omega
      subst e8
      rw [he]
      exact ⟨rfl, rfl⟩
    · skip
      have h8 := knle c12
      have hs1 : s.2 ≤ P - 1 := by split at hb <;> omega
      refine go_iload_n 6 (nx := 16) dX2_fewestAsks_15 rfl rfl rfl ?_
      refine go_iconst (v := nI 1) (nx := 17) dX2_fewestAsks_16 (by decide) rfl ?_
      refine go_isub (nx := 18) dX2_fewestAsks_17 rfl ?_
      refine go_iload 2 (nx := 20) dX2_fewestAsks_18 rfl rfl ?_
      refine go_isub (nx := 21) dX2_fewestAsks_20 rfl ?_
      rw [pk_sub (by omega), pk_sub hs1]
      refine go_istore (lv' := [_, _, _, _, _, _, _, _]) (nx := 23) dX2_fewestAsks_21 (by decide) rfl rfl ?_
      refine go_iload 2 (nx := 25) dX2_fewestAsks_23 rfl rfl ?_
      refine go_iload_n 6 (nx := 26) dX2_fewestAsks_25 rfl rfl rfl ?_
      refine go_icmp_ge 38 (nx := 29) dX2_fewestAsks_26 rfl rfl (fun c26 => ?_) (fun c26 => ?_)
      · skip
        refine go_iload 3 (nx := 40) dX2_fewestAsks_38 rfl rfl ?_
        refine go_reti dX2_fewestAsks_40 ⟨_, rfl, rfl⟩ ?_
        have z := kle c26 (by omega) (by omega)
        have e2 := askS_stop (K := ν.1) (p := p) (j := j) (P := P) (q := q) (by rw [he]; omega) (P - q)
        rw [show q + (P - q) = P by omega, he] at e2
        rw [e2]
        exact ⟨rfl, rfl⟩
      · skip
        refine go_iload 2 (nx := 31) dX2_fewestAsks_29 rfl rfl ?_
        refine go_iload 0 (nx := 33) dX2_fewestAsks_31 rfl rfl ?_
        refine go_iadd (nx := 34) dX2_fewestAsks_33 rfl ?_
        rw [nI_add]
        refine go_iload_n 6 (nx := 35) dX2_fewestAsks_34 rfl rfl rfl ?_
        refine go_icmp_ge 41 (nx := 38) dX2_fewestAsks_35 rfl rfl (fun c35 => ?_) (fun c35 => ?_)
        · skip
          have y1 : s.1 < j := knle c26 (by omega) (by omega)
          have y2 : j ≤ s.1 + (P - 1 - s.2) := kle c35 (by omega) (by omega)
          refine go_iload 1 (nx := 43) dX2_fewestAsks_41 rfl rfl ?_
          refine go_iload_n 5 (nx := 44) dX2_fewestAsks_43 rfl rfl rfl ?_
          refine go_icmp_eq 70 (nx := 47) dX2_fewestAsks_44 rfl rfl (fun c44 => ?_) (fun c44 => ?_)
          · skip
            refine go_iinc 1 (v := nI (q + 1)) (lv' := [_, _, _, _, _, _, _, _]) (nx := 73) dX2_fewestAsks_70 rfl (nI_inc q) (by decide) rfl rfl ?_
            refine go_goto 9 dX2_fewestAsks_73 rfl ?_
            refine Go.sub [0, 2, 3, 4, 5, 6, 7] rfl ?_
            have k := ih (q + 1) (by omega) (by omega)
            rw [show askS ν.1 p j P (q + 1) = s by simp only [askS]; rw [if_neg (fun z => z.1 (keq c44)), he]] at k
            exact k
          · skip
            refine go_iinc 3 (v := nI (s.2 + 1)) (lv' := [_, _, _, _, _, _, _, _]) (nx := 50) dX2_fewestAsks_47 rfl (nI_inc _) (by decide) rfl rfl ?_
            refine go_iload 3 (nx := 52) dX2_fewestAsks_50 rfl rfl ?_
            refine go_aload_n 4 (nx := 53) dX2_fewestAsks_52 rfl rfl rfl ?_
            refine go_iload 2 (nx := 55) dX2_fewestAsks_53 rfl rfl ?_
            refine go_iload_n 5 (nx := 56) dX2_fewestAsks_55 rfl rfl rfl ?_
            refine go_Vi (nx := 59) [_, _] kc_X2_63 ⟨_, _, rfl⟩ (by omega) hN (s_isAware hq H' rfl (by omega) rfl (by omega)) dX2_fewestAsks_56 rfl rfl (Nat.le_of_ble_eq_true rfl) (Nat.le_of_ble_eq_true rfl) ⟨Nat.le_refl _, Nat.le_refl _⟩ rfl (fun rh1 h1 hqh1 => ?_)
            obtain ⟨rfl, rfl⟩ := hqh1
            refine go_if_eq 66 (nx := 62) dX2_fewestAsks_59 rfl rfl (fun c59 => ?_) (fun c59 => ?_)
            · skip
              refine go_iconst (v := nI 0) (nx := 67) dX2_fewestAsks_66 (by decide) rfl ?_
              refine go_iadd (nx := 68) dX2_fewestAsks_67 rfl ?_
              rw [nI_add]
              refine go_istore (lv' := [_, _, _, _, _, _, _, _]) (nx := 70) dX2_fewestAsks_68 (by decide) rfl rfl ?_
              refine go_iinc 3 (v := nI (q + 1)) (lv' := [_, _, _, _, _, _, _, _]) (nx := 73) dX2_fewestAsks_70 rfl (nI_inc q) (by decide) rfl rfl ?_
              refine go_goto 9 dX2_fewestAsks_73 rfl ?_
              refine Go.sub [0, 1, 2, 4, 5, 6, 7] rfl ?_
              have k := ih (q + 1) (by omega) (by omega)
              have e3 : askS ν.1 p j P (q + 1) = (s.1 + (ν.1 q p).toNat, s.2 + 1) := by
                simp only [askS]
                rw [he, if_pos ⟨fun z => c44 (by rw [z]), y1, y2⟩]
              rw [e3] at k
              rw [show (ν.1 q p).toNat = 0 by rw [tb0 c59]; rfl] at k
              exact k
            · skip
              refine go_iconst (v := nI 1) (nx := 63) dX2_fewestAsks_62 (by decide) rfl ?_
              refine go_goto 67 dX2_fewestAsks_63 rfl ?_
              refine go_iadd (nx := 68) dX2_fewestAsks_67 rfl ?_
              rw [nI_add]
              refine go_istore (lv' := [_, _, _, _, _, _, _, _]) (nx := 70) dX2_fewestAsks_68 (by decide) rfl rfl ?_
              refine go_iinc 3 (v := nI (q + 1)) (lv' := [_, _, _, _, _, _, _, _]) (nx := 73) dX2_fewestAsks_70 rfl (nI_inc q) (by decide) rfl rfl ?_
              refine go_goto 9 dX2_fewestAsks_73 rfl ?_
              refine Go.sub [0, 1, 2, 4, 5, 6, 7] rfl ?_
              have k := ih (q + 1) (by omega) (by omega)
              have e3 : askS ν.1 p j P (q + 1) = (s.1 + (ν.1 q p).toNat, s.2 + 1) := by
                simp only [askS]
                rw [he, if_pos ⟨fun z => c44 (by rw [z]), y1, y2⟩]
              rw [e3] at k
              rw [show (ν.1 q p).toNat = 1 by rw [tbn0 c59]; rfl] at k
              exact k
        · skip
          refine go_iload 3 (nx := 40) dX2_fewestAsks_38 rfl rfl ?_
          refine go_reti dX2_fewestAsks_40 ⟨_, rfl, rfl⟩ ?_
          have z := knle c35 (by omega) (by omega)
          have e2 := askS_stop (K := ν.1) (p := p) (j := j) (P := P) (q := q) (by rw [he]; omega) (P - q)
          rw [show q + (P - q) = P by omega, he] at e2
          rw [e2]
          exact ⟨rfl, rfl⟩
theorem s_asks {G : kG} {n q0 p j P : Nat} {h : kH} {ν : mN} {x y w : Int32} (hq : q0 + 5 ≤ n) (H : oNow G q0 ν h) (hx : x = nI p) (hp : p < P) (hy : y = nI j) (hj : j ≤ 8) (hw : w = nI P) (hP : P ≤ 8) : Spi G mX2_fewestAsks 2 [.ref (kb G + q0), .int x, .int y, .int w] n h (fun v h' => v = nI (askS ν.1 p j P P).2 ∧ h' = h) := by
  subst hx hy hw
  refine Spi.of (by decide) (Nat.le_of_ble_eq_true rfl) ?_
  refine go_iconst (v := nI 0) (nx := 1) dX2_fewestAsks_0 (by decide) rfl ?_
  refine go_istore (lv' := [_, _, _, _, _]) (nx := 3) dX2_fewestAsks_1 (by decide) rfl rfl ?_
  refine go_iconst (v := nI 0) (nx := 4) dX2_fewestAsks_3 (by decide) rfl ?_
  refine go_istore (lv' := [_, _, _, _, _, _]) (nx := 6) dX2_fewestAsks_4 (by decide) rfl rfl ?_
  refine go_iconst (v := nI 0) (nx := 7) dX2_fewestAsks_6 (by decide) rfl ?_
  refine go_istore (lv' := [_, _, _, _, _, _, _]) (nx := 9) dX2_fewestAsks_7 (by decide) rfl rfl ?_
  refine Go.sub [0, 1, 2, 3, 4, 5, 6] rfl ?_
  exact l_asks hq H hp hP hj (P + 1) 0 (by omega) (by omega)
def Pt8 (K : mK) (w : Nat) : Prop := ∀ a, a < 8 → ∀ b, b < 8 → w.testBit a = true → w.testBit b = true → a ≠ b → K a b = true
theorem l_party {G : kG} {n q w : Nat} {h : kH} {ν : mN} (hq : q + 5 ≤ n) (H : oNow G q ν h) (hw : w < 256) : ∀ (d p : Nat) (lv : List (Nat × Value)), 8 - p < d → p ≤ 8 → lv = [(2, .int (nI p)), (0, .ref (kb G + q)), (1, .int (nI w))] → (∀ a, a < 8 → ∀ b, b < p → w.testBit a = true → w.testBit b = true → a ≠ b → ν.1 a b = true) → Go G mX2_isParty (1, 0, 0) 2 lv [] (n, 0, 0) h (kQi mX2_isParty n (fun v h' => ((v = 1 ∧ Pt8 ν.1 w) ∨ (v = 0 ∧ ¬ Pt8 ν.1 w)) ∧ h' = h)) := by
  intro d
  obtain ⟨kn, ct, si, cr, ⟨hN, hkn, hct, hsi, hcr⟩, hK, hC, hS, hR⟩ := H
  induction d with
  | zero => intro p lv hd; omega
  | succ d ih =>
    intro p lv hd hp hlv hpt
    subst hlv
    refine go_iload_n 0 (nx := 3) dX2_isParty_2 rfl rfl rfl ?_
    refine go_bipush (v := nI 8) (nx := 5) dX2_isParty_3 (by decide) rfl ?_
    refine go_icmp_ge 44 (nx := 8) dX2_isParty_5 rfl rfl (fun c5 => ?_) (fun c5 => ?_)
    · skip
      refine go_iconst (v := nI 1) (nx := 45) dX2_isParty_44 (by decide) rfl ?_
      refine go_reti dX2_isParty_45 ⟨_, rfl, rfl⟩ ?_
      have e8 : p = 8 := by have := kle c5; omega
      subst e8
      exact ⟨Or.inl ⟨rfl, fun a ha b hb h1 h2 h3 => hpt a ha b hb h1 h2 h3⟩, rfl⟩
    · skip
      have h8 := knle c5
      have hcl := clr_lt hw h8
      refine go_iload_n 2 (nx := 9) dX2_isParty_8 rfl rfl rfl ?_
      refine go_iconst (v := nI 1) (nx := 10) dX2_isParty_9 (by decide) rfl ?_
      refine go_iload_n 0 (nx := 11) dX2_isParty_10 rfl rfl rfl ?_
      refine go_ishl (nx := 12) dX2_isParty_11 rfl ?_
      refine go_iconst (v := (-1)) (nx := 13) dX2_isParty_12 (by decide) rfl ?_
      refine go_ixor (nx := 14) dX2_isParty_13 rfl ?_
      refine go_iand (nx := 15) dX2_isParty_14 rfl ?_
      rw [i_clr w hw p h8]
      refine go_istore_n (lv' := [_, _, _, _]) (nx := 16) dX2_isParty_15 rfl (by decide) rfl rfl ?_
      refine go_iload_n 0 (nx := 17) dX2_isParty_16 rfl rfl rfl ?_
      refine go_iload_n 3 (nx := 18) dX2_isParty_17 rfl rfl rfl ?_
      refine go_icmp_eq 38 (nx := 21) dX2_isParty_18 rfl rfl (fun c18 => ?_) (fun c18 => ?_)
      · skip
        refine go_iinc 1 (v := nI (p + 1)) (lv' := [_, _, _, _]) (nx := 41) dX2_isParty_38 rfl (nI_inc p) (by decide) rfl rfl ?_
        refine go_goto 2 dX2_isParty_41 rfl ?_
        refine Go.sub [0, 2, 3] rfl ?_
        refine ih (p + 1) _ (by omega) (by omega) rfl (fun a ha b hb h1 h2 h3 => ?_)
        by_cases eb : b = p
        · subst eb
          have e : w &&& (255 - 2 ^ b) = w := keq c18 (by omega) (by omega)
          rw [← e, clr_key w hw b h8, bits_test _ (by omega)] at h2
          simp at h2
        · exact hpt a ha b (by omega) h1 h2 h3
      · skip
        refine go_iload_n 0 (nx := 22) dX2_isParty_21 rfl rfl rfl ?_
        refine go_aload_n 2 (nx := 23) dX2_isParty_22 rfl rfl rfl ?_
        refine go_gf (nx := 26) fg_X2_9 dX2_isParty_23 (by omega) hN rfl rfl ?_
        refine go_iload_n 1 (nx := 27) dX2_isParty_26 rfl rfl rfl ?_
        refine go_SNi (nx := 30) [_, _] kc_X2_27 (s_at_in (by omega) hkn (by omega) rfl h8) dX2_isParty_27 rfl rfl (Nat.le_of_ble_eq_true rfl) (Nat.le_of_ble_eq_true rfl) ⟨Nat.le_refl _, Nat.le_refl _⟩ rfl (fun rh1 h1 hqh1 => ?_)
        obtain ⟨rfl, rfl⟩ := hqh1
        rw [hK p h8]
        refine go_iconst (v := (-1)) (nx := 31) dX2_isParty_30 (by decide) rfl ?_
        refine go_ixor (nx := 32) dX2_isParty_31 rfl ?_
        refine go_iand (nx := 33) dX2_isParty_32 rfl ?_
        rw [i_less hcl (col_lt _ _)]
        refine go_if_eq 38 (nx := 36) dX2_isParty_33 rfl rfl (fun c33 => ?_) (fun c33 => ?_)
        · skip
          refine go_iinc 1 (v := nI (p + 1)) (lv' := [_, _, _, _]) (nx := 41) dX2_isParty_38 rfl (nI_inc p) (by decide) rfl rfl ?_
          refine go_goto 2 dX2_isParty_41 rfl ?_
          refine Go.sub [0, 2, 3] rfl ?_
          refine ih (p + 1) _ (by omega) (by omega) rfl (fun a ha b hb h1 h2 h3 => ?_)
          by_cases eb : b = p
          · subst eb
            have e : (bitsOf fun x => (w &&& (255 - 2 ^ b)).testBit x && !(col ν.1 b).testBit x) = 0 := keq (b := 0) c33 (Nat.lt_trans (bits_lt _) (by decide)) (by decide)
            have e2 := bits_zero.mp e a ha
            rw [clr_key w hw b h8, bits_test _ ha, col, bits_test _ ha, h1] at e2
            cases e3 : ν.1 a b
            · rw [e3] at e2; simp at e2; exact absurd e2 h3
            · rfl
          · exact hpt a ha b (by omega) h1 h2 h3
        · skip
          refine go_iconst (v := nI 0) (nx := 37) dX2_isParty_36 (by decide) rfl ?_
          refine go_reti dX2_isParty_37 ⟨_, rfl, rfl⟩ ?_
          refine ⟨Or.inr ⟨rfl, fun hh => c33 ?_⟩, rfl⟩
          refine congrArg nI (bits_zero.mpr fun x hx => ?_)
          rw [clr_key w hw p h8, bits_test _ hx, col, bits_test _ hx]
          cases ex : w.testBit x
          · rfl
          · by_cases exp : x = p
            · simp [exp]
            · have hp1 : w.testBit p = true := by
                cases e : w.testBit p
                · refine absurd ?_ c18
                  rw [clr_key w hw p h8, show (bitsOf fun i => w.testBit i && !i == p) = w from ?_]
                  refine (bits_ext fun i _ => ?_).trans (bits_of w hw)
                  by_cases ei : i = p
                  · rw [ei, e]; rfl
                  · simp [ei]
                · rfl
              rw [hh x hx p h8 ex hp1 exp]
              simp
theorem s_isParty {G : kG} {n q w : Nat} {h : kH} {ν : mN} {x : Int32} (hq : q + 5 ≤ n) (H : oNow G q ν h) (hx : x = nI w) (hw : w < 256) : Spi G mX2_isParty 1 [.ref (kb G + q), .int x] n h (fun v h' => ((v = 1 ∧ Pt8 ν.1 w) ∨ (v = 0 ∧ ¬ Pt8 ν.1 w)) ∧ h' = h) := by
  subst hx
  refine Spi.of (by decide) (Nat.le_of_ble_eq_true rfl) ?_
  refine go_iconst (v := nI 0) (nx := 1) dX2_isParty_0 (by decide) rfl ?_
  refine go_istore_n (lv' := [_, _, _]) (nx := 2) dX2_isParty_1 rfl (by decide) rfl rfl ?_
  exact l_party hq H hw 9 0 _ (by omega) (by omega) rfl (fun a _ b hb => absurd hb (Nat.not_lt_zero b))
