/-! the reference: takes, number -/
theorem m_isWell {G : kG} {n sz : Nat} {h : kH} {T : mT} {tr : Int64} {th nx tk pl va fa dP dF dL dJ wF wL : Int32} (hn : 49 ≤ n) (HO : pO G tr sz T th nx tk pl va fa dP dF dL dJ wF wL h) : Spi G mX7_isWell 0 [.ref (kb G + 37)] n h (fun v h' => v = bI (decide (fa < 0)) ∧ h' = h) := by
  have hM : h 37 = .inr (7, [.int th, .long tr, .ref (kb G + 38), .int (nI sz), .int nx, .int tk, .int pl, .int va, .int fa, .ref (kb G + 39), .ref (kb G + 40), .int (nI T.1), .int dP, .int (nI T.2.2.2.1), .int dF, .int (nI T.2.2.2.2.1), .int dL, .int (nI T.2.2.2.2.2), .int dJ, .int wF, .int wL, .ref (kb G + 41), .ref (kb G + 42), .ref (kb G + 43), .ref (kb G + 44), .ref (kb G + 45), .ref (kb G + 46), .ref (kb G + 47), .ref (kb G + 48)]) := HO
  refine Spi.of (by decide) (Nat.le_of_ble_eq_true rfl) ?_
  refine go_aload_n 0 (nx := 1) dX7_isWell_0 rfl rfl rfl ?_
  refine go_gf (nx := 4) fg_X7_93 dX7_isWell_1 (by omega) hM rfl rfl ?_
  refine go_if_ge 11 (nx := 7) dX7_isWell_4 rfl rfl (fun c4 => ?_) (fun c4 => ?_)
  · skip
    refine go_iconst (v := nI 0) (nx := 12) dX7_isWell_11 (by decide) rfl ?_
    refine go_reti dX7_isWell_12 ⟨_, rfl, rfl⟩ ?_
    exact ⟨by rw [decide_eq_false (Int32.not_lt.mpr c4)]; rfl, rfl⟩
  · skip
    refine go_iconst (v := nI 1) (nx := 8) dX7_isWell_7 (by decide) rfl ?_
    refine go_goto 12 dX7_isWell_8 rfl ?_
    refine go_reti dX7_isWell_12 ⟨_, rfl, rfl⟩ ?_
    exact ⟨by rw [decide_eq_true (Int32.not_le.mp c4)]; rfl, rfl⟩
theorem m_takesZ {G : kG} {n sz : Nat} {h : kH} {T : mT} {tr : Int64} {th nx tk pl va fa dP dF dL dJ wF wL : Int32} {x : Int32} (hn : 49 ≤ n) (HO : pO G tr sz T th nx tk pl va fa dP dF dL dJ wF wL h) (hf : ¬ fa < 0) : Spi G mX7_takes 4 [.ref (kb G + 37), .int x] n h (fun v h' => v = nI 0 ∧ h' = h) := by
  have hM : h 37 = .inr (7, [.int th, .long tr, .ref (kb G + 38), .int (nI sz), .int nx, .int tk, .int pl, .int va, .int fa, .ref (kb G + 39), .ref (kb G + 40), .int (nI T.1), .int dP, .int (nI T.2.2.2.1), .int dF, .int (nI T.2.2.2.2.1), .int dL, .int (nI T.2.2.2.2.2), .int dJ, .int wF, .int wL, .ref (kb G + 41), .ref (kb G + 42), .ref (kb G + 43), .ref (kb G + 44), .ref (kb G + 45), .ref (kb G + 46), .ref (kb G + 47), .ref (kb G + 48)]) := HO
  refine Spi.of (by decide) (Nat.le_of_ble_eq_true rfl) ?_
  refine go_aload_n 0 (nx := 1) dX7_takes_0 rfl rfl rfl ?_
  refine go_Vi (nx := 4) [] kc_X7_96 ⟨_, _, rfl⟩ (by omega) hM (m_isWell hn hM) dX7_takes_1 rfl rfl (Nat.le_of_ble_eq_true rfl) (Nat.le_of_ble_eq_true rfl) ⟨Nat.le_refl _, Nat.le_refl _⟩ rfl (fun rh1 h1 hqh1 => ?_)
  obtain ⟨rfl, rfl⟩ := hqh1
  refine go_if_ne 9 (nx := 7) dX7_takes_4 rfl rfl (fun c4 => False.elim (absurd c4 (by rw [decide_eq_false hf]; decide))) (fun c4 => ?_)
  refine go_iconst (v := nI 0) (nx := 8) dX7_takes_7 (by decide) rfl ?_
  refine go_reti dX7_takes_8 ⟨_, rfl, rfl⟩ ?_
  exact ⟨rfl, rfl⟩
theorem m_takesF {G : kG} {n sz : Nat} {h : kH} {T : mT} {tr : Int64} {th nx tk pl va dP dF dL dJ wF wL : Int32} {x : Int32} (hn : 49 ≤ n) (HO : pO G tr sz T th nx tk pl va (-1) dP dF dL dJ wF wL h) (hx : x = nI 0) : Spi G mX7_takes 4 [.ref (kb G + 37), .int x] n h (fun v h' => v = nI 0 ∧ pO G tr sz T th nx tk pl va pl dP dF dL dJ wF wL h' ∧ kFr 37 38 h h') := by
  subst hx
  have hM : h 37 = .inr (7, [.int th, .long tr, .ref (kb G + 38), .int (nI sz), .int nx, .int tk, .int pl, .int va, .int (-1), .ref (kb G + 39), .ref (kb G + 40), .int (nI T.1), .int dP, .int (nI T.2.2.2.1), .int dF, .int (nI T.2.2.2.2.1), .int dL, .int (nI T.2.2.2.2.2), .int dJ, .int wF, .int wL, .ref (kb G + 41), .ref (kb G + 42), .ref (kb G + 43), .ref (kb G + 44), .ref (kb G + 45), .ref (kb G + 46), .ref (kb G + 47), .ref (kb G + 48)]) := HO
  have hF : kFr 37 38 h h := kFr.rf
  refine Spi.of (by decide) (Nat.le_of_ble_eq_true rfl) ?_
  refine go_aload_n 0 (nx := 1) dX7_takes_0 rfl rfl rfl ?_
  refine go_Vi (nx := 4) [] kc_X7_96 ⟨_, _, rfl⟩ (by omega) hM (m_isWell hn hM) dX7_takes_1 rfl rfl (Nat.le_of_ble_eq_true rfl) (Nat.le_of_ble_eq_true rfl) ⟨Nat.le_refl _, Nat.le_refl _⟩ rfl (fun rh1 h1 hqh1 => ?_)
  obtain ⟨rfl, rfl⟩ := hqh1
  refine go_if_ne 9 (nx := 7) dX7_takes_4 rfl rfl (fun c4 => ?_) (fun c4 => False.elim (absurd c4 (by decide)))
  refine go_iload_n 1 (nx := 10) dX7_takes_9 rfl rfl rfl ?_
  refine go_if_ne 23 (nx := 13) dX7_takes_10 rfl rfl (fun c10 => False.elim (absurd rfl c10)) (fun c10 => ?_)
  refine go_aload_n 0 (nx := 14) dX7_takes_13 rfl rfl rfl ?_
  refine go_aload_n 0 (nx := 15) dX7_takes_14 rfl rfl rfl ?_
  refine go_gf (nx := 18) fg_X7_80 dX7_takes_15 (by omega) hM rfl rfl ?_
  refine go_pf (fs' := [_, _, _, _, _, _, _, _, _, _, _, _, _, _, _, _, _, _, _, _, _, _, _, _, _, _, _, _, _]) (nx := 21) (fp_X7_93 _) dX7_takes_18 (by omega) hM (Nat.le_of_ble_eq_true rfl) ⟨rfl, rfl⟩ rfl rfl (fun h2 eh2 fh2 => ?_)
  have hM := eh2
  have hF := hF.tr (fun j hj => fh2 j (by omega))
  refine go_iconst (v := nI 0) (nx := 22) dX7_takes_21 (by decide) rfl ?_
  refine go_reti dX7_takes_22 ⟨_, rfl, rfl⟩ ?_
  exact ⟨rfl, hM, hF⟩
theorem m_takesT {G : kG} {n sz : Nat} {h : kH} {tx : Nat → Nat} {T : mT} {tr : Int64} {th nx tk pl va dP dF dL dJ wF wL : Int32} {c : Nat} {x : Int32} (hn : 49 ≤ n) (HO : pO G tr sz T th nx tk pl va (-1) dP dF dL dJ wF wL h) (HC : pC tx sz c nx tk pl va) (HT : oTm G tx sz h) (h256 : ∀ j, tx j < 256) (hs4 : sz ≤ 400) (hx : x = nI 1) : Spi G mX7_takes 4 [.ref (kb G + 37), .int x] n h (fun v h' => v = va ∧ (∃ nx tk pl va : Int32, pO G tr sz T th nx tk pl va (-1) dP dF dL dJ wF wL h' ∧ pC tx sz (c + 1) nx tk pl va) ∧ kFr 37 38 h h') := by
  subst hx
  have hM : h 37 = .inr (7, [.int th, .long tr, .ref (kb G + 38), .int (nI sz), .int nx, .int tk, .int pl, .int va, .int (-1), .ref (kb G + 39), .ref (kb G + 40), .int (nI T.1), .int dP, .int (nI T.2.2.2.1), .int dF, .int (nI T.2.2.2.2.1), .int dL, .int (nI T.2.2.2.2.2), .int dJ, .int wF, .int wL, .ref (kb G + 41), .ref (kb G + 42), .ref (kb G + 43), .ref (kb G + 44), .ref (kb G + 45), .ref (kb G + 46), .ref (kb G + 47), .ref (kb G + 48)]) := HO
  have hF : kFr 37 38 h h := kFr.rf
  obtain ⟨k, hnk, hk, hti, hnx, hpl, htk⟩ := id HC
  refine Spi.of (by decide) (Nat.le_of_ble_eq_true rfl) ?_
  refine go_aload_n 0 (nx := 1) dX7_takes_0 rfl rfl rfl ?_
  refine go_Vi (nx := 4) [] kc_X7_96 ⟨_, _, rfl⟩ (by omega) hM (m_isWell hn hM) dX7_takes_1 rfl rfl (Nat.le_of_ble_eq_true rfl) (Nat.le_of_ble_eq_true rfl) ⟨Nat.le_refl _, Nat.le_refl _⟩ rfl (fun rh1 h1 hqh1 => ?_)
  obtain ⟨rfl, rfl⟩ := hqh1
  refine go_if_ne 9 (nx := 7) dX7_takes_4 rfl rfl (fun c4 => ?_) (fun c4 => False.elim (absurd c4 (by decide)))
  refine go_iload_n 1 (nx := 10) dX7_takes_9 rfl rfl rfl ?_
  refine go_if_ne 23 (nx := 13) dX7_takes_10 rfl rfl (fun c10 => ?_) (fun c10 => False.elim (absurd c10 (by decide)))
  refine go_aload_n 0 (nx := 24) dX7_takes_23 rfl rfl rfl ?_
  refine go_gf (nx := 27) fg_X7_90 dX7_takes_24 (by omega) hM rfl rfl ?_
  refine go_istore_n (lv' := [_, _, _]) (nx := 28) dX7_takes_27 rfl (by decide) rfl rfl ?_
  refine go_aload_n 1 (nx := 29) dX7_takes_28 rfl rfl rfl ?_
  refine go_Vv (nx := 32) [] kc_X7_100 ⟨_, _, rfl⟩ (by omega) hM (m_advances hn h256 hs4 hnk hk hti hnx hM HT) dX7_takes_29 rfl rfl (Nat.le_of_ble_eq_true rfl) (Nat.le_of_ble_eq_true rfl) ⟨Nat.le_refl _, Nat.le_refl _⟩ rfl (fun h2 hqh2 => ?_)
  obtain ⟨HE, hFh2⟩ := hqh2
  obtain ⟨nx, tk, pl, va, hM, HC⟩ := HE
  have hF := hF.tr hFh2
  refine go_iload_n 0 (nx := 33) dX7_takes_32 rfl rfl rfl ?_
  refine go_reti dX7_takes_33 ⟨_, rfl, rfl⟩ ?_
  exact ⟨rfl, ⟨_, _, _, _, hM, HC⟩, hF⟩
theorem tkv_num {t : Nat} {tk va : Int32} (h : tkv t tk va) : tk = nI 2 ↔ 100 ≤ t := by
  rcases h with ⟨h1, h2, h3⟩ | ⟨h1, h2⟩ | ⟨h1, h2⟩ | ⟨h1, h2⟩ | ⟨h1, h2, h3, h4⟩
  · exact ⟨fun q => absurd (h2.symm.trans q) (by decide), fun q => by omega⟩
  · exact ⟨fun q => absurd (h2.symm.trans q) (by decide), fun q => by omega⟩
  · exact ⟨fun q => absurd (h2.symm.trans q) (by decide), fun q => by omega⟩
  · exact ⟨fun q => absurd (h2.symm.trans q) (by decide), fun q => by omega⟩
  · exact ⟨fun _ => h1, fun _ => h3⟩
theorem tkv_nv {t : Nat} {tk va : Int32} (h : tkv t tk va) (ht : 100 ≤ t) : t < 200 ∧ va = nI (t - 100) := by
  rcases h with ⟨h1, h2, h3⟩ | ⟨h1, h2⟩ | ⟨h1, h2⟩ | ⟨h1, h2⟩ | ⟨h1, h2, h3, h4⟩
  · omega
  · omega
  · omega
  · omega
  · exact ⟨h2, h4⟩
theorem tkv_word {t : Nat} {tk va : Int32} (h : tkv t tk va) : tk = nI 1 ↔ t < 10 := by
  rcases h with ⟨h1, h2, h3⟩ | ⟨h1, h2⟩ | ⟨h1, h2⟩ | ⟨h1, h2⟩ | ⟨h1, h2, h3, h4⟩
  · exact ⟨fun _ => h1, fun _ => h2⟩
  · exact ⟨fun q => absurd (h2.symm.trans q) (by decide), fun q => by omega⟩
  · exact ⟨fun q => absurd (h2.symm.trans q) (by decide), fun q => by omega⟩
  · exact ⟨fun q => absurd (h2.symm.trans q) (by decide), fun q => by omega⟩
  · exact ⟨fun q => absurd (h3.symm.trans q) (by decide), fun q => by omega⟩
theorem tkv_wv {t : Nat} {tk va : Int32} (h : tkv t tk va) (ht : t < 10) : va = nI t := by
  rcases h with ⟨h1, h2, h3⟩ | ⟨h1, h2⟩ | ⟨h1, h2⟩ | ⟨h1, h2⟩ | ⟨h1, h2, h3, h4⟩
  · exact h3
  · omega
  · omega
  · omega
  · omega
theorem tkv_stop {t : Nat} {tk va : Int32} (h : tkv t tk va) : tk = nI 3 ↔ t = 10 := by
  rcases h with ⟨h1, h2, h3⟩ | ⟨h1, h2⟩ | ⟨h1, h2⟩ | ⟨h1, h2⟩ | ⟨h1, h2, h3, h4⟩
  · exact ⟨fun q => absurd (h2.symm.trans q) (by decide), fun q => by omega⟩
  · exact ⟨fun _ => h1, fun _ => h2⟩
  · exact ⟨fun q => absurd (h2.symm.trans q) (by decide), fun q => by omega⟩
  · exact ⟨fun q => absurd (h2.symm.trans q) (by decide), fun q => by omega⟩
  · exact ⟨fun q => absurd (h3.symm.trans q) (by decide), fun q => by omega⟩
theorem tkv_end {t : Nat} {tk va : Int32} (h : tkv t tk va) : tk = 0 ↔ t = 12 := by
  rcases h with ⟨h1, h2, h3⟩ | ⟨h1, h2⟩ | ⟨h1, h2⟩ | ⟨h1, h2⟩ | ⟨h1, h2, h3, h4⟩
  · exact ⟨fun q => absurd (h2.symm.trans q) (by decide), fun q => by omega⟩
  · exact ⟨fun q => absurd (h2.symm.trans q) (by decide), fun q => by omega⟩
  · exact ⟨fun q => absurd (h2.symm.trans q) (by decide), fun q => by omega⟩
  · exact ⟨fun _ => h1, fun _ => h2⟩
  · exact ⟨fun q => absurd (h3.symm.trans q) (by decide), fun q => by omega⟩
theorem inN {t m : Nat} {tk va : Int32} (h : tkv t tk va) (ht : 100 ≤ t) (hm : m < 100) : inB (nI 0) (nI m) va = rN t m := by
  have h1 := tkv_nv h ht
  rw [h1.2]
  unfold inB rN
  rw [Bool.eq_iff_iff]
  simp only [Bool.and_eq_true, decide_eq_true_eq]
  rw [nI_leI (by omega) (by omega), nI_leI (by omega) (by omega)]
  omega
/-- well at token c, or a fault at token j; the draft's fields -/
def pE (G : kG) (tx : Nat → Nat) (sz : Nat) (tr : Int64) (T : mT) (R : Nat ⊕ Nat) (dP dF dL dJ wF wL : Int32) (h : kH) : Prop := match R with
  | .inl j => ∃ th nx tk pl va : Int32, pO G tr sz T th nx tk pl va (nI (tpl tx sz j)) dP dF dL dJ wF wL h
  | .inr c => ∃ th nx tk pl va : Int32, pO G tr sz T th nx tk pl va (-1) dP dF dL dJ wF wL h ∧ pC tx sz c nx tk pl va
theorem pE.fr {G : kG} {tx : Nat → Nat} {sz lo hi : Nat} {tr : Int64} {T : mT} {R : Nat ⊕ Nat} {dP dF dL dJ wF wL : Int32} {h h' : kH} (H : pE G tx sz tr T R dP dF dL dJ wF wL h) (hF : kFr lo hi h h') (hd : 37 < lo ∨ hi ≤ 37) : pE G tx sz tr T R dP dF dL dJ wF wL h' := by
  cases R with
  | inl j => obtain ⟨th, nx, tk, pl, va, H⟩ := H; exact ⟨th, nx, tk, pl, va, H.fr hF hd⟩
  | inr c => obtain ⟨th, nx, tk, pl, va, H, HC⟩ := H; exact ⟨th, nx, tk, pl, va, H.fr hF hd, HC⟩
def tkR (b : Nat → Bool) : Nat ⊕ Nat → Nat ⊕ Nat
  | .inl j => .inl j
  | .inr c => if b c = true then .inr (c + 1) else .inl c
def tkV (b : Nat → Bool) (f : Nat → Int32) : Nat ⊕ Nat → Int32
  | .inl _ => nI 0
  | .inr c => if b c = true then f c else nI 0
theorem tpl_pos {tx : Nat → Nat} {sz j : Nat} (hs : sz ≤ 400) : ¬ nI (tpl tx sz j) < 0 := nI_pos (by have := tpl_le (tx := tx) (sz := sz) j; omega)
theorem m_number {G : kG} {n sz m : Nat} {h : kH} {tx : Nat → Nat} {T : mT} {tr : Int64} {dP dF dL dJ wF wL y : Int32} {R : Nat ⊕ Nat} (hn : 49 ≤ n) (HE : pE G tx sz tr T R dP dF dL dJ wF wL h) (HT : oTm G tx sz h) (h256 : ∀ j, tx j < 256) (hs4 : sz ≤ 400) (hm : m < 100) (hy : y = nI m) : Spi G mX7_number 5 [.ref (kb G + 37), .int (nI 0), .int y] n h (fun v h' => v = tkV (fun c => rN (tSt tx sz c) m) (fun c => nI (tSt tx sz c - 100)) R ∧ pE G tx sz tr T (tkR (fun c => rN (tSt tx sz c) m) R) dP dF dL dJ wF wL h' ∧ kFr 37 38 h h') := by
  subst hy
  cases R with
  | inl j =>
    obtain ⟨th, nx, tk, pl, va, HO⟩ := id HE
    have hM := HO
    unfold pO at hM
    refine Spi.of (by decide) (Nat.le_of_ble_eq_true rfl) ?_
    refine Go.loc (lv' := [(0, _), (1, _), (2, _)]) rfl ?_
    refine go_aload_n 0 (nx := 1) dX7_number_0 rfl rfl rfl ?_
    refine go_aload_n 0 (nx := 2) dX7_number_1 rfl rfl rfl ?_
    refine go_gf (nx := 5) fg_X7_83 dX7_number_2 (by omega) hM rfl rfl ?_
    refine go_iconst (v := nI 2) (nx := 6) dX7_number_5 (by decide) rfl ?_
    refine go_icmp_ne 25 (nx := 9) dX7_number_6 rfl rfl (fun c6 => ?_) (fun c6 => ?_)
    · skip
      refine go_iconst (v := nI 0) (nx := 26) dX7_number_25 (by decide) rfl ?_
      refine go_Vi (nx := 29) [_] kc_X7_103 ⟨_, _, rfl⟩ (by omega) hM (m_takesZ hn hM (tpl_pos hs4)) dX7_number_26 rfl rfl (Nat.le_of_ble_eq_true rfl) (Nat.le_of_ble_eq_true rfl) ⟨Nat.le_refl _, Nat.le_refl _⟩ rfl (fun rh1 h1 hqh1 => ?_)
      obtain ⟨rfl, rfl⟩ := hqh1
      refine go_reti dX7_number_29 ⟨_, rfl, rfl⟩ ?_
      exact ⟨rfl, HE, kFr.rf⟩
    · skip
      refine go_aload_n 0 (nx := 10) dX7_number_9 rfl rfl rfl ?_
      refine go_gf (nx := 13) fg_X7_90 dX7_number_10 (by omega) hM rfl rfl ?_
      refine go_iload_n 1 (nx := 14) dX7_number_13 rfl rfl rfl ?_
      refine go_iload_n 2 (nx := 15) dX7_number_14 rfl rfl rfl ?_
      refine go_Si (nx := 18) [_, _, _] kc_X7_54 s_in dX7_number_15 rfl rfl (Nat.le_of_ble_eq_true rfl) (Nat.le_of_ble_eq_true rfl) ⟨Nat.le_refl _, Nat.le_refl _⟩ rfl (fun rh1 h1 hqh1 => ?_)
      obtain ⟨rfl, rfl⟩ := hqh1
      refine go_if_eq 25 (nx := 21) dX7_number_18 rfl rfl (fun c18 => ?_) (fun c18 => ?_)
      · skip
        refine go_iconst (v := nI 0) (nx := 26) dX7_number_25 (by decide) rfl ?_
        refine go_Vi (nx := 29) [_] kc_X7_103 ⟨_, _, rfl⟩ (by omega) hM (m_takesZ hn hM (tpl_pos hs4)) dX7_number_26 rfl rfl (Nat.le_of_ble_eq_true rfl) (Nat.le_of_ble_eq_true rfl) ⟨Nat.le_refl _, Nat.le_refl _⟩ rfl (fun rh2 h2 hqh2 => ?_)
        obtain ⟨rfl, rfl⟩ := hqh2
        refine go_reti dX7_number_29 ⟨_, rfl, rfl⟩ ?_
        exact ⟨rfl, HE, kFr.rf⟩
      · skip
        refine go_iconst (v := nI 1) (nx := 22) dX7_number_21 (by decide) rfl ?_
        refine go_goto 26 dX7_number_22 rfl ?_
        refine go_Vi (nx := 29) [_] kc_X7_103 ⟨_, _, rfl⟩ (by omega) hM (m_takesZ hn hM (tpl_pos hs4)) dX7_number_26 rfl rfl (Nat.le_of_ble_eq_true rfl) (Nat.le_of_ble_eq_true rfl) ⟨Nat.le_refl _, Nat.le_refl _⟩ rfl (fun rh2 h2 hqh2 => ?_)
        obtain ⟨rfl, rfl⟩ := hqh2
        refine go_reti dX7_number_29 ⟨_, rfl, rfl⟩ ?_
        exact ⟨rfl, HE, kFr.rf⟩
  | inr c =>
    obtain ⟨th, nx, tk, pl, va, HO, HC⟩ := id HE
    have hM := HO
    unfold pO at hM
    obtain ⟨k, hnk, hk, hti, hnx, hpl, htk⟩ := id HC
    refine Spi.of (by decide) (Nat.le_of_ble_eq_true rfl) ?_
    refine Go.loc (lv' := [(0, _), (1, _), (2, _)]) rfl ?_
    refine go_aload_n 0 (nx := 1) dX7_number_0 rfl rfl rfl ?_
    refine go_aload_n 0 (nx := 2) dX7_number_1 rfl rfl rfl ?_
    refine go_gf (nx := 5) fg_X7_83 dX7_number_2 (by omega) hM rfl rfl ?_
    refine go_iconst (v := nI 2) (nx := 6) dX7_number_5 (by decide) rfl ?_
    refine go_icmp_ne 25 (nx := 9) dX7_number_6 rfl rfl (fun c6 => ?_) (fun c6 => ?_)
    · skip
      refine go_iconst (v := nI 0) (nx := 26) dX7_number_25 (by decide) rfl ?_
      refine go_Vi (nx := 29) [_] kc_X7_103 ⟨_, _, rfl⟩ (by omega) hM (m_takesF hn hM rfl) dX7_number_26 rfl rfl (Nat.le_of_ble_eq_true rfl) (Nat.le_of_ble_eq_true rfl) ⟨Nat.le_refl _, Nat.le_refl _⟩ rfl (fun rh1 h1 hqh1 => ?_)
      obtain ⟨rfl, HO2, hFh1⟩ := hqh1
      refine go_reti dX7_number_29 ⟨_, rfl, rfl⟩ ?_
      have e : rN (tSt tx sz c) m = false := by
        have := fun q => c6 ((tkv_num htk).mpr q)
        simp only [rN, Bool.and_eq_false_iff, decide_eq_false_iff_not]
        exact Or.inl this
      refine ⟨?_, ?_, hFh1⟩
      · show _ = (if rN (tSt tx sz c) m = true then nI (tSt tx sz c - 100) else nI 0)
        rw [if_neg (by rw [e]; decide)]
      · show pE G tx sz tr T (if rN (tSt tx sz c) m = true then .inr (c + 1) else .inl c) dP dF dL dJ wF wL _
        rw [if_neg (by rw [e]; decide)]
        rw [hpl] at HO2
        exact ⟨_, _, _, _, _, HO2⟩
    · skip
      refine go_aload_n 0 (nx := 10) dX7_number_9 rfl rfl rfl ?_
      refine go_gf (nx := 13) fg_X7_90 dX7_number_10 (by omega) hM rfl rfl ?_
      refine go_iload_n 1 (nx := 14) dX7_number_13 rfl rfl rfl ?_
      refine go_iload_n 2 (nx := 15) dX7_number_14 rfl rfl rfl ?_
      refine go_Si (nx := 18) [_, _, _] kc_X7_54 s_in dX7_number_15 rfl rfl (Nat.le_of_ble_eq_true rfl) (Nat.le_of_ble_eq_true rfl) ⟨Nat.le_refl _, Nat.le_refl _⟩ rfl (fun rh1 h1 hqh1 => ?_)
      obtain ⟨rfl, rfl⟩ := hqh1
      refine go_if_eq 25 (nx := 21) dX7_number_18 rfl rfl (fun c18 => ?_) (fun c18 => ?_)
      · skip
        refine go_iconst (v := nI 0) (nx := 26) dX7_number_25 (by decide) rfl ?_
        refine go_Vi (nx := 29) [_] kc_X7_103 ⟨_, _, rfl⟩ (by omega) hM (m_takesF hn hM rfl) dX7_number_26 rfl rfl (Nat.le_of_ble_eq_true rfl) (Nat.le_of_ble_eq_true rfl) ⟨Nat.le_refl _, Nat.le_refl _⟩ rfl (fun rh2 h2 hqh2 => ?_)
        obtain ⟨rfl, HO2, hFh2⟩ := hqh2
        refine go_reti dX7_number_29 ⟨_, rfl, rfl⟩ ?_
        have h100 := (tkv_num htk).mp c6
        have e : rN (tSt tx sz c) m = false := (inN htk h100 hm).symm.trans (tb0 c18)
        refine ⟨?_, ?_, hFh2⟩
        · show _ = (if rN (tSt tx sz c) m = true then nI (tSt tx sz c - 100) else nI 0)
          rw [if_neg (by rw [e]; decide)]
        · show pE G tx sz tr T (if rN (tSt tx sz c) m = true then .inr (c + 1) else .inl c) dP dF dL dJ wF wL _
          rw [if_neg (by rw [e]; decide)]
          rw [hpl] at HO2
          exact ⟨_, _, _, _, _, HO2⟩
      · skip
        refine go_iconst (v := nI 1) (nx := 22) dX7_number_21 (by decide) rfl ?_
        refine go_goto 26 dX7_number_22 rfl ?_
        refine go_Vi (nx := 29) [_] kc_X7_103 ⟨_, _, rfl⟩ (by omega) hM (m_takesT hn hM HC HT h256 hs4 rfl) dX7_number_26 rfl rfl (Nat.le_of_ble_eq_true rfl) (Nat.le_of_ble_eq_true rfl) ⟨Nat.le_refl _, Nat.le_refl _⟩ rfl (fun rh2 h2 hqh2 => ?_)
        obtain ⟨rfl, ⟨nx2, tk2, pl2, va2, HO2, HC2⟩, hFh2⟩ := hqh2
        refine go_reti dX7_number_29 ⟨_, rfl, rfl⟩ ?_
        have h100 := (tkv_num htk).mp c6
        have e : rN (tSt tx sz c) m = true := (inN htk h100 hm).symm.trans (tbn0 c18)
        refine ⟨?_, ?_, hFh2⟩
        · show _ = (if rN (tSt tx sz c) m = true then nI (tSt tx sz c - 100) else nI 0)
          rw [if_pos e]
          exact (tkv_nv htk h100).2
        · show pE G tx sz tr T (if rN (tSt tx sz c) m = true then .inr (c + 1) else .inl c) dP dF dL dJ wF wL _
          rw [if_pos e]
          exact ⟨_, _, _, _, _, HO2, HC2⟩
