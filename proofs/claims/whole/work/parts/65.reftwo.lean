/-! the reference: readsTwo -/
def tmr (h h' : kH) : Prop := ∀ j, j ≠ 37 → j ≠ 39 → j ≠ 40 → h' j = h j
theorem tmr.rf {h : kH} : tmr h h := fun _ _ _ _ => rfl
theorem tmr.k {lo hi : Nat} {h h1 h2 : kH} (B : tmr h h1) (K : kFr lo hi h1 h2) (hd : (lo = 37 ∧ hi = 38) ∨ (lo = 39 ∧ hi = 40) ∨ (lo = 40 ∧ hi = 41)) : tmr h h2 := fun j a b c => (K j (by omega)).trans (B j a b c)
theorem tmr.tr {h h1 h2 : kH} (B : tmr h h1) (K : tmr h1 h2) : tmr h h2 := fun j a b c => (K j a b c).trans (B j a b c)
def pD (G : kG) (T D : mT) (h : kH) : Prop := ∃ a b : Nat → Int32, h 39 = .inl (G.2.1, 16, .inl a) ∧ h 40 = .inl (G.2.1, 16, .inl b) ∧ (∀ p, p < 8 → a p = nI (row T.2.1 p)) ∧ (∀ p, p < 8 → b p = hab (T.2.2.1 p)) ∧ (∀ p, p < D.1 → a (8 + p) = nI (row D.2.1 p)) ∧ (∀ p, p < D.1 → b (8 + p) = hab (D.2.2.1 p))
theorem pD.fr {G : kG} {T D : mT} {h h' : kH} {lo hi : Nat} (H : pD G T D h) (hF : kFr lo hi h h') (hd : 40 < lo ∨ hi ≤ 39) : pD G T D h' := by
  obtain ⟨a, b, h1, h2, h3⟩ := H
  exact ⟨a, b, (hF 39 (by omega)).trans h1, (hF 40 (by omega)).trans h2, h3⟩
def pQ (G : kG) (tx : Nat → Nat) (sz : Nat) (tr : Int64) (T : mT) (R : Nat ⊕ (Nat × mT)) (D : mT) (dF dL dJ wF wL : Int32) (h : kH) : Prop := match R with
  | .inl j => pE G tx sz tr T (.inl j) (nI D.1) dF dL dJ wF wL h ∧ pD G T D h
  | .inr (c2, D2) => pE G tx sz tr T (.inr c2) (nI D2.1) dF dL dJ wF wL h ∧ pD G T D2 h
theorem i_or0 : ∀ w, w < 256 → nI w ||| nI 0 = nI w := by decide +kernel
theorem hab_no {D : mT} (hw : wT D) {a : Nat} : hab (D.2.2.1 a) = -9 ↔ D.2.2.1 a = none := hab_none (o := D.2.2.1 a) (fun b e => by have := hw.2.2.1 a b e; have := hw.1; omega)
theorem l_two57Z {G : kG} {n sz : Nat} {tx : Nat → Nat} {T : mT} {tr : Int64} {dF dL dJ wF wL : Int32} {j : Nat} {h : kH} {v x dP : Int32} (hn : 49 ≤ n) (HE : pE G tx sz tr T (.inl j) dP dF dL dJ wF wL h) (hs4 : sz ≤ 400) {Q : kH → Prop} (hQ : Q h) : Go G mX7_readsTwo (5, 0, 0) 57 [(2, .int v), (0, .ref (kb G + 37)), (1, .int x)] [] (n, 0, 0) h (kQv mX7_readsTwo n Q) := by
  obtain ⟨th, nx, tk, pl, va, HO⟩ := id HE
  have hM := HO
  unfold pO at hM
  refine go_aload_n 1 (nx := 58) dX7_readsTwo_57 rfl rfl rfl ?_
  refine go_aload_n 1 (nx := 59) dX7_readsTwo_58 rfl rfl rfl ?_
  refine go_gf (nx := 62) fg_X7_83 dX7_readsTwo_59 (by omega) hM rfl rfl ?_
  refine go_iconst (v := nI 2) (nx := 63) dX7_readsTwo_62 (by decide) rfl ?_
  refine go_icmp_ne 95 (nx := 66) dX7_readsTwo_63 rfl rfl (fun c63 => ?_) (fun c63 => ?_)
  · skip
    refine go_iconst (v := nI 0) (nx := 96) dX7_readsTwo_95 (by decide) rfl ?_
    refine go_Vi (nx := 99) [_] kc_X7_103 ⟨_, _, rfl⟩ (by omega) hM (m_takesZ hn hM (tpl_pos hs4)) dX7_readsTwo_96 rfl rfl (Nat.le_of_ble_eq_true rfl) (Nat.le_of_ble_eq_true rfl) ⟨Nat.le_refl _, Nat.le_refl _⟩ rfl (fun rh1 h1 hqh1 => ?_)
    obtain ⟨rfl, rfl⟩ := hqh1
    refine go_istore_n (lv' := [_, _, _, _]) (nx := 100) dX7_readsTwo_99 rfl (by decide) rfl rfl ?_
    refine go_aload_n 2 (nx := 101) dX7_readsTwo_100 rfl rfl rfl ?_
    refine go_Vi (nx := 104) [] kc_X7_96 ⟨_, _, rfl⟩ (by omega) hM (m_isWell hn hM) dX7_readsTwo_101 rfl rfl (Nat.le_of_ble_eq_true rfl) (Nat.le_of_ble_eq_true rfl) ⟨Nat.le_refl _, Nat.le_refl _⟩ rfl (fun rh2 h2 hqh2 => ?_)
    obtain ⟨rfl, rfl⟩ := hqh2
    refine go_if_ne 108 (nx := 107) dX7_readsTwo_104 rfl rfl (fun c104 => False.elim (c104 (by rw [decide_eq_false (tpl_pos hs4)]; rfl))) (fun c104 => ?_)
    refine go_retv dX7_readsTwo_107 rfl ?_
    exact hQ
  · skip
    refine go_aload_n 1 (nx := 67) dX7_readsTwo_66 rfl rfl rfl ?_
    refine go_gf (nx := 70) fg_X7_90 dX7_readsTwo_67 (by omega) hM rfl rfl ?_
    refine go_iconst (v := nI 0) (nx := 71) dX7_readsTwo_70 (by decide) rfl ?_
    refine go_aload_n 1 (nx := 72) dX7_readsTwo_71 rfl rfl rfl ?_
    refine go_gf (nx := 75) fg_X7_107 dX7_readsTwo_72 (by omega) hM rfl rfl ?_
    refine go_iconst (v := nI 1) (nx := 76) dX7_readsTwo_75 (by decide) rfl ?_
    refine go_isub (nx := 77) dX7_readsTwo_76 rfl ?_
    refine go_Si (nx := 80) [_, _, _] kc_X7_54 s_in dX7_readsTwo_77 rfl rfl (Nat.le_of_ble_eq_true rfl) (Nat.le_of_ble_eq_true rfl) ⟨Nat.le_refl _, Nat.le_refl _⟩ rfl (fun rh1 h1 hqh1 => ?_)
    obtain ⟨rfl, rfl⟩ := hqh1
    refine go_if_eq 95 (nx := 83) dX7_readsTwo_80 rfl rfl (fun c80 => ?_) (fun c80 => ?_)
    · skip
      refine go_iconst (v := nI 0) (nx := 96) dX7_readsTwo_95 (by decide) rfl ?_
      refine go_Vi (nx := 99) [_] kc_X7_103 ⟨_, _, rfl⟩ (by omega) hM (m_takesZ hn hM (tpl_pos hs4)) dX7_readsTwo_96 rfl rfl (Nat.le_of_ble_eq_true rfl) (Nat.le_of_ble_eq_true rfl) ⟨Nat.le_refl _, Nat.le_refl _⟩ rfl (fun rh2 h2 hqh2 => ?_)
      obtain ⟨rfl, rfl⟩ := hqh2
      refine go_istore_n (lv' := [_, _, _, _]) (nx := 100) dX7_readsTwo_99 rfl (by decide) rfl rfl ?_
      refine go_aload_n 2 (nx := 101) dX7_readsTwo_100 rfl rfl rfl ?_
      refine go_Vi (nx := 104) [] kc_X7_96 ⟨_, _, rfl⟩ (by omega) hM (m_isWell hn hM) dX7_readsTwo_101 rfl rfl (Nat.le_of_ble_eq_true rfl) (Nat.le_of_ble_eq_true rfl) ⟨Nat.le_refl _, Nat.le_refl _⟩ rfl (fun rh3 h3 hqh3 => ?_)
      obtain ⟨rfl, rfl⟩ := hqh3
      refine go_if_ne 108 (nx := 107) dX7_readsTwo_104 rfl rfl (fun c104 => False.elim (c104 (by rw [decide_eq_false (tpl_pos hs4)]; rfl))) (fun c104 => ?_)
      refine go_retv dX7_readsTwo_107 rfl ?_
      exact hQ
    · skip
      refine go_aload_n 1 (nx := 84) dX7_readsTwo_83 rfl rfl rfl ?_
      refine go_gf (nx := 87) fg_X7_90 dX7_readsTwo_84 (by omega) hM rfl rfl ?_
      refine go_iload_n 0 (nx := 88) dX7_readsTwo_87 rfl rfl rfl ?_
      refine go_icmp_eq 95 (nx := 91) dX7_readsTwo_88 rfl rfl (fun c88 => ?_) (fun c88 => ?_)
      · skip
        refine go_iconst (v := nI 0) (nx := 96) dX7_readsTwo_95 (by decide) rfl ?_
        refine go_Vi (nx := 99) [_] kc_X7_103 ⟨_, _, rfl⟩ (by omega) hM (m_takesZ hn hM (tpl_pos hs4)) dX7_readsTwo_96 rfl rfl (Nat.le_of_ble_eq_true rfl) (Nat.le_of_ble_eq_true rfl) ⟨Nat.le_refl _, Nat.le_refl _⟩ rfl (fun rh2 h2 hqh2 => ?_)
        obtain ⟨rfl, rfl⟩ := hqh2
        refine go_istore_n (lv' := [_, _, _, _]) (nx := 100) dX7_readsTwo_99 rfl (by decide) rfl rfl ?_
        refine go_aload_n 2 (nx := 101) dX7_readsTwo_100 rfl rfl rfl ?_
        refine go_Vi (nx := 104) [] kc_X7_96 ⟨_, _, rfl⟩ (by omega) hM (m_isWell hn hM) dX7_readsTwo_101 rfl rfl (Nat.le_of_ble_eq_true rfl) (Nat.le_of_ble_eq_true rfl) ⟨Nat.le_refl _, Nat.le_refl _⟩ rfl (fun rh3 h3 hqh3 => ?_)
        obtain ⟨rfl, rfl⟩ := hqh3
        refine go_if_ne 108 (nx := 107) dX7_readsTwo_104 rfl rfl (fun c104 => False.elim (c104 (by rw [decide_eq_false (tpl_pos hs4)]; rfl))) (fun c104 => ?_)
        refine go_retv dX7_readsTwo_107 rfl ?_
        exact hQ
      · skip
        refine go_iconst (v := nI 1) (nx := 92) dX7_readsTwo_91 (by decide) rfl ?_
        refine go_goto 96 dX7_readsTwo_92 rfl ?_
        refine go_Vi (nx := 99) [_] kc_X7_103 ⟨_, _, rfl⟩ (by omega) hM (m_takesZ hn hM (tpl_pos hs4)) dX7_readsTwo_96 rfl rfl (Nat.le_of_ble_eq_true rfl) (Nat.le_of_ble_eq_true rfl) ⟨Nat.le_refl _, Nat.le_refl _⟩ rfl (fun rh2 h2 hqh2 => ?_)
        obtain ⟨rfl, rfl⟩ := hqh2
        refine go_istore_n (lv' := [_, _, _, _]) (nx := 100) dX7_readsTwo_99 rfl (by decide) rfl rfl ?_
        refine go_aload_n 2 (nx := 101) dX7_readsTwo_100 rfl rfl rfl ?_
        refine go_Vi (nx := 104) [] kc_X7_96 ⟨_, _, rfl⟩ (by omega) hM (m_isWell hn hM) dX7_readsTwo_101 rfl rfl (Nat.le_of_ble_eq_true rfl) (Nat.le_of_ble_eq_true rfl) ⟨Nat.le_refl _, Nat.le_refl _⟩ rfl (fun rh3 h3 hqh3 => ?_)
        obtain ⟨rfl, rfl⟩ := hqh3
        refine go_if_ne 108 (nx := 107) dX7_readsTwo_104 rfl rfl (fun c104 => False.elim (c104 (by rw [decide_eq_false (tpl_pos hs4)]; rfl))) (fun c104 => ?_)
        refine go_retv dX7_readsTwo_107 rfl ?_
        exact hQ
theorem l_two57 {G : kG} {n sz : Nat} {tx : Nat → Nat} {T D : mT} {tr : Int64} {dF dL dJ wF wL : Int32} {c a w : Nat} {h h0 : kH} (hn : 49 ≤ n) (HE : pE G tx sz tr T (.inr c) (nI D.1) dF dL dJ wF wL h) (HD : pD G T D h) (HT : oTm G tx sz h) (h256 : ∀ j, tx j < 256) (hs4 : sz ≤ 400) (hw : wT D) (ha : a < D.1) (hwd : w < 10) (hR : tmr h0 h) : Go G mX7_readsTwo (5, 0, 0) 57 [(2, .int (nI a)), (0, .ref (kb G + 37)), (1, .int (nI w))] [] (n, 0, 0) h (kQv mX7_readsTwo n (fun h' => pQ G tx sz tr T (if rB D (100 + a) (tSt tx sz c) = true then .inr (c + 1, rTell w a (tSt tx sz c - 100) D) else .inl c) D dF dL dJ wF wL h' ∧ oTm G tx sz h' ∧ tmr h0 h')) := by
  obtain ⟨th, nx, tk, pl, va, HO, HC⟩ := id HE
  have hM := HO
  unfold pO at hM
  obtain ⟨k, hnk, hk, hti, hnx, hpl, htk⟩ := id HC
  obtain ⟨ka, ba, hkt, hhb, hk1, hb1, hk2, hb2⟩ := id HD
  have hP := hw.1
  refine go_aload_n 1 (nx := 58) dX7_readsTwo_57 rfl rfl rfl ?_
  refine go_aload_n 1 (nx := 59) dX7_readsTwo_58 rfl rfl rfl ?_
  refine go_gf (nx := 62) fg_X7_83 dX7_readsTwo_59 (by omega) hM rfl rfl ?_
  refine go_iconst (v := nI 2) (nx := 63) dX7_readsTwo_62 (by decide) rfl ?_
  refine go_icmp_ne 95 (nx := 66) dX7_readsTwo_63 rfl rfl (fun c63 => ?_) (fun c63 => ?_)
  · skip
    refine go_iconst (v := nI 0) (nx := 96) dX7_readsTwo_95 (by decide) rfl ?_
    refine go_Vi (nx := 99) [_] kc_X7_103 ⟨_, _, rfl⟩ (by omega) hM (m_takesF hn hM rfl) dX7_readsTwo_96 rfl rfl (Nat.le_of_ble_eq_true rfl) (Nat.le_of_ble_eq_true rfl) ⟨Nat.le_refl _, Nat.le_refl _⟩ rfl (fun rh1 h1 hqh1 => ?_)
    obtain ⟨rfl, HO2, hFh1⟩ := hqh1
    have HT := HT.fr hFh1 (by omega)
    have hR := hR.k hFh1 (by omega)
    have HD := HD.fr hFh1 (by omega)
    have e : rB D (100 + a) (tSt tx sz c) = false := by
      have := fun q => c63 ((tkv_num htk).mpr q)
      simp only [rB, Bool.and_eq_false_iff, decide_eq_false_iff_not]
      exact Or.inl (Or.inl this)
    rw [if_neg (by rw [e]; decide)]
    rw [hpl] at HO2
    have hM := HO2
    unfold pO at hM
    refine go_istore_n (lv' := [_, _, _, _]) (nx := 100) dX7_readsTwo_99 rfl (by decide) rfl rfl ?_
    refine go_aload_n 2 (nx := 101) dX7_readsTwo_100 rfl rfl rfl ?_
    refine go_Vi (nx := 104) [] kc_X7_96 ⟨_, _, rfl⟩ (by omega) hM (m_isWell hn hM) dX7_readsTwo_101 rfl rfl (Nat.le_of_ble_eq_true rfl) (Nat.le_of_ble_eq_true rfl) ⟨Nat.le_refl _, Nat.le_refl _⟩ rfl (fun rh2 h2 hqh2 => ?_)
    obtain ⟨rfl, rfl⟩ := hqh2
    refine go_if_ne 108 (nx := 107) dX7_readsTwo_104 rfl rfl (fun c104 => False.elim (c104 (by rw [decide_eq_false (tpl_pos hs4)]; rfl))) (fun c104 => ?_)
    refine go_retv dX7_readsTwo_107 rfl ?_
    exact ⟨⟨⟨_, _, _, _, _, hM⟩, HD⟩, HT, hR⟩
  · skip
    refine go_aload_n 1 (nx := 67) dX7_readsTwo_66 rfl rfl rfl ?_
    refine go_gf (nx := 70) fg_X7_90 dX7_readsTwo_67 (by omega) hM rfl rfl ?_
    refine go_iconst (v := nI 0) (nx := 71) dX7_readsTwo_70 (by decide) rfl ?_
    refine go_aload_n 1 (nx := 72) dX7_readsTwo_71 rfl rfl rfl ?_
    refine go_gf (nx := 75) fg_X7_107 dX7_readsTwo_72 (by omega) hM rfl rfl ?_
    refine go_iconst (v := nI 1) (nx := 76) dX7_readsTwo_75 (by decide) rfl ?_
    refine go_isub (nx := 77) dX7_readsTwo_76 rfl ?_
    refine go_Si (nx := 80) [_, _, _] kc_X7_54 s_in dX7_readsTwo_77 rfl rfl (Nat.le_of_ble_eq_true rfl) (Nat.le_of_ble_eq_true rfl) ⟨Nat.le_refl _, Nat.le_refl _⟩ rfl (fun rh1 h1 hqh1 => ?_)
    obtain ⟨rfl, rfl⟩ := hqh1
    refine go_if_eq 95 (nx := 83) dX7_readsTwo_80 rfl rfl (fun c80 => ?_) (fun c80 => ?_)
    · skip
      refine go_iconst (v := nI 0) (nx := 96) dX7_readsTwo_95 (by decide) rfl ?_
      refine go_Vi (nx := 99) [_] kc_X7_103 ⟨_, _, rfl⟩ (by omega) hM (m_takesF hn hM rfl) dX7_readsTwo_96 rfl rfl (Nat.le_of_ble_eq_true rfl) (Nat.le_of_ble_eq_true rfl) ⟨Nat.le_refl _, Nat.le_refl _⟩ rfl (fun rh2 h2 hqh2 => ?_)
      obtain ⟨rfl, HO2, hFh2⟩ := hqh2
      have HT := HT.fr hFh2 (by omega)
      have hR := hR.k hFh2 (by omega)
      have HD := HD.fr hFh2 (by omega)
      have e : rB D (100 + a) (tSt tx sz c) = false := by
        have h100 := (tkv_num htk).mp c63
        have hvn := tkv_nv htk h100
        have e2 := (per_in hP).symm.trans (tb0 c80)
        rw [hvn.2] at e2
        simp only [rB, Bool.and_eq_false_iff, decide_eq_false_iff_not]
        refine Or.inl (Or.inr (fun q => ?_))
        rw [per_nI hP (by omega)] at e2
        cases e2
      rw [if_neg (by rw [e]; decide)]
      rw [hpl] at HO2
      have hM := HO2
      unfold pO at hM
      refine go_istore_n (lv' := [_, _, _, _]) (nx := 100) dX7_readsTwo_99 rfl (by decide) rfl rfl ?_
      refine go_aload_n 2 (nx := 101) dX7_readsTwo_100 rfl rfl rfl ?_
      refine go_Vi (nx := 104) [] kc_X7_96 ⟨_, _, rfl⟩ (by omega) hM (m_isWell hn hM) dX7_readsTwo_101 rfl rfl (Nat.le_of_ble_eq_true rfl) (Nat.le_of_ble_eq_true rfl) ⟨Nat.le_refl _, Nat.le_refl _⟩ rfl (fun rh3 h3 hqh3 => ?_)
      obtain ⟨rfl, rfl⟩ := hqh3
      refine go_if_ne 108 (nx := 107) dX7_readsTwo_104 rfl rfl (fun c104 => False.elim (c104 (by rw [decide_eq_false (tpl_pos hs4)]; rfl))) (fun c104 => ?_)
      refine go_retv dX7_readsTwo_107 rfl ?_
      exact ⟨⟨⟨_, _, _, _, _, hM⟩, HD⟩, HT, hR⟩
    · skip
      refine go_aload_n 1 (nx := 84) dX7_readsTwo_83 rfl rfl rfl ?_
      refine go_gf (nx := 87) fg_X7_90 dX7_readsTwo_84 (by omega) hM rfl rfl ?_
      refine go_iload_n 0 (nx := 88) dX7_readsTwo_87 rfl rfl rfl ?_
      refine go_icmp_eq 95 (nx := 91) dX7_readsTwo_88 rfl rfl (fun c88 => ?_) (fun c88 => ?_)
      · skip
        refine go_iconst (v := nI 0) (nx := 96) dX7_readsTwo_95 (by decide) rfl ?_
        refine go_Vi (nx := 99) [_] kc_X7_103 ⟨_, _, rfl⟩ (by omega) hM (m_takesF hn hM rfl) dX7_readsTwo_96 rfl rfl (Nat.le_of_ble_eq_true rfl) (Nat.le_of_ble_eq_true rfl) ⟨Nat.le_refl _, Nat.le_refl _⟩ rfl (fun rh2 h2 hqh2 => ?_)
        obtain ⟨rfl, HO2, hFh2⟩ := hqh2
        have HT := HT.fr hFh2 (by omega)
        have hR := hR.k hFh2 (by omega)
        have HD := HD.fr hFh2 (by omega)
        have e : rB D (100 + a) (tSt tx sz c) = false := by
          have h100 := (tkv_num htk).mp c63
          have hvn := tkv_nv htk h100
          have e2 := keq (hvn.2.symm.trans c88) (by omega) (by omega)
          simp only [rB, Bool.and_eq_false_iff, Bool.not_eq_false', beq_iff_eq]
          exact Or.inr (by omega)
        rw [if_neg (by rw [e]; decide)]
        rw [hpl] at HO2
        have hM := HO2
        unfold pO at hM
        refine go_istore_n (lv' := [_, _, _, _]) (nx := 100) dX7_readsTwo_99 rfl (by decide) rfl rfl ?_
        refine go_aload_n 2 (nx := 101) dX7_readsTwo_100 rfl rfl rfl ?_
        refine go_Vi (nx := 104) [] kc_X7_96 ⟨_, _, rfl⟩ (by omega) hM (m_isWell hn hM) dX7_readsTwo_101 rfl rfl (Nat.le_of_ble_eq_true rfl) (Nat.le_of_ble_eq_true rfl) ⟨Nat.le_refl _, Nat.le_refl _⟩ rfl (fun rh3 h3 hqh3 => ?_)
        obtain ⟨rfl, rfl⟩ := hqh3
        refine go_if_ne 108 (nx := 107) dX7_readsTwo_104 rfl rfl (fun c104 => False.elim (c104 (by rw [decide_eq_false (tpl_pos hs4)]; rfl))) (fun c104 => ?_)
        refine go_retv dX7_readsTwo_107 rfl ?_
        exact ⟨⟨⟨_, _, _, _, _, hM⟩, HD⟩, HT, hR⟩
      · skip
        refine go_iconst (v := nI 1) (nx := 92) dX7_readsTwo_91 (by decide) rfl ?_
        refine go_goto 96 dX7_readsTwo_92 rfl ?_
        refine go_Vi (nx := 99) [_] kc_X7_103 ⟨_, _, rfl⟩ (by omega) hM (m_takesT hn hM HC HT h256 hs4 rfl) dX7_readsTwo_96 rfl rfl (Nat.le_of_ble_eq_true rfl) (Nat.le_of_ble_eq_true rfl) ⟨Nat.le_refl _, Nat.le_refl _⟩ rfl (fun rh2 h2 hqh2 => ?_)
        obtain ⟨rfl, ⟨nx2, tk2, pl2, va2, hM, HC2⟩, hFh2⟩ := hqh2
        have hkt := (hFh2 39 (by omega)).trans hkt
        have hhb := (hFh2 40 (by omega)).trans hhb
        have HT := HT.fr hFh2 (by omega)
        have hR := hR.k hFh2 (by omega)
        have h100 := (tkv_num htk).mp c63
        have hvn := tkv_nv htk h100
        obtain ⟨b, hb, hvb⟩ := per_of hP ((per_in hP).symm.trans (tbn0 c80))
        have hbe : tSt tx sz c - 100 = b := keq (hvn.2.symm.trans hvb) (by omega) (by omega)
        have hne : ¬ b = a := fun q => c88 (by rw [hvb, q])
        have e : rB D (100 + a) (tSt tx sz c) = true := by
          simp only [rB, Bool.and_eq_true, decide_eq_true_eq, Bool.not_eq_true', beq_eq_false_iff_ne]
          omega
        rw [if_pos e, hbe, hvb]
        have hM := hM
        unfold pO at hM
        have ha8 : a < 8 := by omega
        have hb8 : b < 8 := by omega
        refine go_istore_n (lv' := [_, _, _, _]) (nx := 100) dX7_readsTwo_99 rfl (by decide) rfl rfl ?_
        refine go_aload_n 2 (nx := 101) dX7_readsTwo_100 rfl rfl rfl ?_
        refine go_Vi (nx := 104) [] kc_X7_96 ⟨_, _, rfl⟩ (by omega) hM (m_isWell hn hM) dX7_readsTwo_101 rfl rfl (Nat.le_of_ble_eq_true rfl) (Nat.le_of_ble_eq_true rfl) ⟨Nat.le_refl _, Nat.le_refl _⟩ rfl (fun rh3 h3 hqh3 => ?_)
        obtain ⟨rfl, rfl⟩ := hqh3
        refine go_if_ne 108 (nx := 107) dX7_readsTwo_104 rfl rfl (fun c104 => ?_) (fun c104 => False.elim (absurd c104 (by decide)))
        refine go_iload_n 3 (nx := 109) dX7_readsTwo_108 rfl rfl rfl ?_
        refine go_iconst (v := nI 3) (nx := 110) dX7_readsTwo_109 (by decide) rfl ?_
        refine go_icmp_ne 126 (nx := 113) dX7_readsTwo_110 rfl rfl (fun c110 => ?_) (fun c110 => ?_)
        · skip
          refine go_aload_n 2 (nx := 127) dX7_readsTwo_126 rfl rfl rfl ?_
          refine go_gf (nx := 130) fg_X7_13 dX7_readsTwo_127 (by omega) hM rfl rfl ?_
          refine go_bipush (v := nI 8) (nx := 132) dX7_readsTwo_130 (by decide) rfl ?_
          refine go_iload_n 1 (nx := 133) dX7_readsTwo_132 rfl rfl rfl ?_
          refine go_iadd (nx := 134) dX7_readsTwo_133 rfl ?_
          refine go_dup2_11 (nx := 135) dX7_readsTwo_134 rfl rfl rfl ?_
          refine go_ial (8 + a) (nx := 136) dX7_readsTwo_135 (by omega) hkt (by rw [nI_add]) (by omega) (by omega) rfl ?_
          rw [hk2 a ha]
          refine go_iconst (v := nI 1) (nx := 137) dX7_readsTwo_136 (by decide) rfl ?_
          refine go_iload_n 0 (nx := 138) dX7_readsTwo_137 rfl rfl rfl ?_
          refine go_ishl (nx := 139) dX7_readsTwo_138 rfl ?_
          refine go_ior (nx := 140) dX7_readsTwo_139 rfl ?_
          rw [i_set _ (row_lt _ _) b hb8]
          refine go_ias (8 + a) (nx := 141) dX7_readsTwo_140 (by omega) hkt (by rw [nI_add]) (by omega) (by omega) rfl (fun h4 eh4 fh4 => ?_)
          have hM := (fh4 (37) (by omega)).trans hM
          have hhb := (fh4 (40) (by omega)).trans hhb
          have hkt := eh4
          refine go_aload_n 2 (nx := 142) dX7_readsTwo_141 rfl rfl rfl ?_
          refine go_gf (nx := 145) fg_X7_13 dX7_readsTwo_142 (by omega) hM rfl rfl ?_
          refine go_bipush (v := nI 8) (nx := 147) dX7_readsTwo_145 (by decide) rfl ?_
          refine go_iload_n 0 (nx := 148) dX7_readsTwo_147 rfl rfl rfl ?_
          refine go_iadd (nx := 149) dX7_readsTwo_148 rfl ?_
          refine go_dup2_11 (nx := 150) dX7_readsTwo_149 rfl rfl rfl ?_
          refine go_ial (8 + b) (nx := 151) dX7_readsTwo_150 (by omega) hkt (by rw [nI_add]) (by omega) (by omega) rfl ?_
          rw [pk_un (by omega), hk2 b hb]
          refine go_iload_n 3 (nx := 152) dX7_readsTwo_151 rfl rfl rfl ?_
          refine go_iconst (v := nI 2) (nx := 153) dX7_readsTwo_152 (by decide) rfl ?_
          refine go_icmp_ne 162 (nx := 156) dX7_readsTwo_153 rfl rfl (fun c153 => ?_) (fun c153 => ?_)
          · skip
            refine go_iconst (v := nI 0) (nx := 163) dX7_readsTwo_162 (by decide) rfl ?_
            refine go_ior (nx := 164) dX7_readsTwo_163 rfl ?_
            rw [i_or0 _ (row_lt _ _)]
            refine go_ias (8 + b) (nx := 165) dX7_readsTwo_164 (by omega) hkt (by rw [nI_add]) (by omega) (by omega) rfl (fun h5 eh5 fh5 => ?_)
            have hM := (fh5 (37) (by omega)).trans hM
            have hhb := (fh5 (40) (by omega)).trans hhb
            have hkt := eh5
            refine go_retv dX7_readsTwo_165 rfl ?_
            have w3 : ¬ w = 3 := fun q => c110 (by rw [q])
            have w2 : ¬ w = 2 := fun q => c153 (by rw [q])
            have fx : kFr 39 40 _ h5 := fun j hj => (fh5 j (by omega)).trans (fh4 j (by omega))
            refine ⟨⟨⟨_, _, _, _, _, hM, HC2⟩, _, _, hkt, hhb, fun p hp => ?_, hb1, fun p hp => ?_, fun p hp => ?_⟩, HT.fr fx (by omega), hR.k fx (by omega)⟩
            · rw [pk_un (by omega), pk_un (by omega)]; exact hk1 p hp
            · show _ = nI (row (if w = 3 then D.2.1 else if w = 2 then kSet (kSet D.2.1 a b) b a else kSet D.2.1 a b) p)
              rw [if_neg w3, if_neg w2]
              replace hp : p < D.1 := hp
              by_cases qb : p = b
              · rw [qb, pk_us, row_ne hne]
              · rw [pk_un (by omega)]
                by_cases qa : p = a
                · rw [qa, pk_us, row_set hb8]
                · rw [pk_un (by omega), row_ne qa]; exact hk2 p hp
            · show ba (8 + p) = hab ((if w = 3 then (fun p => if p = a then some b else D.2.2.1 p) else D.2.2.1) p)
              rw [if_neg w3]
              exact hb2 p hp
          · skip
            refine go_iconst (v := nI 1) (nx := 157) dX7_readsTwo_156 (by decide) rfl ?_
            refine go_iload_n 1 (nx := 158) dX7_readsTwo_157 rfl rfl rfl ?_
            refine go_ishl (nx := 159) dX7_readsTwo_158 rfl ?_
            refine go_goto 163 dX7_readsTwo_159 rfl ?_
            refine go_ior (nx := 164) dX7_readsTwo_163 rfl ?_
            rw [i_set _ (row_lt _ _) a ha8]
            refine go_ias (8 + b) (nx := 165) dX7_readsTwo_164 (by omega) hkt (by rw [nI_add]) (by omega) (by omega) rfl (fun h5 eh5 fh5 => ?_)
            have hM := (fh5 (37) (by omega)).trans hM
            have hhb := (fh5 (40) (by omega)).trans hhb
            have hkt := eh5
            refine go_retv dX7_readsTwo_165 rfl ?_
            have w3 : ¬ w = 3 := fun q => c110 (by rw [q])
            have w2 : w = 2 := keq c153 (by omega) (by decide)
            have fx : kFr 39 40 _ h5 := fun j hj => (fh5 j (by omega)).trans (fh4 j (by omega))
            refine ⟨⟨⟨_, _, _, _, _, hM, HC2⟩, _, _, hkt, hhb, fun p hp => ?_, hb1, fun p hp => ?_, fun p hp => ?_⟩, HT.fr fx (by omega), hR.k fx (by omega)⟩
            · rw [pk_un (by omega), pk_un (by omega)]; exact hk1 p hp
            · show _ = nI (row (if w = 3 then D.2.1 else if w = 2 then kSet (kSet D.2.1 a b) b a else kSet D.2.1 a b) p)
              rw [if_neg w3, if_pos w2]
              replace hp : p < D.1 := hp
              by_cases qb : p = b
              · rw [qb, pk_us, row_set ha8, row_ne hne]
              · rw [pk_un (by omega), row_ne qb]
                by_cases qa : p = a
                · rw [qa, pk_us, row_set hb8]
                · rw [pk_un (by omega), row_ne qa]; exact hk2 p hp
            · show ba (8 + p) = hab ((if w = 3 then (fun p => if p = a then some b else D.2.2.1 p) else D.2.2.1) p)
              rw [if_neg w3]
              exact hb2 p hp
        · skip
          refine go_aload_n 2 (nx := 114) dX7_readsTwo_113 rfl rfl rfl ?_
          refine go_gf (nx := 117) fg_X7_16 dX7_readsTwo_114 (by omega) hM rfl rfl ?_
          refine go_bipush (v := nI 8) (nx := 119) dX7_readsTwo_117 (by decide) rfl ?_
          refine go_iload_n 1 (nx := 120) dX7_readsTwo_119 rfl rfl rfl ?_
          refine go_iadd (nx := 121) dX7_readsTwo_120 rfl ?_
          refine go_iload_n 0 (nx := 122) dX7_readsTwo_121 rfl rfl rfl ?_
          refine go_ias (8 + a) (nx := 123) dX7_readsTwo_122 (by omega) hhb (by rw [nI_add]) (by omega) (by omega) rfl (fun h4 eh4 fh4 => ?_)
          have hM := (fh4 (37) (by omega)).trans hM
          have hkt := (fh4 (39) (by omega)).trans hkt
          have hhb := eh4
          refine go_goto 165 dX7_readsTwo_123 rfl ?_
          refine go_retv dX7_readsTwo_165 rfl ?_
          have w3 : w = 3 := keq c110 (by omega) (by decide)
          have fx : kFr 40 41 _ h4 := fun j hj => fh4 j (by omega)
          refine ⟨⟨⟨_, _, _, _, _, hM, HC2⟩, _, _, hkt, hhb, hk1, fun p hp => ?_, fun p hp => ?_, fun p hp => ?_⟩, HT.fr fx (by omega), hR.k fx (by omega)⟩
          · rw [pk_un (by omega)]; exact hb1 p hp
          · show ka (8 + p) = nI (row (if w = 3 then D.2.1 else _) p)
            rw [if_pos w3]
            exact hk2 p hp
          · show _ = hab ((if w = 3 then (fun p => if p = a then some b else D.2.2.1 p) else D.2.2.1) p)
            rw [if_pos w3]
            by_cases q : p = a
            · rw [q, pk_us, if_pos rfl]; rfl
            · rw [pk_un (by omega), if_neg q]; exact hb2 p hp
theorem m_readsTwo {G : kG} {n sz : Nat} {tx : Nat → Nat} {T D : mT} {tr : Int64} {dF dL dJ wF wL : Int32} {c w : Nat} {h : kH} {x : Int32} (hn : 49 ≤ n) (HE : pE G tx sz tr T (.inr c) (nI D.1) dF dL dJ wF wL h) (HD : pD G T D h) (HT : oTm G tx sz h) (h256 : ∀ j, tx j < 256) (hs4 : sz ≤ 400) (hw : wT D) (hx : x = nI w) (hwd : w < 10) : Spv G mX7_readsTwo 5 [.ref (kb G + 37), .int x] n h (fun h' => pQ G tx sz tr T (rdP (tSt tx sz) w c D) D dF dL dJ wF wL h' ∧ oTm G tx sz h' ∧ tmr h h') := by
  subst hx
  obtain ⟨th, nx, tk, pl, va, HO, HC⟩ := id HE
  have hM := HO
  unfold pO at hM
  obtain ⟨k, hnk, hk, hti, hnx, hpl, htk⟩ := id HC
  obtain ⟨ka, ba, hkt, hhb, hk1, hb1, hk2, hb2⟩ := id HD
  have hP := hw.1
  refine Spv.of (by decide) (Nat.le_of_ble_eq_true rfl) ?_
  refine Go.loc (lv' := [(0, _), (1, _)]) rfl ?_
  refine go_aload_n 0 (nx := 1) dX7_readsTwo_0 rfl rfl rfl ?_
  refine go_aload_n 0 (nx := 2) dX7_readsTwo_1 rfl rfl rfl ?_
  refine go_gf (nx := 5) fg_X7_83 dX7_readsTwo_2 (by omega) hM rfl rfl ?_
  refine go_iconst (v := nI 2) (nx := 6) dX7_readsTwo_5 (by decide) rfl ?_
  refine go_icmp_ne 52 (nx := 9) dX7_readsTwo_6 rfl rfl (fun c6 => ?_) (fun c6 => ?_)
  · skip
    refine go_iconst (v := nI 0) (nx := 53) dX7_readsTwo_52 (by decide) rfl ?_
    refine go_Vi (nx := 56) [_] kc_X7_103 ⟨_, _, rfl⟩ (by omega) hM (m_takesF hn hM rfl) dX7_readsTwo_53 rfl rfl (Nat.le_of_ble_eq_true rfl) (Nat.le_of_ble_eq_true rfl) ⟨Nat.le_refl _, Nat.le_refl _⟩ rfl (fun rh1 h1 hqh1 => ?_)
    obtain ⟨rfl, HO2, hFh1⟩ := hqh1
    have HT := HT.fr hFh1 (by omega)
    have HD := HD.fr hFh1 (by omega)
    have e : rA D w (tSt tx sz c) = false := by
      have := fun q => c6 ((tkv_num htk).mpr q)
      simp only [rA, Bool.and_eq_false_iff, decide_eq_false_iff_not]
      exact Or.inl (Or.inl this)
    rw [rdP, if_neg (by rw [e]; decide)]
    rw [hpl] at HO2
    refine go_istore_n (lv' := [_, _, _]) (nx := 57) dX7_readsTwo_56 rfl (by decide) rfl rfl ?_
    refine Go.sub [0, 1, 2] rfl ?_
    exact l_two57Z hn ⟨_, _, _, _, _, HO2⟩ hs4 ⟨⟨⟨_, _, _, _, _, HO2⟩, HD⟩, HT, tmr.rf.k hFh1 (by omega)⟩
  · skip
    refine go_aload_n 0 (nx := 10) dX7_readsTwo_9 rfl rfl rfl ?_
    refine go_gf (nx := 13) fg_X7_90 dX7_readsTwo_10 (by omega) hM rfl rfl ?_
    refine go_iconst (v := nI 0) (nx := 14) dX7_readsTwo_13 (by decide) rfl ?_
    refine go_aload_n 0 (nx := 15) dX7_readsTwo_14 rfl rfl rfl ?_
    refine go_gf (nx := 18) fg_X7_107 dX7_readsTwo_15 (by omega) hM rfl rfl ?_
    refine go_iconst (v := nI 1) (nx := 19) dX7_readsTwo_18 (by decide) rfl ?_
    refine go_isub (nx := 20) dX7_readsTwo_19 rfl ?_
    refine go_Si (nx := 23) [_, _, _] kc_X7_54 s_in dX7_readsTwo_20 rfl rfl (Nat.le_of_ble_eq_true rfl) (Nat.le_of_ble_eq_true rfl) ⟨Nat.le_refl _, Nat.le_refl _⟩ rfl (fun rh1 h1 hqh1 => ?_)
    obtain ⟨rfl, rfl⟩ := hqh1
    refine go_if_eq 52 (nx := 26) dX7_readsTwo_23 rfl rfl (fun c23 => ?_) (fun c23 => ?_)
    · skip
      refine go_iconst (v := nI 0) (nx := 53) dX7_readsTwo_52 (by decide) rfl ?_
      refine go_Vi (nx := 56) [_] kc_X7_103 ⟨_, _, rfl⟩ (by omega) hM (m_takesF hn hM rfl) dX7_readsTwo_53 rfl rfl (Nat.le_of_ble_eq_true rfl) (Nat.le_of_ble_eq_true rfl) ⟨Nat.le_refl _, Nat.le_refl _⟩ rfl (fun rh2 h2 hqh2 => ?_)
      obtain ⟨rfl, HO2, hFh2⟩ := hqh2
      have HT := HT.fr hFh2 (by omega)
      have HD := HD.fr hFh2 (by omega)
      have e : rA D w (tSt tx sz c) = false := by
        have h100 := (tkv_num htk).mp c6
        have hvn := tkv_nv htk h100
        have e2 := (per_in hP).symm.trans (tb0 c23)
        rw [hvn.2] at e2
        simp only [rA, Bool.and_eq_false_iff, decide_eq_false_iff_not]
        refine Or.inl (Or.inr (fun q => ?_))
        rw [per_nI hP (by omega)] at e2
        cases e2
      rw [rdP, if_neg (by rw [e]; decide)]
      rw [hpl] at HO2
      refine go_istore_n (lv' := [_, _, _]) (nx := 57) dX7_readsTwo_56 rfl (by decide) rfl rfl ?_
      refine Go.sub [0, 1, 2] rfl ?_
      exact l_two57Z hn ⟨_, _, _, _, _, HO2⟩ hs4 ⟨⟨⟨_, _, _, _, _, HO2⟩, HD⟩, HT, tmr.rf.k hFh2 (by omega)⟩
    · skip
      have h100 := (tkv_num htk).mp c6
      have hvn := tkv_nv htk h100
      obtain ⟨a, ha, hva⟩ := per_of hP ((per_in hP).symm.trans (tbn0 c23))
      have hae : tSt tx sz c - 100 = a := keq (hvn.2.symm.trans hva) (by omega) (by omega)
      refine go_iload_n 1 (nx := 27) dX7_readsTwo_26 rfl rfl rfl ?_
      refine go_iconst (v := nI 3) (nx := 28) dX7_readsTwo_27 (by decide) rfl ?_
      refine go_icmp_ne 48 (nx := 31) dX7_readsTwo_28 rfl rfl (fun c28 => ?_) (fun c28 => ?_)
      · skip
        refine go_iconst (v := nI 1) (nx := 49) dX7_readsTwo_48 (by decide) rfl ?_
        refine go_goto 53 dX7_readsTwo_49 rfl ?_
        refine go_Vi (nx := 56) [_] kc_X7_103 ⟨_, _, rfl⟩ (by omega) hM (m_takesT hn hM HC HT h256 hs4 rfl) dX7_readsTwo_53 rfl rfl (Nat.le_of_ble_eq_true rfl) (Nat.le_of_ble_eq_true rfl) ⟨Nat.le_refl _, Nat.le_refl _⟩ rfl (fun rh2 h2 hqh2 => ?_)
        obtain ⟨rfl, HE2, hFh2⟩ := hqh2
        have HT := HT.fr hFh2 (by omega)
        have HD := HD.fr hFh2 (by omega)
        have e : rA D w (tSt tx sz c) = true := by
          have nn : ¬ w = 3 ∨ (D.2.2.1 a).isNone = true := Or.inl (fun q => c28 (by rw [q]))
          simp only [rA, Bool.and_eq_true, Bool.or_eq_true, decide_eq_true_eq, Bool.not_eq_true', beq_eq_false_iff_ne]
          rw [hae]
          exact ⟨⟨h100, by omega⟩, nn⟩
        rw [rdP, if_pos e, hva, show tSt tx sz c = 100 + a by omega, show 100 + a - 100 = a by omega]
        refine go_istore_n (lv' := [_, _, _]) (nx := 57) dX7_readsTwo_56 rfl (by decide) rfl rfl ?_
        refine Go.sub [0, 1, 2] rfl ?_
        obtain ⟨nx2, tk2, pl2, va2, HO2, HC2⟩ := HE2
        exact l_two57 hn ⟨_, _, _, _, _, HO2, HC2⟩ HD HT h256 hs4 hw ha hwd (tmr.rf.k hFh2 (by omega))
      · skip
        refine go_aload_n 0 (nx := 32) dX7_readsTwo_31 rfl rfl rfl ?_
        refine go_gf (nx := 35) fg_X7_16 dX7_readsTwo_32 (by omega) hM rfl rfl ?_
        refine go_bipush (v := nI 8) (nx := 37) dX7_readsTwo_35 (by decide) rfl ?_
        refine go_aload_n 0 (nx := 38) dX7_readsTwo_37 rfl rfl rfl ?_
        refine go_gf (nx := 41) fg_X7_90 dX7_readsTwo_38 (by omega) hM rfl rfl ?_
        refine go_iadd (nx := 42) dX7_readsTwo_41 rfl ?_
        refine go_ial (8 + a) (nx := 43) dX7_readsTwo_42 (by omega) hhb (by rw [hva, nI_add]) (by omega) (by omega) rfl ?_
        rw [hb2 a ha]
        refine go_bipush (v := (-9)) (nx := 45) dX7_readsTwo_43 (by decide) rfl ?_
        refine go_icmp_ne 52 (nx := 48) dX7_readsTwo_45 rfl rfl (fun c45 => ?_) (fun c45 => ?_)
        · skip
          refine go_iconst (v := nI 0) (nx := 53) dX7_readsTwo_52 (by decide) rfl ?_
          refine go_Vi (nx := 56) [_] kc_X7_103 ⟨_, _, rfl⟩ (by omega) hM (m_takesF hn hM rfl) dX7_readsTwo_53 rfl rfl (Nat.le_of_ble_eq_true rfl) (Nat.le_of_ble_eq_true rfl) ⟨Nat.le_refl _, Nat.le_refl _⟩ rfl (fun rh2 h2 hqh2 => ?_)
          obtain ⟨rfl, HO2, hFh2⟩ := hqh2
          have HT := HT.fr hFh2 (by omega)
          have HD := HD.fr hFh2 (by omega)
          have e : rA D w (tSt tx sz c) = false := by
            have w3 : w = 3 := keq c28 (by omega) (by decide)
            simp only [rA, Bool.and_eq_false_iff, Bool.or_eq_false_iff, Bool.not_eq_false', beq_iff_eq]
            refine Or.inr ⟨w3, ?_⟩
            rw [hae]
            cases eN : D.2.2.1 a with
            | none => exact absurd ((hab_no hw).mpr eN) c45
            | some b => rfl
          rw [rdP, if_neg (by rw [e]; decide)]
          rw [hpl] at HO2
          refine go_istore_n (lv' := [_, _, _]) (nx := 57) dX7_readsTwo_56 rfl (by decide) rfl rfl ?_
          refine Go.sub [0, 1, 2] rfl ?_
          exact l_two57Z hn ⟨_, _, _, _, _, HO2⟩ hs4 ⟨⟨⟨_, _, _, _, _, HO2⟩, HD⟩, HT, tmr.rf.k hFh2 (by omega)⟩
        · skip
          refine go_iconst (v := nI 1) (nx := 49) dX7_readsTwo_48 (by decide) rfl ?_
          refine go_goto 53 dX7_readsTwo_49 rfl ?_
          refine go_Vi (nx := 56) [_] kc_X7_103 ⟨_, _, rfl⟩ (by omega) hM (m_takesT hn hM HC HT h256 hs4 rfl) dX7_readsTwo_53 rfl rfl (Nat.le_of_ble_eq_true rfl) (Nat.le_of_ble_eq_true rfl) ⟨Nat.le_refl _, Nat.le_refl _⟩ rfl (fun rh2 h2 hqh2 => ?_)
          obtain ⟨rfl, HE2, hFh2⟩ := hqh2
          have HT := HT.fr hFh2 (by omega)
          have HD := HD.fr hFh2 (by omega)
          have e : rA D w (tSt tx sz c) = true := by
            have nn : ¬ w = 3 ∨ (D.2.2.1 a).isNone = true := Or.inr (Option.isNone_iff_eq_none.mpr ((hab_no hw).mp c45))
            simp only [rA, Bool.and_eq_true, Bool.or_eq_true, decide_eq_true_eq, Bool.not_eq_true', beq_eq_false_iff_ne]
            rw [hae]
            exact ⟨⟨h100, by omega⟩, nn⟩
          rw [rdP, if_pos e, hva, show tSt tx sz c = 100 + a by omega, show 100 + a - 100 = a by omega]
          refine go_istore_n (lv' := [_, _, _]) (nx := 57) dX7_readsTwo_56 rfl (by decide) rfl rfl ?_
          refine Go.sub [0, 1, 2] rfl ?_
          obtain ⟨nx2, tk2, pl2, va2, HO2, HC2⟩ := HE2
          exact l_two57 hn ⟨_, _, _, _, _, HO2, HC2⟩ HD HT h256 hs4 hw ha hwd (tmr.rf.k hFh2 (by omega))
