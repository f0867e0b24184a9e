/-! the reference: advances -/
theorem mby_eq {tx : Nat → Nat} {sz k b : Nat} (h : ∀ j, tx j < 256) (hb : b < 256) : mby tx sz k = nI b ↔ k < sz ∧ tx k = b := by
  have hk := h k
  unfold mby
  by_cases e : k < sz
  · rw [if_pos e]
    exact ⟨fun q => ⟨e, keq q (by omega) (by omega)⟩, fun q => by rw [q.2]⟩
  · rw [if_neg e]
    exact ⟨fun q => absurd q (fun q => nI_pos (n := b) (by omega) (by rw [← q]; decide)), fun q => absurd q.1 e⟩
theorem mby_neg {tx : Nat → Nat} {sz k : Nat} (h : ∀ j, tx j < 256) : (0 : Int32) ≤ mby tx sz k ↔ k < sz := by
  have hk := h k
  unfold mby
  by_cases e : k < sz
  · rw [if_pos e]
    exact ⟨fun _ => e, fun _ => nI_pos' (by omega)⟩
  · rw [if_neg e]
    exact ⟨fun q => absurd q (by decide), fun q => absurd q e⟩
theorem mby_in {tx : Nat → Nat} {sz k a b : Nat} (h : ∀ j, tx j < 256) (ha : a < 256) (hb : b < 256) : inB (nI a) (nI b) (mby tx sz k) = (decide (k < sz) && decide (a ≤ tx k) && decide (tx k ≤ b)) := by
  have hk := h k
  unfold inB mby
  by_cases e : k < sz
  · rw [if_pos e, decide_eq_true e, Bool.true_and, Bool.eq_iff_iff]
    simp only [Bool.and_eq_true, decide_eq_true_eq]
    rw [nI_leI (by omega) (by omega), nI_leI (by omega) (by omega)]
  · rw [if_neg e, decide_eq_false e]
    have q : ¬ nI a ≤ (-1 : Int32) := fun q => by
      have h1 := Int32.le_iff_toInt_le.mp q
      rw [nI_toInt (by omega), show (-1 : Int32).toInt = -1 from rfl] at h1
      omega
    simp [q]
theorem mby_l {tx : Nat → Nat} {sz k : Nat} (h : ∀ j, tx j < 256) : inB (nI 97) (nI 122) (mby tx sz k) = tlt tx sz k := mby_in h (by decide) (by decide)
theorem mby_d {tx : Nat → Nat} {sz k : Nat} (h : ∀ j, tx j < 256) : inB (nI 48) (nI 57) (mby tx sz k) = tdg tx sz k := mby_in h (by decide) (by decide)
theorem mby_at {tx : Nat → Nat} {sz k : Nat} (h : k < sz) : mby tx sz k = nI (tx k) := if_pos h
def VL (tx : Nat → Nat) (p j : Nat) : Nat := fvL (rvF (fun i => tx (p + i)) (min j 8))
theorem VL_s {tx : Nat → Nat} {sz p j : Nat} (h : ∀ j, tx j < 256) (hj : j < 8) (hl : tlt tx sz (p + j) = true) : addL (lN (VL tx p j)) (mby tx sz (p + j)) = lN (VL tx p (j + 1)) := by
  have h1 := tlt_d hl
  rw [mby_at h1.1, addL, if_neg (fun q => by have := keq (b := 0) q (by omega) (by decide); omega), nI_l (by omega), show (256 : Int64) = lN 256 from rfl, lN_mul, lN_add]
  unfold VL
  rw [show min j 8 = j by omega, show min (j + 1) 8 = j + 1 by omega]
  rfl
theorem VL_8 {tx : Nat → Nat} {p j : Nat} (hj : 8 ≤ j) : VL tx p j = VL tx p (j + 1) := by
  unfold VL
  rw [show min j 8 = 8 by omega, show min (j + 1) 8 = 8 by omega]
theorem VL_7 {tx : Nat → Nat} {p j : Nat} (hj : j ≤ 7) : VL tx p j = fvL (rvF (fun i => tx (p + i)) j) := by
  unfold VL
  rw [show min j 8 = j by omega]
theorem woI_no {V : Nat} (h : woI (wOf V) = -9) : wOf V = none := by
  cases e : wOf V with
  | none => rfl
  | some w =>
    rw [e] at h
    have hw := wOf_lt e
    exact absurd h (fun q => nI_pos (n := w) (by omega) (by rw [show nI w = -9 from q]; decide))
theorem woI_yes {V : Nat} (h : ¬ woI (wOf V) = -9) : ∃ w, wOf V = some w ∧ w < 10 := by
  cases e : wOf V with
  | none => rw [e] at h; exact absurd rfl h
  | some w => exact ⟨w, rfl, wOf_lt e⟩
theorem l_aletters {G : kG} {n sz : Nat} {tx : Nat → Nat} {T : mT} {tr : Int64} {th tk va fa dP dF dL dJ wF wL : Int32} {c p : Nat} {h0 : kH} {y : Int32} (hn : 49 ≤ n) (h256 : ∀ j, tx j < 256) (hs4 : sz ≤ 400) (hp : tpl tx sz c = p) (hp1 : tlt tx sz p = true) : ∀ (d j : Nat) (h : kH), sz - (p + j) < d → p + j ≤ sz → (∀ i, i < j → tlt tx sz (p + i) = true) → pO G tr sz T th (nI (p + j)) tk (nI p) va fa dP dF dL dJ wF wL h → oTm G tx sz h → kFr 37 38 h0 h → Go G mX7_advances (3, 0, 0) 68 [(2, .long (lN (VL tx p j))), (0, .ref (kb G + 37)), (1, .int y)] [] (n, 0, 0) h (kQv mX7_advances n (fun h' => (∃ nx tk pl va : Int32, pO G tr sz T th nx tk pl va fa dP dF dL dJ wF wL h' ∧ pC tx sz c nx tk pl va) ∧ kFr 37 38 h0 h')) := by
  intro d
  induction d with
  | zero => intro j h hd; omega
  | succ d ih =>
    intro j h hd hj hl HO HT hF
    have hM := HO
    unfold pO at hM
    obtain ⟨ta, htm, hta⟩ := id HT
    have tt : ttk tx sz p = twd tx sz p := by rw [ttk, if_pos (tlt_d hp1).1, if_pos hp1]
    refine go_aload_n 1 (nx := 69) dX7_advances_68 rfl rfl rfl ?_
    refine go_aload_n 1 (nx := 70) dX7_advances_69 rfl rfl rfl ?_
    refine go_gf (nx := 73) fg_X7_73 dX7_advances_70 (by omega) hM rfl rfl ?_
    refine go_Vi (nx := 76) [_] kc_X7_76 ⟨_, _, rfl⟩ (by omega) hM (m_byteAt hn hM ⟨_, htm, hta⟩ h256 hs4 rfl (by omega)) dX7_advances_73 rfl rfl (Nat.le_of_ble_eq_true rfl) (Nat.le_of_ble_eq_true rfl) ⟨Nat.le_refl _, Nat.le_refl _⟩ rfl (fun rh1 h1 hqh1 => ?_)
    obtain ⟨rfl, rfl⟩ := hqh1
    refine go_bipush (v := nI 97) (nx := 78) dX7_advances_76 (by decide) rfl ?_
    refine go_bipush (v := nI 122) (nx := 80) dX7_advances_78 (by decide) rfl ?_
    refine go_Si (nx := 83) [_, _, _] kc_X7_54 s_in dX7_advances_80 rfl rfl (Nat.le_of_ble_eq_true rfl) (Nat.le_of_ble_eq_true rfl) ⟨Nat.le_refl _, Nat.le_refl _⟩ rfl (fun rh2 h2 hqh2 => ?_)
    obtain ⟨rfl, rfl⟩ := hqh2
    refine go_if_eq 130 (nx := 86) dX7_advances_83 rfl rfl (fun c83 => ?_) (fun c83 => ?_)
    · skip
      have htl : tlt tx sz (p + j) = false := (mby_l h256).symm.trans (tb0 c83)
      have hj1 : 1 ≤ j := by
        rcases Nat.eq_zero_or_pos j with q | q
        · rw [q] at htl; rw [show p + 0 = p from rfl, hp1] at htl; cases htl
        · exact q
      have htr : trn tx sz p = j := trn_is hl htl
      have hnx : nxt tx sz (p + j) = tpl tx sz (c + 1) := by
        rw [tpl_s, hp, if_pos (tlt_d hp1).1, run_l (j - 1) (fun i hi => hl i (by omega)), show p + (j - 1) + 1 = p + j by omega]
      have hti : tin tx sz (p + j) = false := by
        have := tin_le (tx := tx) (sz := sz) (k := p + (j - 1)) (hl (j - 1) (by omega)) (by rw [show p + (j - 1) + 1 = p + j by omega]; exact htl)
        rw [show p + (j - 1) + 1 = p + j by omega] at this
        exact this
      refine go_aload_n 1 (nx := 131) dX7_advances_130 rfl rfl rfl ?_
      refine go_aload_n 1 (nx := 132) dX7_advances_131 rfl rfl rfl ?_
      refine go_gf (nx := 135) fg_X7_73 dX7_advances_132 (by omega) hM rfl rfl ?_
      refine go_aload_n 1 (nx := 136) dX7_advances_135 rfl rfl rfl ?_
      refine go_gf (nx := 139) fg_X7_80 dX7_advances_136 (by omega) hM rfl rfl ?_
      refine go_isub (nx := 140) dX7_advances_139 rfl ?_
      rw [pk_sub (by omega), show p + j - p = j by omega]
      refine go_bipush (v := nI 7) (nx := 142) dX7_advances_140 (by decide) rfl ?_
      refine go_icmp_le 150 (nx := 145) dX7_advances_142 rfl rfl (fun c142 => ?_) (fun c142 => ?_)
      · skip
        have z7 := kle c142 (by omega) (by decide)
        refine go_lload_n 0 (nx := 151) dX7_advances_150 rfl rfl rfl ?_
        refine go_Si (nx := 154) [_] kc_X7_86 (m_wordOf (V := VL tx p j) (by rw [VL_7 z7]; exact fvL_56 z7 (fun i _ => h256 _)) rfl) dX7_advances_151 rfl rfl (Nat.le_of_ble_eq_true rfl) (Nat.le_of_ble_eq_true rfl) ⟨Nat.le_refl _, Nat.le_refl _⟩ rfl (fun rh3 h3 hqh3 => ?_)
        obtain ⟨rfl, rfl⟩ := hqh3
        refine go_pf (fs' := [_, _, _, _, _, _, _, _, _, _, _, _, _, _, _, _, _, _, _, _, _, _, _, _, _, _, _, _, _]) (nx := 157) (fp_X7_90 _) dX7_advances_154 (by omega) hM (Nat.le_of_ble_eq_true rfl) ⟨rfl, rfl⟩ rfl rfl (fun h4 eh4 fh4 => ?_)
        have htm := (fh4 (38) (by omega)).trans htm
        have hM := eh4
        have hF := hF.tr (fun j hj => fh4 j (by omega))
        refine go_aload_n 1 (nx := 158) dX7_advances_157 rfl rfl rfl ?_
        refine go_aload_n 1 (nx := 159) dX7_advances_158 rfl rfl rfl ?_
        refine go_gf (nx := 162) fg_X7_90 dX7_advances_159 (by omega) hM rfl rfl ?_
        refine go_bipush (v := (-9)) (nx := 164) dX7_advances_162 (by decide) rfl ?_
        refine go_icmp_ne 171 (nx := 167) dX7_advances_164 rfl rfl (fun c164 => ?_) (fun c164 => ?_)
        · skip
          refine go_iconst (v := nI 1) (nx := 172) dX7_advances_171 (by decide) rfl ?_
          refine go_pf (fs' := [_, _, _, _, _, _, _, _, _, _, _, _, _, _, _, _, _, _, _, _, _, _, _, _, _, _, _, _, _]) (nx := 175) (fp_X7_83 _) dX7_advances_172 (by omega) hM (Nat.le_of_ble_eq_true rfl) ⟨rfl, rfl⟩ rfl rfl (fun h5 eh5 fh5 => ?_)
          have htm := (fh5 (38) (by omega)).trans htm
          have hM := eh5
          have hF := hF.tr (fun j hj => fh5 j (by omega))
          refine go_goto 329 dX7_advances_175 rfl ?_
          refine go_retv dX7_advances_329 rfl ?_
          refine ⟨⟨_, _, _, _, hM, p + j, rfl, hj, hti, hnx, by rw [hp], ?_⟩, hF⟩
          unfold tSt
          rw [hp, tt]
          obtain ⟨w, e, hw⟩ := woI_yes c164
          rw [twd_V, htr, ← VL_7 z7, e]
          exact Or.inl ⟨hw, rfl, rfl⟩
        · skip
          refine go_iconst (v := nI 4) (nx := 168) dX7_advances_167 (by decide) rfl ?_
          refine go_goto 172 dX7_advances_168 rfl ?_
          refine go_pf (fs' := [_, _, _, _, _, _, _, _, _, _, _, _, _, _, _, _, _, _, _, _, _, _, _, _, _, _, _, _, _]) (nx := 175) (fp_X7_83 _) dX7_advances_172 (by omega) hM (Nat.le_of_ble_eq_true rfl) ⟨rfl, rfl⟩ rfl rfl (fun h5 eh5 fh5 => ?_)
          have htm := (fh5 (38) (by omega)).trans htm
          have hM := eh5
          have hF := hF.tr (fun j hj => fh5 j (by omega))
          refine go_goto 329 dX7_advances_175 rfl ?_
          refine go_retv dX7_advances_329 rfl ?_
          refine ⟨⟨_, _, _, _, hM, p + j, rfl, hj, hti, hnx, by rw [hp], ?_⟩, hF⟩
          unfold tSt
          rw [hp, tt]
          have e := woI_no c164
          rw [twd_V, htr, ← VL_7 z7, e]
          exact Or.inr (Or.inr (Or.inl ⟨rfl, rfl⟩))
      · skip
        refine go_bipush (v := (-9)) (nx := 147) dX7_advances_145 (by decide) rfl ?_
        refine go_goto 154 dX7_advances_147 rfl ?_
        refine go_pf (fs' := [_, _, _, _, _, _, _, _, _, _, _, _, _, _, _, _, _, _, _, _, _, _, _, _, _, _, _, _, _]) (nx := 157) (fp_X7_90 _) dX7_advances_154 (by omega) hM (Nat.le_of_ble_eq_true rfl) ⟨rfl, rfl⟩ rfl rfl (fun h3 eh3 fh3 => ?_)
        have htm := (fh3 (38) (by omega)).trans htm
        have hM := eh3
        have hF := hF.tr (fun j hj => fh3 j (by omega))
        refine go_aload_n 1 (nx := 158) dX7_advances_157 rfl rfl rfl ?_
        refine go_aload_n 1 (nx := 159) dX7_advances_158 rfl rfl rfl ?_
        refine go_gf (nx := 162) fg_X7_90 dX7_advances_159 (by omega) hM rfl rfl ?_
        refine go_bipush (v := (-9)) (nx := 164) dX7_advances_162 (by decide) rfl ?_
        refine go_icmp_ne 171 (nx := 167) dX7_advances_164 rfl rfl (fun c164 => False.elim (absurd rfl c164)) (fun c164 => ?_)
        refine go_iconst (v := nI 4) (nx := 168) dX7_advances_167 (by decide) rfl ?_
        refine go_goto 172 dX7_advances_168 rfl ?_
        refine go_pf (fs' := [_, _, _, _, _, _, _, _, _, _, _, _, _, _, _, _, _, _, _, _, _, _, _, _, _, _, _, _, _]) (nx := 175) (fp_X7_83 _) dX7_advances_172 (by omega) hM (Nat.le_of_ble_eq_true rfl) ⟨rfl, rfl⟩ rfl rfl (fun h4 eh4 fh4 => ?_)
        have htm := (fh4 (38) (by omega)).trans htm
        have hM := eh4
        have hF := hF.tr (fun j hj => fh4 j (by omega))
        refine go_goto 329 dX7_advances_175 rfl ?_
        refine go_retv dX7_advances_329 rfl ?_
        have z7 := knle c142 (by omega) (by decide)
        refine ⟨⟨_, _, _, _, hM, p + j, rfl, hj, hti, hnx, by rw [hp], ?_⟩, hF⟩
        unfold tSt
        rw [hp, tt]
        rw [twd_long (by omega)]
        exact Or.inr (Or.inr (Or.inl ⟨rfl, rfl⟩))
    · skip
      have htl : tlt tx sz (p + j) = true := (mby_l h256).symm.trans (tbn0 c83)
      have hlt := tlt_d htl
      have hl2 : ∀ i, i < j + 1 → tlt tx sz (p + i) = true := fun i hi => by
        rcases Nat.lt_or_ge i j with q | q
        · exact hl i q
        · rw [show i = j by omega]; exact htl
      refine go_aload_n 1 (nx := 87) dX7_advances_86 rfl rfl rfl ?_
      refine go_gf (nx := 90) fg_X7_73 dX7_advances_87 (by omega) hM rfl rfl ?_
      refine go_aload_n 1 (nx := 91) dX7_advances_90 rfl rfl rfl ?_
      refine go_gf (nx := 94) fg_X7_80 dX7_advances_91 (by omega) hM rfl rfl ?_
      refine go_isub (nx := 95) dX7_advances_94 rfl ?_
      rw [pk_sub (by omega), show p + j - p = j by omega]
      refine go_bipush (v := nI 8) (nx := 97) dX7_advances_95 (by decide) rfl ?_
      refine go_icmp_ge 115 (nx := 100) dX7_advances_97 rfl rfl (fun c97 => ?_) (fun c97 => ?_)
      · skip
        refine go_lload_n 0 (nx := 116) dX7_advances_115 rfl rfl rfl ?_
        refine go_lstore_n (lv' := [_, _, _]) (nx := 117) dX7_advances_116 rfl (by decide) rfl rfl ?_
        refine go_aload_n 1 (nx := 118) dX7_advances_117 rfl rfl rfl ?_
        refine go_dup (nx := 119) dX7_advances_118 rfl rfl ?_
        refine go_gf (nx := 122) fg_X7_73 dX7_advances_119 (by omega) hM rfl rfl ?_
        refine go_iconst (v := nI 1) (nx := 123) dX7_advances_122 (by decide) rfl ?_
        refine go_iadd (nx := 124) dX7_advances_123 rfl ?_
        rw [nI_add, show p + j + 1 = p + (j + 1) by omega]
        refine go_pf (fs' := [_, _, _, _, _, _, _, _, _, _, _, _, _, _, _, _, _, _, _, _, _, _, _, _, _, _, _, _, _]) (nx := 127) (fp_X7_73 _) dX7_advances_124 (by omega) hM (Nat.le_of_ble_eq_true rfl) ⟨rfl, rfl⟩ rfl rfl (fun h3 eh3 fh3 => ?_)
        have htm := (fh3 (38) (by omega)).trans htm
        have hM := eh3
        have hF := hF.tr (fun j hj => fh3 j (by omega))
        refine go_goto 68 dX7_advances_127 rfl ?_
        have z8 := kle c97 (by decide) (by omega)
        rw [VL_8 z8]
        refine Go.sub [0, 1, 2] rfl ?_
        exact ih (j + 1) _ (by omega) (by omega) hl2 hM ⟨_, htm, hta⟩ hF
      · skip
        refine go_lload_n 0 (nx := 101) dX7_advances_100 rfl rfl rfl ?_
        refine go_aload_n 1 (nx := 102) dX7_advances_101 rfl rfl rfl ?_
        refine go_aload_n 1 (nx := 103) dX7_advances_102 rfl rfl rfl ?_
        refine go_gf (nx := 106) fg_X7_73 dX7_advances_103 (by omega) hM rfl rfl ?_
        refine go_Vi (nx := 109) [_] kc_X7_76 ⟨_, _, rfl⟩ (by omega) hM (m_byteAt hn hM ⟨_, htm, hta⟩ h256 hs4 rfl (by omega)) dX7_advances_106 rfl rfl (Nat.le_of_ble_eq_true rfl) (Nat.le_of_ble_eq_true rfl) ⟨Nat.le_refl _, Nat.le_refl _⟩ rfl (fun rh3 h3 hqh3 => ?_)
        obtain ⟨rfl, rfl⟩ := hqh3
        refine go_Sl (nx := 112) [_, _] kc_X7_65 m_add dX7_advances_109 rfl rfl (Nat.le_of_ble_eq_true rfl) (Nat.le_of_ble_eq_true rfl) ⟨Nat.le_refl _, Nat.le_refl _⟩ rfl (fun rh4 h4 hqh4 => ?_)
        obtain ⟨rfl, rfl⟩ := hqh4
        rw [VL_s h256 (knle c97 (by decide) (by omega)) htl]
        refine go_goto 116 dX7_advances_112 rfl ?_
        refine go_lstore_n (lv' := [_, _, _]) (nx := 117) dX7_advances_116 rfl (by decide) rfl rfl ?_
        refine go_aload_n 1 (nx := 118) dX7_advances_117 rfl rfl rfl ?_
        refine go_dup (nx := 119) dX7_advances_118 rfl rfl ?_
        refine go_gf (nx := 122) fg_X7_73 dX7_advances_119 (by omega) hM rfl rfl ?_
        refine go_iconst (v := nI 1) (nx := 123) dX7_advances_122 (by decide) rfl ?_
        refine go_iadd (nx := 124) dX7_advances_123 rfl ?_
        rw [nI_add, show p + j + 1 = p + (j + 1) by omega]
        refine go_pf (fs' := [_, _, _, _, _, _, _, _, _, _, _, _, _, _, _, _, _, _, _, _, _, _, _, _, _, _, _, _, _]) (nx := 127) (fp_X7_73 _) dX7_advances_124 (by omega) hM (Nat.le_of_ble_eq_true rfl) ⟨rfl, rfl⟩ rfl rfl (fun h5 eh5 fh5 => ?_)
        have htm := (fh5 (38) (by omega)).trans htm
        have hM := eh5
        have hF := hF.tr (fun j hj => fh5 j (by omega))
        refine go_goto 68 dX7_advances_127 rfl ?_
        refine Go.sub [0, 1, 2] rfl ?_
        exact ih (j + 1) _ (by omega) (by omega) hl2 hM ⟨_, htm, hta⟩ hF
