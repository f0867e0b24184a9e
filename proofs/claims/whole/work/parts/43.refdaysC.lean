/-! the reference: days -/
theorem l_lastButOneE {G : kG} {n sz f0 : Nat} {day : Nat} {w : Nat} {ν : mN} {T : mT} {tr : Int64} {F : Nat → Int32} {wd : Bool} {h0 : kH} {ah0 : Nat → Int32} (hn : 49 ≤ n) (HO0 : mO G F tr sz T h0) (hw : wT T) (hv : wN T.1 ν) (hf : f0 < T.1) (hday : day + 1 + 1 ≤ 3) (hY : ν.2.2.2.1 ≤ 99) (ew : w = (f0 + (day)) % T.1) {o : Nat} {h : kH} {ah dd : Nat → Int32} (ho : o ≤ T.1) (HS : oS G ν h) (hah : h 47 = .inl (G.2.1, 24, .inl ah)) (hah0 : ∀ j, j < 8 * (day) → ah j = ah0 j) (hdo : h 48 = .inl (G.2.1, 3, .inl dd)) (hdd : dd (day) = actI (-9) (oc T ν.2.2.1 f0 wd (1 + 1) (day) ν.1).2) (dF : dfr h0 h) : Go G mX7_lastButOne (4, 0, 0) 79 [(7, .int (nI o)), (5, .int (nI (oc T ν.2.2.1 f0 wd (1 + 1) (day) ν.1).1)), (6, .int (nI 1)), (0, .ref (kb G + 37)), (1, .int (nI f0)), (2, .int (nI day)), (3, .int (nI (day + 2))), (4, .int (bI wd))] [] (n, 0, 0) h (kQi mX7_lastButOne n (fun v h' => v = nI (oc T ν.2.2.1 f0 wd (1 + 1) (day) ν.1).1 ∧ oS G ν h' ∧ (∃ a : Nat → Int32, h' 47 = .inl (G.2.1, 24, .inl a) ∧ ∀ j, j < 8 * (day) → a j = ah0 j) ∧ (∃ dd : Nat → Int32, h' 48 = .inl (G.2.1, 3, .inl dd) ∧ dd (day) = actI (-9) (oc T ν.2.2.1 f0 wd (1 + 1) (day) ν.1).2) ∧ dfr h0 h')) := by
  have HO := HO0.df dF
  have hM : h 37 = .inr (7, [.int (F 0), .long tr, .ref (kb G + 38), .int (nI sz), .int (F 4), .int (F 5), .int (F 6), .int (F 7), .int (F 8), .ref (kb G + 39), .ref (kb G + 40), .int (nI T.1), .int (F 12), .int (nI T.2.2.2.1), .int (F 14), .int (nI T.2.2.2.2.1), .int (F 16), .int (nI T.2.2.2.2.2), .int (F 18), .int (F 19), .int (F 20), .ref (kb G + 41), .ref (kb G + 42), .ref (kb G + 43), .ref (kb G + 44), .ref (kb G + 45), .ref (kb G + 46), .ref (kb G + 47), .ref (kb G + 48)]) := HO
  refine go_iload 0 (nx := 81) dX7_lastButOne_79 rfl rfl ?_
  refine go_aload_n 3 (nx := 82) dX7_lastButOne_81 rfl rfl rfl ?_
  refine go_gf (nx := 85) fg_X7_137 dX7_lastButOne_82 (by omega) hM rfl rfl ?_
  refine go_icmp_ge 188 (nx := 88) dX7_lastButOne_85 rfl rfl (fun c85 => ?_) (fun c85 => ?_)
  · skip
    refine go_iload 1 (nx := 190) dX7_lastButOne_188 rfl rfl ?_
    refine go_reti dX7_lastButOne_190 ⟨_, rfl, rfl⟩ ?_
    exact ⟨rfl, HS, ⟨_, hah, hah0⟩, ⟨_, hdo, hdd⟩, dF⟩
  · skip
    refine go_iload 2 (nx := 90) dX7_lastButOne_88 rfl rfl ?_
    refine go_if_ne 188 (nx := 93) dX7_lastButOne_90 rfl rfl (fun c90 => ?_) (fun c90 => False.elim (absurd c90 (by decide)))
    refine go_iload 1 (nx := 190) dX7_lastButOne_188 rfl rfl ?_
    refine go_reti dX7_lastButOne_190 ⟨_, rfl, rfl⟩ ?_
    exact ⟨rfl, HS, ⟨_, hah, hah0⟩, ⟨_, hdo, hdd⟩, dF⟩
theorem l_lastButOneN {G : kG} {n sz f0 : Nat} {day : Nat} {w : Nat} {ν : mN} {T : mT} {tr : Int64} {F : Nat → Int32} {wd : Bool} {h0 : kH} {ah0 : Nat → Int32} (hn : 49 ≤ n) (HO0 : mO G F tr sz T h0) (hw : wT T) (hv : wN T.1 ν) (hf : f0 < T.1) (hday : day + 1 + 1 ≤ 3) (hY : ν.2.2.2.1 ≤ 99) (ew : w = (f0 + (day)) % T.1) {u0 : Nat} : ∀ (d o : Nat) (h : kH) (ah dd : Nat → Int32), T.1 - o < d → o ≤ T.1 → oS G ν h → h 47 = .inl (G.2.1, 24, .inl ah) → (∀ j, j < 8 → ah (8 * (day) + j) = nI (row ν.1 j)) → (∀ j, j < 8 * (day) → ah j = ah0 j) → h 48 = .inl (G.2.1, 3, .inl dd) → dd (day) = -9 → dfr h0 h → (oc T ν.2.2.1 f0 wd (1 + 1) (day) ν.1) = ocm u0 (ffo (ocg T ν.2.2.1 f0 wd (1) (day) ν.1) (T.1 - o) o) → Go G mX7_lastButOne (4, 0, 0) 79 [(7, .int (nI o)), (5, .int (nI u0)), (6, .int (nI 0)), (0, .ref (kb G + 37)), (1, .int (nI f0)), (2, .int (nI day)), (3, .int (nI (day + 2))), (4, .int (bI wd))] [] (n, 0, 0) h (kQi mX7_lastButOne n (fun v h' => v = nI (oc T ν.2.2.1 f0 wd (1 + 1) (day) ν.1).1 ∧ oS G ν h' ∧ (∃ a : Nat → Int32, h' 47 = .inl (G.2.1, 24, .inl a) ∧ ∀ j, j < 8 * (day) → a j = ah0 j) ∧ (∃ dd : Nat → Int32, h' 48 = .inl (G.2.1, 3, .inl dd) ∧ dd (day) = actI (-9) (oc T ν.2.2.1 f0 wd (1 + 1) (day) ν.1).2) ∧ dfr h0 h')) := by
  intro d
  have hP := hw.1
  have hwl : w < T.1 := by rw [ew]; exact Nat.mod_lt _ (by omega)
  induction d with
  | zero => intro o h ah dd hd; omega
  | succ d ih =>
    intro o h ah dd hd ho HS hah hahK hah0 hdo hdd dF hb
    have HO := HO0.df dF
    have hM : h 37 = .inr (7, [.int (F 0), .long tr, .ref (kb G + 38), .int (nI sz), .int (F 4), .int (F 5), .int (F 6), .int (F 7), .int (F 8), .ref (kb G + 39), .ref (kb G + 40), .int (nI T.1), .int (F 12), .int (nI T.2.2.2.1), .int (F 14), .int (nI T.2.2.2.2.1), .int (F 16), .int (nI T.2.2.2.2.2), .int (F 18), .int (F 19), .int (F 20), .ref (kb G + 41), .ref (kb G + 42), .ref (kb G + 43), .ref (kb G + 44), .ref (kb G + 45), .ref (kb G + 46), .ref (kb G + 47), .ref (kb G + 48)]) := HO
    refine go_iload 0 (nx := 81) dX7_lastButOne_79 rfl rfl ?_
    refine go_aload_n 3 (nx := 82) dX7_lastButOne_81 rfl rfl rfl ?_
    refine go_gf (nx := 85) fg_X7_137 dX7_lastButOne_82 (by omega) hM rfl rfl ?_
    refine go_icmp_ge 188 (nx := 88) dX7_lastButOne_85 rfl rfl (fun c85 => ?_) (fun c85 => ?_)
    · skip
      refine go_iload 1 (nx := 190) dX7_lastButOne_188 rfl rfl ?_
      refine go_reti dX7_lastButOne_190 ⟨_, rfl, rfl⟩ ?_
      have e8 : o = T.1 := by have := kle c85; omega
      have eR : (oc T ν.2.2.1 f0 wd (1 + 1) (day) ν.1) = (u0, none) := by rw [hb, e8, Nat.sub_self]; rfl
      rw [eR]
      exact ⟨rfl, HS, ⟨_, hah, hah0⟩, ⟨_, hdo, hdd⟩, dF⟩
    · skip
      have hoP := knle c85
      refine go_iload 2 (nx := 90) dX7_lastButOne_88 rfl rfl ?_
      refine go_if_ne 188 (nx := 93) dX7_lastButOne_90 rfl rfl (fun c90 => False.elim (absurd rfl c90)) (fun c90 => ?_)
      refine go_aload_n 3 (nx := 94) dX7_lastButOne_93 rfl rfl rfl ?_
      refine go_iload_n 4 (nx := 95) dX7_lastButOne_94 rfl rfl rfl ?_
      refine go_iload_n 5 (nx := 96) dX7_lastButOne_95 rfl rfl rfl ?_
      refine go_iload 0 (nx := 98) dX7_lastButOne_96 rfl rfl ?_
      refine go_Vi (nx := 101) [_, _, _] kc_X7_204 ⟨_, _, rfl⟩ (by omega) hM (m_acts hn HO HS hP rfl hf rfl (by omega) rfl hoP) dX7_lastButOne_98 rfl rfl (Nat.le_of_ble_eq_true rfl) (Nat.le_of_ble_eq_true rfl) ⟨Nat.le_refl _, Nat.le_refl _⟩ rfl (fun rh1 h1 hqh1 => ?_)
      obtain ⟨rfl, qa, qb, hFh1⟩ := hqh1
      have hah := (hFh1 47 (by omega)).trans hah
      have hdo := (hFh1 48 (by omega)).trans hdo
      have dF := dF.k hFh1 (by omega)
      have HO := HO0.df dF
      have hM : h1 37 = .inr (7, [.int (F 0), .long tr, .ref (kb G + 38), .int (nI sz), .int (F 4), .int (F 5), .int (F 6), .int (F 7), .int (F 8), .ref (kb G + 39), .ref (kb G + 40), .int (nI T.1), .int (F 12), .int (nI T.2.2.2.1), .int (F 14), .int (nI T.2.2.2.2.1), .int (F 16), .int (nI T.2.2.2.2.2), .int (F 18), .int (F 19), .int (F 20), .ref (kb G + 41), .ref (kb G + 42), .ref (kb G + 43), .ref (kb G + 44), .ref (kb G + 45), .ref (kb G + 46), .ref (kb G + 47), .ref (kb G + 48)]) := HO
      refine go_if_eq 182 (nx := 104) dX7_lastButOne_101 rfl rfl (fun c101 => ?_) (fun c101 => ?_)
      · skip
        refine go_iinc 0 (v := nI (o + 1)) (lv' := [_, _, _, _, _, _, _, _]) (nx := 185) dX7_lastButOne_182 rfl (nI_inc o) (by decide) rfl rfl ?_
        refine go_goto 79 dX7_lastButOne_185 rfl ?_
        refine Go.sub [0, 1, 2, 3, 4, 5, 6, 7] rfl ?_
        have e : o = w := by
          have z := tb0 c101
          rw [← ew] at z
          exact Decidable.of_not_not (of_decide_eq_false z)
        refine ih (o + 1) _ _ _ (by omega) (by omega) (by rw [qa (e.trans ew)]; exact HS) hah hahK hah0 hdo hdd dF (hb.trans ?_)
        rw [show T.1 - o = (T.1 - (o + 1)) + 1 by omega]
        exact congrArg (ocm u0) (ffo_none (by unfold ocg; rw [if_pos (e.trans ew)]))
      · skip
        have hne : o ≠ w := by
          have z := tbn0 c101
          rw [← ew] at z
          exact of_decide_eq_true z
        have HS2 := qb (by rw [← ew]; exact hne)
        rw [← ew] at HS2
        have hlt : (oc T ν.2.2.1 f0 wd (1) (day + 1) (meetK ν.1 w o)).1 < T.1 := oc_lt (by omega)
        refine go_aload_n 3 (nx := 105) dX7_lastButOne_104 rfl rfl rfl ?_
        refine go_iload_n 4 (nx := 106) dX7_lastButOne_105 rfl rfl rfl ?_
        refine go_iload_n 5 (nx := 107) dX7_lastButOne_106 rfl rfl rfl ?_
        refine go_iconst (v := nI 1) (nx := 108) dX7_lastButOne_107 (by decide) rfl ?_
        refine go_iadd (nx := 109) dX7_lastButOne_108 rfl ?_
        rw [nI_add]
        refine go_iload 7 (nx := 111) dX7_lastButOne_109 rfl rfl ?_
        refine go_Vi (nx := 114) [_, _, _] kc_X7_207 ⟨_, _, rfl⟩ (by omega) hM (m_lastDay (ν := (meetK ν.1 w o, ν.2)) hn HO hw ⟨wK_meet hv.1 hwl hoP (Ne.symm hne), hv.2⟩ hf (by omega) (show ν.2.2.2.1 ≤ 99 from hY) rfl HS2 hah ⟨_, hdo⟩ rfl rfl rfl) dX7_lastButOne_111 rfl rfl (Nat.le_of_ble_eq_true rfl) (Nat.le_of_ble_eq_true rfl) ⟨Nat.le_refl _, Nat.le_refl _⟩ rfl (fun rh2 h2 hqh2 => ?_)
        obtain ⟨rfl, HS2, ⟨ah2, hah, hah2⟩, ⟨dd2, hdo, -⟩, dG⟩ := hqh2
        have hahK : ∀ j, j < 8 → ah2 (8 * (day) + j) = nI (row ν.1 j) := fun j hj => (hah2 _ (by omega)).trans (hahK j hj)
        have hah0 : ∀ j, j < 8 * (day) → ah2 j = ah0 j := fun j hj => (hah2 j (by omega)).trans (hah0 j hj)
        have dF := dF.tr dG
        have HO := HO0.df dF
        have hM : h2 37 = .inr (7, [.int (F 0), .long tr, .ref (kb G + 38), .int (nI sz), .int (F 4), .int (F 5), .int (F 6), .int (F 7), .int (F 8), .ref (kb G + 39), .ref (kb G + 40), .int (nI T.1), .int (F 12), .int (nI T.2.2.2.1), .int (F 14), .int (nI T.2.2.2.2.1), .int (F 16), .int (nI T.2.2.2.2.2), .int (F 18), .int (F 19), .int (F 20), .ref (kb G + 41), .ref (kb G + 42), .ref (kb G + 43), .ref (kb G + 44), .ref (kb G + 45), .ref (kb G + 46), .ref (kb G + 47), .ref (kb G + 48)]) := HO
        refine go_istore (lv' := [_, _, _, _, _, _, _, _, _]) (nx := 116) dX7_lastButOne_114 (by decide) rfl rfl ?_
        refine go_aload_n 4 (nx := 117) dX7_lastButOne_116 rfl rfl rfl ?_
        refine go_iload_n 6 (nx := 118) dX7_lastButOne_117 rfl rfl rfl ?_
        refine go_iconst (v := nI 0) (nx := 119) dX7_lastButOne_118 (by decide) rfl ?_
        refine go_Vv (nx := 122) [_, _] kc_X7_200 ⟨_, _, rfl⟩ (by omega) hM (m_asideOfF (K := meetK ν.1 w o) hn HO HS2 hah hahK rfl (by omega) rfl) dX7_lastButOne_119 rfl rfl (Nat.le_of_ble_eq_true rfl) (Nat.le_of_ble_eq_true rfl) ⟨Nat.le_refl _, Nat.le_refl _⟩ rfl (fun h3 hqh3 => ?_)
        obtain ⟨HS3, hFh3⟩ := hqh3
        have hah := (hFh3 47 (by omega)).trans hah
        have hdo := (hFh3 48 (by omega)).trans hdo
        have dF := dF.k hFh3 (by omega)
        have HO := HO0.df dF
        have hM : h3 37 = .inr (7, [.int (F 0), .long tr, .ref (kb G + 38), .int (nI sz), .int (F 4), .int (F 5), .int (F 6), .int (F 7), .int (F 8), .ref (kb G + 39), .ref (kb G + 40), .int (nI T.1), .int (F 12), .int (nI T.2.2.2.1), .int (F 14), .int (nI T.2.2.2.2.1), .int (F 16), .int (nI T.2.2.2.2.2), .int (F 18), .int (F 19), .int (F 20), .ref (kb G + 41), .ref (kb G + 42), .ref (kb G + 43), .ref (kb G + 44), .ref (kb G + 45), .ref (kb G + 46), .ref (kb G + 47), .ref (kb G + 48)]) := HO
        refine go_iload 0 (nx := 124) dX7_lastButOne_122 rfl rfl ?_
        refine go_aload_n 4 (nx := 125) dX7_lastButOne_124 rfl rfl rfl ?_
        refine go_iload_n 5 (nx := 126) dX7_lastButOne_125 rfl rfl rfl ?_
        refine go_iload_n 6 (nx := 127) dX7_lastButOne_126 rfl rfl rfl ?_
        refine go_Vi (nx := 130) [_, _] kc_X7_197 ⟨_, _, rfl⟩ (by omega) hM (m_whoOf hn HO hP (by omega) rfl (by omega) rfl (by omega)) dX7_lastButOne_127 rfl rfl (Nat.le_of_ble_eq_true rfl) (Nat.le_of_ble_eq_true rfl) ⟨Nat.le_refl _, Nat.le_refl _⟩ rfl (fun rh4 h4 hqh4 => ?_)
        obtain ⟨rfl, rfl⟩ := hqh4
        rw [← ew]
        refine go_icmp_ne 137 (nx := 133) dX7_lastButOne_130 rfl rfl (fun c130 => ?_) (fun c130 => ?_)
        · skip
          refine go_iconst (v := nI 0) (nx := 138) dX7_lastButOne_137 (by decide) rfl ?_
          refine go_iload 8 (nx := 140) dX7_lastButOne_138 rfl rfl ?_
          refine go_icmp_ne 147 (nx := 143) dX7_lastButOne_140 rfl rfl (fun c140 => ?_) (fun c140 => ?_)
          · skip
            refine go_iconst (v := nI 0) (nx := 148) dX7_lastButOne_147 (by decide) rfl ?_
            refine go_istore (lv' := [_, _, _, _, _, _, _, _, _]) (nx := 150) dX7_lastButOne_148 (by decide) rfl rfl ?_
            refine go_aload_n 4 (nx := 151) dX7_lastButOne_150 rfl rfl rfl ?_
            refine go_gf (nx := 154) fg_X7_41 dX7_lastButOne_151 (by omega) hM rfl rfl ?_
            refine go_iload_n 6 (nx := 155) dX7_lastButOne_154 rfl rfl rfl ?_
            refine go_iload 0 (nx := 157) dX7_lastButOne_155 rfl rfl ?_
            refine go_if_eq 165 (nx := 160) dX7_lastButOne_157 rfl rfl (fun c157 => ?_) (fun c157 => False.elim (absurd rfl c157))
            refine go_bipush (v := (-9)) (nx := 167) dX7_lastButOne_165 (by decide) rfl ?_
            refine go_ias (day) (nx := 168) dX7_lastButOne_167 (by omega) hdo rfl (by omega) (by omega) rfl (fun h5 eh5 fh5 => ?_)
            have hM := (fh5 (37) (by omega)).trans hM
            have hdo := eh5
            refine go_iload 0 (nx := 170) dX7_lastButOne_168 rfl rfl ?_
            refine go_if_eq 178 (nx := 173) dX7_lastButOne_170 rfl rfl (fun c170 => ?_) (fun c170 => False.elim (absurd rfl c170))
            refine go_iload 3 (nx := 180) dX7_lastButOne_178 rfl rfl ?_
            refine go_istore (lv' := [_, _, _, _, _, _, _, _, _]) (nx := 182) dX7_lastButOne_180 (by decide) rfl rfl ?_
            refine go_iinc 3 (v := nI (o + 1)) (lv' := [_, _, _, _, _, _, _, _, _]) (nx := 185) dX7_lastButOne_182 rfl (nI_inc o) (by decide) rfl rfl ?_
            refine go_goto 79 dX7_lastButOne_185 rfl ?_
            refine Go.sub [0, 1, 2, 4, 5, 6, 7, 8] rfl ?_
            have hx0 : ((oc T ν.2.2.1 f0 wd (1) (day + 1) (meetK ν.1 w o)).1 == w) = false := beq_eq_false_iff_ne.mpr (fun z => c130 (congrArg nI z))
            have hx : nI 0 = bI ((oc T ν.2.2.1 f0 wd (1) (day + 1) (meetK ν.1 w o)).1 == w) := by rw [hx0]; rfl
            have e2 := so_f hx c140
            have fx : kFr 48 49 _ h5 := fun j hj => fh5 j (by omega)
            have dF := dF.k fx (by omega)
            have hah := (fx 47 (by omega)).trans hah
            refine ih (o + 1) _ _ _ (by omega) (by omega) (by obtain ⟨a, z1, z2⟩ := HS3; exact ⟨a, (fx 41 (by omega)).trans z1, z2⟩) hah hahK hah0 hdo pk_us dF (hb.trans ?_)
            rw [show T.1 - o = (T.1 - (o + 1)) + 1 by omega]
            exact congrArg (ocm u0) (ffo_none (by unfold ocg; rw [← ew, if_neg hne, if_neg (by rw [e2]; decide)]))
          · skip
            refine go_iconst (v := nI 1) (nx := 144) dX7_lastButOne_143 (by decide) rfl ?_
            refine go_goto 148 dX7_lastButOne_144 rfl ?_
            refine go_istore (lv' := [_, _, _, _, _, _, _, _, _]) (nx := 150) dX7_lastButOne_148 (by decide) rfl rfl ?_
            refine go_aload_n 4 (nx := 151) dX7_lastButOne_150 rfl rfl rfl ?_
            refine go_gf (nx := 154) fg_X7_41 dX7_lastButOne_151 (by omega) hM rfl rfl ?_
            refine go_iload_n 6 (nx := 155) dX7_lastButOne_154 rfl rfl rfl ?_
            refine go_iload 0 (nx := 157) dX7_lastButOne_155 rfl rfl ?_
            refine go_if_eq 165 (nx := 160) dX7_lastButOne_157 rfl rfl (fun c157 => False.elim (absurd c157 (by decide))) (fun c157 => ?_)
            refine go_iload 2 (nx := 162) dX7_lastButOne_160 rfl rfl ?_
            refine go_goto 167 dX7_lastButOne_162 rfl ?_
            refine go_ias (day) (nx := 168) dX7_lastButOne_167 (by omega) hdo rfl (by omega) (by omega) rfl (fun h5 eh5 fh5 => ?_)
            have hM := (fh5 (37) (by omega)).trans hM
            have hdo := eh5
            refine go_iload 0 (nx := 170) dX7_lastButOne_168 rfl rfl ?_
            refine go_if_eq 178 (nx := 173) dX7_lastButOne_170 rfl rfl (fun c170 => False.elim (absurd c170 (by decide))) (fun c170 => ?_)
            refine go_iload 1 (nx := 175) dX7_lastButOne_173 rfl rfl ?_
            refine go_goto 180 dX7_lastButOne_175 rfl ?_
            refine go_istore (lv' := [_, _, _, _, _, _, _, _, _]) (nx := 182) dX7_lastButOne_180 (by decide) rfl rfl ?_
            refine go_iinc 3 (v := nI (o + 1)) (lv' := [_, _, _, _, _, _, _, _, _]) (nx := 185) dX7_lastButOne_182 rfl (nI_inc o) (by decide) rfl rfl ?_
            refine go_goto 79 dX7_lastButOne_185 rfl ?_
            refine Go.sub [0, 1, 2, 4, 5, 6, 7, 8] rfl ?_
            have hx0 : ((oc T ν.2.2.1 f0 wd (1) (day + 1) (meetK ν.1 w o)).1 == w) = false := beq_eq_false_iff_ne.mpr (fun z => c130 (congrArg nI z))
            have hx : nI 0 = bI ((oc T ν.2.2.1 f0 wd (1) (day + 1) (meetK ν.1 w o)).1 == w) := by rw [hx0]; rfl
            have e2 := so_t hx c140
            have fx : kFr 48 49 _ h5 := fun j hj => fh5 j (by omega)
            have dF := dF.k fx (by omega)
            have hah := (fx 47 (by omega)).trans hah
            have eR : (oc T ν.2.2.1 f0 wd (1 + 1) (day) ν.1) = ((oc T ν.2.2.1 f0 wd (1) (day + 1) (meetK ν.1 w o)).1, some o) := by
              rw [hb, show T.1 - o = (T.1 - (o + 1)) + 1 by omega, ffo_some (x := (o, (oc T ν.2.2.1 f0 wd (1) (day + 1) (meetK ν.1 w o)).1)) (by unfold ocg; rw [← ew, if_neg hne, if_pos e2])]
              rfl
            have k := l_lastButOneE (wd := wd) hn HO0 hw hv hf hday hY ew (o := o + 1) (by omega) (by obtain ⟨a, z1, z2⟩ := HS3; exact ⟨a, (fx 41 (by omega)).trans z1, z2⟩) hah hah0 hdo (by rw [eR]; exact pk_us) dF
            rw [eR] at k
            rw [eR]
            exact k
        · skip
          refine go_iconst (v := nI 1) (nx := 134) dX7_lastButOne_133 (by decide) rfl ?_
          refine go_goto 138 dX7_lastButOne_134 rfl ?_
          refine go_iload 8 (nx := 140) dX7_lastButOne_138 rfl rfl ?_
          refine go_icmp_ne 147 (nx := 143) dX7_lastButOne_140 rfl rfl (fun c140 => ?_) (fun c140 => ?_)
          · skip
            refine go_iconst (v := nI 0) (nx := 148) dX7_lastButOne_147 (by decide) rfl ?_
            refine go_istore (lv' := [_, _, _, _, _, _, _, _, _]) (nx := 150) dX7_lastButOne_148 (by decide) rfl rfl ?_
            refine go_aload_n 4 (nx := 151) dX7_lastButOne_150 rfl rfl rfl ?_
            refine go_gf (nx := 154) fg_X7_41 dX7_lastButOne_151 (by omega) hM rfl rfl ?_
            refine go_iload_n 6 (nx := 155) dX7_lastButOne_154 rfl rfl rfl ?_
            refine go_iload 0 (nx := 157) dX7_lastButOne_155 rfl rfl ?_
            refine go_if_eq 165 (nx := 160) dX7_lastButOne_157 rfl rfl (fun c157 => ?_) (fun c157 => False.elim (absurd rfl c157))
            refine go_bipush (v := (-9)) (nx := 167) dX7_lastButOne_165 (by decide) rfl ?_
            refine go_ias (day) (nx := 168) dX7_lastButOne_167 (by omega) hdo rfl (by omega) (by omega) rfl (fun h5 eh5 fh5 => ?_)
            have hM := (fh5 (37) (by omega)).trans hM
            have hdo := eh5
            refine go_iload 0 (nx := 170) dX7_lastButOne_168 rfl rfl ?_
            refine go_if_eq 178 (nx := 173) dX7_lastButOne_170 rfl rfl (fun c170 => ?_) (fun c170 => False.elim (absurd rfl c170))
            refine go_iload 3 (nx := 180) dX7_lastButOne_178 rfl rfl ?_
            refine go_istore (lv' := [_, _, _, _, _, _, _, _, _]) (nx := 182) dX7_lastButOne_180 (by decide) rfl rfl ?_
            refine go_iinc 3 (v := nI (o + 1)) (lv' := [_, _, _, _, _, _, _, _, _]) (nx := 185) dX7_lastButOne_182 rfl (nI_inc o) (by decide) rfl rfl ?_
            refine go_goto 79 dX7_lastButOne_185 rfl ?_
            refine Go.sub [0, 1, 2, 4, 5, 6, 7, 8] rfl ?_
            have hx0 : ((oc T ν.2.2.1 f0 wd (1) (day + 1) (meetK ν.1 w o)).1 == w) = true := beq_iff_eq.mpr (keq c130 (Nat.lt_trans hlt (by omega)) (by omega))
            have hx : nI 1 = bI ((oc T ν.2.2.1 f0 wd (1) (day + 1) (meetK ν.1 w o)).1 == w) := by rw [hx0]; rfl
            have e2 := so_f hx c140
            have fx : kFr 48 49 _ h5 := fun j hj => fh5 j (by omega)
            have dF := dF.k fx (by omega)
            have hah := (fx 47 (by omega)).trans hah
            refine ih (o + 1) _ _ _ (by omega) (by omega) (by obtain ⟨a, z1, z2⟩ := HS3; exact ⟨a, (fx 41 (by omega)).trans z1, z2⟩) hah hahK hah0 hdo pk_us dF (hb.trans ?_)
            rw [show T.1 - o = (T.1 - (o + 1)) + 1 by omega]
            exact congrArg (ocm u0) (ffo_none (by unfold ocg; rw [← ew, if_neg hne, if_neg (by rw [e2]; decide)]))
          · skip
            refine go_iconst (v := nI 1) (nx := 144) dX7_lastButOne_143 (by decide) rfl ?_
            refine go_goto 148 dX7_lastButOne_144 rfl ?_
            refine go_istore (lv' := [_, _, _, _, _, _, _, _, _]) (nx := 150) dX7_lastButOne_148 (by decide) rfl rfl ?_
            refine go_aload_n 4 (nx := 151) dX7_lastButOne_150 rfl rfl rfl ?_
            refine go_gf (nx := 154) fg_X7_41 dX7_lastButOne_151 (by omega) hM rfl rfl ?_
            refine go_iload_n 6 (nx := 155) dX7_lastButOne_154 rfl rfl rfl ?_
            refine go_iload 0 (nx := 157) dX7_lastButOne_155 rfl rfl ?_
            refine go_if_eq 165 (nx := 160) dX7_lastButOne_157 rfl rfl (fun c157 => False.elim (absurd c157 (by decide))) (fun c157 => ?_)
            refine go_iload 2 (nx := 162) dX7_lastButOne_160 rfl rfl ?_
            refine go_goto 167 dX7_lastButOne_162 rfl ?_
            refine go_ias (day) (nx := 168) dX7_lastButOne_167 (by omega) hdo rfl (by omega) (by omega) rfl (fun h5 eh5 fh5 => ?_)
            have hM := (fh5 (37) (by omega)).trans hM
            have hdo := eh5
            refine go_iload 0 (nx := 170) dX7_lastButOne_168 rfl rfl ?_
            refine go_if_eq 178 (nx := 173) dX7_lastButOne_170 rfl rfl (fun c170 => False.elim (absurd c170 (by decide))) (fun c170 => ?_)
            refine go_iload 1 (nx := 175) dX7_lastButOne_173 rfl rfl ?_
            refine go_goto 180 dX7_lastButOne_175 rfl ?_
            refine go_istore (lv' := [_, _, _, _, _, _, _, _, _]) (nx := 182) dX7_lastButOne_180 (by decide) rfl rfl ?_
            refine go_iinc 3 (v := nI (o + 1)) (lv' := [_, _, _, _, _, _, _, _, _]) (nx := 185) dX7_lastButOne_182 rfl (nI_inc o) (by decide) rfl rfl ?_
            refine go_goto 79 dX7_lastButOne_185 rfl ?_
            refine Go.sub [0, 1, 2, 4, 5, 6, 7, 8] rfl ?_
            have hx0 : ((oc T ν.2.2.1 f0 wd (1) (day + 1) (meetK ν.1 w o)).1 == w) = true := beq_iff_eq.mpr (keq c130 (Nat.lt_trans hlt (by omega)) (by omega))
            have hx : nI 1 = bI ((oc T ν.2.2.1 f0 wd (1) (day + 1) (meetK ν.1 w o)).1 == w) := by rw [hx0]; rfl
            have e2 := so_t hx c140
            have fx : kFr 48 49 _ h5 := fun j hj => fh5 j (by omega)
            have dF := dF.k fx (by omega)
            have hah := (fx 47 (by omega)).trans hah
            have eR : (oc T ν.2.2.1 f0 wd (1 + 1) (day) ν.1) = ((oc T ν.2.2.1 f0 wd (1) (day + 1) (meetK ν.1 w o)).1, some o) := by
              rw [hb, show T.1 - o = (T.1 - (o + 1)) + 1 by omega, ffo_some (x := (o, (oc T ν.2.2.1 f0 wd (1) (day + 1) (meetK ν.1 w o)).1)) (by unfold ocg; rw [← ew, if_neg hne, if_pos e2])]
              rfl
            have k := l_lastButOneE (wd := wd) hn HO0 hw hv hf hday hY ew (o := o + 1) (by omega) (by obtain ⟨a, z1, z2⟩ := HS3; exact ⟨a, (fx 41 (by omega)).trans z1, z2⟩) hah hah0 hdo (by rw [eR]; exact pk_us) dF
            rw [eR] at k
            rw [eR]
            exact k
theorem m_lastBut2 {G : kG} {n sz f0 : Nat} {day : Nat} {w : Nat} {ν : mN} {T : mT} {tr : Int64} {F : Nat → Int32} {wd : Bool} {h : kH} {ah0 : Nat → Int32} (hn : 49 ≤ n) (HO : mO G F tr sz T h) (hw : wT T) (hv : wN T.1 ν) (hf : f0 < T.1) (hday : day + 1 + 1 ≤ 3) (hY : ν.2.2.2.1 ≤ 99) (ew : w = (f0 + (day)) % T.1) {x y z u : Int32} (HS : oS G ν h) (hah : h 47 = .inl (G.2.1, 24, .inl ah0)) (HDo : xArr G 48 3 h) (hx : x = nI f0) (hy : y = nI day) (hz : z = nI (day + 2)) (hu : u = bI wd) : Spi G mX7_lastButOne 4 [.ref (kb G + 37), .int x, .int y, .int z, .int u] n h (fun v h' => v = nI (oc T ν.2.2.1 f0 wd (1 + 1) (day) ν.1).1 ∧ oS G ν h' ∧ (∃ a : Nat → Int32, h' 47 = .inl (G.2.1, 24, .inl a) ∧ ∀ j, j < 8 * (day) → a j = ah0 j) ∧ (∃ dd : Nat → Int32, h' 48 = .inl (G.2.1, 3, .inl dd) ∧ dd (day) = actI (-9) (oc T ν.2.2.1 f0 wd (1 + 1) (day) ν.1).2) ∧ dfr h h') := by
  subst hx
  subst hy
  subst hz
  subst hu
  have HO0 := HO
  have hP := hw.1
  have hwl : w < T.1 := by rw [ew]; exact Nat.mod_lt _ (by omega)
  obtain ⟨dd, hdo⟩ := HDo
  have hM : h 37 = .inr (7, [.int (F 0), .long tr, .ref (kb G + 38), .int (nI sz), .int (F 4), .int (F 5), .int (F 6), .int (F 7), .int (F 8), .ref (kb G + 39), .ref (kb G + 40), .int (nI T.1), .int (F 12), .int (nI T.2.2.2.1), .int (F 14), .int (nI T.2.2.2.2.1), .int (F 16), .int (nI T.2.2.2.2.2), .int (F 18), .int (F 19), .int (F 20), .ref (kb G + 41), .ref (kb G + 42), .ref (kb G + 43), .ref (kb G + 44), .ref (kb G + 45), .ref (kb G + 46), .ref (kb G + 47), .ref (kb G + 48)]) := HO
  have dF : dfr h h := dfr.rf
  have hlt : (oc T ν.2.2.1 f0 wd (1) (day + 1) ν.1).1 < T.1 := oc_lt (by omega)
  refine Spi.of (by decide) (Nat.le_of_ble_eq_true rfl) ?_
  refine Go.loc (lv' := [(0, _), (1, _), (2, _), (3, _), (4, _)]) rfl ?_
  refine go_iload_n 2 (nx := 1) dX7_lastButOne_0 rfl rfl rfl ?_
  refine go_iload_n 3 (nx := 2) dX7_lastButOne_1 rfl rfl rfl ?_
  refine go_iconst (v := nI 1) (nx := 3) dX7_lastButOne_2 (by decide) rfl ?_
  refine go_isub (nx := 4) dX7_lastButOne_3 rfl ?_
  rw [show nI (day + 2) - nI 1 = nI (day + 1) from pk_sub (by omega)]
  refine go_icmp_ne 16 (nx := 7) dX7_lastButOne_4 rfl rfl (fun c4 => ?_) (fun c4 => False.elim (absurd (keq (by first | exact c4 | exact Decidable.of_not_not c4) (by omega) (by omega)) (by omega)))
  refine go_aload_n 0 (nx := 17) dX7_lastButOne_16 rfl rfl rfl ?_
  refine go_iload_n 2 (nx := 18) dX7_lastButOne_17 rfl rfl rfl ?_
  refine go_iconst (v := nI 1) (nx := 19) dX7_lastButOne_18 (by decide) rfl ?_
  refine go_Vv (nx := 22) [_, _] kc_X7_200 ⟨_, _, rfl⟩ (by omega) hM (m_asideOfT hn HO HS hah rfl (by omega) rfl) dX7_lastButOne_19 rfl rfl (Nat.le_of_ble_eq_true rfl) (Nat.le_of_ble_eq_true rfl) ⟨Nat.le_refl _, Nat.le_refl _⟩ rfl (fun h1 hqh1 => ?_)
  obtain ⟨⟨ah, hah, hahK, hah0⟩, hFh1⟩ := hqh1
  have hdo := (hFh1 48 (by omega)).trans hdo
  have HS := HS.fr hFh1 (by omega)
  have dF := dF.k hFh1 (by omega)
  have HO := HO0.df dF
  have hM : h1 37 = .inr (7, [.int (F 0), .long tr, .ref (kb G + 38), .int (nI sz), .int (F 4), .int (F 5), .int (F 6), .int (F 7), .int (F 8), .ref (kb G + 39), .ref (kb G + 40), .int (nI T.1), .int (F 12), .int (nI T.2.2.2.1), .int (F 14), .int (nI T.2.2.2.2.1), .int (F 16), .int (nI T.2.2.2.2.2), .int (F 18), .int (F 19), .int (F 20), .ref (kb G + 41), .ref (kb G + 42), .ref (kb G + 43), .ref (kb G + 44), .ref (kb G + 45), .ref (kb G + 46), .ref (kb G + 47), .ref (kb G + 48)]) := HO
  refine go_aload_n 0 (nx := 23) dX7_lastButOne_22 rfl rfl rfl ?_
  refine go_iload_n 1 (nx := 24) dX7_lastButOne_23 rfl rfl rfl ?_
  refine go_iload_n 2 (nx := 25) dX7_lastButOne_24 rfl rfl rfl ?_
  refine go_iconst (v := nI 1) (nx := 26) dX7_lastButOne_25 (by decide) rfl ?_
  refine go_iadd (nx := 27) dX7_lastButOne_26 rfl ?_
  rw [nI_add]
  refine go_iload 4 (nx := 29) dX7_lastButOne_27 rfl rfl ?_
  refine go_Vi (nx := 32) [_, _, _] kc_X7_207 ⟨_, _, rfl⟩ (by omega) hM (m_lastDay (ν := ν) hn HO hw hv hf (by omega) hY rfl HS hah ⟨_, hdo⟩ rfl rfl rfl) dX7_lastButOne_29 rfl rfl (Nat.le_of_ble_eq_true rfl) (Nat.le_of_ble_eq_true rfl) ⟨Nat.le_refl _, Nat.le_refl _⟩ rfl (fun rh2 h2 hqh2 => ?_)
  obtain ⟨rfl, HS2, ⟨ah2, hah, hah2⟩, ⟨dd2, hdo, -⟩, dG⟩ := hqh2
  have hahK : ∀ j, j < 8 → ah2 (8 * (day) + j) = nI (row ν.1 j) := fun j hj => (hah2 _ (by omega)).trans (hahK j hj)
  have hah0 : ∀ j, j < 8 * (day) → ah2 j = ah0 j := fun j hj => (hah2 j (by omega)).trans (hah0 j hj)
  have dF := dF.tr dG
  have HO := HO0.df dF
  have hM : h2 37 = .inr (7, [.int (F 0), .long tr, .ref (kb G + 38), .int (nI sz), .int (F 4), .int (F 5), .int (F 6), .int (F 7), .int (F 8), .ref (kb G + 39), .ref (kb G + 40), .int (nI T.1), .int (F 12), .int (nI T.2.2.2.1), .int (F 14), .int (nI T.2.2.2.2.1), .int (F 16), .int (nI T.2.2.2.2.2), .int (F 18), .int (F 19), .int (F 20), .ref (kb G + 41), .ref (kb G + 42), .ref (kb G + 43), .ref (kb G + 44), .ref (kb G + 45), .ref (kb G + 46), .ref (kb G + 47), .ref (kb G + 48)]) := HO
  refine go_istore (lv' := [_, _, _, _, _, _]) (nx := 34) dX7_lastButOne_32 (by decide) rfl rfl ?_
  refine go_aload_n 1 (nx := 35) dX7_lastButOne_34 rfl rfl rfl ?_
  refine go_iload_n 3 (nx := 36) dX7_lastButOne_35 rfl rfl rfl ?_
  refine go_iconst (v := nI 0) (nx := 37) dX7_lastButOne_36 (by decide) rfl ?_
  refine go_Vv (nx := 40) [_, _] kc_X7_200 ⟨_, _, rfl⟩ (by omega) hM (m_asideOfF (K := ν.1) hn HO HS2 hah hahK rfl (by omega) rfl) dX7_lastButOne_37 rfl rfl (Nat.le_of_ble_eq_true rfl) (Nat.le_of_ble_eq_true rfl) ⟨Nat.le_refl _, Nat.le_refl _⟩ rfl (fun h3 hqh3 => ?_)
  obtain ⟨HS, hFh3⟩ := hqh3
  have hah := (hFh3 47 (by omega)).trans hah
  have hdo := (hFh3 48 (by omega)).trans hdo
  have dF := dF.k hFh3 (by omega)
  have HO := HO0.df dF
  have hM : h3 37 = .inr (7, [.int (F 0), .long tr, .ref (kb G + 38), .int (nI sz), .int (F 4), .int (F 5), .int (F 6), .int (F 7), .int (F 8), .ref (kb G + 39), .ref (kb G + 40), .int (nI T.1), .int (F 12), .int (nI T.2.2.2.1), .int (F 14), .int (nI T.2.2.2.2.1), .int (F 16), .int (nI T.2.2.2.2.2), .int (F 18), .int (F 19), .int (F 20), .ref (kb G + 41), .ref (kb G + 42), .ref (kb G + 43), .ref (kb G + 44), .ref (kb G + 45), .ref (kb G + 46), .ref (kb G + 47), .ref (kb G + 48)]) := HO
  refine go_aload_n 1 (nx := 41) dX7_lastButOne_40 rfl rfl rfl ?_
  refine go_gf (nx := 44) fg_X7_41 dX7_lastButOne_41 (by omega) hM rfl rfl ?_
  refine go_iload_n 3 (nx := 45) dX7_lastButOne_44 rfl rfl rfl ?_
  refine go_bipush (v := (-9)) (nx := 47) dX7_lastButOne_45 (by decide) rfl ?_
  refine go_ias (day) (nx := 48) dX7_lastButOne_47 (by omega) hdo rfl (by omega) (by omega) rfl (fun h4 eh4 fh4 => ?_)
  have hM := (fh4 (37) (by omega)).trans hM
  have hdo := eh4
  have fx : kFr 48 49 _ h4 := fun j hj => fh4 j (by omega)
  have dF := dF.k fx (by omega)
  have hah := (fx 47 (by omega)).trans hah
  have HS := HS.fr fx (by omega)
  have HO := HO0.df dF
  refine go_iload 0 (nx := 50) dX7_lastButOne_48 rfl rfl ?_
  refine go_aload_n 1 (nx := 51) dX7_lastButOne_50 rfl rfl rfl ?_
  refine go_iload_n 2 (nx := 52) dX7_lastButOne_51 rfl rfl rfl ?_
  refine go_iload_n 3 (nx := 53) dX7_lastButOne_52 rfl rfl rfl ?_
  refine go_Vi (nx := 56) [_, _] kc_X7_197 ⟨_, _, rfl⟩ (by omega) hM (m_whoOf hn HO hP (by omega) rfl (by omega) rfl (by omega)) dX7_lastButOne_53 rfl rfl (Nat.le_of_ble_eq_true rfl) (Nat.le_of_ble_eq_true rfl) ⟨Nat.le_refl _, Nat.le_refl _⟩ rfl (fun rh5 h5 hqh5 => ?_)
  obtain ⟨rfl, rfl⟩ := hqh5
  rw [← ew]
  refine go_icmp_ne 63 (nx := 59) dX7_lastButOne_56 rfl rfl (fun c56 => ?_) (fun c56 => ?_)
  · skip
    refine go_iconst (v := nI 0) (nx := 64) dX7_lastButOne_63 (by decide) rfl ?_
    refine go_iload 5 (nx := 66) dX7_lastButOne_64 rfl rfl ?_
    refine go_icmp_ne 73 (nx := 69) dX7_lastButOne_66 rfl rfl (fun c66 => ?_) (fun c66 => ?_)
    · skip
      refine go_iconst (v := nI 0) (nx := 74) dX7_lastButOne_73 (by decide) rfl ?_
      refine go_istore (lv' := [_, _, _, _, _, _, _]) (nx := 76) dX7_lastButOne_74 (by decide) rfl rfl ?_
      refine go_iconst (v := nI 0) (nx := 77) dX7_lastButOne_76 (by decide) rfl ?_
      refine go_istore (lv' := [_, _, _, _, _, _, _, _]) (nx := 79) dX7_lastButOne_77 (by decide) rfl rfl ?_
      refine Go.sub [0, 2, 1, 3, 4, 5, 6, 7] rfl ?_
      have hx0 : ((oc T ν.2.2.1 f0 wd (1) (day + 1) ν.1).1 == w) = false := beq_eq_false_iff_ne.mpr (fun z => c56 (congrArg nI z))
      have hx : nI 0 = bI ((oc T ν.2.2.1 f0 wd (1) (day + 1) ν.1).1 == w) := by rw [hx0]; rfl
      have eR := oc_n (K := ν.1) (C := ν.2.2.1) (r := 1) ew (so_f hx c66)
      exact l_lastButOneN (wd := wd) hn HO0 hw hv hf hday hY ew (T.1 + 1) 0 _ _ _ (by omega) (by omega) HS hah hahK hah0 hdo pk_us dF eR
    · skip
      refine go_iconst (v := nI 1) (nx := 70) dX7_lastButOne_69 (by decide) rfl ?_
      refine go_goto 74 dX7_lastButOne_70 rfl ?_
      refine go_istore (lv' := [_, _, _, _, _, _, _]) (nx := 76) dX7_lastButOne_74 (by decide) rfl rfl ?_
      refine go_iconst (v := nI 0) (nx := 77) dX7_lastButOne_76 (by decide) rfl ?_
      refine go_istore (lv' := [_, _, _, _, _, _, _, _]) (nx := 79) dX7_lastButOne_77 (by decide) rfl rfl ?_
      refine Go.sub [0, 2, 1, 3, 4, 5, 6, 7] rfl ?_
      have hx0 : ((oc T ν.2.2.1 f0 wd (1) (day + 1) ν.1).1 == w) = false := beq_eq_false_iff_ne.mpr (fun z => c56 (congrArg nI z))
      have hx : nI 0 = bI ((oc T ν.2.2.1 f0 wd (1) (day + 1) ν.1).1 == w) := by rw [hx0]; rfl
      have eR := oc_y (K := ν.1) (C := ν.2.2.1) (r := 1) ew (so_t hx c66)
      have k := l_lastButOneE (wd := wd) hn HO0 hw hv hf hday hY ew (o := 0) (by omega) HS hah hah0 hdo (by rw [eR]; exact pk_us) dF
      rw [eR] at k
      rw [eR]
      exact k
  · skip
    refine go_iconst (v := nI 1) (nx := 60) dX7_lastButOne_59 (by decide) rfl ?_
    refine go_goto 64 dX7_lastButOne_60 rfl ?_
    refine go_iload 5 (nx := 66) dX7_lastButOne_64 rfl rfl ?_
    refine go_icmp_ne 73 (nx := 69) dX7_lastButOne_66 rfl rfl (fun c66 => ?_) (fun c66 => ?_)
    · skip
      refine go_iconst (v := nI 0) (nx := 74) dX7_lastButOne_73 (by decide) rfl ?_
      refine go_istore (lv' := [_, _, _, _, _, _, _]) (nx := 76) dX7_lastButOne_74 (by decide) rfl rfl ?_
      refine go_iconst (v := nI 0) (nx := 77) dX7_lastButOne_76 (by decide) rfl ?_
      refine go_istore (lv' := [_, _, _, _, _, _, _, _]) (nx := 79) dX7_lastButOne_77 (by decide) rfl rfl ?_
      refine Go.sub [0, 2, 1, 3, 4, 5, 6, 7] rfl ?_
      have hx0 : ((oc T ν.2.2.1 f0 wd (1) (day + 1) ν.1).1 == w) = true := beq_iff_eq.mpr (keq c56 (Nat.lt_trans hlt (by omega)) (by omega))
      have hx : nI 1 = bI ((oc T ν.2.2.1 f0 wd (1) (day + 1) ν.1).1 == w) := by rw [hx0]; rfl
      have eR := oc_n (K := ν.1) (C := ν.2.2.1) (r := 1) ew (so_f hx c66)
      exact l_lastButOneN (wd := wd) hn HO0 hw hv hf hday hY ew (T.1 + 1) 0 _ _ _ (by omega) (by omega) HS hah hahK hah0 hdo pk_us dF eR
    · skip
      refine go_iconst (v := nI 1) (nx := 70) dX7_lastButOne_69 (by decide) rfl ?_
      refine go_goto 74 dX7_lastButOne_70 rfl ?_
      refine go_istore (lv' := [_, _, _, _, _, _, _]) (nx := 76) dX7_lastButOne_74 (by decide) rfl rfl ?_
      refine go_iconst (v := nI 0) (nx := 77) dX7_lastButOne_76 (by decide) rfl ?_
      refine go_istore (lv' := [_, _, _, _, _, _, _, _]) (nx := 79) dX7_lastButOne_77 (by decide) rfl rfl ?_
      refine Go.sub [0, 2, 1, 3, 4, 5, 6, 7] rfl ?_
      have hx0 : ((oc T ν.2.2.1 f0 wd (1) (day + 1) ν.1).1 == w) = true := beq_iff_eq.mpr (keq c56 (Nat.lt_trans hlt (by omega)) (by omega))
      have hx : nI 1 = bI ((oc T ν.2.2.1 f0 wd (1) (day + 1) ν.1).1 == w) := by rw [hx0]; rfl
      have eR := oc_y (K := ν.1) (C := ν.2.2.1) (r := 1) ew (so_t hx c66)
      have k := l_lastButOneE (wd := wd) hn HO0 hw hv hf hday hY ew (o := 0) (by omega) HS hah hah0 hdo (by rw [eR]; exact pk_us) dF
      rw [eR] at k
      rw [eR]
      exact k
theorem m_lastBut1 {G : kG} {n sz f0 : Nat} {h : kH} {ν : mN} {T : mT} {tr : Int64} {F : Nat → Int32} {wd : Bool} {ah0 : Nat → Int32} (hn : 49 ≤ n) (HO : mO G F tr sz T h) (hw : wT T) (hv : wN T.1 ν) (hf : f0 < T.1) (hY : ν.2.2.2.1 ≤ 99) {x y z u : Int32} (HS : oS G ν h) (hah : h 47 = .inl (G.2.1, 24, .inl ah0)) (HDo : xArr G 48 3 h) (hx : x = nI f0) (hy : y = nI 0) (hz : z = nI 1) (hu : u = bI wd) : Spi G mX7_lastButOne 4 [.ref (kb G + 37), .int x, .int y, .int z, .int u] n h (fun v h' => v = nI (oc T ν.2.2.1 f0 wd 1 0 ν.1).1 ∧ oS G ν h' ∧ xArr G 47 24 h' ∧ (∃ dd : Nat → Int32, h' 48 = .inl (G.2.1, 3, .inl dd) ∧ dd 0 = actI (-9) (oc T ν.2.2.1 f0 wd 1 0 ν.1).2) ∧ dfr h h') := by
  subst hx
  subst hy
  subst hz
  subst hu
  have hP := hw.1
  have hM : h 37 = .inr (7, [.int (F 0), .long tr, .ref (kb G + 38), .int (nI sz), .int (F 4), .int (F 5), .int (F 6), .int (F 7), .int (F 8), .ref (kb G + 39), .ref (kb G + 40), .int (nI T.1), .int (F 12), .int (nI T.2.2.2.1), .int (F 14), .int (nI T.2.2.2.2.1), .int (F 16), .int (nI T.2.2.2.2.2), .int (F 18), .int (F 19), .int (F 20), .ref (kb G + 41), .ref (kb G + 42), .ref (kb G + 43), .ref (kb G + 44), .ref (kb G + 45), .ref (kb G + 46), .ref (kb G + 47), .ref (kb G + 48)]) := HO
  refine Spi.of (by decide) (Nat.le_of_ble_eq_true rfl) ?_
  refine Go.loc (lv' := [(0, _), (1, _), (2, _), (3, _), (4, _)]) rfl ?_
  refine go_iload_n 2 (nx := 1) dX7_lastButOne_0 rfl rfl rfl ?_
  refine go_iload_n 3 (nx := 2) dX7_lastButOne_1 rfl rfl rfl ?_
  refine go_iconst (v := nI 1) (nx := 3) dX7_lastButOne_2 (by decide) rfl ?_
  refine go_isub (nx := 4) dX7_lastButOne_3 rfl ?_
  refine go_icmp_ne 16 (nx := 7) dX7_lastButOne_4 rfl rfl (fun c4 => False.elim (absurd rfl c4)) (fun c4 => ?_)
  refine go_aload_n 0 (nx := 8) dX7_lastButOne_7 rfl rfl rfl ?_
  refine go_iload_n 1 (nx := 9) dX7_lastButOne_8 rfl rfl rfl ?_
  refine go_iload_n 2 (nx := 10) dX7_lastButOne_9 rfl rfl rfl ?_
  refine go_iload 4 (nx := 12) dX7_lastButOne_10 rfl rfl ?_
  refine go_Vi (nx := 15) [_, _, _] kc_X7_207 ⟨_, _, rfl⟩ (by omega) hM (m_lastDay (ν := ν) (day := 0) hn HO hw hv hf (by omega) hY rfl HS hah HDo rfl rfl rfl) dX7_lastButOne_12 rfl rfl (Nat.le_of_ble_eq_true rfl) (Nat.le_of_ble_eq_true rfl) ⟨Nat.le_refl _, Nat.le_refl _⟩ rfl (fun rh1 h1 hqh1 => ?_)
  obtain ⟨rfl, HS, ⟨a, qa, -⟩, qd, dF⟩ := hqh1
  refine go_reti dX7_lastButOne_15 ⟨_, rfl, rfl⟩ ?_
  exact ⟨rfl, HS, ⟨a, qa⟩, qd, dF⟩
theorem l_firstDayE {G : kG} {n sz f0 : Nat} {ν : mN} {T : mT} {tr : Int64} {F : Nat → Int32} {wd : Bool} {h0 : kH} {ah0 : Nat → Int32} (hn : 49 ≤ n) (HO0 : mO G F tr sz T h0) (hw : wT T) (hv : wN T.1 ν) (hf : f0 < T.1) (hY : ν.2.2.2.1 ≤ 99) (ew : f0 = (f0 + (0)) % T.1) {o : Nat} {h : kH} {ah dd : Nat → Int32} (ho : o ≤ T.1) (HS : oS G ν h) (hah : h 47 = .inl (G.2.1, 24, .inl ah)) (hah0 : ∀ j, j < 8 * (0) → ah j = ah0 j) (hdo : h 48 = .inl (G.2.1, 3, .inl dd)) (hdd : dd (0) = actI (-9) (oc T ν.2.2.1 f0 wd (2 + 1) (0) ν.1).2) (dF : dfr h0 h) : Go G mX7_firstDay (5, 0, 0) 69 [(6, .int (nI o)), (4, .int (nI (oc T ν.2.2.1 f0 wd (2 + 1) (0) ν.1).1)), (5, .int (nI 1)), (0, .ref (kb G + 37)), (1, .int (nI f0)), (2, .int (nI 3)), (3, .int (bI wd))] [] (n, 0, 0) h (kQi mX7_firstDay n (fun v h' => v = nI (oc T ν.2.2.1 f0 wd (2 + 1) (0) ν.1).1 ∧ oS G ν h' ∧ (∃ a : Nat → Int32, h' 47 = .inl (G.2.1, 24, .inl a) ∧ ∀ j, j < 8 * (0) → a j = ah0 j) ∧ (∃ dd : Nat → Int32, h' 48 = .inl (G.2.1, 3, .inl dd) ∧ dd (0) = actI (-9) (oc T ν.2.2.1 f0 wd (2 + 1) (0) ν.1).2) ∧ dfr h0 h')) := by
  have HO := HO0.df dF
  have hM : h 37 = .inr (7, [.int (F 0), .long tr, .ref (kb G + 38), .int (nI sz), .int (F 4), .int (F 5), .int (F 6), .int (F 7), .int (F 8), .ref (kb G + 39), .ref (kb G + 40), .int (nI T.1), .int (F 12), .int (nI T.2.2.2.1), .int (F 14), .int (nI T.2.2.2.2.1), .int (F 16), .int (nI T.2.2.2.2.2), .int (F 18), .int (F 19), .int (F 20), .ref (kb G + 41), .ref (kb G + 42), .ref (kb G + 43), .ref (kb G + 44), .ref (kb G + 45), .ref (kb G + 46), .ref (kb G + 47), .ref (kb G + 48)]) := HO
  refine go_iload 0 (nx := 71) dX7_firstDay_69 rfl rfl ?_
  refine go_aload_n 3 (nx := 72) dX7_firstDay_71 rfl rfl rfl ?_
  refine go_gf (nx := 75) fg_X7_137 dX7_firstDay_72 (by omega) hM rfl rfl ?_
  refine go_icmp_ge 170 (nx := 78) dX7_firstDay_75 rfl rfl (fun c75 => ?_) (fun c75 => ?_)
  · skip
    refine go_iload 1 (nx := 172) dX7_firstDay_170 rfl rfl ?_
    refine go_reti dX7_firstDay_172 ⟨_, rfl, rfl⟩ ?_
    exact ⟨rfl, HS, ⟨_, hah, hah0⟩, ⟨_, hdo, hdd⟩, dF⟩
  · skip
    refine go_iload 2 (nx := 80) dX7_firstDay_78 rfl rfl ?_
    refine go_if_ne 170 (nx := 83) dX7_firstDay_80 rfl rfl (fun c80 => ?_) (fun c80 => False.elim (absurd c80 (by decide)))
    refine go_iload 1 (nx := 172) dX7_firstDay_170 rfl rfl ?_
    refine go_reti dX7_firstDay_172 ⟨_, rfl, rfl⟩ ?_
    exact ⟨rfl, HS, ⟨_, hah, hah0⟩, ⟨_, hdo, hdd⟩, dF⟩
theorem l_firstDayN {G : kG} {n sz f0 : Nat} {ν : mN} {T : mT} {tr : Int64} {F : Nat → Int32} {wd : Bool} {h0 : kH} {ah0 : Nat → Int32} (hn : 49 ≤ n) (HO0 : mO G F tr sz T h0) (hw : wT T) (hv : wN T.1 ν) (hf : f0 < T.1) (hY : ν.2.2.2.1 ≤ 99) (ew : f0 = (f0 + (0)) % T.1) {u0 : Nat} : ∀ (d o : Nat) (h : kH) (ah dd : Nat → Int32), T.1 - o < d → o ≤ T.1 → oS G ν h → h 47 = .inl (G.2.1, 24, .inl ah) → (∀ j, j < 8 → ah (8 * (0) + j) = nI (row ν.1 j)) → (∀ j, j < 8 * (0) → ah j = ah0 j) → h 48 = .inl (G.2.1, 3, .inl dd) → dd (0) = -9 → dfr h0 h → (oc T ν.2.2.1 f0 wd (2 + 1) (0) ν.1) = ocm u0 (ffo (ocg T ν.2.2.1 f0 wd (2) (0) ν.1) (T.1 - o) o) → Go G mX7_firstDay (5, 0, 0) 69 [(6, .int (nI o)), (4, .int (nI u0)), (5, .int (nI 0)), (0, .ref (kb G + 37)), (1, .int (nI f0)), (2, .int (nI 3)), (3, .int (bI wd))] [] (n, 0, 0) h (kQi mX7_firstDay n (fun v h' => v = nI (oc T ν.2.2.1 f0 wd (2 + 1) (0) ν.1).1 ∧ oS G ν h' ∧ (∃ a : Nat → Int32, h' 47 = .inl (G.2.1, 24, .inl a) ∧ ∀ j, j < 8 * (0) → a j = ah0 j) ∧ (∃ dd : Nat → Int32, h' 48 = .inl (G.2.1, 3, .inl dd) ∧ dd (0) = actI (-9) (oc T ν.2.2.1 f0 wd (2 + 1) (0) ν.1).2) ∧ dfr h0 h')) := by
  intro d
  have hP := hw.1
  have hwl : f0 < T.1 := by rw [ew]; exact Nat.mod_lt _ (by omega)
  induction d with
  | zero => intro o h ah dd hd; omega
  | succ d ih =>
    intro o h ah dd hd ho HS hah hahK hah0 hdo hdd dF hb
    have HO := HO0.df dF
    have hM : h 37 = .inr (7, [.int (F 0), .long tr, .ref (kb G + 38), .int (nI sz), .int (F 4), .int (F 5), .int (F 6), .int (F 7), .int (F 8), .ref (kb G + 39), .ref (kb G + 40), .int (nI T.1), .int (F 12), .int (nI T.2.2.2.1), .int (F 14), .int (nI T.2.2.2.2.1), .int (F 16), .int (nI T.2.2.2.2.2), .int (F 18), .int (F 19), .int (F 20), .ref (kb G + 41), .ref (kb G + 42), .ref (kb G + 43), .ref (kb G + 44), .ref (kb G + 45), .ref (kb G + 46), .ref (kb G + 47), .ref (kb G + 48)]) := HO
    refine go_iload 0 (nx := 71) dX7_firstDay_69 rfl rfl ?_
    refine go_aload_n 3 (nx := 72) dX7_firstDay_71 rfl rfl rfl ?_
    refine go_gf (nx := 75) fg_X7_137 dX7_firstDay_72 (by omega) hM rfl rfl ?_
    refine go_icmp_ge 170 (nx := 78) dX7_firstDay_75 rfl rfl (fun c75 => ?_) (fun c75 => ?_)
    · skip
      refine go_iload 1 (nx := 172) dX7_firstDay_170 rfl rfl ?_
      refine go_reti dX7_firstDay_172 ⟨_, rfl, rfl⟩ ?_
      have e8 : o = T.1 := by have := kle c75; omega
      have eR : (oc T ν.2.2.1 f0 wd (2 + 1) (0) ν.1) = (u0, none) := by rw [hb, e8, Nat.sub_self]; rfl
      rw [eR]
      exact ⟨rfl, HS, ⟨_, hah, hah0⟩, ⟨_, hdo, hdd⟩, dF⟩
    · skip
      have hoP := knle c75
      refine go_iload 2 (nx := 80) dX7_firstDay_78 rfl rfl ?_
      refine go_if_ne 170 (nx := 83) dX7_firstDay_80 rfl rfl (fun c80 => False.elim (absurd rfl c80)) (fun c80 => ?_)
      refine go_aload_n 3 (nx := 84) dX7_firstDay_83 rfl rfl rfl ?_
      refine go_iload_n 4 (nx := 85) dX7_firstDay_84 rfl rfl rfl ?_
      refine go_iconst (v := nI 0) (nx := 86) dX7_firstDay_85 (by decide) rfl ?_
      refine go_iload 0 (nx := 88) dX7_firstDay_86 rfl rfl ?_
      refine go_Vi (nx := 91) [_, _, _] kc_X7_204 ⟨_, _, rfl⟩ (by omega) hM (m_acts hn HO HS hP rfl hf rfl (by omega) rfl hoP) dX7_firstDay_88 rfl rfl (Nat.le_of_ble_eq_true rfl) (Nat.le_of_ble_eq_true rfl) ⟨Nat.le_refl _, Nat.le_refl _⟩ rfl (fun rh1 h1 hqh1 => ?_)
      obtain ⟨rfl, qa, qb, hFh1⟩ := hqh1
      have hah := (hFh1 47 (by omega)).trans hah
      have hdo := (hFh1 48 (by omega)).trans hdo
      have dF := dF.k hFh1 (by omega)
      have HO := HO0.df dF
      have hM : h1 37 = .inr (7, [.int (F 0), .long tr, .ref (kb G + 38), .int (nI sz), .int (F 4), .int (F 5), .int (F 6), .int (F 7), .int (F 8), .ref (kb G + 39), .ref (kb G + 40), .int (nI T.1), .int (F 12), .int (nI T.2.2.2.1), .int (F 14), .int (nI T.2.2.2.2.1), .int (F 16), .int (nI T.2.2.2.2.2), .int (F 18), .int (F 19), .int (F 20), .ref (kb G + 41), .ref (kb G + 42), .ref (kb G + 43), .ref (kb G + 44), .ref (kb G + 45), .ref (kb G + 46), .ref (kb G + 47), .ref (kb G + 48)]) := HO
      refine go_if_eq 164 (nx := 94) dX7_firstDay_91 rfl rfl (fun c91 => ?_) (fun c91 => ?_)
      · skip
        refine go_iinc 0 (v := nI (o + 1)) (lv' := [_, _, _, _, _, _, _]) (nx := 167) dX7_firstDay_164 rfl (nI_inc o) (by decide) rfl rfl ?_
        refine go_goto 69 dX7_firstDay_167 rfl ?_
        refine Go.sub [0, 1, 2, 3, 4, 5, 6] rfl ?_
        have e : o = f0 := by
          have z := tb0 c91
          rw [← ew] at z
          exact Decidable.of_not_not (of_decide_eq_false z)
        refine ih (o + 1) _ _ _ (by omega) (by omega) (by rw [qa (e.trans ew)]; exact HS) hah hahK hah0 hdo hdd dF (hb.trans ?_)
        rw [show T.1 - o = (T.1 - (o + 1)) + 1 by omega]
        exact congrArg (ocm u0) (ffo_none (by unfold ocg; rw [if_pos (e.trans ew)]))
      · skip
        have hne : o ≠ f0 := by
          have z := tbn0 c91
          rw [← ew] at z
          exact of_decide_eq_true z
        have HS2 := qb (by rw [← ew]; exact hne)
        rw [← ew] at HS2
        have hlt : (oc T ν.2.2.1 f0 wd (2) (0 + 1) (meetK ν.1 f0 o)).1 < T.1 := oc_lt (by omega)
        refine go_aload_n 3 (nx := 95) dX7_firstDay_94 rfl rfl rfl ?_
        refine go_iload_n 4 (nx := 96) dX7_firstDay_95 rfl rfl rfl ?_
        refine go_iconst (v := nI 1) (nx := 97) dX7_firstDay_96 (by decide) rfl ?_
        refine go_iconst (v := nI 3) (nx := 98) dX7_firstDay_97 (by decide) rfl ?_
        refine go_iload_n 6 (nx := 99) dX7_firstDay_98 rfl rfl rfl ?_
        refine go_Vi (nx := 102) [_, _, _, _] kc_X7_210 ⟨_, _, rfl⟩ (by omega) hM (m_lastBut2 (day := 1) (ν := (meetK ν.1 f0 o, ν.2)) hn HO hw ⟨wK_meet hv.1 hwl hoP (Ne.symm hne), hv.2⟩ hf (by decide) (show ν.2.2.2.1 ≤ 99 from hY) rfl HS2 hah ⟨_, hdo⟩ rfl rfl rfl rfl) dX7_firstDay_99 rfl rfl (Nat.le_of_ble_eq_true rfl) (Nat.le_of_ble_eq_true rfl) ⟨Nat.le_refl _, Nat.le_refl _⟩ rfl (fun rh2 h2 hqh2 => ?_)
        obtain ⟨rfl, HS2, ⟨ah2, hah, hah2⟩, ⟨dd2, hdo, -⟩, dG⟩ := hqh2
        have hahK : ∀ j, j < 8 → ah2 (8 * (0) + j) = nI (row ν.1 j) := fun j hj => (hah2 _ (by omega)).trans (hahK j hj)
        have hah0 : ∀ j, j < 8 * (0) → ah2 j = ah0 j := fun j hj => (hah2 j (by omega)).trans (hah0 j hj)
        have dF := dF.tr dG
        have HO := HO0.df dF
        have hM : h2 37 = .inr (7, [.int (F 0), .long tr, .ref (kb G + 38), .int (nI sz), .int (F 4), .int (F 5), .int (F 6), .int (F 7), .int (F 8), .ref (kb G + 39), .ref (kb G + 40), .int (nI T.1), .int (F 12), .int (nI T.2.2.2.1), .int (F 14), .int (nI T.2.2.2.2.1), .int (F 16), .int (nI T.2.2.2.2.2), .int (F 18), .int (F 19), .int (F 20), .ref (kb G + 41), .ref (kb G + 42), .ref (kb G + 43), .ref (kb G + 44), .ref (kb G + 45), .ref (kb G + 46), .ref (kb G + 47), .ref (kb G + 48)]) := HO
        refine go_istore (lv' := [_, _, _, _, _, _, _, _]) (nx := 104) dX7_firstDay_102 (by decide) rfl rfl ?_
        refine go_aload_n 4 (nx := 105) dX7_firstDay_104 rfl rfl rfl ?_
        refine go_iconst (v := nI 0) (nx := 106) dX7_firstDay_105 (by decide) rfl ?_
        refine go_iconst (v := nI 0) (nx := 107) dX7_firstDay_106 (by decide) rfl ?_
        refine go_Vv (nx := 110) [_, _] kc_X7_200 ⟨_, _, rfl⟩ (by omega) hM (m_asideOfF (K := meetK ν.1 f0 o) hn HO HS2 hah hahK rfl (by omega) rfl) dX7_firstDay_107 rfl rfl (Nat.le_of_ble_eq_true rfl) (Nat.le_of_ble_eq_true rfl) ⟨Nat.le_refl _, Nat.le_refl _⟩ rfl (fun h3 hqh3 => ?_)
        obtain ⟨HS3, hFh3⟩ := hqh3
        have hah := (hFh3 47 (by omega)).trans hah
        have hdo := (hFh3 48 (by omega)).trans hdo
        have dF := dF.k hFh3 (by omega)
        have HO := HO0.df dF
        have hM : h3 37 = .inr (7, [.int (F 0), .long tr, .ref (kb G + 38), .int (nI sz), .int (F 4), .int (F 5), .int (F 6), .int (F 7), .int (F 8), .ref (kb G + 39), .ref (kb G + 40), .int (nI T.1), .int (F 12), .int (nI T.2.2.2.1), .int (F 14), .int (nI T.2.2.2.2.1), .int (F 16), .int (nI T.2.2.2.2.2), .int (F 18), .int (F 19), .int (F 20), .ref (kb G + 41), .ref (kb G + 42), .ref (kb G + 43), .ref (kb G + 44), .ref (kb G + 45), .ref (kb G + 46), .ref (kb G + 47), .ref (kb G + 48)]) := HO
        refine go_iload 0 (nx := 112) dX7_firstDay_110 rfl rfl ?_
        refine go_iload_n 5 (nx := 113) dX7_firstDay_112 rfl rfl rfl ?_
        refine go_icmp_ne 120 (nx := 116) dX7_firstDay_113 rfl rfl (fun c113 => ?_) (fun c113 => ?_)
        · skip
          refine go_iconst (v := nI 0) (nx := 121) dX7_firstDay_120 (by decide) rfl ?_
          refine go_iload_n 7 (nx := 122) dX7_firstDay_121 rfl rfl rfl ?_
          refine go_icmp_ne 129 (nx := 125) dX7_firstDay_122 rfl rfl (fun c122 => ?_) (fun c122 => ?_)
          · skip
            refine go_iconst (v := nI 0) (nx := 130) dX7_firstDay_129 (by decide) rfl ?_
            refine go_istore (lv' := [_, _, _, _, _, _, _, _]) (nx := 132) dX7_firstDay_130 (by decide) rfl rfl ?_
            refine go_aload_n 4 (nx := 133) dX7_firstDay_132 rfl rfl rfl ?_
            refine go_gf (nx := 136) fg_X7_41 dX7_firstDay_133 (by omega) hM rfl rfl ?_
            refine go_iconst (v := nI 0) (nx := 137) dX7_firstDay_136 (by decide) rfl ?_
            refine go_iload 0 (nx := 139) dX7_firstDay_137 rfl rfl ?_
            refine go_if_eq 147 (nx := 142) dX7_firstDay_139 rfl rfl (fun c139 => ?_) (fun c139 => False.elim (absurd rfl c139))
            refine go_bipush (v := (-9)) (nx := 149) dX7_firstDay_147 (by decide) rfl ?_
            refine go_ias (0) (nx := 150) dX7_firstDay_149 (by omega) hdo rfl (by omega) (by omega) rfl (fun h4 eh4 fh4 => ?_)
            have hM := (fh4 (37) (by omega)).trans hM
            have hdo := eh4
            refine go_iload 0 (nx := 152) dX7_firstDay_150 rfl rfl ?_
            refine go_if_eq 160 (nx := 155) dX7_firstDay_152 rfl rfl (fun c152 => ?_) (fun c152 => False.elim (absurd rfl c152))
            refine go_iload 3 (nx := 162) dX7_firstDay_160 rfl rfl ?_
            refine go_istore (lv' := [_, _, _, _, _, _, _, _]) (nx := 164) dX7_firstDay_162 (by decide) rfl rfl ?_
            refine go_iinc 3 (v := nI (o + 1)) (lv' := [_, _, _, _, _, _, _, _]) (nx := 167) dX7_firstDay_164 rfl (nI_inc o) (by decide) rfl rfl ?_
            refine go_goto 69 dX7_firstDay_167 rfl ?_
            refine Go.sub [0, 1, 2, 4, 5, 6, 7] rfl ?_
            have hx0 : ((oc T ν.2.2.1 f0 wd (2) (0 + 1) (meetK ν.1 f0 o)).1 == f0) = false := beq_eq_false_iff_ne.mpr (fun z => c113 (congrArg nI z))
            have hx : nI 0 = bI ((oc T ν.2.2.1 f0 wd (2) (0 + 1) (meetK ν.1 f0 o)).1 == f0) := by rw [hx0]; rfl
            have e2 := so_f hx c122
            have fx : kFr 48 49 _ h4 := fun j hj => fh4 j (by omega)
            have dF := dF.k fx (by omega)
            have hah := (fx 47 (by omega)).trans hah
            refine ih (o + 1) _ _ _ (by omega) (by omega) (by obtain ⟨a, z1, z2⟩ := HS3; exact ⟨a, (fx 41 (by omega)).trans z1, z2⟩) hah hahK hah0 hdo pk_us dF (hb.trans ?_)
            rw [show T.1 - o = (T.1 - (o + 1)) + 1 by omega]
            exact congrArg (ocm u0) (ffo_none (by unfold ocg; rw [← ew, if_neg hne, if_neg (by rw [e2]; decide)]))
          · skip
            refine go_iconst (v := nI 1) (nx := 126) dX7_firstDay_125 (by decide) rfl ?_
            refine go_goto 130 dX7_firstDay_126 rfl ?_
            refine go_istore (lv' := [_, _, _, _, _, _, _, _]) (nx := 132) dX7_firstDay_130 (by decide) rfl rfl ?_
            refine go_aload_n 4 (nx := 133) dX7_firstDay_132 rfl rfl rfl ?_
            refine go_gf (nx := 136) fg_X7_41 dX7_firstDay_133 (by omega) hM rfl rfl ?_
            refine go_iconst (v := nI 0) (nx := 137) dX7_firstDay_136 (by decide) rfl ?_
            refine go_iload 0 (nx := 139) dX7_firstDay_137 rfl rfl ?_
            refine go_if_eq 147 (nx := 142) dX7_firstDay_139 rfl rfl (fun c139 => False.elim (absurd c139 (by decide))) (fun c139 => ?_)
            refine go_iload 2 (nx := 144) dX7_firstDay_142 rfl rfl ?_
            refine go_goto 149 dX7_firstDay_144 rfl ?_
            refine go_ias (0) (nx := 150) dX7_firstDay_149 (by omega) hdo rfl (by omega) (by omega) rfl (fun h4 eh4 fh4 => ?_)
            have hM := (fh4 (37) (by omega)).trans hM
            have hdo := eh4
            refine go_iload 0 (nx := 152) dX7_firstDay_150 rfl rfl ?_
            refine go_if_eq 160 (nx := 155) dX7_firstDay_152 rfl rfl (fun c152 => False.elim (absurd c152 (by decide))) (fun c152 => ?_)
            refine go_iload 1 (nx := 157) dX7_firstDay_155 rfl rfl ?_
            refine go_goto 162 dX7_firstDay_157 rfl ?_
            refine go_istore (lv' := [_, _, _, _, _, _, _, _]) (nx := 164) dX7_firstDay_162 (by decide) rfl rfl ?_
            refine go_iinc 3 (v := nI (o + 1)) (lv' := [_, _, _, _, _, _, _, _]) (nx := 167) dX7_firstDay_164 rfl (nI_inc o) (by decide) rfl rfl ?_
            refine go_goto 69 dX7_firstDay_167 rfl ?_
            refine Go.sub [0, 1, 2, 4, 5, 6, 7] rfl ?_
            have hx0 : ((oc T ν.2.2.1 f0 wd (2) (0 + 1) (meetK ν.1 f0 o)).1 == f0) = false := beq_eq_false_iff_ne.mpr (fun z => c113 (congrArg nI z))
            have hx : nI 0 = bI ((oc T ν.2.2.1 f0 wd (2) (0 + 1) (meetK ν.1 f0 o)).1 == f0) := by rw [hx0]; rfl
            have e2 := so_t hx c122
            have fx : kFr 48 49 _ h4 := fun j hj => fh4 j (by omega)
            have dF := dF.k fx (by omega)
            have hah := (fx 47 (by omega)).trans hah
            have eR : (oc T ν.2.2.1 f0 wd (2 + 1) (0) ν.1) = ((oc T ν.2.2.1 f0 wd (2) (0 + 1) (meetK ν.1 f0 o)).1, some o) := by
              rw [hb, show T.1 - o = (T.1 - (o + 1)) + 1 by omega, ffo_some (x := (o, (oc T ν.2.2.1 f0 wd (2) (0 + 1) (meetK ν.1 f0 o)).1)) (by unfold ocg; rw [← ew, if_neg hne, if_pos e2])]
              rfl
            have k := l_firstDayE (wd := wd) hn HO0 hw hv hf hY ew (o := o + 1) (by omega) (by obtain ⟨a, z1, z2⟩ := HS3; exact ⟨a, (fx 41 (by omega)).trans z1, z2⟩) hah hah0 hdo (by rw [eR]; exact pk_us) dF
            rw [eR] at k
            rw [eR]
            exact k
        · skip
          refine go_iconst (v := nI 1) (nx := 117) dX7_firstDay_116 (by decide) rfl ?_
          refine go_goto 121 dX7_firstDay_117 rfl ?_
          refine go_iload_n 7 (nx := 122) dX7_firstDay_121 rfl rfl rfl ?_
          refine go_icmp_ne 129 (nx := 125) dX7_firstDay_122 rfl rfl (fun c122 => ?_) (fun c122 => ?_)
          · skip
            refine go_iconst (v := nI 0) (nx := 130) dX7_firstDay_129 (by decide) rfl ?_
            refine go_istore (lv' := [_, _, _, _, _, _, _, _]) (nx := 132) dX7_firstDay_130 (by decide) rfl rfl ?_
            refine go_aload_n 4 (nx := 133) dX7_firstDay_132 rfl rfl rfl ?_
            refine go_gf (nx := 136) fg_X7_41 dX7_firstDay_133 (by omega) hM rfl rfl ?_
            refine go_iconst (v := nI 0) (nx := 137) dX7_firstDay_136 (by decide) rfl ?_
            refine go_iload 0 (nx := 139) dX7_firstDay_137 rfl rfl ?_
            refine go_if_eq 147 (nx := 142) dX7_firstDay_139 rfl rfl (fun c139 => ?_) (fun c139 => False.elim (absurd rfl c139))
            refine go_bipush (v := (-9)) (nx := 149) dX7_firstDay_147 (by decide) rfl ?_
            refine go_ias (0) (nx := 150) dX7_firstDay_149 (by omega) hdo rfl (by omega) (by omega) rfl (fun h4 eh4 fh4 => ?_)
            have hM := (fh4 (37) (by omega)).trans hM
            have hdo := eh4
            refine go_iload 0 (nx := 152) dX7_firstDay_150 rfl rfl ?_
            refine go_if_eq 160 (nx := 155) dX7_firstDay_152 rfl rfl (fun c152 => ?_) (fun c152 => False.elim (absurd rfl c152))
            refine go_iload 3 (nx := 162) dX7_firstDay_160 rfl rfl ?_
            refine go_istore (lv' := [_, _, _, _, _, _, _, _]) (nx := 164) dX7_firstDay_162 (by decide) rfl rfl ?_
            refine go_iinc 3 (v := nI (o + 1)) (lv' := [_, _, _, _, _, _, _, _]) (nx := 167) dX7_firstDay_164 rfl (nI_inc o) (by decide) rfl rfl ?_
            refine go_goto 69 dX7_firstDay_167 rfl ?_
            refine Go.sub [0, 1, 2, 4, 5, 6, 7] rfl ?_
            have hx0 : ((oc T ν.2.2.1 f0 wd (2) (0 + 1) (meetK ν.1 f0 o)).1 == f0) = true := beq_iff_eq.mpr (keq c113 (Nat.lt_trans hlt (by omega)) (by omega))
            have hx : nI 1 = bI ((oc T ν.2.2.1 f0 wd (2) (0 + 1) (meetK ν.1 f0 o)).1 == f0) := by rw [hx0]; rfl
            have e2 := so_f hx c122
            have fx : kFr 48 49 _ h4 := fun j hj => fh4 j (by omega)
            have dF := dF.k fx (by omega)
            have hah := (fx 47 (by omega)).trans hah
            refine ih (o + 1) _ _ _ (by omega) (by omega) (by obtain ⟨a, z1, z2⟩ := HS3; exact ⟨a, (fx 41 (by omega)).trans z1, z2⟩) hah hahK hah0 hdo pk_us dF (hb.trans ?_)
            rw [show T.1 - o = (T.1 - (o + 1)) + 1 by omega]
            exact congrArg (ocm u0) (ffo_none (by unfold ocg; rw [← ew, if_neg hne, if_neg (by rw [e2]; decide)]))
          · skip
            refine go_iconst (v := nI 1) (nx := 126) dX7_firstDay_125 (by decide) rfl ?_
            refine go_goto 130 dX7_firstDay_126 rfl ?_
            refine go_istore (lv' := [_, _, _, _, _, _, _, _]) (nx := 132) dX7_firstDay_130 (by decide) rfl rfl ?_
            refine go_aload_n 4 (nx := 133) dX7_firstDay_132 rfl rfl rfl ?_
            refine go_gf (nx := 136) fg_X7_41 dX7_firstDay_133 (by omega) hM rfl rfl ?_
            refine go_iconst (v := nI 0) (nx := 137) dX7_firstDay_136 (by decide) rfl ?_
            refine go_iload 0 (nx := 139) dX7_firstDay_137 rfl rfl ?_
            refine go_if_eq 147 (nx := 142) dX7_firstDay_139 rfl rfl (fun c139 => False.elim (absurd c139 (by decide))) (fun c139 => ?_)
            refine go_iload 2 (nx := 144) dX7_firstDay_142 rfl rfl ?_
            refine go_goto 149 dX7_firstDay_144 rfl ?_
            refine go_ias (0) (nx := 150) dX7_firstDay_149 (by omega) hdo rfl (by omega) (by omega) rfl (fun h4 eh4 fh4 => ?_)
            have hM := (fh4 (37) (by omega)).trans hM
            have hdo := eh4
            refine go_iload 0 (nx := 152) dX7_firstDay_150 rfl rfl ?_
            refine go_if_eq 160 (nx := 155) dX7_firstDay_152 rfl rfl (fun c152 => False.elim (absurd c152 (by decide))) (fun c152 => ?_)
            refine go_iload 1 (nx := 157) dX7_firstDay_155 rfl rfl ?_
            refine go_goto 162 dX7_firstDay_157 rfl ?_
            refine go_istore (lv' := [_, _, _, _, _, _, _, _]) (nx := 164) dX7_firstDay_162 (by decide) rfl rfl ?_
            refine go_iinc 3 (v := nI (o + 1)) (lv' := [_, _, _, _, _, _, _, _]) (nx := 167) dX7_firstDay_164 rfl (nI_inc o) (by decide) rfl rfl ?_
            refine go_goto 69 dX7_firstDay_167 rfl ?_
            refine Go.sub [0, 1, 2, 4, 5, 6, 7] rfl ?_
            have hx0 : ((oc T ν.2.2.1 f0 wd (2) (0 + 1) (meetK ν.1 f0 o)).1 == f0) = true := beq_iff_eq.mpr (keq c113 (Nat.lt_trans hlt (by omega)) (by omega))
            have hx : nI 1 = bI ((oc T ν.2.2.1 f0 wd (2) (0 + 1) (meetK ν.1 f0 o)).1 == f0) := by rw [hx0]; rfl
            have e2 := so_t hx c122
            have fx : kFr 48 49 _ h4 := fun j hj => fh4 j (by omega)
            have dF := dF.k fx (by omega)
            have hah := (fx 47 (by omega)).trans hah
            have eR : (oc T ν.2.2.1 f0 wd (2 + 1) (0) ν.1) = ((oc T ν.2.2.1 f0 wd (2) (0 + 1) (meetK ν.1 f0 o)).1, some o) := by
              rw [hb, show T.1 - o = (T.1 - (o + 1)) + 1 by omega, ffo_some (x := (o, (oc T ν.2.2.1 f0 wd (2) (0 + 1) (meetK ν.1 f0 o)).1)) (by unfold ocg; rw [← ew, if_neg hne, if_pos e2])]
              rfl
            have k := l_firstDayE (wd := wd) hn HO0 hw hv hf hY ew (o := o + 1) (by omega) (by obtain ⟨a, z1, z2⟩ := HS3; exact ⟨a, (fx 41 (by omega)).trans z1, z2⟩) hah hah0 hdo (by rw [eR]; exact pk_us) dF
            rw [eR] at k
            rw [eR]
            exact k
theorem m_first3 {G : kG} {n sz f0 : Nat} {ν : mN} {T : mT} {tr : Int64} {F : Nat → Int32} {wd : Bool} {h : kH} {ah0 : Nat → Int32} (hn : 49 ≤ n) (HO : mO G F tr sz T h) (hw : wT T) (hv : wN T.1 ν) (hf : f0 < T.1) (hY : ν.2.2.2.1 ≤ 99) (ew : f0 = (f0 + (0)) % T.1) {x y z : Int32} (HS : oS G ν h) (hah : h 47 = .inl (G.2.1, 24, .inl ah0)) (HDo : xArr G 48 3 h) (hx : x = nI f0) (hy : y = nI 3) (hz : z = bI wd) : Spi G mX7_firstDay 5 [.ref (kb G + 37), .int x, .int y, .int z] n h (fun v h' => v = nI (oc T ν.2.2.1 f0 wd (2 + 1) (0) ν.1).1 ∧ oS G ν h' ∧ (∃ a : Nat → Int32, h' 47 = .inl (G.2.1, 24, .inl a) ∧ ∀ j, j < 8 * (0) → a j = ah0 j) ∧ (∃ dd : Nat → Int32, h' 48 = .inl (G.2.1, 3, .inl dd) ∧ dd (0) = actI (-9) (oc T ν.2.2.1 f0 wd (2 + 1) (0) ν.1).2) ∧ dfr h h') := by
  subst hx
  subst hy
  subst hz
  have HO0 := HO
  have hP := hw.1
  have hwl : f0 < T.1 := by rw [ew]; exact Nat.mod_lt _ (by omega)
  obtain ⟨dd, hdo⟩ := HDo
  have hM : h 37 = .inr (7, [.int (F 0), .long tr, .ref (kb G + 38), .int (nI sz), .int (F 4), .int (F 5), .int (F 6), .int (F 7), .int (F 8), .ref (kb G + 39), .ref (kb G + 40), .int (nI T.1), .int (F 12), .int (nI T.2.2.2.1), .int (F 14), .int (nI T.2.2.2.2.1), .int (F 16), .int (nI T.2.2.2.2.2), .int (F 18), .int (F 19), .int (F 20), .ref (kb G + 41), .ref (kb G + 42), .ref (kb G + 43), .ref (kb G + 44), .ref (kb G + 45), .ref (kb G + 46), .ref (kb G + 47), .ref (kb G + 48)]) := HO
  have dF : dfr h h := dfr.rf
  have hlt : (oc T ν.2.2.1 f0 wd (2) (0 + 1) ν.1).1 < T.1 := oc_lt (by omega)
  refine Spi.of (by decide) (Nat.le_of_ble_eq_true rfl) ?_
  refine Go.loc (lv' := [(0, _), (1, _), (2, _), (3, _)]) rfl ?_
  refine go_iload_n 2 (nx := 1) dX7_firstDay_0 rfl rfl rfl ?_
  refine go_iconst (v := nI 3) (nx := 2) dX7_firstDay_1 (by decide) rfl ?_
  refine go_icmp_ge 14 (nx := 5) dX7_firstDay_2 rfl rfl (fun c2 => ?_) (fun c2 => False.elim (c2 (by decide)))
  refine go_aload_n 0 (nx := 15) dX7_firstDay_14 rfl rfl rfl ?_
  refine go_iconst (v := nI 0) (nx := 16) dX7_firstDay_15 (by decide) rfl ?_
  refine go_iconst (v := nI 1) (nx := 17) dX7_firstDay_16 (by decide) rfl ?_
  refine go_Vv (nx := 20) [_, _] kc_X7_200 ⟨_, _, rfl⟩ (by omega) hM (m_asideOfT hn HO HS hah rfl (by omega) rfl) dX7_firstDay_17 rfl rfl (Nat.le_of_ble_eq_true rfl) (Nat.le_of_ble_eq_true rfl) ⟨Nat.le_refl _, Nat.le_refl _⟩ rfl (fun h1 hqh1 => ?_)
  obtain ⟨⟨ah, hah, hahK, hah0⟩, hFh1⟩ := hqh1
  have hdo := (hFh1 48 (by omega)).trans hdo
  have HS := HS.fr hFh1 (by omega)
  have dF := dF.k hFh1 (by omega)
  have HO := HO0.df dF
  have hM : h1 37 = .inr (7, [.int (F 0), .long tr, .ref (kb G + 38), .int (nI sz), .int (F 4), .int (F 5), .int (F 6), .int (F 7), .int (F 8), .ref (kb G + 39), .ref (kb G + 40), .int (nI T.1), .int (F 12), .int (nI T.2.2.2.1), .int (F 14), .int (nI T.2.2.2.2.1), .int (F 16), .int (nI T.2.2.2.2.2), .int (F 18), .int (F 19), .int (F 20), .ref (kb G + 41), .ref (kb G + 42), .ref (kb G + 43), .ref (kb G + 44), .ref (kb G + 45), .ref (kb G + 46), .ref (kb G + 47), .ref (kb G + 48)]) := HO
  refine go_aload_n 0 (nx := 21) dX7_firstDay_20 rfl rfl rfl ?_
  refine go_iload_n 1 (nx := 22) dX7_firstDay_21 rfl rfl rfl ?_
  refine go_iconst (v := nI 1) (nx := 23) dX7_firstDay_22 (by decide) rfl ?_
  refine go_iconst (v := nI 3) (nx := 24) dX7_firstDay_23 (by decide) rfl ?_
  refine go_iload_n 3 (nx := 25) dX7_firstDay_24 rfl rfl rfl ?_
  refine go_Vi (nx := 28) [_, _, _, _] kc_X7_210 ⟨_, _, rfl⟩ (by omega) hM (m_lastBut2 (day := 1) (ν := ν) hn HO hw hv hf (by decide) hY rfl HS hah ⟨_, hdo⟩ rfl rfl rfl rfl) dX7_firstDay_25 rfl rfl (Nat.le_of_ble_eq_true rfl) (Nat.le_of_ble_eq_true rfl) ⟨Nat.le_refl _, Nat.le_refl _⟩ rfl (fun rh2 h2 hqh2 => ?_)
  obtain ⟨rfl, HS2, ⟨ah2, hah, hah2⟩, ⟨dd2, hdo, -⟩, dG⟩ := hqh2
  have hahK : ∀ j, j < 8 → ah2 (8 * (0) + j) = nI (row ν.1 j) := fun j hj => (hah2 _ (by omega)).trans (hahK j hj)
  have hah0 : ∀ j, j < 8 * (0) → ah2 j = ah0 j := fun j hj => (hah2 j (by omega)).trans (hah0 j hj)
  have dF := dF.tr dG
  have HO := HO0.df dF
  have hM : h2 37 = .inr (7, [.int (F 0), .long tr, .ref (kb G + 38), .int (nI sz), .int (F 4), .int (F 5), .int (F 6), .int (F 7), .int (F 8), .ref (kb G + 39), .ref (kb G + 40), .int (nI T.1), .int (F 12), .int (nI T.2.2.2.1), .int (F 14), .int (nI T.2.2.2.2.1), .int (F 16), .int (nI T.2.2.2.2.2), .int (F 18), .int (F 19), .int (F 20), .ref (kb G + 41), .ref (kb G + 42), .ref (kb G + 43), .ref (kb G + 44), .ref (kb G + 45), .ref (kb G + 46), .ref (kb G + 47), .ref (kb G + 48)]) := HO
  refine go_istore (lv' := [_, _, _, _, _]) (nx := 30) dX7_firstDay_28 (by decide) rfl rfl ?_
  refine go_aload_n 1 (nx := 31) dX7_firstDay_30 rfl rfl rfl ?_
  refine go_iconst (v := nI 0) (nx := 32) dX7_firstDay_31 (by decide) rfl ?_
  refine go_iconst (v := nI 0) (nx := 33) dX7_firstDay_32 (by decide) rfl ?_
  refine go_Vv (nx := 36) [_, _] kc_X7_200 ⟨_, _, rfl⟩ (by omega) hM (m_asideOfF (K := ν.1) hn HO HS2 hah hahK rfl (by omega) rfl) dX7_firstDay_33 rfl rfl (Nat.le_of_ble_eq_true rfl) (Nat.le_of_ble_eq_true rfl) ⟨Nat.le_refl _, Nat.le_refl _⟩ rfl (fun h3 hqh3 => ?_)
  obtain ⟨HS, hFh3⟩ := hqh3
  have hah := (hFh3 47 (by omega)).trans hah
  have hdo := (hFh3 48 (by omega)).trans hdo
  have dF := dF.k hFh3 (by omega)
  have HO := HO0.df dF
  have hM : h3 37 = .inr (7, [.int (F 0), .long tr, .ref (kb G + 38), .int (nI sz), .int (F 4), .int (F 5), .int (F 6), .int (F 7), .int (F 8), .ref (kb G + 39), .ref (kb G + 40), .int (nI T.1), .int (F 12), .int (nI T.2.2.2.1), .int (F 14), .int (nI T.2.2.2.2.1), .int (F 16), .int (nI T.2.2.2.2.2), .int (F 18), .int (F 19), .int (F 20), .ref (kb G + 41), .ref (kb G + 42), .ref (kb G + 43), .ref (kb G + 44), .ref (kb G + 45), .ref (kb G + 46), .ref (kb G + 47), .ref (kb G + 48)]) := HO
  refine go_aload_n 1 (nx := 37) dX7_firstDay_36 rfl rfl rfl ?_
  refine go_gf (nx := 40) fg_X7_41 dX7_firstDay_37 (by omega) hM rfl rfl ?_
  refine go_iconst (v := nI 0) (nx := 41) dX7_firstDay_40 (by decide) rfl ?_
  refine go_bipush (v := (-9)) (nx := 43) dX7_firstDay_41 (by decide) rfl ?_
  refine go_ias (0) (nx := 44) dX7_firstDay_43 (by omega) hdo rfl (by omega) (by omega) rfl (fun h4 eh4 fh4 => ?_)
  have hM := (fh4 (37) (by omega)).trans hM
  have hdo := eh4
  have fx : kFr 48 49 _ h4 := fun j hj => fh4 j (by omega)
  have dF := dF.k fx (by omega)
  have hah := (fx 47 (by omega)).trans hah
  have HS := HS.fr fx (by omega)
  have HO := HO0.df dF
  refine go_iload 0 (nx := 46) dX7_firstDay_44 rfl rfl ?_
  refine go_iload_n 2 (nx := 47) dX7_firstDay_46 rfl rfl rfl ?_
  refine go_icmp_ne 54 (nx := 50) dX7_firstDay_47 rfl rfl (fun c47 => ?_) (fun c47 => ?_)
  · skip
    refine go_iconst (v := nI 0) (nx := 55) dX7_firstDay_54 (by decide) rfl ?_
    refine go_iload_n 4 (nx := 56) dX7_firstDay_55 rfl rfl rfl ?_
    refine go_icmp_ne 63 (nx := 59) dX7_firstDay_56 rfl rfl (fun c56 => ?_) (fun c56 => ?_)
    · skip
      refine go_iconst (v := nI 0) (nx := 64) dX7_firstDay_63 (by decide) rfl ?_
      refine go_istore (lv' := [_, _, _, _, _, _]) (nx := 66) dX7_firstDay_64 (by decide) rfl rfl ?_
      refine go_iconst (v := nI 0) (nx := 67) dX7_firstDay_66 (by decide) rfl ?_
      refine go_istore (lv' := [_, _, _, _, _, _, _]) (nx := 69) dX7_firstDay_67 (by decide) rfl rfl ?_
      refine Go.sub [0, 2, 1, 3, 4, 5, 6] rfl ?_
      have hx0 : ((oc T ν.2.2.1 f0 wd (2) (0 + 1) ν.1).1 == f0) = false := beq_eq_false_iff_ne.mpr (fun z => c47 (congrArg nI z))
      have hx : nI 0 = bI ((oc T ν.2.2.1 f0 wd (2) (0 + 1) ν.1).1 == f0) := by rw [hx0]; rfl
      have eR := oc_n (K := ν.1) (C := ν.2.2.1) (r := 2) ew (so_f hx c56)
      exact l_firstDayN (wd := wd) hn HO0 hw hv hf hY ew (T.1 + 1) 0 _ _ _ (by omega) (by omega) HS hah hahK hah0 hdo pk_us dF eR
    · skip
      refine go_iconst (v := nI 1) (nx := 60) dX7_firstDay_59 (by decide) rfl ?_
      refine go_goto 64 dX7_firstDay_60 rfl ?_
      refine go_istore (lv' := [_, _, _, _, _, _]) (nx := 66) dX7_firstDay_64 (by decide) rfl rfl ?_
      refine go_iconst (v := nI 0) (nx := 67) dX7_firstDay_66 (by decide) rfl ?_
      refine go_istore (lv' := [_, _, _, _, _, _, _]) (nx := 69) dX7_firstDay_67 (by decide) rfl rfl ?_
      refine Go.sub [0, 2, 1, 3, 4, 5, 6] rfl ?_
      have hx0 : ((oc T ν.2.2.1 f0 wd (2) (0 + 1) ν.1).1 == f0) = false := beq_eq_false_iff_ne.mpr (fun z => c47 (congrArg nI z))
      have hx : nI 0 = bI ((oc T ν.2.2.1 f0 wd (2) (0 + 1) ν.1).1 == f0) := by rw [hx0]; rfl
      have eR := oc_y (K := ν.1) (C := ν.2.2.1) (r := 2) ew (so_t hx c56)
      have k := l_firstDayE (wd := wd) hn HO0 hw hv hf hY ew (o := 0) (by omega) HS hah hah0 hdo (by rw [eR]; exact pk_us) dF
      rw [eR] at k
      rw [eR]
      exact k
  · skip
    refine go_iconst (v := nI 1) (nx := 51) dX7_firstDay_50 (by decide) rfl ?_
    refine go_goto 55 dX7_firstDay_51 rfl ?_
    refine go_iload_n 4 (nx := 56) dX7_firstDay_55 rfl rfl rfl ?_
    refine go_icmp_ne 63 (nx := 59) dX7_firstDay_56 rfl rfl (fun c56 => ?_) (fun c56 => ?_)
    · skip
      refine go_iconst (v := nI 0) (nx := 64) dX7_firstDay_63 (by decide) rfl ?_
      refine go_istore (lv' := [_, _, _, _, _, _]) (nx := 66) dX7_firstDay_64 (by decide) rfl rfl ?_
      refine go_iconst (v := nI 0) (nx := 67) dX7_firstDay_66 (by decide) rfl ?_
      refine go_istore (lv' := [_, _, _, _, _, _, _]) (nx := 69) dX7_firstDay_67 (by decide) rfl rfl ?_
      refine Go.sub [0, 2, 1, 3, 4, 5, 6] rfl ?_
      have hx0 : ((oc T ν.2.2.1 f0 wd (2) (0 + 1) ν.1).1 == f0) = true := beq_iff_eq.mpr (keq c47 (Nat.lt_trans hlt (by omega)) (by omega))
      have hx : nI 1 = bI ((oc T ν.2.2.1 f0 wd (2) (0 + 1) ν.1).1 == f0) := by rw [hx0]; rfl
      have eR := oc_n (K := ν.1) (C := ν.2.2.1) (r := 2) ew (so_f hx c56)
      exact l_firstDayN (wd := wd) hn HO0 hw hv hf hY ew (T.1 + 1) 0 _ _ _ (by omega) (by omega) HS hah hahK hah0 hdo pk_us dF eR
    · skip
      refine go_iconst (v := nI 1) (nx := 60) dX7_firstDay_59 (by decide) rfl ?_
      refine go_goto 64 dX7_firstDay_60 rfl ?_
      refine go_istore (lv' := [_, _, _, _, _, _]) (nx := 66) dX7_firstDay_64 (by decide) rfl rfl ?_
      refine go_iconst (v := nI 0) (nx := 67) dX7_firstDay_66 (by decide) rfl ?_
      refine go_istore (lv' := [_, _, _, _, _, _, _]) (nx := 69) dX7_firstDay_67 (by decide) rfl rfl ?_
      refine Go.sub [0, 2, 1, 3, 4, 5, 6] rfl ?_
      have hx0 : ((oc T ν.2.2.1 f0 wd (2) (0 + 1) ν.1).1 == f0) = true := beq_iff_eq.mpr (keq c47 (Nat.lt_trans hlt (by omega)) (by omega))
      have hx : nI 1 = bI ((oc T ν.2.2.1 f0 wd (2) (0 + 1) ν.1).1 == f0) := by rw [hx0]; rfl
      have eR := oc_y (K := ν.1) (C := ν.2.2.1) (r := 2) ew (so_t hx c56)
      have k := l_firstDayE (wd := wd) hn HO0 hw hv hf hY ew (o := 0) (by omega) HS hah hah0 hdo (by rw [eR]; exact pk_us) dF
      rw [eR] at k
      rw [eR]
      exact k
theorem m_firstDay {G : kG} {n sz f0 : Nat} {h : kH} {ν : mN} {T : mT} {tr : Int64} {F : Nat → Int32} {wd : Bool} {ah0 : Nat → Int32} (hn : 49 ≤ n) (HO : mO G F tr sz T h) (hw : wT T) (hv : wN T.1 ν) (hf : f0 < T.1) (hY : ν.2.2.2.1 ≤ 99) {x y z : Int32} {k : Nat} (HS : oS G ν h) (hah : h 47 = .inl (G.2.1, 24, .inl ah0)) (HDo : xArr G 48 3 h) (hk1 : 1 ≤ k) (hk : k ≤ 3) (hx : x = nI f0) (hy : y = nI k) (hz : z = bI wd) : Spi G mX7_firstDay 5 [.ref (kb G + 37), .int x, .int y, .int z] n h (fun v h' => v = nI (oc T ν.2.2.1 f0 wd k 0 ν.1).1 ∧ oS G ν h' ∧ xArr G 47 24 h' ∧ (∃ dd : Nat → Int32, h' 48 = .inl (G.2.1, 3, .inl dd) ∧ dd 0 = actI (-9) (oc T ν.2.2.1 f0 wd k 0 ν.1).2) ∧ dfr h h') := by
  subst hx
  subst hy
  subst hz
  have hP := hw.1
  have hM : h 37 = .inr (7, [.int (F 0), .long tr, .ref (kb G + 38), .int (nI sz), .int (F 4), .int (F 5), .int (F 6), .int (F 7), .int (F 8), .ref (kb G + 39), .ref (kb G + 40), .int (nI T.1), .int (F 12), .int (nI T.2.2.2.1), .int (F 14), .int (nI T.2.2.2.2.1), .int (F 16), .int (nI T.2.2.2.2.2), .int (F 18), .int (F 19), .int (F 20), .ref (kb G + 41), .ref (kb G + 42), .ref (kb G + 43), .ref (kb G + 44), .ref (kb G + 45), .ref (kb G + 46), .ref (kb G + 47), .ref (kb G + 48)]) := HO
  rcases (show k = 3 ∨ k = 1 ∨ k = 2 by omega) with rfl | rfl | rfl
  · exact (m_first3 hn HO hw hv hf hY (Nat.mod_eq_of_lt hf).symm HS hah HDo rfl rfl rfl).mono fun v h' ⟨q1, q2, ⟨a, q3, _⟩, q4, q5⟩ => ⟨q1, q2, ⟨a, q3⟩, q4, q5⟩
  · refine Spi.of (by decide) (Nat.le_of_ble_eq_true rfl) ?_
    refine Go.loc (lv' := [(0, _), (1, _), (2, _), (3, _)]) rfl ?_
    refine go_iload_n 2 (nx := 1) dX7_firstDay_0 rfl rfl rfl ?_
    refine go_iconst (v := nI 3) (nx := 2) dX7_firstDay_1 (by decide) rfl ?_
    refine go_icmp_ge 14 (nx := 5) dX7_firstDay_2 rfl rfl (fun c2 => False.elim (absurd c2 (by decide))) (fun c2 => ?_)
    refine go_aload_n 0 (nx := 6) dX7_firstDay_5 rfl rfl rfl ?_
    refine go_iload_n 1 (nx := 7) dX7_firstDay_6 rfl rfl rfl ?_
    refine go_iconst (v := nI 0) (nx := 8) dX7_firstDay_7 (by decide) rfl ?_
    refine go_iload_n 2 (nx := 9) dX7_firstDay_8 rfl rfl rfl ?_
    refine go_iload_n 3 (nx := 10) dX7_firstDay_9 rfl rfl rfl ?_
    refine go_Vi (nx := 13) [_, _, _, _] kc_X7_210 ⟨_, _, rfl⟩ (by omega) hM (m_lastBut1 hn HO hw hv hf hY HS hah HDo rfl rfl rfl rfl) dX7_firstDay_10 rfl rfl (Nat.le_of_ble_eq_true rfl) (Nat.le_of_ble_eq_true rfl) ⟨Nat.le_refl _, Nat.le_refl _⟩ rfl (fun rh1 h1 hqh1 => ?_)
    obtain ⟨rfl, HS, qa, qd, dF⟩ := hqh1
    refine go_reti dX7_firstDay_13 ⟨_, rfl, rfl⟩ ?_
    exact ⟨rfl, HS, qa, qd, dF⟩
  · refine Spi.of (by decide) (Nat.le_of_ble_eq_true rfl) ?_
    refine Go.loc (lv' := [(0, _), (1, _), (2, _), (3, _)]) rfl ?_
    refine go_iload_n 2 (nx := 1) dX7_firstDay_0 rfl rfl rfl ?_
    refine go_iconst (v := nI 3) (nx := 2) dX7_firstDay_1 (by decide) rfl ?_
    refine go_icmp_ge 14 (nx := 5) dX7_firstDay_2 rfl rfl (fun c2 => False.elim (absurd c2 (by decide))) (fun c2 => ?_)
    refine go_aload_n 0 (nx := 6) dX7_firstDay_5 rfl rfl rfl ?_
    refine go_iload_n 1 (nx := 7) dX7_firstDay_6 rfl rfl rfl ?_
    refine go_iconst (v := nI 0) (nx := 8) dX7_firstDay_7 (by decide) rfl ?_
    refine go_iload_n 2 (nx := 9) dX7_firstDay_8 rfl rfl rfl ?_
    refine go_iload_n 3 (nx := 10) dX7_firstDay_9 rfl rfl rfl ?_
    refine go_Vi (nx := 13) [_, _, _, _] kc_X7_210 ⟨_, _, rfl⟩ (by omega) hM (m_lastBut2 (day := 0) (ν := ν) hn HO hw hv hf (by decide) hY rfl HS hah HDo rfl rfl rfl rfl) dX7_firstDay_10 rfl rfl (Nat.le_of_ble_eq_true rfl) (Nat.le_of_ble_eq_true rfl) ⟨Nat.le_refl _, Nat.le_refl _⟩ rfl (fun rh1 h1 hqh1 => ?_)
    obtain ⟨rfl, HS, ⟨a, qa, -⟩, qd, dF⟩ := hqh1
    refine go_reti dX7_firstDay_13 ⟨_, rfl, rfl⟩ ?_
    exact ⟨rfl, HS, ⟨a, qa⟩, qd, dF⟩
theorem m_days {G : kG} {n sz : Nat} {h : kH} {tx : Nat → Nat} {ν : mN} {i0 i1 : Option mN} {T : mT} {tr : Int64} {x y z u : Int32} (hn : 49 ≤ n) (H : oM G (tx, sz, ν, i0, i1, T, tr) h) (W : wS (tx, sz, ν, i0, i1, T, tr)) : Spi G mX7_days 6 [.ref (kb G + 37), .int x, .int y, .int z, .int u] n h (fun v h' => v = fDays T ν x y z u ∧ oM G (tx, sz, ν, i0, i1, T, tr) h' ∧ kFr 37 49 h h') := by
  obtain ⟨hwT, hwN, hY, hw0, hw1, hsz, htx⟩ := id W
  have hwT : wT T := hwT
  have hwN : wN T.1 ν := hwN
  have hY : ν.2.2.2.1 ≤ 99 := hY
  have hsz : sz ≤ 400 := hsz
  have hP := hwT.1
  obtain ⟨⟨F, HO⟩, -⟩ := id H
  have hM : h 37 = .inr (7, [.int (F 0), .long tr, .ref (kb G + 38), .int (nI sz), .int (F 4), .int (F 5), .int (F 6), .int (F 7), .int (F 8), .ref (kb G + 39), .ref (kb G + 40), .int (nI T.1), .int (F 12), .int (nI T.2.2.2.1), .int (F 14), .int (nI T.2.2.2.2.1), .int (F 16), .int (nI T.2.2.2.2.2), .int (F 18), .int (F 19), .int (F 20), .ref (kb G + 41), .ref (kb G + 42), .ref (kb G + 43), .ref (kb G + 44), .ref (kb G + 45), .ref (kb G + 46), .ref (kb G + 47), .ref (kb G + 48)]) := HO
  refine Spi.of (by decide) (Nat.le_of_ble_eq_true rfl) ?_
  refine Go.loc (lv' := [(0, _), (1, _), (2, _), (3, _), (4, _)]) rfl ?_
  refine go_aload_n 0 (nx := 1) dX7_days_0 rfl rfl rfl ?_
  refine go_iconst (v := nI 0) (nx := 2) dX7_days_1 (by decide) rfl ?_
  refine go_pf (fs' := [_, _, _, _, _, _, _, _, _, _, _, _, _, _, _, _, _, _, _, _, _, _, _, _, _, _, _, _, _]) (nx := 5) (fp_X7_51 _) dX7_days_2 (by omega) hM (Nat.le_of_ble_eq_true rfl) ⟨rfl, rfl⟩ rfl rfl (fun h1 eh1 fh1 => ?_)
  have hM := eh1
  have hZ : kFr 37 49 h h1 := fun j hj => fh1 j (by omega)
  have H := H.setO (F := upd F 0 (nI 0)) (tr := tr) hM (fun j hj => fh1 j (by omega))
  have H : oM G (tx, sz, ν, i0, i1, T, tr) h1 := H
  obtain ⟨⟨F5, HO⟩, HTm, HKt, HH, HS, HSp, HKe, HRi, HPa, HAh, HDo⟩ := id H
  have HO : mO G F5 tr sz T h1 := HO
  have HTm : oTm G tx sz h1 := HTm
  have HKt : oKt G T h1 := HKt
  have HH : oHab G T h1 := HH
  have HS : oS G ν h1 := HS
  have HKe : oKe G i0 i1 h1 := HKe
  have hM : h1 37 = .inr (7, [.int (F5 0), .long tr, .ref (kb G + 38), .int (nI sz), .int (F5 4), .int (F5 5), .int (F5 6), .int (F5 7), .int (F5 8), .ref (kb G + 39), .ref (kb G + 40), .int (nI T.1), .int (F5 12), .int (nI T.2.2.2.1), .int (F5 14), .int (nI T.2.2.2.2.1), .int (F5 16), .int (nI T.2.2.2.2.2), .int (F5 18), .int (F5 19), .int (F5 20), .ref (kb G + 41), .ref (kb G + 42), .ref (kb G + 43), .ref (kb G + 44), .ref (kb G + 45), .ref (kb G + 46), .ref (kb G + 47), .ref (kb G + 48)]) := HO
  obtain ⟨sa, hs, hs1, hs2, hs3, hs4, hs5⟩ := id HS
  refine go_iload_n 1 (nx := 6) dX7_days_5 rfl rfl rfl ?_
  refine go_iconst (v := nI 1) (nx := 7) dX7_days_6 (by decide) rfl ?_
  refine go_iconst (v := nI 3) (nx := 8) dX7_days_7 (by decide) rfl ?_
  refine go_Si (nx := 11) [_, _, _] kc_X7_54 s_in dX7_days_8 rfl rfl (Nat.le_of_ble_eq_true rfl) (Nat.le_of_ble_eq_true rfl) ⟨Nat.le_refl _, Nat.le_refl _⟩ rfl (fun rh2 h2 hqh2 => ?_)
  obtain ⟨rfl, rfl⟩ := hqh2
  refine go_if_eq 41 (nx := 14) dX7_days_11 rfl rfl (fun c11 => ?_) (fun c11 => ?_)
  · skip
    refine go_iconst (v := (-1)) (nx := 42) dX7_days_41 (by decide) rfl ?_
    refine go_reti dX7_days_42 ⟨_, rfl, rfl⟩ ?_
    have e : (inB (nI 1) (nI 3) x && perB T y && choB z && choB u) = false := by rw [show inB (nI 1) (nI 3) x = false from tb0 c11]; rfl
    rw [fDays, if_neg (by rw [e]; decide)]
    exact ⟨rfl, H, hZ⟩
  · skip
    refine go_aload_n 0 (nx := 15) dX7_days_14 rfl rfl rfl ?_
    refine go_iload_n 2 (nx := 16) dX7_days_15 rfl rfl rfl ?_
    refine go_Vi (nx := 19) [_] kc_X7_146 ⟨_, _, rfl⟩ (by omega) hM (m_isPerson hn HO hP) dX7_days_16 rfl rfl (Nat.le_of_ble_eq_true rfl) (Nat.le_of_ble_eq_true rfl) ⟨Nat.le_refl _, Nat.le_refl _⟩ rfl (fun rh3 h3 hqh3 => ?_)
    obtain ⟨rfl, rfl⟩ := hqh3
    refine go_if_eq 41 (nx := 22) dX7_days_19 rfl rfl (fun c19 => ?_) (fun c19 => ?_)
    · skip
      refine go_iconst (v := (-1)) (nx := 42) dX7_days_41 (by decide) rfl ?_
      refine go_reti dX7_days_42 ⟨_, rfl, rfl⟩ ?_
      have e : (inB (nI 1) (nI 3) x && perB T y && choB z && choB u) = false := by rw [tb0 c19]; simp
      rw [fDays, if_neg (by rw [e]; decide)]
      exact ⟨rfl, H, hZ⟩
    · skip
      refine go_iload_n 3 (nx := 23) dX7_days_22 rfl rfl rfl ?_
      refine go_iconst (v := nI 0) (nx := 24) dX7_days_23 (by decide) rfl ?_
      refine go_iconst (v := nI 1) (nx := 25) dX7_days_24 (by decide) rfl ?_
      refine go_Si (nx := 28) [_, _, _] kc_X7_54 s_in dX7_days_25 rfl rfl (Nat.le_of_ble_eq_true rfl) (Nat.le_of_ble_eq_true rfl) ⟨Nat.le_refl _, Nat.le_refl _⟩ rfl (fun rh4 h4 hqh4 => ?_)
      obtain ⟨rfl, rfl⟩ := hqh4
      refine go_if_eq 41 (nx := 31) dX7_days_28 rfl rfl (fun c28 => ?_) (fun c28 => ?_)
      · skip
        refine go_iconst (v := (-1)) (nx := 42) dX7_days_41 (by decide) rfl ?_
        refine go_reti dX7_days_42 ⟨_, rfl, rfl⟩ ?_
        have e : (inB (nI 1) (nI 3) x && perB T y && choB z && choB u) = false := by rw [← in01, ← in01, show inB (nI 0) (nI 1) z = false from tb0 c28]; simp
        rw [fDays, if_neg (by rw [e]; decide)]
        exact ⟨rfl, H, hZ⟩
      · skip
        refine go_iload 4 (nx := 33) dX7_days_31 rfl rfl ?_
        refine go_iconst (v := nI 0) (nx := 34) dX7_days_33 (by decide) rfl ?_
        refine go_iconst (v := nI 1) (nx := 35) dX7_days_34 (by decide) rfl ?_
        refine go_Si (nx := 38) [_, _, _] kc_X7_54 s_in dX7_days_35 rfl rfl (Nat.le_of_ble_eq_true rfl) (Nat.le_of_ble_eq_true rfl) ⟨Nat.le_refl _, Nat.le_refl _⟩ rfl (fun rh5 h5 hqh5 => ?_)
        obtain ⟨rfl, rfl⟩ := hqh5
        refine go_if_ne 43 (nx := 41) dX7_days_38 rfl rfl (fun c38 => ?_) (fun c38 => ?_)
        · skip
          obtain ⟨b, hb, rfl⟩ := per_of hP (tbn0 c19)
          have hcz : choB z = true := by rw [← in01]; exact tbn0 c28
          have hcu : choB u = true := by rw [← in01]; exact tbn0 c38
          have hx : inB (nI 1) (nI 3) x = true := tbn0 c11
          have hall : (inB (nI 1) (nI 3) x && perB T (nI b) && choB z && choB u) = true := by rw [hx, tbn0 c19, hcz, hcu]; rfl
          have hx9 := hx
          simp only [inB, Bool.and_eq_true, decide_eq_true_eq] at hx9
          obtain ⟨k, hk0, hk, rfl⟩ := ge1_of (x := x) (Int32.not_lt.mpr hx9.1)
          have hk1 := kle hx9.1
          have hk3 := kle hx9.2
          obtain ⟨wd, ewd, rfl⟩ : ∃ wd : Bool, decide (z = nI 1) = wd ∧ z = bI wd := by
            rcases cho_of hcz with rfl | rfl
            · exact ⟨false, by decide, rfl⟩
            · exact ⟨true, by decide, rfl⟩
          refine go_aload_n 0 (nx := 44) dX7_days_43 rfl rfl rfl ?_
          refine go_iconst (v := nI 1) (nx := 45) dX7_days_44 (by decide) rfl ?_
          refine go_Vv (nx := 48) [_] kc_X7_180 ⟨_, _, rfl⟩ (by omega) hM (m_asideT (tx := tx) (ν := ν) (i0 := i0) (i1 := i1) hn HO HS HSp rfl) dX7_days_45 rfl rfl (Nat.le_of_ble_eq_true rfl) (Nat.le_of_ble_eq_true rfl) ⟨Nat.le_refl _, Nat.le_refl _⟩ rfl (fun h6 hqh6 => ?_)
          obtain ⟨HSp2, hFh6⟩ := hqh6
          have HO := HO.fr hFh6 (by omega)
          have HH := HH.fr hFh6 (by omega)
          have HS := HS.fr hFh6 (by omega)
          have hF0 : kFr 41 43 _ h6 := hFh6.wide (by omega) (by omega)
          have hM : h6 37 = .inr (7, [.int (F5 0), .long tr, .ref (kb G + 38), .int (nI sz), .int (F5 4), .int (F5 5), .int (F5 6), .int (F5 7), .int (F5 8), .ref (kb G + 39), .ref (kb G + 40), .int (nI T.1), .int (F5 12), .int (nI T.2.2.2.1), .int (F5 14), .int (nI T.2.2.2.2.1), .int (F5 16), .int (nI T.2.2.2.2.2), .int (F5 18), .int (F5 19), .int (F5 20), .ref (kb G + 41), .ref (kb G + 42), .ref (kb G + 43), .ref (kb G + 44), .ref (kb G + 45), .ref (kb G + 46), .ref (kb G + 47), .ref (kb G + 48)]) := HO
          obtain ⟨a0, hah0⟩ := HAh.fr hF0 (by omega)
          have hdo0 := HDo.fr hF0 (by omega)
          refine go_aload_n 0 (nx := 49) dX7_days_48 rfl rfl rfl ?_
          refine go_iload_n 2 (nx := 50) dX7_days_49 rfl rfl rfl ?_
          refine go_iload_n 1 (nx := 51) dX7_days_50 rfl rfl rfl ?_
          refine go_iload_n 3 (nx := 52) dX7_days_51 rfl rfl rfl ?_
          refine go_Vi (nx := 55) [_, _, _] kc_X7_214 ⟨_, _, rfl⟩ (by omega) hM (m_firstDay (ν := ν) hn HO hwT hwN hb hY HS hah0 hdo0 hk1 hk3 rfl rfl rfl) dX7_days_52 rfl rfl (Nat.le_of_ble_eq_true rfl) (Nat.le_of_ble_eq_true rfl) ⟨Nat.le_refl _, Nat.le_refl _⟩ rfl (fun rh7 h7 hqh7 => ?_)
          obtain ⟨rfl, HS, qah, ⟨dd, hdo, hdd⟩, qF⟩ := hqh7
          have HO := (qF 37 (by decide) (by decide) (by decide)).trans HO
          have HO : mO G F5 tr sz T h7 := HO
          have hM : h7 37 = .inr (7, [.int (F5 0), .long tr, .ref (kb G + 38), .int (nI sz), .int (F5 4), .int (F5 5), .int (F5 6), .int (F5 7), .int (F5 8), .ref (kb G + 39), .ref (kb G + 40), .int (nI T.1), .int (F5 12), .int (nI T.2.2.2.1), .int (F5 14), .int (nI T.2.2.2.2.1), .int (F5 16), .int (nI T.2.2.2.2.2), .int (F5 18), .int (F5 19), .int (F5 20), .ref (kb G + 41), .ref (kb G + 42), .ref (kb G + 43), .ref (kb G + 44), .ref (kb G + 45), .ref (kb G + 46), .ref (kb G + 47), .ref (kb G + 48)]) := HO
          have HSp3 : oSp G ν h7 := by
            obtain ⟨a, z1, z2⟩ := HSp2
            exact ⟨a, (qF 42 (by decide) (by decide) (by decide)).trans z1, z2⟩
          refine go_istore (lv' := [_, _, _, _, _, _]) (nx := 57) dX7_days_55 (by decide) rfl rfl ?_
          refine go_aload_n 1 (nx := 58) dX7_days_57 rfl rfl rfl ?_
          refine go_iconst (v := nI 0) (nx := 59) dX7_days_58 (by decide) rfl ?_
          refine go_Vv (nx := 62) [_] kc_X7_180 ⟨_, _, rfl⟩ (by omega) hM (m_asideF (tx := tx) (ν := ν) (i0 := i0) (i1 := i1) hn HO HSp3 HS.xa rfl) dX7_days_59 rfl rfl (Nat.le_of_ble_eq_true rfl) (Nat.le_of_ble_eq_true rfl) ⟨Nat.le_refl _, Nat.le_refl _⟩ rfl (fun h8 hqh8 => ?_)
          obtain ⟨HS2, hF2⟩ := hqh8
          have hdo := (hF2 48 (by omega)).trans hdo
          have hM : h8 37 = .inr (7, [.int (F5 0), .long tr, .ref (kb G + 38), .int (nI sz), .int (F5 4), .int (F5 5), .int (F5 6), .int (F5 7), .int (F5 8), .ref (kb G + 39), .ref (kb G + 40), .int (nI T.1), .int (F5 12), .int (nI T.2.2.2.1), .int (F5 14), .int (nI T.2.2.2.2.1), .int (F5 16), .int (nI T.2.2.2.2.2), .int (F5 18), .int (F5 19), .int (F5 20), .ref (kb G + 41), .ref (kb G + 42), .ref (kb G + 43), .ref (kb G + 44), .ref (kb G + 45), .ref (kb G + 46), .ref (kb G + 47), .ref (kb G + 48)]) := HO.fr hF2 (by omega)
          skip
          refine go_iload 5 (nx := 64) dX7_days_62 rfl rfl ?_
          refine go_if_ne 76 (nx := 67) dX7_days_64 rfl rfl (fun c64 => ?_) (fun c64 => ?_)
          · skip
            refine go_iload 0 (nx := 78) dX7_days_76 rfl rfl ?_
            refine go_reti dX7_days_78 ⟨_, rfl, rfl⟩ ?_
            have fz := fun (j : Nat) (hj : j < 41 ∨ 49 ≤ j) => (hF2 j (by omega)).trans ((qF j (by omega) (by omega) (by omega)).trans (hF0 j (by omega)))
            refine ⟨?_, H.setX HS2 ?_ ?_ ?_ ?_ ?_ (fun j hj => (hF2 j (by omega)).trans ((qF j (by omega) (by omega) (by omega)).trans (hF0 j (by omega)))), fun j hj => (fz j (by omega)).trans (hZ j (by omega))⟩
            · rw [fDays, if_pos hall, cl_nI (by omega), cl_nI (by omega), ewd, if_neg (fun q => c64 (by rw [q]; rfl))]
            · obtain ⟨a, z1, z2⟩ := HSp3; exact ⟨a, (hF2 42 (by omega)).trans z1⟩
            · obtain ⟨a, q⟩ := HRi; exact ⟨a, (hF2 45 (by omega)).trans ((qF 45 (by omega) (by omega) (by omega)).trans ((hF0 45 (by omega)).trans q))⟩
            · obtain ⟨a, q⟩ := HPa; exact ⟨a, (hF2 46 (by omega)).trans ((qF 46 (by omega) (by omega) (by omega)).trans ((hF0 46 (by omega)).trans q))⟩
            · obtain ⟨a, q⟩ := qah; exact ⟨a, (hF2 47 (by omega)).trans q⟩
            · exact ⟨_, hdo⟩
          · skip
            refine go_aload_n 1 (nx := 68) dX7_days_67 rfl rfl rfl ?_
            refine go_gf (nx := 71) fg_X7_41 dX7_days_68 (by omega) hM rfl rfl ?_
            refine go_iconst (v := nI 0) (nx := 72) dX7_days_71 (by decide) rfl ?_
            refine go_ial (0) (nx := 73) dX7_days_72 (by omega) hdo rfl (by decide) (by omega) rfl ?_
            refine go_goto 78 dX7_days_73 rfl ?_
            refine go_reti dX7_days_78 ⟨_, rfl, rfl⟩ ?_
            have fz := fun (j : Nat) (hj : j < 41 ∨ 49 ≤ j) => (hF2 j (by omega)).trans ((qF j (by omega) (by omega) (by omega)).trans (hF0 j (by omega)))
            rw [hdd]
            refine ⟨?_, H.setX HS2 ?_ ?_ ?_ ?_ ?_ (fun j hj => (hF2 j (by omega)).trans ((qF j (by omega) (by omega) (by omega)).trans (hF0 j (by omega)))), fun j hj => (fz j (by omega)).trans (hZ j (by omega))⟩
            · rw [fDays, if_pos hall, cl_nI (by omega), cl_nI (by omega), ewd, if_pos (show u = nI 0 from c64)]
            · obtain ⟨a, z1, z2⟩ := HSp3; exact ⟨a, (hF2 42 (by omega)).trans z1⟩
            · obtain ⟨a, q⟩ := HRi; exact ⟨a, (hF2 45 (by omega)).trans ((qF 45 (by omega) (by omega) (by omega)).trans ((hF0 45 (by omega)).trans q))⟩
            · obtain ⟨a, q⟩ := HPa; exact ⟨a, (hF2 46 (by omega)).trans ((qF 46 (by omega) (by omega) (by omega)).trans ((hF0 46 (by omega)).trans q))⟩
            · obtain ⟨a, q⟩ := qah; exact ⟨a, (hF2 47 (by omega)).trans q⟩
            · exact ⟨_, hdo⟩
        · skip
          refine go_iconst (v := (-1)) (nx := 42) dX7_days_41 (by decide) rfl ?_
          refine go_reti dX7_days_42 ⟨_, rfl, rfl⟩ ?_
          have e : (inB (nI 1) (nI 3) x && perB T y && choB z && choB u) = false := by rw [← in01, ← in01, show inB (nI 0) (nI 1) u = false from tb0 c38]; simp
          rw [fDays, if_neg (by rw [e]; decide)]
          exact ⟨rfl, H, hZ⟩
