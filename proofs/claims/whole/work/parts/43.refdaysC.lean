/-! the reference: days -/
theorem l_lastButOneE {G : kG} {n sz f0 : Nat} {day : Nat} {w : Nat} {ν : mN} {T : mT} {tr : Int64} {F : Nat → Int32} {wd : Bool} {h0 : kH} {ah0 : Nat → Int32} (hn : 49 ≤ n) (HO0 : mO G F tr sz T h0) (hw : wT T) (hv : wN T.1 ν) (hf : f0 < T.1) (hday : day + 1 + 1 ≤ 3) (hY : ν.2.2.2.1 ≤ 99) (ew : w = (f0 + (day)) % T.1) {o : Nat} {h : kH} {ah dd : Nat → Int32} (ho : o ≤ T.1) (HS : oS G ν h) (hah : h 47 = .inl (G.2.1, 24, .inl ah)) (hah0 : ∀ j, j < 8 * (day) → ah j = ah0 j) (hdo : h 48 = .inl (G.2.1, 3, .inl dd)) (hdd : dd (day) = actI (-9) (oc T ν.2.2.1 f0 wd (1 + 1) (day) ν.1).2) (dF : dfr h0 h) : Go G mX7_lastButOne (4, 0, 0) 79 [(7, .int (nI o)), (5, .int (nI (oc T ν.2.2.1 f0 wd (1 + 1) (day) ν.1).1)), (6, .int (nI 1)), (0, .ref (kb G + 37)), (1, .int (nI f0)), (2, .int (nI day)), (3, .int (nI (day + 2))), (4, .int (bI wd))] [] (n, 0, 0) h (kQi mX7_lastButOne n (fun v h' => v = nI (oc T ν.2.2.1 f0 wd (1 + 1) (day) ν.1).1 ∧ oS G ν h' ∧ (∃ a : Nat → Int32, h' 47 = .inl (G.2.1, 24, .inl a) ∧ ∀ j, j < 8 * (day) → a j = ah0 j) ∧ (∃ dd : Nat → Int32, h' 48 = .inl (G.2.1, 3, .inl dd) ∧ dd (day) = actI (-9) (oc T ν.2.2.1 f0 wd (1 + 1) (day) ν.1).2) ∧ dfr h0 h')) := by
  have HO := HO0.df dF
  have hM : h 37 = .inr (7, [.int (F 0), .long tr, .ref (kb G + 38), .int (nI sz), .int (F 4), .int (F 5), .int (F 6), .int (F 7), .int (F 8), .ref (kb G + 39), .ref (kb G + 40), .int (nI T.1), .int (F 12), .int (nI T.2.2.2.1), .int (F 14), .int (nI T.2.2.2.2.1), .int (F 16), .int (nI T.2.2.2.2.2), .int (F 18), .int (F 19), .int (F 20), .ref (kb G + 41), .ref (kb G + 42), .ref (kb G + 43), .ref (kb G + 44), .ref (kb G + 45), .ref (kb G + 46), .ref (kb G + 47), .ref (kb G + 48)]) := HO
  refine go_iload 0 (nx := 81) dX7_lastButOne_79 rfl rfl ?_
  refine go_aload_n 3 (nx := 82) dX7_lastButOne_81 rfl rfl rfl ?_
  refine go_gf (nx := 85) fg_X7_137 dX7_lastButOne_82 (by omega) hM rfl rfl ?_
  refine go_icmp_ge 188 (nx := 88) dX7_lastButOne_85 rfl rfl (fun c85 => ?_) (fun c85 => ?_)
  · skip
    refine go_iload 1 (nx := 190) dX7_lastButOne_188 rfl rfl ?_
    refine go_reti dX7_lastButOne_190 ⟨_, rfl, rfl⟩ ?_
    exact ⟨rfl, HS, ⟨_, hah, hah0⟩, ⟨_, hdo, hdd⟩, dF⟩
  · skip
    refine go_iload 2 (nx := 90) dX7_lastButOne_88 rfl rfl ?_
    refine go_if_ne 188 (nx := 93) dX7_lastButOne_90 rfl rfl (fun c90 => ?_) (fun c90 => False.elim (absurd c90 (by decide)))
    refine go_iload 1 (nx := 190) dX7_lastButOne_188 rfl rfl ?_
    refine go_reti dX7_lastButOne_190 ⟨_, rfl, rfl⟩ ?_
    exact ⟨rfl, HS, ⟨_, hah, hah0⟩, ⟨_, hdo, hdd⟩, dF⟩
theorem l_lastButOneN {G : kG} {n sz f0 : Nat} {day : Nat} {w : Nat} {ν : mN} {T : mT} {tr : Int64} {F : Nat → Int32} {wd : Bool} {h0 : kH} {ah0 : Nat → Int32} (hn : 49 ≤ n) (HO0 : mO G F tr sz T h0) (hw : wT T) (hv : wN T.1 ν) (hf : f0 < T.1) (hday : day + 1 + 1 ≤ 3) (hY : ν.2.2.2.1 ≤ 99) (ew : w = (f0 + (day)) % T.1) {u0 : Nat} : ∀ (d o : Nat) (h : kH) (ah dd : Nat → Int32), T.1 - o < d → o ≤ T.1 → oS G ν h → h 47 = .inl (G.2.1, 24, .inl ah) → (∀ j, j < 8 → ah (8 * (day) + j) = nI (row ν.1 j)) → (∀ j, j < 8 * (day) → ah j = ah0 j) → h 48 = .inl (G.2.1, 3, .inl dd) → dd (day) = -9 → dfr h0 h → (oc T ν.2.2.1 f0 wd (1 + 1) (day) ν.1) = ocm u0 (ffo (ocg T ν.2.2.1 f0 wd (1) (day) ν.1) (T.1 - o) o) → Go G mX7_lastButOne (4, 0, 0) 79 [(7, .int (nI o)), (5, .int (nI u0)), (6, .int (nI 0)), (0, .ref (kb G + 37)), (1, .int (nI f0)), (2, .int (nI day)), (3, .int (nI (day + 2))), (4, .int (bI wd))] [] (n, 0, 0) h (kQi mX7_lastButOne n (fun v h' => v = nI (oc T ν.2.2.1 f0 wd (1 + 1) (day) ν.1).1 ∧ oS G ν h' ∧ (∃ a : Nat → Int32, h' 47 = .inl (G.2.1, 24, .inl a) ∧ ∀ j, j < 8 * (day) → a j = ah0 j) ∧ (∃ dd : Nat → Int32, h' 48 = .inl (G.2.1, 3, .inl dd) ∧ dd (day) = actI (-9) (oc T ν.2.2.1 f0 wd (1 + 1) (day) ν.1).2) ∧ dfr h0 h')) := by
  intro d
  have hP := hw.1
  have hwl : w < T.1 := by rw [ew]; exact Nat.mod_lt _ (by omega)
  induction d with
  | zero => intro o h ah dd hd; omega
  | succ d ih =>
    intro o h ah dd hd ho HS hah hahK hah0 hdo hdd dF hb
    have HO := HO0.df dF
    have hM : h 37 = .inr (7, [.int (F 0), .long tr, .ref (kb G + 38), .int (nI sz), .int (F 4), .int (F 5), .int (F 6), .int (F 7), .int (F 8), .ref (kb G + 39), .ref (kb G + 40), .int (nI T.1), .int (F 12), .int (nI T.2.2.2.1), .int (F 14), .int (nI T.2.2.2.2.1), .int (F 16), .int (nI T.2.2.2.2.2), .int (F 18), .int (F 19), .int (F 20), .ref (kb G + 41), .ref (kb G + 42), .ref (kb G + 43), .ref (kb G + 44), .ref (kb G + 45), .ref (kb G + 46), .ref (kb G + 47), .ref (kb G + 48)]) := HO
    refine go_iload 0 (nx := 81) dX7_lastButOne_79 rfl rfl ?_
    refine go_aload_n 3 (nx := 82) dX7_lastButOne_81 rfl rfl rfl ?_
    refine go_gf (nx := 85) fg_X7_137 dX7_lastButOne_82 (by omega) hM rfl rfl ?_
    refine go_icmp_ge 188 (nx := 88) dX7_lastButOne_85 rfl rfl (fun c85 => ?_) (fun c85 => ?_)
    · skip
      refine go_iload 1 (nx := 190) dX7_lastButOne_188 rfl rfl ?_
      refine go_reti dX7_lastButOne_190 ⟨_, rfl, rfl⟩ ?_
      have e8 : o = T.1 := by have := kle c85; omega
      have eR : (oc T ν.2.2.1 f0 wd (1 + 1) (day) ν.1) = (u0, none) := by rw [hb, e8, Nat.sub_self]; rfl
      rw [eR]
      exact ⟨rfl, HS, ⟨_, hah, hah0⟩, ⟨_, hdo, hdd⟩, dF⟩
    · skip
      have hoP := knle c85
      refine go_iload 2 (nx := 90) dX7_lastButOne_88 rfl rfl ?_
      refine go_if_ne 188 (nx := 93) dX7_lastButOne_90 rfl rfl (fun c90 => False.elim (absurd rfl c90)) (fun c90 => ?_)
      refine go_aload_n 3 (nx := 94) dX7_lastButOne_93 rfl rfl rfl ?_
      refine go_iload_n 4 (nx := 95) dX7_lastButOne_94 rfl rfl rfl ?_
      refine go_iload_n 5 (nx := 96) dX7_lastButOne_95 rfl rfl rfl ?_
      refine go_iload 0 (nx := 98) dX7_lastButOne_96 rfl rfl ?_
      refine go_Vi (nx := 101) [_, _, _] kc_X7_204 ⟨_, _, rfl⟩ (by omega) hM (m_acts hn HO HS hP rfl hf rfl (by omega) rfl hoP) dX7_lastButOne_98 rfl rfl (Nat.le_of_ble_eq_true rfl) (Nat.le_of_ble_eq_true rfl) ⟨Nat.le_refl _, Nat.le_refl _⟩ rfl (fun rh1 h1 hqh1 => ?_)
      obtain ⟨rfl, qa, qb, hFh1⟩ := hqh1
      have hah := (hFh1 47 (by omega)).trans hah
      have hdo := (hFh1 48 (by omega)).trans hdo
      have dF := dF.k hFh1 (by omega)
      have HO := HO0.df dF
      have hM : h1 37 = .inr (7, [.int (F 0), .long tr, .ref (kb G + 38), .int (nI sz), .int (F 4), .int (F 5), .int (F 6), .int (F 7), .int (F 8), .ref (kb G + 39), .ref (kb G + 40), .int (nI T.1), .int (F 12), .int (nI T.2.2.2.1), .int (F 14), .int (nI T.2.2.2.2.1), .int (F 16), .int (nI T.2.2.2.2.2), .int (F 18), .int (F 19), .int (F 20), .ref (kb G + 41), .ref (kb G + 42), .ref (kb G + 43), .ref (kb G + 44), .ref (kb G + 45), .ref (kb G + 46), .ref (kb G + 47), .ref (kb G + 48)]) := HO
      refine go_if_eq 182 (nx := 104) dX7_lastButOne_101 rfl rfl (fun c101 => ?_) (fun c101 => ?_)
      · skip
        refine go_iinc 0 (v := nI (o + 1)) (lv' := [_, _, _, _, _, _, _, _]) (nx := 185) dX7_lastButOne_182 rfl (nI_inc o) (by decide) rfl rfl ?_
        refine go_goto 79 dX7_lastButOne_185 rfl ?_
        refine Go.sub [0, 1, 2, 3, 4, 5, 6, 7] rfl ?_
        have e : o = w := by
          have z := tb0 c101
          rw [← ew] at z
          exact Decidable.of_not_not (of_decide_eq_false z)
        refine ih (o + 1) _ _ _ (by omega) (by omega) (by rw [qa (e.trans ew)]; exact HS) hah hahK hah0 hdo hdd dF (hb.trans ?_)
        rw [show T.1 - o = (T.1 - (o + 1)) + 1 by omega]
        exact congrArg (ocm u0) (ffo_none (by unfold ocg; rw [if_pos (e.trans ew)]))
      · skip
        have hne : o ≠ w := by
          have z := tbn0 c101
          rw [← ew] at z
          exact of_decide_eq_true z
        have HS2 := qb (by rw [← ew]; exact hne)
        rw [← ew] at HS2
        have hlt : (oc T ν.2.2.1 f0 wd (1) (day + 1) (meetK ν.1 w o)).1 < T.1 := oc_lt (by omega)
        refine go_aload_n 3 (nx := 105) dX7_lastButOne_104 rfl rfl rfl ?_
        refine go_iload_n 4 (nx := 106) dX7_lastButOne_105 rfl rfl rfl ?_
        refine go_iload_n 5 (nx := 107) dX7_lastButOne_106 rfl rfl rfl ?_
        refine go_iconst (v := nI 1) (nx := 108) dX7_lastButOne_107 (by decide) rfl ?_
        refine go_iadd (nx := 109) dX7_lastButOne_108 rfl ?_
        rw [nI_add]
        refine go_iload 7 (nx := 111) dX7_lastButOne_109 rfl rfl ?_
        refine go_Vi (nx := 114) [_, _, _] kc_X7_207 ⟨_, _, rfl⟩ (by omega) hM (m_lastDay (ν := (meetK ν.1 w o, ν.2)) hn HO hw ⟨wK_meet hv.1 hwl hoP (Ne.symm hne), hv.2⟩ hf (by omega) (show ν.2.2.2.1 ≤ 99 from hY) rfl HS2 hah ⟨_, hdo⟩ rfl rfl rfl) dX7_lastButOne_111 rfl rfl (Nat.le_of_ble_eq_true rfl) (Nat.le_of_ble_eq_true rfl) ⟨Nat.le_refl _, Nat.le_refl _⟩ rfl (fun rh2 h2 hqh2 => ?_)
        obtain ⟨rfl, HS2, ⟨ah2, hah, hah2⟩, ⟨dd2, hdo, -⟩, dG⟩ := hqh2
        have hahK : ∀ j, j < 8 → ah2 (8 * (day) + j) = nI (row ν.1 j) := fun j hj => (hah2 _ (by omega)).trans (hahK j hj)
        have hah0 : ∀ j, j < 8 * (day) → ah2 j = ah0 j := fun j hj => (hah2 j (by omega)).trans (hah0 j hj)
        have dF := dF.tr dG
        have HO := HO0.df dF
        have hM : h2 37 = .inr (7, [.int (F 0), .long tr, .ref (kb G + 38), .int (nI sz), .int (F 4), .int (F 5), .int (F 6), .int (F 7), .int (F 8), .ref (kb G + 39), .ref (kb G + 40), .int (nI T.1), .int (F 12), .int (nI T.2.2.2.1), .int (F 14), .int (nI T.2.2.2.2.1), .int (F 16), .int (nI T.2.2.2.2.2), .int (F 18), .int (F 19), .int (F 20), .ref (kb G + 41), .ref (kb G + 42), .ref (kb G + 43), .ref (kb G + 44), .ref (kb G + 45), .ref (kb G + 46), .ref (kb G + 47), .ref (kb G + 48)]) := HO
        refine go_istore (lv' := [_, _, _, _, _, _, _, _, _]) (nx := 116) dX7_lastButOne_114 (by decide) rfl rfl ?_
        refine go_aload_n 4 (nx := 117) dX7_lastButOne_116 rfl rfl rfl ?_
        refine go_iload_n 6 (nx := 118) dX7_lastButOne_117 rfl rfl rfl ?_
        refine go_iconst (v := nI 0) (nx := 119) dX7_lastButOne_118 (by decide) rfl ?_
        refine go_Vv (nx := 122) [_, _] kc_X7_200 ⟨_, _, rfl⟩ (by omega) hM (m_asideOfF (K := meetK ν.1 w o) hn HO HS2 hah hahK rfl (by omega) rfl) dX7_lastButOne_119 rfl rfl (Nat.le_of_ble_eq_true rfl) (Nat.le_of_ble_eq_true rfl) ⟨Nat.le_refl _, Nat.le_refl _⟩ rfl (fun h3 hqh3 => ?_)
        obtain ⟨HS3, hFh3⟩ := hqh3
        have hah := (hFh3 47 (by omega)).trans hah
        have hdo := (hFh3 48 (by omega)).trans hdo
        have dF := dF.k hFh3 (by omega)
        have HO := HO0.df dF
        have hM : h3 37 = .inr (7, [.int (F 0), .long tr, .ref (kb G + 38), .int (nI sz), .int (F 4), .int (F 5), .int (F 6), .int (F 7), .int (F 8), .ref (kb G + 39), .ref (kb G + 40), .int (nI T.1), .int (F 12), .int (nI T.2.2.2.1), .int (F 14), .int (nI T.2.2.2.2.1), .int (F 16), .int (nI T.2.2.2.2.2), .int (F 18), .int (F 19), .int (F 20), .ref (kb G + 41), .ref (kb G + 42), .ref (kb G + 43), .ref (kb G + 44), .ref (kb G + 45), .ref (kb G + 46), .ref (kb G + 47), .ref (kb G + 48)]) := HO
        refine go_iload 0 (nx := 124) dX7_lastButOne_122 rfl rfl ?_
        refine go_aload_n 4 (nx := 125) dX7_lastButOne_124 rfl rfl rfl ?_
        refine go_iload_n 5 (nx := 126) dX7_lastButOne_125 rfl rfl rfl ?_
        refine go_iload_n 6 (nx := 127) dX7_lastButOne_126 rfl rfl rfl ?_
        refine go_Vi (nx := 130) [_, _] kc_X7_197 ⟨_, _, rfl⟩ (by omega) hM (m_whoOf hn HO hP (by omega) rfl (by omega) rfl (by omega)) dX7_lastButOne_127 rfl rfl (Nat.le_of_ble_eq_true rfl) (Nat.le_of_ble_eq_true rfl) ⟨Nat.le_refl _, Nat.le_refl _⟩ rfl (fun rh4 h4 hqh4 => ?_)
        obtain ⟨rfl, rfl⟩ := hqh4
        rw [← ew]
        refine go_icmp_ne 137 (nx := 133) dX7_lastButOne_130 rfl rfl (fun c130 => ?_) (fun c130 => ?_)
        · skip
          refine go_iconst (v := nI 0) (nx := 138) dX7_lastButOne_137 (by decide) rfl ?_
          refine go_iload 8 (nx := 140) dX7_lastButOne_138 rfl rfl ?_
          refine go_icmp_ne 147 (nx := 143) dX7_lastButOne_140 rfl rfl (fun c140 => ?_) (fun c140 => ?_)
          · skip
            refine go_iconst (v := nI 0) (nx := 148) dX7_lastButOne_147 (by decide) rfl ?_
            refine go_istore (lv' := [_, _, _, _, _, _, _, _, _]) (nx := 150) dX7_lastButOne_148 (by decide) rfl rfl ?_
            refine go_aload_n 4 (nx := 151) dX7_lastButOne_150 rfl rfl rfl ?_
            refine go_gf (nx := 154) fg_X7_41 dX7_lastButOne_151 (by omega) hM rfl rfl ?_
            refine go_iload_n 6 (nx := 155) dX7_lastButOne_154 rfl rfl rfl ?_
            refine go_iload 0 (nx := 157) dX7_lastButOne_155 rfl rfl ?_
            refine go_if_eq 165 (nx := 160) dX7_lastButOne_157 rfl rfl (fun c157 => ?_) (fun c157 => False.elim (absurd rfl c157))
            refine go_bipush (v := (-9)) (nx := 167) dX7_lastButOne_165 (by decide) rfl ?_
            refine go_ias (day) (nx := 168) dX7_lastButOne_167 (by omega) hdo rfl (by omega) (by omega) rfl (fun h5 eh5 fh5 => ?_)
            have hM := (fh5 (37) (by omega)).trans hM
            have hdo := eh5
            refine go_iload 0 (nx := 170) dX7_lastButOne_168 rfl rfl ?_
            refine go_if_eq 178 (nx := 173) dX7_lastButOne_170 rfl rfl (fun c170 => ?_) (fun c170 => False.elim (absurd rfl c170))
            refine go_iload 3 (nx := 180) dX7_lastButOne_178 rfl rfl ?_
            refine go_istore (lv' := [_, _, _, _, _, _, _, _, _]) (nx := 182) dX7_lastButOne_180 (by decide) rfl rfl ?_
            refine go_iinc 3 (v := nI (o + 1)) (lv' := [_, _, _, _, _, _, _, _, _]) (nx := 185) dX7_lastButOne_182 rfl (nI_inc o) (by decide) rfl rfl ?_
            refine go_goto 79 dX7_lastButOne_185 rfl ?_
            refine Go.sub [0, 1, 2, 4, 5, 6, 7, 8] rfl ?_
            have hx0 : ((oc T ν.2.2.1 f0 wd (1) (day + 1) (meetK ν.1 w o)).1 == w) = false := beq_eq_false_iff_ne.mpr (fun z => c130 (congrArg nI z))
            have hx : nI 0 = bI ((oc T ν.2.2.1 f0 wd (1) (day + 1) (meetK ν.1 w o)).1 == w) := by rw [hx0]; rfl
            have e2 := so_f hx c140
            have fx : kFr 48 49 _ h5 := fun j hj => fh5 j (by omega)
            have dF := dF.k fx (by omega)
            have hah := (fx 47 (by omega)).trans hah
            refine ih (o + 1) _ _ _ (by omega) (by omega) (by obtain ⟨a, z1, z2⟩ := HS3; exact ⟨a, (fx 41 (by omega)).trans z1, z2⟩) hah hahK hah0 hdo pk_us dF (hb.trans ?_)
            rw [show T.1 - o = (T.1 - (o + 1)) + 1 by omega]
            exact congrArg (ocm u0) (ffo_none (by unfold ocg; rw [← ew, if_neg hne, if_neg (by rw [e2]; decide)]))
          · skip
            refine go_iconst (v := nI 1) (nx := 144) dX7_lastButOne_143 (by decide) rfl ?_
            refine go_goto 148 dX7_lastButOne_144 rfl ?_
            refine go_istore (lv' := [_, _, _, _, _, _, _, _, _]) (nx := 150) dX7_lastButOne_148 (by decide) rfl rfl ?_
            refine go_aload_n 4 (nx := 151) dX7_lastButOne_150 rfl rfl rfl ?_
            refine go_gf (nx := 154) fg_X7_41 dX7_lastButOne_151 (by omega) hM rfl rfl ?_
            refine go_iload_n 6 (nx := 155) dX7_lastButOne_154 rfl rfl rfl ?_
            refine go_iload 0 (nx := 157) dX7_lastButOne_155 rfl rfl ?_
            refine go_if_eq 165 (nx := 160) dX7_lastButOne_157 rfl rfl (fun c157 => False.elim (absurd c157 (by decide))) (fun c157 => ?_)
            refine go_iload 2 (nx := 162) dX7_lastButOne_160 rfl rfl ?_
            refine go_goto 167 dX7_lastButOne_162 rfl ?_
            refine go_ias (day) (nx := 168) dX7_lastButOne_167 (by omega) hdo rfl (by omega) (by omega) rfl (fun h5 eh5 fh5 => ?_)
            have hM := (fh5 (37) (by omega)).trans hM
            have hdo := eh5
            refine go_iload 0 (nx := 170) dX7_lastButOne_168 rfl rfl ?_
            refine go_if_eq 178 (nx := 173) dX7_lastButOne_170 rfl rfl (fun c170 => False.elim (absurd c170 (by decide))) (fun c170 => ?_)
            refine go_iload 1 (nx := 175) dX7_lastButOne_173 rfl rfl ?_
            refine go_goto 180 dX7_lastButOne_175 rfl ?_
            refine go_istore (lv' := [_, _, _, _, _, _, _, _, _]) (nx := 182) dX7_lastButOne_180 (by decide) rfl rfl ?_
            refine go_iinc 3 (v := nI (o + 1)) (lv' := [_, _, _, _, _, _, _, _, _]) (nx := 185) dX7_lastButOne_182 rfl (nI_inc o) (by decide) rfl rfl ?_
            refine go_goto 79 dX7_lastButOne_185 rfl ?_
            refine Go.sub [0, 1, 2, 4, 5, 6, 7, 8] rfl ?_
            have hx0 : ((oc T ν.2.2.1 f0 wd (1) (day + 1) (meetK ν.1 w o)).1 == w) = false := beq_eq_false_iff_ne.mpr (fun z => c130 (congrArg nI z))
            have hx : nI 0 = bI ((oc T ν.2.2.1 f0 wd (1) (day + 1) (meetK ν.1 w o)).1 == w) := by rw [hx0]; rfl
            have e2 := so_t hx c140
            have fx : kFr 48 49 _ h5 := fun j hj => fh5 j (by omega)
            have dF := dF.k fx (by omega)
            have hah := (fx 47 (by omega)).trans hah
            have eR : (oc T ν.2.2.1 f0 wd (1 + 1) (day) ν.1) = ((oc T ν.2.2.1 f0 wd (1) (day + 1) (meetK ν.1 w o)).1, some o) := by
              rw [hb, show T.1 - o = (T.1 - (o + 1)) + 1 by omega, ffo_some (x := (o, (oc T ν.2.2.1 f0 wd (1) (day + 1) (meetK ν.1 w o)).1)) (by unfold ocg; rw [← ew, if_neg hne, if_pos e2])]
              rfl
            have k := l_lastButOneE (wd := wd) hn HO0 hw hv hf hday hY ew (o := o + 1) (by omega) (by obtain ⟨a, z1, z2⟩ := HS3; exact ⟨a, (fx 41 (by omega)).trans z1, z2⟩) hah hah0 hdo (by rw [eR]; exact pk_us) dF
            rw [eR] at k
            rw [eR]
            exact k
        · skip
          refine go_iconst (v := nI 1) (nx := 134) dX7_lastButOne_133 (by decide) rfl ?_
          refine go_goto 138 dX7_lastButOne_134 rfl ?_
          refine go_iload 8 (nx := 140) dX7_lastButOne_138 rfl rfl ?_
          refine go_icmp_ne 147 (nx := 143) dX7_lastButOne_140 rfl rfl (fun c140 => ?_) (fun c140 => ?_)
          · skip
            refine go_iconst (v := nI 0) (nx := 148) dX7_lastButOne_147 (by decide) rfl ?_
            refine go_istore (lv' := [_, _, _, _, _, _, _, _, _]) (nx := 150) dX7_lastButOne_148 (by decide) rfl rfl ?_
            refine go_aload_n 4 (nx := 151) dX7_lastButOne_150 rfl rfl rfl ?_
            refine go_gf (nx := 154) fg_X7_41 dX7_lastButOne_151 (by omega) hM rfl rfl ?_
            refine go_iload_n 6 (nx := 155) dX7_lastButOne_154 rfl rfl rfl ?_
            refine go_iload 0 (nx := 157) dX7_lastButOne_155 rfl rfl ?_
            refine go_if_eq 165 (nx := 160) dX7_lastButOne_157 rfl rfl (fun c157 => ?_) (fun c157 => False.elim (absurd rfl c157))
            refine go_bipush (v := (-9)) (nx := 167) dX7_lastButOne_165 (by decide) rfl ?_
            refine go_ias (day) (nx := 168) dX7_lastButOne_167 (by omega) hdo rfl (by omega) (by omega) rfl (fun h5 eh5 fh5 => ?_)
            have hM := (fh5 (37) (by omega)).trans hM
            have hdo := eh5
            refine go_iload 0 (nx := 170) dX7_lastButOne_168 rfl rfl ?_
            refine go_if_eq 178 (nx := 173) dX7_lastButOne_170 rfl rfl (fun c170 => ?_) (fun c170 => False.elim (absurd rfl c170))
            refine go_iload 3 (nx := 180) dX7_lastButOne_178 rfl rfl ?_
            refine go_istore (lv' := [_, _, _, _, _, _, _, _, _]) (nx := 182) dX7_lastButOne_180 (by decide) rfl rfl ?_
            refine go_iinc 3 (v := nI (o + 1)) (lv' := [_, _, _, _, _, _, _, _, _]) (nx := 185) dX7_lastButOne_182 rfl (nI_inc o) (by decide) rfl rfl ?_
            refine go_goto 79 dX7_lastButOne_185 rfl ?_
            refine Go.sub [0, 1, 2, 4, 5, 6, 7, 8] rfl ?_
            have hx0 : ((oc T ν.2.2.1 f0 wd (1) (day + 1) (meetK ν.1 w o)).1 == w) = true := beq_iff_eq.mpr (keq c130 (Nat.lt_trans hlt (by omega)) (by omega))
            have hx : nI 1 = bI ((oc T ν.2.2.1 f0 wd (1) (day + 1) (meetK ν.1 w o)).1 == w) := by rw [hx0]; rfl
            have e2 := so_f hx c140
            have fx : kFr 48 49 _ h5 := fun j hj => fh5 j (by omega)
            have dF := dF.k fx (by omega)
            have hah := (fx 47 (by omega)).trans hah
            refine ih (o + 1) _ _ _ (by omega) (by omega) (by obtain ⟨a, z1, z2⟩ := HS3; exact ⟨a, (fx 41 (by omega)).trans z1, z2⟩) hah hahK hah0 hdo pk_us dF (hb.trans ?_)
            rw [show T.1 - o = (T.1 - (o + 1)) + 1 by omega]
            exact congrArg (ocm u0) (ffo_none (by unfold ocg; rw [← ew, if_neg hne, if_neg (by rw [e2]; decide)]))
          · skip
            refine go_iconst (v := nI 1) (nx := 144) dX7_lastButOne_143 (by decide) rfl ?_
            refine go_goto 148 dX7_lastButOne_144 rfl ?_
            refine go_istore (lv' := [_, _, _, _, _, _, _, _, _]) (nx := 150) dX7_lastButOne_148 (by decide) rfl rfl ?_
            refine go_aload_n 4 (nx := 151) dX7_lastButOne_150 rfl rfl rfl ?_
            refine go_gf (nx := 154) fg_X7_41 dX7_lastButOne_151 (by omega) hM rfl rfl ?_
            refine go_iload_n 6 (nx := 155) dX7_lastButOne_154 rfl rfl rfl ?_
            refine go_iload 0 (nx := 157) dX7_lastButOne_155 rfl rfl ?_
            refine go_if_eq 165 (nx := 160) dX7_lastButOne_157 rfl rfl (fun c157 => False.elim (absurd c157 (by decide))) (fun c157 => ?_)
            refine go_iload 2 (nx := 162) dX7_lastButOne_160 rfl rfl ?_
            refine go_goto 167 dX7_lastButOne_162 rfl ?_
            refine go_ias (day) (nx := 168) dX7_lastButOne_167 (by omega) hdo rfl (by omega) (by omega) rfl (fun h5 eh5 fh5 => ?_)
            have hM := (fh5 (37) (by omega)).trans hM
            have hdo := eh5
            refine go_iload 0 (nx := 170) dX7_lastButOne_168 rfl rfl ?_
            refine go_if_eq 178 (nx := 173) dX7_lastButOne_170 rfl rfl (fun c170 => False.elim (absurd c170 (by decide))) (fun c170 => ?_)
            refine go_iload 1 (nx := 175) dX7_lastButOne_173 rfl rfl ?_
            refine go_goto 180 dX7_lastButOne_175 rfl ?_
            refine go_istore (lv' := [_, _, _, _, _, _, _, _, _]) (nx := 182) dX7_lastButOne_180 (by decide) rfl rfl ?_
            refine go_iinc 3 (v := nI (o + 1)) (lv' := [_, _, _, _, _, _, _, _, _]) (nx := 185) dX7_lastButOne_182 rfl (nI_inc o) (by decide) rfl rfl ?_
            refine go_goto 79 dX7_lastButOne_185 rfl ?_
            refine Go.sub [0, 1, 2, 4, 5, 6, 7, 8] rfl ?_
            have hx0 : ((oc T ν.2.2.1 f0 wd (1) (day + 1) (meetK ν.1 w o)).1 == w) = true := beq_iff_eq.mpr (keq c130 (Nat.lt_trans hlt (by omega)) (by omega))
            have hx : nI 1 = bI ((oc T ν.2.2.1 f0 wd (1) (day + 1) (meetK ν.1 w o)).1 == w) := by rw [hx0]; rfl
            have e2 := so_t hx c140
            have fx : kFr 48 49 _ h5 := fun j hj => fh5 j (by omega)
            have dF := dF.k fx (by omega)
            have hah := (fx 47 (by omega)).trans hah
            have eR : (oc T ν.2.2.1 f0 wd (1 + 1) (day) ν.1) = ((oc T ν.2.2.1 f0 wd (1) (day + 1) (meetK ν.1 w o)).1, some o) := by
              rw [hb, show T.1 - o = (T.1 - (o + 1)) + 1 by omega, ffo_some (x := (o, (oc T ν.2.2.1 f0 wd (1) (day + 1) (meetK ν.1 w o)).1)) (by unfold ocg; rw [← ew, if_neg hne, if_pos e2])]
              rfl
            have k := l_lastButOneE (wd := wd) hn HO0 hw hv hf hday hY ew (o := o + 1) (by omega) (by obtain ⟨a, z1, z2⟩ := HS3; exact ⟨a, (fx 41 (by omega)).trans z1, z2⟩) hah hah0 hdo (by rw [eR]; exact pk_us) dF
            rw [eR] at k
            rw [eR]
            exact k
theorem m_lastBut2 {G : kG} {n sz f0 : Nat} {day : Nat} {w : Nat} {ν : mN} {T : mT} {tr : Int64} {F : Nat → Int32} {wd : Bool} {h : kH} {ah0 : Nat → Int32} (hn : 49 ≤ n) (HO : mO G F tr sz T h) (hw : wT T) (hv : wN T.1 ν) (hf : f0 < T.1) (hday : day + 1 + 1 ≤ 3) (hY : ν.2.2.2.1 ≤ 99) (ew : w = (f0 + (day)) % T.1) {x y z u : Int32} (HS : oS G ν h) (hah : h 47 = .inl (G.2.1, 24, .inl ah0)) (HDo : xArr G 48 3 h) (hx : x = nI f0) (hy : y = nI day) (hz : z = nI (day + 2)) (hu : u = bI wd) : Spi G mX7_lastButOne 4 [.ref (kb G + 37), .int x, .int y, .int z, .int u] n h (fun v h' => v = nI (oc T ν.2.2.1 f0 wd (1 + 1) (day) ν.1).1 ∧ oS G ν h' ∧ (∃ a : Nat → Int32, h' 47 = .inl (G.2.1, 24, .inl a) ∧ ∀ j, j < 8 * (day) → a j = ah0 j) ∧ (∃ dd : Nat → Int32, h' 48 = .inl (G.2.1, 3, .inl dd) ∧ dd (day) = actI (-9) (oc T ν.2.2.1 f0 wd (1 + 1) (day) ν.1).2) ∧ dfr h h') := by
  subst hx
  subst hy
  subst hz
  subst hu
  have HO0 := HO
  have hP := hw.1
  have hwl : w < T.1 := by rw [ew]; exact Nat.mod_lt _ (by omega)
  obtain ⟨dd, hdo⟩ := HDo
  have hM : h 37 = .inr (7, [.int (F 0), .long tr, .ref (kb G + 38), .int (nI sz), .int (F 4), .int (F 5), .int (F 6), .int (F 7), .int (F 8), .ref (kb G + 39), .ref (kb G + 40), .int (nI T.1), .int (F 12), .int (nI T.2.2.2.1), .int (F 14), .int (nI T.2.2.2.2.1), .int (F 16), .int (nI T.2.2.2.2.2), .int (F 18), .int (F 19), .int (F 20), .ref (kb G + 41), .ref (kb G + 42), .ref (kb G + 43), .ref (kb G + 44), .ref (kb G + 45), .ref (kb G + 46), .ref (kb G + 47), .ref (kb G + 48)]) := HO
  have dF : dfr h h := dfr.rf
  have hlt : (oc T ν.2.2.1 f0 wd (1) (day + 1) ν.1).1 < T.1 := oc_lt (by omega)
  refine Spi.of (by decide) (Nat.le_of_ble_eq_true rfl) ?_
  refine Go.loc (lv' := [(0, _), (1, _), (2, _), (3, _), (4, _)]) rfl ?_
  refine go_iload_n 2 (nx := 1) dX7_lastButOne_0 rfl rfl rfl ?_
  refine go_iload_n 3 (nx := 2) dX7_lastButOne_1 rfl rfl rfl ?_
  refine go_iconst (v := nI 1) (nx := 3) dX7_lastButOne_2 (by decide) rfl ?_
  refine go_isub (nx := 4) dX7_lastButOne_3 rfl ?_
  rw [show nI (day + 2) - nI 1 = nI (day + 1) from pk_sub (by omega)]
  refine go_icmp_ne 16 (nx := 7) dX7_lastButOne_4 rfl rfl (fun c4 => ?_) (fun c4 => False.elim (absurd (keq (by first | exact c4 | exact Decidable.of_not_not c4) (by omega) (by omega)) (by omega)))
  refine go_aload_n 0 (nx := 17) dX7_lastButOne_16 rfl rfl rfl ?_
  refine go_iload_n 2 (nx := 18) dX7_lastButOne_17 rfl rfl rfl ?_
  refine go_iconst (v := nI 1) (nx := 19) dX7_lastButOne_18 (by decide) rfl ?_
  refine go_Vv (nx := 22) [_, _] kc_X7_200 ⟨_, _, rfl⟩ (by omega) hM (m_asideOfT hn HO HS hah rfl (by omega) rfl) dX7_lastButOne_19 rfl rfl (Nat.le_of_ble_eq_true rfl) (Nat.le_of_ble_eq_true rfl) ⟨Nat.le_refl _, Nat.le_refl _⟩ rfl (fun h1 hqh1 => ?_)
  obtain ⟨⟨ah, hah, hahK, hah0⟩, hFh1⟩ := hqh1
  have hdo := (hFh1 48 (by omega)).trans hdo
  have HS := HS.fr hFh1 (by omega)
  have dF := dF.k hFh1 (by omega)
  have HO := HO0.df dF
  have hM : h1 37 = .inr (7, [.int (F 0), .long tr, .ref (kb G + 38), .int (nI sz), .int (F 4), .int (F 5), .int (F 6), .int (F 7), .int (F 8), .ref (kb G + 39), .ref (kb G + 40), .int (nI T.1), .int (F 12), .int (nI T.2.2.2.1), .int (F 14), .int (nI T.2.2.2.2.1), .int (F 16), .int (nI T.2.2.2.2.2), .int (F 18), .int (F 19), .int (F 20), .ref (kb G + 41), .ref (kb G + 42), .ref (kb G + 43), .ref (kb G + 44), .ref (kb G + 45), .ref (kb G + 46), .ref (kb G + 47), .ref (kb G + 48)]) := HO
  refine go_aload_n 0 (nx := 23) dX7_lastButOne_22 rfl rfl rfl ?_
  refine go_iload_n 1 (nx := 24) dX7_lastButOne_23 rfl rfl rfl ?_
  refine go_iload_n 2 (nx := 25) dX7_lastButOne_24 rfl rfl rfl ?_
  refine go_iconst (v := nI 1) (nx := 26) dX7_lastButOne_25 (by decide) rfl ?_
  refine go_iadd (nx := 27) dX7_lastButOne_26 rfl ?_
  rw [nI_add]
  refine go_iload 4 (nx := 29) dX7_lastButOne_27 rfl rfl ?_
  refine go_Vi (nx := 32) [_, _, _] kc_X7_207 ⟨_, _, rfl⟩ (by omega) hM (m_lastDay (ν := ν) hn HO hw hv hf (by omega) hY rfl HS hah ⟨_, hdo⟩ rfl rfl rfl) dX7_lastButOne_29 rfl rfl (Nat.le_of_ble_eq_true rfl) (Nat.le_of_ble_eq_true rfl) ⟨Nat.le_refl _, Nat.le_refl _⟩ rfl (fun rh2 h2 hqh2 => ?_)
  obtain ⟨rfl, HS2, ⟨ah2, hah, hah2⟩, ⟨dd2, hdo, -⟩, dG⟩ := hqh2
  have hahK : ∀ j, j < 8 → ah2 (8 * (day) + j) = nI (row ν.1 j) := fun j hj => (hah2 _ (by omega)).trans (hahK j hj)
  have hah0 : ∀ j, j < 8 * (day) → ah2 j = ah0 j := fun j hj => (hah2 j (by omega)).trans (hah0 j hj)
  have dF := dF.tr dG
  have HO := HO0.df dF
  have hM : h2 37 = .inr (7, [.int (F 0), .long tr, .ref (kb G + 38), .int (nI sz), .int (F 4), .int (F 5), .int (F 6), .int (F 7), .int (F 8), .ref (kb G + 39), .ref (kb G + 40), .int (nI T.1), .int (F 12), .int (nI T.2.2.2.1), .int (F 14), .int (nI T.2.2.2.2.1), .int (F 16), .int (nI T.2.2.2.2.2), .int (F 18), .int (F 19), .int (F 20), .ref (kb G + 41), .ref (kb G + 42), .ref (kb G + 43), .ref (kb G + 44), .ref (kb G + 45), .ref (kb G + 46), .ref (kb G + 47), .ref (kb G + 48)]) := HO
  refine go_istore (lv' := [_, _, _, _, _, _]) (nx := 34) dX7_lastButOne_32 (by decide) rfl rfl ?_
  refine go_aload_n 1 (nx := 35) dX7_lastButOne_34 rfl rfl rfl ?_
  refine go_iload_n 3 (nx := 36) dX7_lastButOne_35 rfl rfl rfl ?_
  refine go_iconst (v := nI 0) (nx := 37) dX7_lastButOne_36 (by decide) rfl ?_
  refine go_Vv (nx := 40) [_, _] kc_X7_200 ⟨_, _, rfl⟩ (by omega) hM (m_asideOfF (K := ν.1) hn HO HS2 hah hahK rfl (by omega) rfl) dX7_lastButOne_37 rfl rfl (Nat.le_of_ble_eq_true rfl) (Nat.le_of_ble_eq_true rfl) ⟨Nat.le_refl _, Nat.le_refl _⟩ rfl (fun h3 hqh3 => ?_)
  obtain ⟨HS, hFh3⟩ := hqh3
  have hah := (hFh3 47 (by omega)).trans hah
  have hdo := (hFh3 48 (by omega)).trans hdo
  have dF := dF.k hFh3 (by omega)
  have HO := HO0.df dF
  have hM : h3 37 = .inr (7, [.int (F 0), .long tr, .ref (kb G + 38), .int (nI sz), .int (F 4), .int (F 5), .int (F 6), .int (F 7), .int (F 8), .ref (kb G + 39), .ref (kb G + 40), .int (nI T.1), .int (F 12), .int (nI T.2.2.2.1), .int (F 14), .int (nI T.2.2.2.2.1), .int (F 16), .int (nI T.2.2.2.2.2), .int (F 18), .int (F 19), .int (F 20), .ref (kb G + 41), .ref (kb G + 42), .ref (kb G + 43), .ref (kb G + 44), .ref (kb G + 45), .ref (kb G + 46), .ref (kb G + 47), .ref (kb G + 48)]) := HO
  refine go_aload_n 1 (nx := 41) dX7_lastButOne_40 rfl rfl rfl ?_
  refine go_gf (nx := 44) fg_X7_41 dX7_lastButOne_41 (by omega) hM rfl rfl ?_
  refine go_iload_n 3 (nx := 45) dX7_lastButOne_44 rfl rfl rfl ?_
  refine go_bipush (v := (-9)) (nx := 47) dX7_lastButOne_45 (by decide) rfl ?_
  refine go_ias (day) (nx := 48) dX7_lastButOne_47 (by omega) hdo rfl (by omega) (by omega) rfl (fun h4 eh4 fh4 => ?_)
  have hM := (fh4 (37) (by omega)).trans hM
  have hdo := eh4
  have fx : kFr 48 49 _ h4 := fun j hj => fh4 j (by omega)
  have dF := dF.k fx (by omega)
  have hah := (fx 47 (by omega)).trans hah
  have HS := HS.fr fx (by omega)
  have HO := HO0.df dF
  refine go_iload 0 (nx := 50) dX7_lastButOne_48 rfl rfl ?_
  refine go_aload_n 1 (nx := 51) dX7_lastButOne_50 rfl rfl rfl ?_
  refine go_iload_n 2 (nx := 52) dX7_lastButOne_51 rfl rfl rfl ?_
  refine go_iload_n 3 (nx := 53) dX7_lastButOne_52 rfl rfl rfl ?_
  refine go_Vi (nx := 56) [_, _] kc_X7_197 ⟨_, _, rfl⟩ (by omega) hM (m_whoOf hn HO hP (by omega) rfl (by omega) rfl (by omega)) dX7_lastButOne_53 rfl rfl (Nat.le_of_ble_eq_true rfl) (Nat.le_of_ble_eq_true rfl) ⟨Nat.le_refl _, Nat.le_refl _⟩ rfl (fun rh5 h5 hqh5 => ?_)
  obtain ⟨rfl, rfl⟩ := hqh5
  rw [← ew]
  refine go_icmp_ne 63 (nx := 59) dX7_lastButOne_56 rfl rfl (fun c56 => ?_) (fun c56 => ?_)
  · skip
    refine go_iconst (v := nI 0) (nx := 64) dX7_lastButOne_63 (by decide) rfl ?_
    refine go_iload 5 (nx := 66) dX7_lastButOne_64 rfl rfl ?_
    refine go_icmp_ne 73 (nx := 69) dX7_lastButOne_66 rfl rfl (fun c66 => ?_) (fun c66 => ?_)
    · skip
      refine go_iconst (v := nI 0) (nx := 74) dX7_lastButOne_73 (by decide) rfl ?_
      refine go_istore (lv' := [_, _, _, _, _, _, _]) (nx := 76) dX7_lastButOne_74 (by decide) rfl rfl ?_
      refine go_iconst (v := nI 0) (nx := 77) dX7_lastButOne_76 (by decide) rfl ?_
      refine go_istore (lv' := [_, _, _, _, _, _, _, _]) (nx := 79) dX7_lastButOne_77 (by decide) rfl rfl ?_
      refine Go.sub [0, 2, 1, 3, 4, 5, 6, 7] rfl ?_
      have hx0 : ((oc T ν.2.2.1 f0 wd (1) (day + 1) ν.1).1 == w) = false := beq_eq_false_iff_ne.mpr (fun z => c56 (congrArg nI z))
      have hx : nI 0 = bI ((oc T ν.2.2.1 f0 wd (1) (day + 1) ν.1).1 == w) := by rw [hx0]; rfl
      have eR := oc_n (K := ν.1) (C := ν.2.2.1) (r := 1) ew (so_f hx c66)
      exact l_lastButOneN (wd := wd) hn HO0 hw hv hf hday hY ew (T.1 + 1) 0 _ _ _ (by omega) (by omega) HS hah hahK hah0 hdo pk_us dF eR
    · skip
      refine go_iconst (v := nI 1) (nx := 70) dX7_lastButOne_69 (by decide) rfl ?_
      refine go_goto 74 dX7_lastButOne_70 rfl ?_
      refine go_istore (lv' := [_, _, _, _, _, _, _]) (nx := 76) dX7_lastButOne_74 (by decide) rfl rfl ?_
      refine go_iconst (v := nI 0) (nx := 77) dX7_lastButOne_76 (by decide) rfl ?_
      refine go_istore (lv' := [_, _, _, _, _, _, _, _]) (nx := 79) dX7_lastButOne_77 (by decide) rfl rfl ?_
      refine Go.sub [0, 2, 1, 3, 4, 5, 6, 7] rfl ?_
      have hx0 : ((oc T ν.2.2.1 f0 wd (1) (day + 1) ν.1).1 == w) = false := beq_eq_false_iff_ne.mpr (fun z => c56 (congrArg nI z))
      have hx : nI 0 = bI ((oc T ν.2.2.1 f0 wd (1) (day + 1) ν.1).1 == w) := by rw [hx0]; rfl
      have eR := oc_y (K := ν.1) (C := ν.2.2.1) (r := 1) ew (so_t hx c66)
      have k := l_lastButOneE (wd := wd) hn HO0 hw hv hf hday hY ew (o := 0) (by omega) HS hah hah0 hdo (by rw [eR]; exact pk_us) dF
      rw [eR] at k
      rw [eR]
      exact k
  · skip
    refine go_iconst (v := nI 1) (nx := 60) dX7_lastButOne_59 (by decide) rfl ?_
    refine go_goto 64 dX7_lastButOne_60 rfl ?_
    refine go_iload 5 (nx := 66) dX7_lastButOne_64 rfl rfl ?_
    refine go_icmp_ne 73 (nx := 69) dX7_lastButOne_66 rfl rfl (fun c66 => ?_) (fun c66 => ?_)
    · skip
      refine go_iconst (v := nI 0) (nx := 74) dX7_lastButOne_73 (by decide) rfl ?_
      refine go_istore (lv' := [_, _, _, _, _, _, _]) (nx := 76) dX7_lastButOne_74 (by decide) rfl rfl ?_
      refine go_iconst (v := nI 0) (nx := 77) dX7_lastButOne_76 (by decide) rfl ?_
      refine go_istore (lv' := [_, _, _, _, _, _, _, _]) (nx := 79) dX7_lastButOne_77 (by decide) rfl rfl ?_
      refine Go.sub [0, 2, 1, 3, 4, 5, 6, 7] rfl ?_
      have hx0 : ((oc T ν.2.2.1 f0 wd (1) (day + 1) ν.1).1 == w) = true := beq_iff_eq.mpr (keq c56 (Nat.lt_trans hlt (by omega)) (by omega))
      have hx : nI 1 = bI ((oc T ν.2.2.1 f0 wd (1) (day + 1) ν.1).1 == w) := by rw [hx0]; rfl
      have eR := oc_n (K := ν.1) (C := ν.2.2.1) (r := 1) ew (so_f hx c66)
      exact l_lastButOneN (wd := wd) hn HO0 hw hv hf hday hY ew (T.1 + 1) 0 _ _ _ (by omega) (by omega) HS hah hahK hah0 hdo pk_us dF eR
    · skip
      refine go_iconst (v := nI 1) (nx := 70) dX7_lastButOne_69 (by decide) rfl ?_
      refine go_goto 74 dX7_lastButOne_70 rfl ?_
      refine go_istore (lv' := [_, _, _, _, _, _, _]) (nx := 76) dX7_lastButOne_74 (by decide) rfl rfl ?_
      refine go_iconst (v := nI 0) (nx := 77) dX7_lastButOne_76 (by decide) rfl ?_
      refine go_istore (lv' := [_, _, _, _, _, _, _, _]) (nx := 79) dX7_lastButOne_77 (by decide) rfl rfl ?_
      refine Go.sub [0, 2, 1, 3, 4, 5, 6, 7] rfl ?_
      have hx0 : ((oc T ν.2.2.1 f0 wd (1) (day + 1) ν.1).1 == w) = true := beq_iff_eq.mpr (keq c56 (Nat.lt_trans hlt (by omega)) (by omega))
      have hx : nI 1 = bI ((oc T ν.2.2.1 f0 wd (1) (day + 1) ν.1).1 == w) := by rw [hx0]; rfl
      have eR := oc_y (K := ν.1) (C := ν.2.2.1) (r := 1) ew (so_t hx c66)
      have k := l_lastButOneE (wd := wd) hn HO0 hw hv hf hday hY ew (o := 0) (by omega) HS hah hah0 hdo (by rw [eR]; exact pk_us) dF
      rw [eR] at k
      rw [eR]
      exact k
