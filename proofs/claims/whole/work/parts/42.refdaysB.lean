/-! the reference: the last days -/
def dfr (h h' : kH) : Prop := ∀ j, j ≠ 41 → j ≠ 47 → j ≠ 48 → h' j = h j
theorem mO.df {G : kG} {F : Nat → Int32} {tr : Int64} {sz : Nat} {T : mT} {h h' : kH} (H : mO G F tr sz T h) (B : dfr h h') : mO G F tr sz T h' := (B 37 (by decide) (by decide) (by decide)).trans H
theorem dfr.k {lo hi : Nat} {h h1 h2 : kH} (B : dfr h h1) (K : kFr lo hi h1 h2) (hd : (lo = 41 ∧ hi = 42) ∨ (lo = 47 ∧ hi = 48) ∨ (lo = 48 ∧ hi = 49)) : dfr h h2 := fun j a b c => (K j (by omega)).trans (B j a b c)
theorem dfr.tr {h h1 h2 : kH} (B : dfr h h1) (K : dfr h1 h2) : dfr h h2 := fun j a b c => (K j a b c).trans (B j a b c)
theorem dfr.rf {h : kH} : dfr h h := fun _ _ _ _ => rfl
def ocg (T : mT) (C : Nat → Nat) (f : Nat) (wd : Bool) (r day : Nat) (K : mK) (o : Nat) : Option (Nat × Nat) := if o = (f + day) % T.1 then none else if (((oc T C f wd r (day + 1) (meetK K ((f + day) % T.1) o)).1 == (f + day) % T.1) == wd) = true then some (o, (oc T C f wd r (day + 1) (meetK K ((f + day) % T.1) o)).1) else none
def ocm (u : Nat) : Option (Nat × Nat) → Nat × Option Nat
  | some x => (x.2, some x.1)
  | none => (u, none)
theorem oc_y {T : mT} {C : Nat → Nat} {f r day w : Nat} {wd : Bool} {K : mK} (ew : w = (f + day) % T.1) (h : (((oc T C f wd r (day + 1) K).1 == w) == wd) = true) : oc T C f wd (r + 1) day K = ((oc T C f wd r (day + 1) K).1, none) := by
  subst ew
  simp only [oc]
  rw [if_pos h]
theorem oc_n {T : mT} {C : Nat → Nat} {f r day w : Nat} {wd : Bool} {K : mK} (ew : w = (f + day) % T.1) (h : (((oc T C f wd r (day + 1) K).1 == w) == wd) = false) : oc T C f wd (r + 1) day K = ocm (oc T C f wd r (day + 1) K).1 (ffo (ocg T C f wd r day K) T.1 0) := by
  subst ew
  simp only [oc]
  rw [if_neg (by rw [h]; decide)]
  show _ = ocm _ (ffo (ocg T C f wd r day K) T.1 0)
  show (match ffo (ocg T C f wd r day K) T.1 0 with | some x => (x.2, some x.1) | none => ((oc T C f wd r (day + 1) K).1, none)) = _
  cases ffo (ocg T C f wd r day K) T.1 0 <;> rfl
theorem l_lastDayE {G : kG} {n sz f0 : Nat} {day : Nat} {w : Nat} {ν : mN} {T : mT} {tr : Int64} {F : Nat → Int32} {wd : Bool} {h0 : kH} {ah0 : Nat → Int32} (hn : 49 ≤ n) (HO0 : mO G F tr sz T h0) (hw : wT T) (hv : wN T.1 ν) (hf : f0 < T.1) (hday : day + 0 + 1 ≤ 3) (hY : ν.2.2.2.1 ≤ 99) (ew : w = (f0 + (day)) % T.1) {o : Nat} {h : kH} {ah dd : Nat → Int32} (ho : o ≤ T.1) (HS : oS G ν h) (hah : h 47 = .inl (G.2.1, 24, .inl ah)) (hah0 : ∀ j, j < 8 * (day) → ah j = ah0 j) (hdo : h 48 = .inl (G.2.1, 3, .inl dd)) (hdd : dd (day) = actI (-9) (oc T ν.2.2.1 f0 wd (0 + 1) (day) ν.1).2) (dF : dfr h0 h) : Go G mX7_lastDay (3, 0, 0) 50 [(6, .int (nI o)), (4, .int (nI (oc T ν.2.2.1 f0 wd (0 + 1) (day) ν.1).1)), (5, .int (nI 1)), (0, .ref (kb G + 37)), (1, .int (nI f0)), (2, .int (nI day)), (3, .int (bI wd))] [] (n, 0, 0) h (kQi mX7_lastDay n (fun v h' => v = nI (oc T ν.2.2.1 f0 wd (0 + 1) (day) ν.1).1 ∧ oS G ν h' ∧ (∃ a : Nat → Int32, h' 47 = .inl (G.2.1, 24, .inl a) ∧ ∀ j, j < 8 * (day) → a j = ah0 j) ∧ (∃ dd : Nat → Int32, h' 48 = .inl (G.2.1, 3, .inl dd) ∧ dd (day) = actI (-9) (oc T ν.2.2.1 f0 wd (0 + 1) (day) ν.1).2) ∧ dfr h0 h')) := by
  have HO := HO0.df dF
  have hM : h 37 = .inr (7, [.int (F 0), .long tr, .ref (kb G + 38), .int (nI sz), .int (F 4), .int (F 5), .int (F 6), .int (F 7), .int (F 8), .ref (kb G + 39), .ref (kb G + 40), .int (nI T.1), .int (F 12), .int (nI T.2.2.2.1), .int (F 14), .int (nI T.2.2.2.2.1), .int (F 16), .int (nI T.2.2.2.2.2), .int (F 18), .int (F 19), .int (F 20), .ref (kb G + 41), .ref (kb G + 42), .ref (kb G + 43), .ref (kb G + 44), .ref (kb G + 45), .ref (kb G + 46), .ref (kb G + 47), .ref (kb G + 48)]) := HO
  refine go_iload 0 (nx := 52) dX7_lastDay_50 rfl rfl ?_
  refine go_aload_n 3 (nx := 53) dX7_lastDay_52 rfl rfl rfl ?_
  refine go_gf (nx := 56) fg_X7_137 dX7_lastDay_53 (by omega) hM rfl rfl ?_
  refine go_icmp_ge 152 (nx := 59) dX7_lastDay_56 rfl rfl (fun c56 => ?_) (fun c56 => ?_)
  · skip
    refine go_iload 1 (nx := 154) dX7_lastDay_152 rfl rfl ?_
    refine go_reti dX7_lastDay_154 ⟨_, rfl, rfl⟩ ?_
    exact ⟨rfl, HS, ⟨_, hah, hah0⟩, ⟨_, hdo, hdd⟩, dF⟩
  · skip
    refine go_iload 2 (nx := 61) dX7_lastDay_59 rfl rfl ?_
    refine go_if_ne 152 (nx := 64) dX7_lastDay_61 rfl rfl (fun c61 => ?_) (fun c61 => False.elim (absurd c61 (by decide)))
    refine go_iload 1 (nx := 154) dX7_lastDay_152 rfl rfl ?_
    refine go_reti dX7_lastDay_154 ⟨_, rfl, rfl⟩ ?_
    exact ⟨rfl, HS, ⟨_, hah, hah0⟩, ⟨_, hdo, hdd⟩, dF⟩
theorem l_lastDayN {G : kG} {n sz f0 : Nat} {day : Nat} {w : Nat} {ν : mN} {T : mT} {tr : Int64} {F : Nat → Int32} {wd : Bool} {h0 : kH} {ah0 : Nat → Int32} (hn : 49 ≤ n) (HO0 : mO G F tr sz T h0) (hw : wT T) (hv : wN T.1 ν) (hf : f0 < T.1) (hday : day + 0 + 1 ≤ 3) (hY : ν.2.2.2.1 ≤ 99) (ew : w = (f0 + (day)) % T.1) {u0 : Nat} : ∀ (d o : Nat) (h : kH) (ah dd : Nat → Int32), T.1 - o < d → o ≤ T.1 → oS G ν h → h 47 = .inl (G.2.1, 24, .inl ah) → (∀ j, j < 8 → ah (8 * (day) + j) = nI (row ν.1 j)) → (∀ j, j < 8 * (day) → ah j = ah0 j) → h 48 = .inl (G.2.1, 3, .inl dd) → dd (day) = -9 → dfr h0 h → (oc T ν.2.2.1 f0 wd (0 + 1) (day) ν.1) = ocm u0 (ffo (ocg T ν.2.2.1 f0 wd (0) (day) ν.1) (T.1 - o) o) → Go G mX7_lastDay (3, 0, 0) 50 [(6, .int (nI o)), (4, .int (nI u0)), (5, .int (nI 0)), (0, .ref (kb G + 37)), (1, .int (nI f0)), (2, .int (nI day)), (3, .int (bI wd))] [] (n, 0, 0) h (kQi mX7_lastDay n (fun v h' => v = nI (oc T ν.2.2.1 f0 wd (0 + 1) (day) ν.1).1 ∧ oS G ν h' ∧ (∃ a : Nat → Int32, h' 47 = .inl (G.2.1, 24, .inl a) ∧ ∀ j, j < 8 * (day) → a j = ah0 j) ∧ (∃ dd : Nat → Int32, h' 48 = .inl (G.2.1, 3, .inl dd) ∧ dd (day) = actI (-9) (oc T ν.2.2.1 f0 wd (0 + 1) (day) ν.1).2) ∧ dfr h0 h')) := by
  intro d
  have hP := hw.1
  have hwl : w < T.1 := by rw [ew]; exact Nat.mod_lt _ (by omega)
  induction d with
  | zero => intro o h ah dd hd; omega
  | succ d ih =>
    intro o h ah dd hd ho HS hah hahK hah0 hdo hdd dF hb
    have HO := HO0.df dF
    have hM : h 37 = .inr (7, [.int (F 0), .long tr, .ref (kb G + 38), .int (nI sz), .int (F 4), .int (F 5), .int (F 6), .int (F 7), .int (F 8), .ref (kb G + 39), .ref (kb G + 40), .int (nI T.1), .int (F 12), .int (nI T.2.2.2.1), .int (F 14), .int (nI T.2.2.2.2.1), .int (F 16), .int (nI T.2.2.2.2.2), .int (F 18), .int (F 19), .int (F 20), .ref (kb G + 41), .ref (kb G + 42), .ref (kb G + 43), .ref (kb G + 44), .ref (kb G + 45), .ref (kb G + 46), .ref (kb G + 47), .ref (kb G + 48)]) := HO
    refine go_iload 0 (nx := 52) dX7_lastDay_50 rfl rfl ?_
    refine go_aload_n 3 (nx := 53) dX7_lastDay_52 rfl rfl rfl ?_
    refine go_gf (nx := 56) fg_X7_137 dX7_lastDay_53 (by omega) hM rfl rfl ?_
    refine go_icmp_ge 152 (nx := 59) dX7_lastDay_56 rfl rfl (fun c56 => ?_) (fun c56 => ?_)
    · skip
      refine go_iload 1 (nx := 154) dX7_lastDay_152 rfl rfl ?_
      refine go_reti dX7_lastDay_154 ⟨_, rfl, rfl⟩ ?_
      have e8 : o = T.1 := by have := kle c56; omega
      have eR : (oc T ν.2.2.1 f0 wd (0 + 1) (day) ν.1) = (u0, none) := by rw [hb, e8, Nat.sub_self]; rfl
      rw [eR]
      exact ⟨rfl, HS, ⟨_, hah, hah0⟩, ⟨_, hdo, hdd⟩, dF⟩
    · skip
      have hoP := knle c56
      refine go_iload 2 (nx := 61) dX7_lastDay_59 rfl rfl ?_
      refine go_if_ne 152 (nx := 64) dX7_lastDay_61 rfl rfl (fun c61 => False.elim (absurd rfl c61)) (fun c61 => ?_)
      refine go_aload_n 3 (nx := 65) dX7_lastDay_64 rfl rfl rfl ?_
      refine go_iload_n 4 (nx := 66) dX7_lastDay_65 rfl rfl rfl ?_
      refine go_iload_n 5 (nx := 67) dX7_lastDay_66 rfl rfl rfl ?_
      refine go_iload 0 (nx := 69) dX7_lastDay_67 rfl rfl ?_
      refine go_Vi (nx := 72) [_, _, _] kc_X7_204 ⟨_, _, rfl⟩ (by omega) hM (m_acts hn HO HS hP rfl hf rfl (by omega) rfl hoP) dX7_lastDay_69 rfl rfl (Nat.le_of_ble_eq_true rfl) (Nat.le_of_ble_eq_true rfl) ⟨Nat.le_refl _, Nat.le_refl _⟩ rfl (fun rh1 h1 hqh1 => ?_)
      obtain ⟨rfl, qa, qb, hFh1⟩ := hqh1
      have hah := (hFh1 47 (by omega)).trans hah
      have hdo := (hFh1 48 (by omega)).trans hdo
      have dF := dF.k hFh1 (by omega)
      have HO := HO0.df dF
      have hM : h1 37 = .inr (7, [.int (F 0), .long tr, .ref (kb G + 38), .int (nI sz), .int (F 4), .int (F 5), .int (F 6), .int (F 7), .int (F 8), .ref (kb G + 39), .ref (kb G + 40), .int (nI T.1), .int (F 12), .int (nI T.2.2.2.1), .int (F 14), .int (nI T.2.2.2.2.1), .int (F 16), .int (nI T.2.2.2.2.2), .int (F 18), .int (F 19), .int (F 20), .ref (kb G + 41), .ref (kb G + 42), .ref (kb G + 43), .ref (kb G + 44), .ref (kb G + 45), .ref (kb G + 46), .ref (kb G + 47), .ref (kb G + 48)]) := HO
      refine go_if_eq 146 (nx := 75) dX7_lastDay_72 rfl rfl (fun c72 => ?_) (fun c72 => ?_)
      · skip
        refine go_iinc 0 (v := nI (o + 1)) (lv' := [_, _, _, _, _, _, _]) (nx := 149) dX7_lastDay_146 rfl (nI_inc o) (by decide) rfl rfl ?_
        refine go_goto 50 dX7_lastDay_149 rfl ?_
        refine Go.sub [0, 1, 2, 3, 4, 5, 6] rfl ?_
        have e : o = w := by
          have z := tb0 c72
          rw [← ew] at z
          exact Decidable.of_not_not (of_decide_eq_false z)
        refine ih (o + 1) _ _ _ (by omega) (by omega) (by rw [qa (e.trans ew)]; exact HS) hah hahK hah0 hdo hdd dF (hb.trans ?_)
        rw [show T.1 - o = (T.1 - (o + 1)) + 1 by omega]
        exact congrArg (ocm u0) (ffo_none (by unfold ocg; rw [if_pos (e.trans ew)]))
      · skip
        have hne : o ≠ w := by
          have z := tbn0 c72
          rw [← ew] at z
          exact of_decide_eq_true z
        have HS2 := qb (by rw [← ew]; exact hne)
        rw [← ew] at HS2
        have hlt : (oc T ν.2.2.1 f0 wd (0) (day + 1) (meetK ν.1 w o)).1 < T.1 := oc_lt (by omega)
        refine go_aload_n 3 (nx := 76) dX7_lastDay_75 rfl rfl rfl ?_
        refine go_Vi (nx := 79) [] kc_X7_167 ⟨_, _, rfl⟩ (by omega) hM (m_chosenNow hn HO HS2 hw ⟨wK_meet hv.1 hwl hoP (Ne.symm hne), hv.2⟩ (by omega) (by show ν.2.2.2.1 < 2 ^ 31; omega)) dX7_lastDay_76 rfl rfl (Nat.le_of_ble_eq_true rfl) (Nat.le_of_ble_eq_true rfl) ⟨Nat.le_refl _, Nat.le_refl _⟩ rfl (fun rh2 h2 hqh2 => ?_)
        obtain ⟨rfl, rfl⟩ := hqh2
        refine go_istore (lv' := [_, _, _, _, _, _, _, _]) (nx := 81) dX7_lastDay_79 (by decide) rfl rfl ?_
        refine go_aload_n 4 (nx := 82) dX7_lastDay_81 rfl rfl rfl ?_
        refine go_iload_n 6 (nx := 83) dX7_lastDay_82 rfl rfl rfl ?_
        refine go_iconst (v := nI 0) (nx := 84) dX7_lastDay_83 (by decide) rfl ?_
        refine go_Vv (nx := 87) [_, _] kc_X7_200 ⟨_, _, rfl⟩ (by omega) hM (m_asideOfF (K := meetK ν.1 w o) hn HO HS2 hah hahK rfl (by omega) rfl) dX7_lastDay_84 rfl rfl (Nat.le_of_ble_eq_true rfl) (Nat.le_of_ble_eq_true rfl) ⟨Nat.le_refl _, Nat.le_refl _⟩ rfl (fun h3 hqh3 => ?_)
        obtain ⟨HS3, hFh3⟩ := hqh3
        have hah := (hFh3 47 (by omega)).trans hah
        have hdo := (hFh3 48 (by omega)).trans hdo
        have dF := dF.k hFh3 (by omega)
        have HO := HO0.df dF
        have hM : h3 37 = .inr (7, [.int (F 0), .long tr, .ref (kb G + 38), .int (nI sz), .int (F 4), .int (F 5), .int (F 6), .int (F 7), .int (F 8), .ref (kb G + 39), .ref (kb G + 40), .int (nI T.1), .int (F 12), .int (nI T.2.2.2.1), .int (F 14), .int (nI T.2.2.2.2.1), .int (F 16), .int (nI T.2.2.2.2.2), .int (F 18), .int (F 19), .int (F 20), .ref (kb G + 41), .ref (kb G + 42), .ref (kb G + 43), .ref (kb G + 44), .ref (kb G + 45), .ref (kb G + 46), .ref (kb G + 47), .ref (kb G + 48)]) := HO
        refine go_iload 0 (nx := 89) dX7_lastDay_87 rfl rfl ?_
        refine go_aload_n 4 (nx := 90) dX7_lastDay_89 rfl rfl rfl ?_
        refine go_iload_n 5 (nx := 91) dX7_lastDay_90 rfl rfl rfl ?_
        refine go_iload_n 6 (nx := 92) dX7_lastDay_91 rfl rfl rfl ?_
        refine go_Vi (nx := 95) [_, _] kc_X7_197 ⟨_, _, rfl⟩ (by omega) hM (m_whoOf hn HO hP (by omega) rfl (by omega) rfl (by omega)) dX7_lastDay_92 rfl rfl (Nat.le_of_ble_eq_true rfl) (Nat.le_of_ble_eq_true rfl) ⟨Nat.le_refl _, Nat.le_refl _⟩ rfl (fun rh4 h4 hqh4 => ?_)
        obtain ⟨rfl, rfl⟩ := hqh4
        rw [← ew]
        refine go_icmp_ne 102 (nx := 98) dX7_lastDay_95 rfl rfl (fun c95 => ?_) (fun c95 => ?_)
        · skip
          refine go_iconst (v := nI 0) (nx := 103) dX7_lastDay_102 (by decide) rfl ?_
          refine go_iload_n 7 (nx := 104) dX7_lastDay_103 rfl rfl rfl ?_
          refine go_icmp_ne 111 (nx := 107) dX7_lastDay_104 rfl rfl (fun c104 => ?_) (fun c104 => ?_)
          · skip
            refine go_iconst (v := nI 0) (nx := 112) dX7_lastDay_111 (by decide) rfl ?_
            refine go_istore (lv' := [_, _, _, _, _, _, _, _]) (nx := 114) dX7_lastDay_112 (by decide) rfl rfl ?_
            refine go_aload_n 4 (nx := 115) dX7_lastDay_114 rfl rfl rfl ?_
            refine go_gf (nx := 118) fg_X7_41 dX7_lastDay_115 (by omega) hM rfl rfl ?_
            refine go_iload_n 6 (nx := 119) dX7_lastDay_118 rfl rfl rfl ?_
            refine go_iload 0 (nx := 121) dX7_lastDay_119 rfl rfl ?_
            refine go_if_eq 129 (nx := 124) dX7_lastDay_121 rfl rfl (fun c121 => ?_) (fun c121 => False.elim (absurd rfl c121))
            refine go_bipush (v := (-9)) (nx := 131) dX7_lastDay_129 (by decide) rfl ?_
            refine go_ias (day) (nx := 132) dX7_lastDay_131 (by omega) hdo rfl (by omega) (by omega) rfl (fun h5 eh5 fh5 => ?_)
            have hM := (fh5 (37) (by omega)).trans hM
            have hdo := eh5
            refine go_iload 0 (nx := 134) dX7_lastDay_132 rfl rfl ?_
            refine go_if_eq 142 (nx := 137) dX7_lastDay_134 rfl rfl (fun c134 => ?_) (fun c134 => False.elim (absurd rfl c134))
            refine go_iload 3 (nx := 144) dX7_lastDay_142 rfl rfl ?_
            refine go_istore (lv' := [_, _, _, _, _, _, _, _]) (nx := 146) dX7_lastDay_144 (by decide) rfl rfl ?_
            refine go_iinc 3 (v := nI (o + 1)) (lv' := [_, _, _, _, _, _, _, _]) (nx := 149) dX7_lastDay_146 rfl (nI_inc o) (by decide) rfl rfl ?_
            refine go_goto 50 dX7_lastDay_149 rfl ?_
            refine Go.sub [0, 1, 2, 4, 5, 6, 7] rfl ?_
            have hx0 : ((oc T ν.2.2.1 f0 wd (0) (day + 1) (meetK ν.1 w o)).1 == w) = false := beq_eq_false_iff_ne.mpr (fun z => c95 (congrArg nI z))
            have hx : nI 0 = bI ((oc T ν.2.2.1 f0 wd (0) (day + 1) (meetK ν.1 w o)).1 == w) := by rw [hx0]; rfl
            have e2 := so_f hx c104
            have fx : kFr 48 49 _ h5 := fun j hj => fh5 j (by omega)
            have dF := dF.k fx (by omega)
            have hah := (fx 47 (by omega)).trans hah
            refine ih (o + 1) _ _ _ (by omega) (by omega) (by obtain ⟨a, z1, z2⟩ := HS3; exact ⟨a, (fx 41 (by omega)).trans z1, z2⟩) hah hahK hah0 hdo pk_us dF (hb.trans ?_)
            rw [show T.1 - o = (T.1 - (o + 1)) + 1 by omega]
            exact congrArg (ocm u0) (ffo_none (by unfold ocg; rw [← ew, if_neg hne, if_neg (by rw [e2]; decide)]))
          · skip
            refine go_iconst (v := nI 1) (nx := 108) dX7_lastDay_107 (by decide) rfl ?_
            refine go_goto 112 dX7_lastDay_108 rfl ?_
            refine go_istore (lv' := [_, _, _, _, _, _, _, _]) (nx := 114) dX7_lastDay_112 (by decide) rfl rfl ?_
            refine go_aload_n 4 (nx := 115) dX7_lastDay_114 rfl rfl rfl ?_
            refine go_gf (nx := 118) fg_X7_41 dX7_lastDay_115 (by omega) hM rfl rfl ?_
            refine go_iload_n 6 (nx := 119) dX7_lastDay_118 rfl rfl rfl ?_
            refine go_iload 0 (nx := 121) dX7_lastDay_119 rfl rfl ?_
            refine go_if_eq 129 (nx := 124) dX7_lastDay_121 rfl rfl (fun c121 => False.elim (absurd c121 (by decide))) (fun c121 => ?_)
            refine go_iload 2 (nx := 126) dX7_lastDay_124 rfl rfl ?_
            refine go_goto 131 dX7_lastDay_126 rfl ?_
            refine go_ias (day) (nx := 132) dX7_lastDay_131 (by omega) hdo rfl (by omega) (by omega) rfl (fun h5 eh5 fh5 => ?_)
            have hM := (fh5 (37) (by omega)).trans hM
            have hdo := eh5
            refine go_iload 0 (nx := 134) dX7_lastDay_132 rfl rfl ?_
            refine go_if_eq 142 (nx := 137) dX7_lastDay_134 rfl rfl (fun c134 => False.elim (absurd c134 (by decide))) (fun c134 => ?_)
            refine go_iload 1 (nx := 139) dX7_lastDay_137 rfl rfl ?_
            refine go_goto 144 dX7_lastDay_139 rfl ?_
            refine go_istore (lv' := [_, _, _, _, _, _, _, _]) (nx := 146) dX7_lastDay_144 (by decide) rfl rfl ?_
            refine go_iinc 3 (v := nI (o + 1)) (lv' := [_, _, _, _, _, _, _, _]) (nx := 149) dX7_lastDay_146 rfl (nI_inc o) (by decide) rfl rfl ?_
            refine go_goto 50 dX7_lastDay_149 rfl ?_
            refine Go.sub [0, 1, 2, 4, 5, 6, 7] rfl ?_
            have hx0 : ((oc T ν.2.2.1 f0 wd (0) (day + 1) (meetK ν.1 w o)).1 == w) = false := beq_eq_false_iff_ne.mpr (fun z => c95 (congrArg nI z))
            have hx : nI 0 = bI ((oc T ν.2.2.1 f0 wd (0) (day + 1) (meetK ν.1 w o)).1 == w) := by rw [hx0]; rfl
            have e2 := so_t hx c104
            have fx : kFr 48 49 _ h5 := fun j hj => fh5 j (by omega)
            have dF := dF.k fx (by omega)
            have hah := (fx 47 (by omega)).trans hah
            have eR : (oc T ν.2.2.1 f0 wd (0 + 1) (day) ν.1) = ((oc T ν.2.2.1 f0 wd (0) (day + 1) (meetK ν.1 w o)).1, some o) := by
              rw [hb, show T.1 - o = (T.1 - (o + 1)) + 1 by omega, ffo_some (x := (o, (oc T ν.2.2.1 f0 wd (0) (day + 1) (meetK ν.1 w o)).1)) (by unfold ocg; rw [← ew, if_neg hne, if_pos e2])]
              rfl
            have k := l_lastDayE (wd := wd) hn HO0 hw hv hf hday hY ew (o := o + 1) (by omega) (by obtain ⟨a, z1, z2⟩ := HS3; exact ⟨a, (fx 41 (by omega)).trans z1, z2⟩) hah hah0 hdo (by rw [eR]; exact pk_us) dF
            rw [eR] at k
            rw [eR]
            exact k
        · skip
          refine go_iconst (v := nI 1) (nx := 99) dX7_lastDay_98 (by decide) rfl ?_
          refine go_goto 103 dX7_lastDay_99 rfl ?_
          refine go_iload_n 7 (nx := 104) dX7_lastDay_103 rfl rfl rfl ?_
          refine go_icmp_ne 111 (nx := 107) dX7_lastDay_104 rfl rfl (fun c104 => ?_) (fun c104 => ?_)
          · skip
            refine go_iconst (v := nI 0) (nx := 112) dX7_lastDay_111 (by decide) rfl ?_
            refine go_istore (lv' := [_, _, _, _, _, _, _, _]) (nx := 114) dX7_lastDay_112 (by decide) rfl rfl ?_
            refine go_aload_n 4 (nx := 115) dX7_lastDay_114 rfl rfl rfl ?_
            refine go_gf (nx := 118) fg_X7_41 dX7_lastDay_115 (by omega) hM rfl rfl ?_
            refine go_iload_n 6 (nx := 119) dX7_lastDay_118 rfl rfl rfl ?_
            refine go_iload 0 (nx := 121) dX7_lastDay_119 rfl rfl ?_
            refine go_if_eq 129 (nx := 124) dX7_lastDay_121 rfl rfl (fun c121 => ?_) (fun c121 => False.elim (absurd rfl c121))
            refine go_bipush (v := (-9)) (nx := 131) dX7_lastDay_129 (by decide) rfl ?_
            refine go_ias (day) (nx := 132) dX7_lastDay_131 (by omega) hdo rfl (by omega) (by omega) rfl (fun h5 eh5 fh5 => ?_)
            have hM := (fh5 (37) (by omega)).trans hM
            have hdo := eh5
            refine go_iload 0 (nx := 134) dX7_lastDay_132 rfl rfl ?_
            refine go_if_eq 142 (nx := 137) dX7_lastDay_134 rfl rfl (fun c134 => ?_) (fun c134 => False.elim (absurd rfl c134))
            refine go_iload 3 (nx := 144) dX7_lastDay_142 rfl rfl ?_
            refine go_istore (lv' := [_, _, _, _, _, _, _, _]) (nx := 146) dX7_lastDay_144 (by decide) rfl rfl ?_
            refine go_iinc 3 (v := nI (o + 1)) (lv' := [_, _, _, _, _, _, _, _]) (nx := 149) dX7_lastDay_146 rfl (nI_inc o) (by decide) rfl rfl ?_
            refine go_goto 50 dX7_lastDay_149 rfl ?_
            refine Go.sub [0, 1, 2, 4, 5, 6, 7] rfl ?_
            have hx0 : ((oc T ν.2.2.1 f0 wd (0) (day + 1) (meetK ν.1 w o)).1 == w) = true := beq_iff_eq.mpr (keq c95 (Nat.lt_trans hlt (by omega)) (by omega))
            have hx : nI 1 = bI ((oc T ν.2.2.1 f0 wd (0) (day + 1) (meetK ν.1 w o)).1 == w) := by rw [hx0]; rfl
            have e2 := so_f hx c104
            have fx : kFr 48 49 _ h5 := fun j hj => fh5 j (by omega)
            have dF := dF.k fx (by omega)
            have hah := (fx 47 (by omega)).trans hah
            refine ih (o + 1) _ _ _ (by omega) (by omega) (by obtain ⟨a, z1, z2⟩ := HS3; exact ⟨a, (fx 41 (by omega)).trans z1, z2⟩) hah hahK hah0 hdo pk_us dF (hb.trans ?_)
            rw [show T.1 - o = (T.1 - (o + 1)) + 1 by omega]
            exact congrArg (ocm u0) (ffo_none (by unfold ocg; rw [← ew, if_neg hne, if_neg (by rw [e2]; decide)]))
          · skip
            refine go_iconst (v := nI 1) (nx := 108) dX7_lastDay_107 (by decide) rfl ?_
            refine go_goto 112 dX7_lastDay_108 rfl ?_
            refine go_istore (lv' := [_, _, _, _, _, _, _, _]) (nx := 114) dX7_lastDay_112 (by decide) rfl rfl ?_
            refine go_aload_n 4 (nx := 115) dX7_lastDay_114 rfl rfl rfl ?_
            refine go_gf (nx := 118) fg_X7_41 dX7_lastDay_115 (by omega) hM rfl rfl ?_
            refine go_iload_n 6 (nx := 119) dX7_lastDay_118 rfl rfl rfl ?_
            refine go_iload 0 (nx := 121) dX7_lastDay_119 rfl rfl ?_
            refine go_if_eq 129 (nx := 124) dX7_lastDay_121 rfl rfl (fun c121 => False.elim (absurd c121 (by decide))) (fun c121 => ?_)
            refine go_iload 2 (nx := 126) dX7_lastDay_124 rfl rfl ?_
            refine go_goto 131 dX7_lastDay_126 rfl ?_
            refine go_ias (day) (nx := 132) dX7_lastDay_131 (by omega) hdo rfl (by omega) (by omega) rfl (fun h5 eh5 fh5 => ?_)
            have hM := (fh5 (37) (by omega)).trans hM
            have hdo := eh5
            refine go_iload 0 (nx := 134) dX7_lastDay_132 rfl rfl ?_
            refine go_if_eq 142 (nx := 137) dX7_lastDay_134 rfl rfl (fun c134 => False.elim (absurd c134 (by decide))) (fun c134 => ?_)
            refine go_iload 1 (nx := 139) dX7_lastDay_137 rfl rfl ?_
            refine go_goto 144 dX7_lastDay_139 rfl ?_
            refine go_istore (lv' := [_, _, _, _, _, _, _, _]) (nx := 146) dX7_lastDay_144 (by decide) rfl rfl ?_
            refine go_iinc 3 (v := nI (o + 1)) (lv' := [_, _, _, _, _, _, _, _]) (nx := 149) dX7_lastDay_146 rfl (nI_inc o) (by decide) rfl rfl ?_
            refine go_goto 50 dX7_lastDay_149 rfl ?_
            refine Go.sub [0, 1, 2, 4, 5, 6, 7] rfl ?_
            have hx0 : ((oc T ν.2.2.1 f0 wd (0) (day + 1) (meetK ν.1 w o)).1 == w) = true := beq_iff_eq.mpr (keq c95 (Nat.lt_trans hlt (by omega)) (by omega))
            have hx : nI 1 = bI ((oc T ν.2.2.1 f0 wd (0) (day + 1) (meetK ν.1 w o)).1 == w) := by rw [hx0]; rfl
            have e2 := so_t hx c104
            have fx : kFr 48 49 _ h5 := fun j hj => fh5 j (by omega)
            have dF := dF.k fx (by omega)
            have hah := (fx 47 (by omega)).trans hah
            have eR : (oc T ν.2.2.1 f0 wd (0 + 1) (day) ν.1) = ((oc T ν.2.2.1 f0 wd (0) (day + 1) (meetK ν.1 w o)).1, some o) := by
              rw [hb, show T.1 - o = (T.1 - (o + 1)) + 1 by omega, ffo_some (x := (o, (oc T ν.2.2.1 f0 wd (0) (day + 1) (meetK ν.1 w o)).1)) (by unfold ocg; rw [← ew, if_neg hne, if_pos e2])]
              rfl
            have k := l_lastDayE (wd := wd) hn HO0 hw hv hf hday hY ew (o := o + 1) (by omega) (by obtain ⟨a, z1, z2⟩ := HS3; exact ⟨a, (fx 41 (by omega)).trans z1, z2⟩) hah hah0 hdo (by rw [eR]; exact pk_us) dF
            rw [eR] at k
            rw [eR]
            exact k
theorem m_lastDay {G : kG} {n sz f0 : Nat} {day : Nat} {w : Nat} {ν : mN} {T : mT} {tr : Int64} {F : Nat → Int32} {wd : Bool} {h : kH} {ah0 : Nat → Int32} (hn : 49 ≤ n) (HO : mO G F tr sz T h) (hw : wT T) (hv : wN T.1 ν) (hf : f0 < T.1) (hday : day + 0 + 1 ≤ 3) (hY : ν.2.2.2.1 ≤ 99) (ew : w = (f0 + (day)) % T.1) {x y z : Int32} (HS : oS G ν h) (hah : h 47 = .inl (G.2.1, 24, .inl ah0)) (HDo : xArr G 48 3 h) (hx : x = nI f0) (hy : y = nI day) (hz : z = bI wd) : Spi G mX7_lastDay 3 [.ref (kb G + 37), .int x, .int y, .int z] n h (fun v h' => v = nI (oc T ν.2.2.1 f0 wd (0 + 1) (day) ν.1).1 ∧ oS G ν h' ∧ (∃ a : Nat → Int32, h' 47 = .inl (G.2.1, 24, .inl a) ∧ ∀ j, j < 8 * (day) → a j = ah0 j) ∧ (∃ dd : Nat → Int32, h' 48 = .inl (G.2.1, 3, .inl dd) ∧ dd (day) = actI (-9) (oc T ν.2.2.1 f0 wd (0 + 1) (day) ν.1).2) ∧ dfr h h') := by
  subst hx
  subst hy
  subst hz
  have HO0 := HO
  have hP := hw.1
  have hwl : w < T.1 := by rw [ew]; exact Nat.mod_lt _ (by omega)
  obtain ⟨dd, hdo⟩ := HDo
  have hM : h 37 = .inr (7, [.int (F 0), .long tr, .ref (kb G + 38), .int (nI sz), .int (F 4), .int (F 5), .int (F 6), .int (F 7), .int (F 8), .ref (kb G + 39), .ref (kb G + 40), .int (nI T.1), .int (F 12), .int (nI T.2.2.2.1), .int (F 14), .int (nI T.2.2.2.2.1), .int (F 16), .int (nI T.2.2.2.2.2), .int (F 18), .int (F 19), .int (F 20), .ref (kb G + 41), .ref (kb G + 42), .ref (kb G + 43), .ref (kb G + 44), .ref (kb G + 45), .ref (kb G + 46), .ref (kb G + 47), .ref (kb G + 48)]) := HO
  have dF : dfr h h := dfr.rf
  have hlt : (oc T ν.2.2.1 f0 wd (0) (day + 1) ν.1).1 < T.1 := oc_lt (by omega)
  refine Spi.of (by decide) (Nat.le_of_ble_eq_true rfl) ?_
  refine Go.loc (lv' := [(0, _), (1, _), (2, _), (3, _)]) rfl ?_
  refine go_aload_n 0 (nx := 1) dX7_lastDay_0 rfl rfl rfl ?_
  refine go_iload_n 2 (nx := 2) dX7_lastDay_1 rfl rfl rfl ?_
  refine go_iconst (v := nI 1) (nx := 3) dX7_lastDay_2 (by decide) rfl ?_
  refine go_Vv (nx := 6) [_, _] kc_X7_200 ⟨_, _, rfl⟩ (by omega) hM (m_asideOfT hn HO HS hah rfl (by omega) rfl) dX7_lastDay_3 rfl rfl (Nat.le_of_ble_eq_true rfl) (Nat.le_of_ble_eq_true rfl) ⟨Nat.le_refl _, Nat.le_refl _⟩ rfl (fun h1 hqh1 => ?_)
  obtain ⟨⟨ah, hah, hahK, hah0⟩, hFh1⟩ := hqh1
  have hdo := (hFh1 48 (by omega)).trans hdo
  have HS := HS.fr hFh1 (by omega)
  have dF := dF.k hFh1 (by omega)
  have HO := HO0.df dF
  have hM : h1 37 = .inr (7, [.int (F 0), .long tr, .ref (kb G + 38), .int (nI sz), .int (F 4), .int (F 5), .int (F 6), .int (F 7), .int (F 8), .ref (kb G + 39), .ref (kb G + 40), .int (nI T.1), .int (F 12), .int (nI T.2.2.2.1), .int (F 14), .int (nI T.2.2.2.2.1), .int (F 16), .int (nI T.2.2.2.2.2), .int (F 18), .int (F 19), .int (F 20), .ref (kb G + 41), .ref (kb G + 42), .ref (kb G + 43), .ref (kb G + 44), .ref (kb G + 45), .ref (kb G + 46), .ref (kb G + 47), .ref (kb G + 48)]) := HO
  refine go_aload_n 0 (nx := 7) dX7_lastDay_6 rfl rfl rfl ?_
  refine go_Vi (nx := 10) [] kc_X7_167 ⟨_, _, rfl⟩ (by omega) hM (m_chosenNow hn HO HS hw hv (by omega) (by omega)) dX7_lastDay_7 rfl rfl (Nat.le_of_ble_eq_true rfl) (Nat.le_of_ble_eq_true rfl) ⟨Nat.le_refl _, Nat.le_refl _⟩ rfl (fun rh2 h2 hqh2 => ?_)
  obtain ⟨rfl, rfl⟩ := hqh2
  refine go_istore (lv' := [_, _, _, _, _]) (nx := 12) dX7_lastDay_10 (by decide) rfl rfl ?_
  refine go_aload_n 1 (nx := 13) dX7_lastDay_12 rfl rfl rfl ?_
  refine go_gf (nx := 16) fg_X7_41 dX7_lastDay_13 (by omega) hM rfl rfl ?_
  refine go_iload_n 3 (nx := 17) dX7_lastDay_16 rfl rfl rfl ?_
  refine go_bipush (v := (-9)) (nx := 19) dX7_lastDay_17 (by decide) rfl ?_
  refine go_ias (day) (nx := 20) dX7_lastDay_19 (by omega) hdo rfl (by omega) (by omega) rfl (fun h3 eh3 fh3 => ?_)
  have hM := (fh3 (37) (by omega)).trans hM
  have hdo := eh3
  have fx : kFr 48 49 _ h3 := fun j hj => fh3 j (by omega)
  have dF := dF.k fx (by omega)
  have hah := (fx 47 (by omega)).trans hah
  have HS := HS.fr fx (by omega)
  have HO := HO0.df dF
  refine go_iload 0 (nx := 22) dX7_lastDay_20 rfl rfl ?_
  refine go_aload_n 1 (nx := 23) dX7_lastDay_22 rfl rfl rfl ?_
  refine go_iload_n 2 (nx := 24) dX7_lastDay_23 rfl rfl rfl ?_
  refine go_iload_n 3 (nx := 25) dX7_lastDay_24 rfl rfl rfl ?_
  refine go_Vi (nx := 28) [_, _] kc_X7_197 ⟨_, _, rfl⟩ (by omega) hM (m_whoOf hn HO hP (by omega) rfl (by omega) rfl (by omega)) dX7_lastDay_25 rfl rfl (Nat.le_of_ble_eq_true rfl) (Nat.le_of_ble_eq_true rfl) ⟨Nat.le_refl _, Nat.le_refl _⟩ rfl (fun rh4 h4 hqh4 => ?_)
  obtain ⟨rfl, rfl⟩ := hqh4
  rw [← ew]
  refine go_icmp_ne 35 (nx := 31) dX7_lastDay_28 rfl rfl (fun c28 => ?_) (fun c28 => ?_)
  · skip
    refine go_iconst (v := nI 0) (nx := 36) dX7_lastDay_35 (by decide) rfl ?_
    refine go_iload_n 4 (nx := 37) dX7_lastDay_36 rfl rfl rfl ?_
    refine go_icmp_ne 44 (nx := 40) dX7_lastDay_37 rfl rfl (fun c37 => ?_) (fun c37 => ?_)
    · skip
      refine go_iconst (v := nI 0) (nx := 45) dX7_lastDay_44 (by decide) rfl ?_
      refine go_istore (lv' := [_, _, _, _, _, _]) (nx := 47) dX7_lastDay_45 (by decide) rfl rfl ?_
      refine go_iconst (v := nI 0) (nx := 48) dX7_lastDay_47 (by decide) rfl ?_
      refine go_istore (lv' := [_, _, _, _, _, _, _]) (nx := 50) dX7_lastDay_48 (by decide) rfl rfl ?_
      refine Go.sub [0, 2, 1, 3, 4, 5, 6] rfl ?_
      have hx0 : ((oc T ν.2.2.1 f0 wd (0) (day + 1) ν.1).1 == w) = false := beq_eq_false_iff_ne.mpr (fun z => c28 (congrArg nI z))
      have hx : nI 0 = bI ((oc T ν.2.2.1 f0 wd (0) (day + 1) ν.1).1 == w) := by rw [hx0]; rfl
      have eR := oc_n (K := ν.1) (C := ν.2.2.1) (r := 0) ew (so_f hx c37)
      exact l_lastDayN (wd := wd) hn HO0 hw hv hf hday hY ew (T.1 + 1) 0 _ _ _ (by omega) (by omega) HS hah hahK hah0 hdo pk_us dF eR
    · skip
      refine go_iconst (v := nI 1) (nx := 41) dX7_lastDay_40 (by decide) rfl ?_
      refine go_goto 45 dX7_lastDay_41 rfl ?_
      refine go_istore (lv' := [_, _, _, _, _, _]) (nx := 47) dX7_lastDay_45 (by decide) rfl rfl ?_
      refine go_iconst (v := nI 0) (nx := 48) dX7_lastDay_47 (by decide) rfl ?_
      refine go_istore (lv' := [_, _, _, _, _, _, _]) (nx := 50) dX7_lastDay_48 (by decide) rfl rfl ?_
      refine Go.sub [0, 2, 1, 3, 4, 5, 6] rfl ?_
      have hx0 : ((oc T ν.2.2.1 f0 wd (0) (day + 1) ν.1).1 == w) = false := beq_eq_false_iff_ne.mpr (fun z => c28 (congrArg nI z))
      have hx : nI 0 = bI ((oc T ν.2.2.1 f0 wd (0) (day + 1) ν.1).1 == w) := by rw [hx0]; rfl
      have eR := oc_y (K := ν.1) (C := ν.2.2.1) (r := 0) ew (so_t hx c37)
      have k := l_lastDayE (wd := wd) hn HO0 hw hv hf hday hY ew (o := 0) (by omega) HS hah hah0 hdo (by rw [eR]; exact pk_us) dF
      rw [eR] at k
      rw [eR]
      exact k
  · skip
    refine go_iconst (v := nI 1) (nx := 32) dX7_lastDay_31 (by decide) rfl ?_
    refine go_goto 36 dX7_lastDay_32 rfl ?_
    refine go_iload_n 4 (nx := 37) dX7_lastDay_36 rfl rfl rfl ?_
    refine go_icmp_ne 44 (nx := 40) dX7_lastDay_37 rfl rfl (fun c37 => ?_) (fun c37 => ?_)
    · skip
      refine go_iconst (v := nI 0) (nx := 45) dX7_lastDay_44 (by decide) rfl ?_
      refine go_istore (lv' := [_, _, _, _, _, _]) (nx := 47) dX7_lastDay_45 (by decide) rfl rfl ?_
      refine go_iconst (v := nI 0) (nx := 48) dX7_lastDay_47 (by decide) rfl ?_
      refine go_istore (lv' := [_, _, _, _, _, _, _]) (nx := 50) dX7_lastDay_48 (by decide) rfl rfl ?_
      refine Go.sub [0, 2, 1, 3, 4, 5, 6] rfl ?_
      have hx0 : ((oc T ν.2.2.1 f0 wd (0) (day + 1) ν.1).1 == w) = true := beq_iff_eq.mpr (keq c28 (Nat.lt_trans hlt (by omega)) (by omega))
      have hx : nI 1 = bI ((oc T ν.2.2.1 f0 wd (0) (day + 1) ν.1).1 == w) := by rw [hx0]; rfl
      have eR := oc_n (K := ν.1) (C := ν.2.2.1) (r := 0) ew (so_f hx c37)
      exact l_lastDayN (wd := wd) hn HO0 hw hv hf hday hY ew (T.1 + 1) 0 _ _ _ (by omega) (by omega) HS hah hahK hah0 hdo pk_us dF eR
    · skip
      refine go_iconst (v := nI 1) (nx := 41) dX7_lastDay_40 (by decide) rfl ?_
      refine go_goto 45 dX7_lastDay_41 rfl ?_
      refine go_istore (lv' := [_, _, _, _, _, _]) (nx := 47) dX7_lastDay_45 (by decide) rfl rfl ?_
      refine go_iconst (v := nI 0) (nx := 48) dX7_lastDay_47 (by decide) rfl ?_
      refine go_istore (lv' := [_, _, _, _, _, _, _]) (nx := 50) dX7_lastDay_48 (by decide) rfl rfl ?_
      refine Go.sub [0, 2, 1, 3, 4, 5, 6] rfl ?_
      have hx0 : ((oc T ν.2.2.1 f0 wd (0) (day + 1) ν.1).1 == w) = true := beq_iff_eq.mpr (keq c28 (Nat.lt_trans hlt (by omega)) (by omega))
      have hx : nI 1 = bI ((oc T ν.2.2.1 f0 wd (0) (day + 1) ν.1).1 == w) := by rw [hx0]; rfl
      have eR := oc_y (K := ν.1) (C := ν.2.2.1) (r := 0) ew (so_t hx c37)
      have k := l_lastDayE (wd := wd) hn HO0 hw hv hf hday hY ew (o := 0) (by omega) HS hah hah0 hdo (by rw [eR]; exact pk_us) dF
      rw [eR] at k
      rw [eR]
      exact k
