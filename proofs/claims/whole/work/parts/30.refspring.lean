/-! the reference: a spring -/
def fgK (fo : Nat) (ν : mN) (k : Nat) : mK := fun x y => ν.1 x y && !(decide (0 < fo) && decide (8 * x + y < k) && fgC fo ν x y)
theorem fgK_step {P fo k : Nat} {ν : mN} (hP : P ≤ 8) (hv : wK P ν.1) (h : (decide (0 < fo) && fgC fo ν (k / 8) (k % 8)) = false) : fgK fo ν (k + 1) = fgK fo ν k := by
  funext x y
  unfold fgK
  cases e : ν.1 x y
  · rfl
  · have hy := (hv x y e).2.1
    by_cases hk : 8 * x + y = k
    · have h1 : k / 8 = x := by omega
      have h2 : k % 8 = y := by omega
      rw [h1, h2] at h
      have h3 : ∀ b : Bool, (decide (0 < fo) && b && fgC fo ν x y) = false := fun b => by
        cases z : decide (0 < fo)
        · rfl
        · rw [z] at h
          simp at h
          simp [h]
      rw [h3, h3]
    · rw [show decide (8 * x + y < k + 1) = decide (8 * x + y < k) by simp; omega]
theorem fgK_clr {P fo k : Nat} {ν : mN} (hP : P ≤ 8) (hv : wK P ν.1) (h : fgC fo ν (k / 8) (k % 8) = true) (h0 : 0 < fo) : fgK fo ν (k + 1) = kClr (fgK fo ν k) (k / 8) (k % 8) := by
  funext x y
  show (ν.1 x y && !(decide (0 < fo) && decide (8 * x + y < k + 1) && fgC fo ν x y)) = ((ν.1 x y && !(decide (0 < fo) && decide (8 * x + y < k) && fgC fo ν x y)) && !(x == k / 8 && y == k % 8))
  cases e : ν.1 x y
  · simp
  · have hy := (hv x y e).2.1
    by_cases hk : 8 * x + y = k
    · have h1 : k / 8 = x := by omega
      have h2 : k % 8 = y := by omega
      rw [h1, h2] at h
      simp [h1, h2, h, h0, hk]
    · rw [show decide (8 * x + y < k + 1) = decide (8 * x + y < k) by simp; omega]
      by_cases hx : x = k / 8
      · have hy2 : ¬ y = k % 8 := by omega
        simp [hy2]
      · simp [hx]
theorem row_clr {K : mK} {a b : Nat} (hb : b < 8) : row (kClr K a b) a = row K a &&& (255 - 2 ^ b) := by
  rw [row, row, bits_clr _ hb]
  exact bits_ext fun i _ => by simp [kClr]
theorem rowc_ne {K : mK} {a b c : Nat} (h : c ≠ a) : row (kClr K a b) c = row K c := bits_ext fun i _ => by simp [kClr, h]
theorem l_spr3 {G : kG} {n sz : Nat} {h0 : kH} {ν : mN} {T : mT} {tr : Int64} {F : Nat → Int32} {who : Nat} (hn : 49 ≤ n) (hw : wT T) (hv : wN T.1 ν) (hP0 : 0 < T.1) (μ : mN) (hwho : who = mWho T ν) (hμ : μ = mCrown T.1 (mWho T ν) (mCalls T T.1 ν)) (hK : wK T.1 μ.1) : ∀ (d k : Nat) (h : kH), 64 - k < d → k ≤ 64 → mO G F tr sz T h → oS G (fgK T.2.2.2.1 μ k, μ.2) h → kFr 41 42 h0 h → Go G mX7_springs (3, 0, 0) 107 [(2, .int (nI k)), (1, .int (nI who)), (0, .ref (kb G + 37))] [] (n, 0, 0) h (kQi mX7_springs n (fun v h' => v = nI (mWho T ν) ∧ oS G (mSpring T ν) h' ∧ kFr 41 42 h0 h')) := by
  intro d
  have hP := hw.1
  have hfo := hw.2.2.2.1
  induction d with
  | zero => intro k h hd; omega
  | succ d ih =>
    intro k h hd hk HO HS hF
    have hM : h 37 = .inr (7, [.int (F 0), .long tr, .ref (kb G + 38), .int (nI sz), .int (F 4), .int (F 5), .int (F 6), .int (F 7), .int (F 8), .ref (kb G + 39), .ref (kb G + 40), .int (nI T.1), .int (F 12), .int (nI T.2.2.2.1), .int (F 14), .int (nI T.2.2.2.2.1), .int (F 16), .int (nI T.2.2.2.2.2), .int (F 18), .int (F 19), .int (F 20), .ref (kb G + 41), .ref (kb G + 42), .ref (kb G + 43), .ref (kb G + 44), .ref (kb G + 45), .ref (kb G + 46), .ref (kb G + 47), .ref (kb G + 48)]) := HO
    obtain ⟨sa, hs, hs1, hs2, hs3, hs4, hs5⟩ := id HS
    refine go_iload_n 0 (nx := 108) dX7_springs_107 rfl rfl rfl ?_
    refine go_bipush (v := nI 64) (nx := 110) dX7_springs_108 (by decide) rfl ?_
    refine go_icmp_ge 170 (nx := 113) dX7_springs_110 rfl rfl (fun c110 => ?_) (fun c110 => ?_)
    · skip
      refine go_aload_n 2 (nx := 171) dX7_springs_170 rfl rfl rfl ?_
      refine go_gf (nx := 174) fg_X7_19 dX7_springs_171 (by omega) hM rfl rfl ?_
      refine go_bipush (v := nI 72) (nx := 176) dX7_springs_174 (by decide) rfl ?_
      refine go_dup2_11 (nx := 177) dX7_springs_176 rfl rfl rfl ?_
      refine go_ial (72) (nx := 178) dX7_springs_177 (by omega) hs rfl (by omega) (by omega) rfl ?_
      rw [hs3]
      refine go_iconst (v := nI 1) (nx := 179) dX7_springs_178 (by decide) rfl ?_
      refine go_iadd (nx := 180) dX7_springs_179 rfl ?_
      rw [nI_add]
      refine go_ias (72) (nx := 181) dX7_springs_180 (by omega) hs rfl (by omega) (by omega) rfl (fun h1 eh1 fh1 => ?_)
      have hM := (fh1 (37) (by omega)).trans hM
      have hs := eh1
      have hF := hF.tr (fun j hj => fh1 j (by omega))
      refine go_iload_n 1 (nx := 182) dX7_springs_181 rfl rfl rfl ?_
      refine go_reti dX7_springs_182 ⟨_, rfl, rfl⟩ ?_
      refine ⟨by rw [hwho], ?_, hF⟩
      have e8 : k = 64 := by have := kle c110; omega
      subst e8
      have e : mSpring T ν = (fgK T.2.2.2.1 μ 64, μ.2.1, μ.2.2.1, μ.2.2.2.1 + 1, μ.2.2.2.2) := by
        unfold mSpring
        simp only []
        rw [← hμ]
        by_cases z : 0 < T.2.2.2.1
        · rw [if_pos z]
          refine congrArg (·, _) (funext fun x => funext fun y => ?_)
          show (μ.1 x y && !_) = (μ.1 x y && !_)
          cases e : μ.1 x y
          · rfl
          · have h1 := (hK x y e).1
            have h2 := (hK x y e).2.1
            rw [show decide (0 < T.2.2.2.1) = true by simp [z], show decide (8 * x + y < 64) = true by simp; omega]
            rfl
        · rw [if_neg z]
          refine congrArg (·, _) (funext fun x => funext fun y => ?_)
          show μ.1 x y = (μ.1 x y && !_)
          rw [show decide (0 < T.2.2.2.1) = false by simp [z]]
          simp
      rw [e]
      refine ⟨_, hs, fun p hp => ?_, fun j hj => ?_, ?_, fun p hp => ?_, ?_⟩
      · rw [pk_un (by omega)]; exact hs1 p hp
      · rw [pk_un (by omega)]; exact hs2 j hj
      · rw [pk_us]
      · rw [pk_un (by omega)]; exact hs4 p hp
      · rw [pk_un (by omega)]; exact hs5
    · skip
      have h8 := knle c110
      refine go_aload_n 2 (nx := 114) dX7_springs_113 rfl rfl rfl ?_
      refine go_gf (nx := 117) fg_X7_140 dX7_springs_114 (by omega) hM rfl rfl ?_
      refine go_if_le 164 (nx := 120) dX7_springs_117 rfl rfl (fun c117 => ?_) (fun c117 => ?_)
      · skip
        skip
        refine go_iinc 0 (v := nI (k + 1)) (lv' := [_, _, _]) (nx := 167) dX7_springs_164 rfl (nI_inc k) (by decide) rfl rfl ?_
        refine go_goto 107 dX7_springs_167 rfl ?_
        refine Go.sub [0, 1, 2] rfl ?_
        have z := kle (b := 0) c117 (by omega) (by decide)
        have e := fgK_step (fo := T.2.2.2.1) (k := k) (ν := μ) hP hK (by rw [show decide (0 < T.2.2.2.1) = false by simp; omega]; rfl)
        refine ih (k + 1) _ (by omega) (by omega) HO ?_ hF
        rw [e]
        exact HS
      · skip
        refine go_aload_n 2 (nx := 121) dX7_springs_120 rfl rfl rfl ?_
        refine go_gf (nx := 124) fg_X7_19 dX7_springs_121 (by omega) hM rfl rfl ?_
        refine go_bipush (v := nI 72) (nx := 126) dX7_springs_124 (by decide) rfl ?_
        refine go_ial (72) (nx := 127) dX7_springs_126 (by omega) hs rfl (by omega) (by omega) rfl ?_
        rw [hs3]
        refine go_aload_n 2 (nx := 128) dX7_springs_127 rfl rfl rfl ?_
        refine go_gf (nx := 131) fg_X7_19 dX7_springs_128 (by omega) hM rfl rfl ?_
        refine go_bipush (v := nI 8) (nx := 133) dX7_springs_131 (by decide) rfl ?_
        refine go_iload_n 0 (nx := 134) dX7_springs_133 rfl rfl rfl ?_
        refine go_iadd (nx := 135) dX7_springs_134 rfl ?_
        refine go_ial (8 + k) (nx := 136) dX7_springs_135 (by omega) hs (by rw [nI_add]) (by omega) (by omega) rfl ?_
        rw [hs2 k h8]
        refine go_isub (nx := 137) dX7_springs_136 rfl ?_
        refine go_aload_n 2 (nx := 138) dX7_springs_137 rfl rfl rfl ?_
        refine go_gf (nx := 141) fg_X7_140 dX7_springs_138 (by omega) hM rfl rfl ?_
        refine go_icmp_lt 164 (nx := 144) dX7_springs_141 rfl rfl (fun c141 => ?_) (fun c141 => ?_)
        · skip
          skip
          refine go_iinc 0 (v := nI (k + 1)) (lv' := [_, _, _]) (nx := 167) dX7_springs_164 rfl (nI_inc k) (by decide) rfl rfl ?_
          refine go_goto 107 dX7_springs_167 rfl ?_
          refine Go.sub [0, 1, 2] rfl ?_
          have e := fgK_step (fo := T.2.2.2.1) (k := k) (ν := μ) hP hK (by rw [show fgC T.2.2.2.1 μ (k / 8) (k % 8) = false from decide_eq_false fun q => Int32.not_le.mpr c141 (by rw [show 8 * (k / 8) + k % 8 = k by omega] at q; exact q)]; simp)
          refine ih (k + 1) _ (by omega) (by omega) HO ?_ hF
          rw [e]
          exact HS
        · skip
          refine go_aload_n 2 (nx := 145) dX7_springs_144 rfl rfl rfl ?_
          refine go_gf (nx := 148) fg_X7_19 dX7_springs_145 (by omega) hM rfl rfl ?_
          refine go_iload_n 0 (nx := 149) dX7_springs_148 rfl rfl rfl ?_
          refine go_bipush (v := nI 8) (nx := 151) dX7_springs_149 (by decide) rfl ?_
          refine go_idiv (nx := 152) dX7_springs_151 (by decide) rfl ?_
          refine go_dup2_11 (nx := 153) dX7_springs_152 rfl rfl rfl ?_
          refine go_ial (k / 8) (nx := 154) dX7_springs_153 (by omega) hs (pk_div (by omega) (by decide) (by decide)) (by omega) (by omega) rfl ?_
          rw [hs1 (k / 8) (by omega)]
          refine go_iconst (v := nI 1) (nx := 155) dX7_springs_154 (by decide) rfl ?_
          refine go_iload_n 0 (nx := 156) dX7_springs_155 rfl rfl rfl ?_
          refine go_bipush (v := nI 8) (nx := 158) dX7_springs_156 (by decide) rfl ?_
          refine go_irem (nx := 159) dX7_springs_158 (by decide) rfl ?_
          rw [pk_rem (by omega) (by decide) (by decide)]
          refine go_ishl (nx := 160) dX7_springs_159 rfl ?_
          refine go_iconst (v := (-1)) (nx := 161) dX7_springs_160 (by decide) rfl ?_
          refine go_ixor (nx := 162) dX7_springs_161 rfl ?_
          refine go_iand (nx := 163) dX7_springs_162 rfl ?_
          rw [i_clr _ (row_lt _ _) (k % 8) (by omega)]
          refine go_ias (k / 8) (nx := 164) dX7_springs_163 (by omega) hs (pk_div (by omega) (by decide) (by decide)) (by omega) (by omega) rfl (fun h1 eh1 fh1 => ?_)
          have hM := (fh1 (37) (by omega)).trans hM
          have hs := eh1
          have hF := hF.tr (fun j hj => fh1 j (by omega))
          have HO : mO G F tr sz T h1 := hM
          refine go_iinc 0 (v := nI (k + 1)) (lv' := [_, _, _]) (nx := 167) dX7_springs_164 rfl (nI_inc k) (by decide) rfl rfl ?_
          refine go_goto 107 dX7_springs_167 rfl ?_
          refine Go.sub [0, 1, 2] rfl ?_
          have z := knle (b := 0) c117 (by omega) (by decide)
          have e := fgK_clr (fo := T.2.2.2.1) (k := k) (ν := μ) hP hK (decide_eq_true (by rw [show 8 * (k / 8) + k % 8 = k by omega]; exact Int32.not_lt.mp c141)) z
          refine ih (k + 1) _ (by omega) (by omega) HO ?_ hF
          rw [e]
          refine ⟨_, hs, fun p hp => ?_, fun j hj => ?_, ?_, fun p hp => ?_, ?_⟩
          · by_cases ep : p = k / 8
            · subst ep; rw [pk_us]; exact congrArg nI (row_clr (by omega)).symm
            · rw [pk_un ep, hs1 p hp]; exact congrArg nI (rowc_ne ep).symm
          · rw [pk_un (by omega)]; exact hs2 j hj
          · rw [pk_un (by omega)]; exact hs3
          · rw [pk_un (by omega)]; exact hs4 p hp
          · rw [pk_un (by omega)]; exact hs5
theorem l_spr2 {G : kG} {n sz : Nat} {h0 : kH} {ν : mN} {T : mT} {tr : Int64} {F : Nat → Int32} {who : Nat} (hn : 49 ≤ n) (hw : wT T) (hv : wN T.1 ν) (hP0 : 0 < T.1) (hwho : who = mWho T ν) : ∀ (d p : Nat) (h : kH), T.1 - p < d → p ≤ T.1 → mO G F tr sz T h → oS G (mHonour who p (mCalls T T.1 ν)) h → kFr 41 42 h0 h → Go G mX7_springs (3, 0, 0) 58 [(2, .int (nI p)), (1, .int (nI who)), (0, .ref (kb G + 37))] [] (n, 0, 0) h (kQi mX7_springs n (fun v h' => v = nI (mWho T ν) ∧ oS G (mSpring T ν) h' ∧ kFr 41 42 h0 h')) := by
  intro d
  have hP := hw.1
  have hwP : who < T.1 := by rw [hwho]; exact mChoose_lt hP0
  induction d with
  | zero => intro p h hd; omega
  | succ d ih =>
    intro p h hd hp HO HS hF
    have hM : h 37 = .inr (7, [.int (F 0), .long tr, .ref (kb G + 38), .int (nI sz), .int (F 4), .int (F 5), .int (F 6), .int (F 7), .int (F 8), .ref (kb G + 39), .ref (kb G + 40), .int (nI T.1), .int (F 12), .int (nI T.2.2.2.1), .int (F 14), .int (nI T.2.2.2.2.1), .int (F 16), .int (nI T.2.2.2.2.2), .int (F 18), .int (F 19), .int (F 20), .ref (kb G + 41), .ref (kb G + 42), .ref (kb G + 43), .ref (kb G + 44), .ref (kb G + 45), .ref (kb G + 46), .ref (kb G + 47), .ref (kb G + 48)]) := HO
    obtain ⟨sa, hs, hs1, hs2, hs3, hs4, hs5⟩ := id HS
    refine go_iload_n 0 (nx := 59) dX7_springs_58 rfl rfl rfl ?_
    refine go_aload_n 2 (nx := 60) dX7_springs_59 rfl rfl rfl ?_
    refine go_gf (nx := 63) fg_X7_137 dX7_springs_60 (by omega) hM rfl rfl ?_
    refine go_icmp_ge 84 (nx := 66) dX7_springs_63 rfl rfl (fun c63 => ?_) (fun c63 => ?_)
    · skip
      refine go_aload_n 2 (nx := 85) dX7_springs_84 rfl rfl rfl ?_
      refine go_gf (nx := 88) fg_X7_19 dX7_springs_85 (by omega) hM rfl rfl ?_
      refine go_bipush (v := nI 73) (nx := 90) dX7_springs_88 (by decide) rfl ?_
      refine go_iload_n 1 (nx := 91) dX7_springs_90 rfl rfl rfl ?_
      refine go_iadd (nx := 92) dX7_springs_91 rfl ?_
      refine go_dup2_11 (nx := 93) dX7_springs_92 rfl rfl rfl ?_
      refine go_ial (73 + who) (nx := 94) dX7_springs_93 (by omega) hs (by rw [nI_add]) (by omega) (by omega) rfl ?_
      rw [hs4 who (by omega)]
      refine go_iconst (v := nI 1) (nx := 95) dX7_springs_94 (by decide) rfl ?_
      refine go_iadd (nx := 96) dX7_springs_95 rfl ?_
      rw [nI_add]
      refine go_ias (73 + who) (nx := 97) dX7_springs_96 (by omega) hs (by rw [nI_add]) (by omega) (by omega) rfl (fun h1 eh1 fh1 => ?_)
      have hM := (fh1 (37) (by omega)).trans hM
      have hs := eh1
      have hF := hF.tr (fun j hj => fh1 j (by omega))
      refine go_aload_n 2 (nx := 98) dX7_springs_97 rfl rfl rfl ?_
      refine go_gf (nx := 101) fg_X7_19 dX7_springs_98 (by omega) hM rfl rfl ?_
      refine go_bipush (v := nI 81) (nx := 103) dX7_springs_101 (by decide) rfl ?_
      refine go_iload_n 1 (nx := 104) dX7_springs_103 rfl rfl rfl ?_
      refine go_ias (81) (nx := 105) dX7_springs_104 (by omega) hs rfl (by omega) (by omega) rfl (fun h2 eh2 fh2 => ?_)
      have hM := (fh2 (37) (by omega)).trans hM
      have hs := eh2
      have hF := hF.tr (fun j hj => fh2 j (by omega))
      refine go_iconst (v := nI 0) (nx := 106) dX7_springs_105 (by decide) rfl ?_
      refine go_istore_n (lv' := [_, _, _]) (nx := 107) dX7_springs_106 rfl (by decide) rfl rfl ?_
      refine Go.sub [0, 1, 2] rfl ?_
      have e8 : p = T.1 := by have := kle c63; omega
      subst e8
      have hc := wN_calls hw hv (Nat.le_refl _)
      have hh := wN_honour hc hwP (Nat.le_refl _)
      refine l_spr3 hn hw hv hP0 (mCrown T.1 who (mCalls T T.1 ν)) hwho (by rw [hwho]) hh.1 65 0 _ (by omega) (by omega) hM ?_ hF
      have e : fgK T.2.2.2.1 (mCrown T.1 who (mCalls T T.1 ν)) 0 = (mHonour who T.1 (mCalls T T.1 ν)).1 := by
        funext x y
        unfold fgK
        simp [mCrown]
      rw [e]
      refine ⟨_, hs, fun p hp => ?_, fun j hj => ?_, ?_, fun p hp => ?_, ?_⟩
      · rw [pk_un (by omega), pk_un (by omega)]; exact hs1 p hp
      · rw [pk_un (by omega), pk_un (by omega)]; exact hs2 j hj
      · rw [pk_un (by omega), pk_un (by omega)]; exact hs3
      · rw [pk_un (by omega)]
        show _ = nI (if p = who then _ + 1 else _)
        by_cases ep : p = who
        · subst ep; rw [pk_us, if_pos rfl]
        · rw [pk_un (by omega), if_neg ep]; exact hs4 p hp
      · rw [pk_us]; rfl
    · skip
      have h8 := knle c63
      refine go_iload_n 0 (nx := 67) dX7_springs_66 rfl rfl rfl ?_
      refine go_iload_n 1 (nx := 68) dX7_springs_67 rfl rfl rfl ?_
      refine go_icmp_eq 78 (nx := 71) dX7_springs_68 rfl rfl (fun c68 => ?_) (fun c68 => ?_)
      · skip
        refine go_iinc 0 (v := nI (p + 1)) (lv' := [_, _, _]) (nx := 81) dX7_springs_78 rfl (nI_inc p) (by decide) rfl rfl ?_
        refine go_goto 58 dX7_springs_81 rfl ?_
        refine Go.sub [0, 1, 2] rfl ?_
        refine ih (p + 1) _ (by omega) (by omega) HO ?_ hF
        simp only [mHonour]
        rw [if_pos (keq c68)]
        exact HS
      · skip
        refine go_aload_n 2 (nx := 72) dX7_springs_71 rfl rfl rfl ?_
        refine go_iload_n 0 (nx := 73) dX7_springs_72 rfl rfl rfl ?_
        refine go_iload_n 1 (nx := 74) dX7_springs_73 rfl rfl rfl ?_
        refine go_Vi (nx := 77) [_, _] kc_X7_171 ⟨_, _, rfl⟩ (by omega) hM (m_learns hn HO HS rfl (by omega) rfl (by omega)) dX7_springs_74 rfl rfl (Nat.le_of_ble_eq_true rfl) (Nat.le_of_ble_eq_true rfl) ⟨Nat.le_refl _, Nat.le_refl _⟩ rfl (fun rh1 h1 hqh1 => ?_)
        obtain ⟨-, HS, hFh1⟩ := hqh1
        have HO : mO G F tr sz T h1 := (hFh1 37 (by omega)).trans HO
        have hM := (hFh1 37 (by omega)).trans hM
        have hF := hF.tr hFh1
        obtain ⟨sa, hs, hs1, hs2, hs3, hs4, hs5⟩ := id HS
        refine go_pop (nx := 78) dX7_springs_77 rfl rfl ?_
        refine go_iinc 0 (v := nI (p + 1)) (lv' := [_, _, _]) (nx := 81) dX7_springs_78 rfl (nI_inc p) (by decide) rfl rfl ?_
        refine go_goto 58 dX7_springs_81 rfl ?_
        refine Go.sub [0, 1, 2] rfl ?_
        refine ih (p + 1) _ (by omega) (by omega) HO ?_ hF
        simp only [mHonour]
        rw [if_neg (fun e => c68 (by rw [e]))]
        exact HS
theorem l_spr1 {G : kG} {n sz : Nat} {h0 : kH} {ν : mN} {T : mT} {tr : Int64} {F : Nat → Int32} (hn : 49 ≤ n) (hw : wT T) (hv : wN T.1 ν) (hP0 : 0 < T.1) (hy : ν.2.2.2.1 < 2 ^ 30) : ∀ (d p : Nat) (h : kH), T.1 - p < d → p ≤ T.1 → mO G F tr sz T h → oHab G T h → oS G (mCalls T p ν) h → kFr 41 42 h0 h → Go G mX7_springs (3, 0, 0) 2 [(1, .int (nI p)), (0, .ref (kb G + 37))] [] (n, 0, 0) h (kQi mX7_springs n (fun v h' => v = nI (mWho T ν) ∧ oS G (mSpring T ν) h' ∧ kFr 41 42 h0 h')) := by
  intro d
  have hP := hw.1
  induction d with
  | zero => intro p h hd; omega
  | succ d ih =>
    intro p h hd hp HO HH HS hF
    have hM : h 37 = .inr (7, [.int (F 0), .long tr, .ref (kb G + 38), .int (nI sz), .int (F 4), .int (F 5), .int (F 6), .int (F 7), .int (F 8), .ref (kb G + 39), .ref (kb G + 40), .int (nI T.1), .int (F 12), .int (nI T.2.2.2.1), .int (F 14), .int (nI T.2.2.2.2.1), .int (F 16), .int (nI T.2.2.2.2.2), .int (F 18), .int (F 19), .int (F 20), .ref (kb G + 41), .ref (kb G + 42), .ref (kb G + 43), .ref (kb G + 44), .ref (kb G + 45), .ref (kb G + 46), .ref (kb G + 47), .ref (kb G + 48)]) := HO
    obtain ⟨sa, hs, hs1, hs2, hs3, hs4, hs5⟩ := id HS
    obtain ⟨hba, hhb, hha⟩ := id HH
    have hcy := mCalls_C (T := T) (ν := ν) T.1
    refine go_iload_n 0 (nx := 3) dX7_springs_2 rfl rfl rfl ?_
    refine go_aload_n 1 (nx := 4) dX7_springs_3 rfl rfl rfl ?_
    refine go_gf (nx := 7) fg_X7_137 dX7_springs_4 (by omega) hM rfl rfl ?_
    refine go_icmp_ge 51 (nx := 10) dX7_springs_7 rfl rfl (fun c7 => ?_) (fun c7 => ?_)
    · skip
      have e8 : p = T.1 := by have := kle c7; omega
      subst e8
      refine go_aload_n 1 (nx := 52) dX7_springs_51 rfl rfl rfl ?_
      refine go_Vi (nx := 55) [] kc_X7_167 ⟨_, _, rfl⟩ (by omega) hM (m_chosenNow hn HO HS hw (wN_calls hw hv (Nat.le_refl _)) hP0 (by rw [hcy]; omega)) dX7_springs_52 rfl rfl (Nat.le_of_ble_eq_true rfl) (Nat.le_of_ble_eq_true rfl) ⟨Nat.le_refl _, Nat.le_refl _⟩ rfl (fun rh1 h1 hqh1 => ?_)
      obtain ⟨rfl, rfl⟩ := hqh1
      refine go_istore_n (lv' := [_, _]) (nx := 56) dX7_springs_55 rfl (by decide) rfl rfl ?_
      refine go_iconst (v := nI 0) (nx := 57) dX7_springs_56 (by decide) rfl ?_
      refine go_istore_n (lv' := [_, _, _]) (nx := 58) dX7_springs_57 rfl (by decide) rfl rfl ?_
      refine Go.sub [0, 1, 2] rfl ?_
      exact l_spr2 hn hw hv hP0 rfl (T.1 + 1) 0 _ (by omega) (by omega) HO HS hF
    · skip
      have h8 := knle c7
      refine go_aload_n 1 (nx := 11) dX7_springs_10 rfl rfl rfl ?_
      refine go_gf (nx := 14) fg_X7_16 dX7_springs_11 (by omega) hM rfl rfl ?_
      refine go_iload_n 0 (nx := 15) dX7_springs_14 rfl rfl rfl ?_
      refine go_ial (p) (nx := 16) dX7_springs_15 (by omega) hhb rfl (by omega) (by omega) rfl ?_
      rw [hha p (by omega)]
      have hnn := hab_none (o := T.2.2.1 p) (fun b e => by have := hw.2.2.1 p b e; omega)
      refine go_bipush (v := (-9)) (nx := 18) dX7_springs_16 (by decide) rfl ?_
      refine go_icmp_eq 45 (nx := 21) dX7_springs_18 rfl rfl (fun c18 => ?_) (fun c18 => ?_)
      · skip
        refine go_iinc 0 (v := nI (p + 1)) (lv' := [_, _]) (nx := 48) dX7_springs_45 rfl (nI_inc p) (by decide) rfl rfl ?_
        refine go_goto 2 dX7_springs_48 rfl ?_
        refine Go.sub [0, 1] rfl ?_
        refine ih (p + 1) _ (by omega) (by omega) HO HH ?_ hF
        simp only [mCalls]
        rw [hnn.mp c18]
        exact HS
      · skip
        obtain ⟨b, eb⟩ : ∃ b, T.2.2.1 p = some b := by
          cases e : T.2.2.1 p with
          | none => exact absurd (hnn.mpr e) c18
          | some b => exact ⟨b, rfl⟩
        refine go_aload_n 1 (nx := 22) dX7_springs_21 rfl rfl rfl ?_
        refine go_iload_n 0 (nx := 23) dX7_springs_22 rfl rfl rfl ?_
        refine go_aload_n 1 (nx := 24) dX7_springs_23 rfl rfl rfl ?_
        refine go_gf (nx := 27) fg_X7_16 dX7_springs_24 (by omega) hM rfl rfl ?_
        refine go_iload_n 0 (nx := 28) dX7_springs_27 rfl rfl rfl ?_
        refine go_ial (p) (nx := 29) dX7_springs_28 (by omega) hhb rfl (by omega) (by omega) rfl ?_
        rw [hha p (by omega), eb, show hab (some b) = nI b from rfl]
        refine go_Vi (nx := 32) [_, _] kc_X7_171 ⟨_, _, rfl⟩ (by omega) hM (m_learns hn HO HS rfl (by omega) rfl (by have := hw.2.2.1 p b eb; omega)) dX7_springs_29 rfl rfl (Nat.le_of_ble_eq_true rfl) (Nat.le_of_ble_eq_true rfl) ⟨Nat.le_refl _, Nat.le_refl _⟩ rfl (fun rh1 h1 hqh1 => ?_)
        obtain ⟨-, HS, hFh1⟩ := hqh1
        have HO : mO G F tr sz T h1 := (hFh1 37 (by omega)).trans HO
        have hM := (hFh1 37 (by omega)).trans hM
        have hF := hF.tr hFh1
        obtain ⟨sa, hs, hs1, hs2, hs3, hs4, hs5⟩ := id HS
        have hhb := (hFh1 40 (by omega)).trans hhb
        refine go_pop (nx := 33) dX7_springs_32 rfl rfl ?_
        refine go_aload_n 1 (nx := 34) dX7_springs_33 rfl rfl rfl ?_
        refine go_aload_n 1 (nx := 35) dX7_springs_34 rfl rfl rfl ?_
        refine go_gf (nx := 38) fg_X7_16 dX7_springs_35 (by omega) hM rfl rfl ?_
        refine go_iload_n 0 (nx := 39) dX7_springs_38 rfl rfl rfl ?_
        refine go_ial (p) (nx := 40) dX7_springs_39 (by omega) hhb rfl (by omega) (by omega) rfl ?_
        rw [hha p (by omega), eb, show hab (some b) = nI b from rfl]
        refine go_iload_n 0 (nx := 41) dX7_springs_40 rfl rfl rfl ?_
        refine go_Vi (nx := 44) [_, _] kc_X7_171 ⟨_, _, rfl⟩ (by omega) hM (m_learns hn HO HS rfl (by have := hw.2.2.1 p b eb; omega) rfl (by omega)) dX7_springs_41 rfl rfl (Nat.le_of_ble_eq_true rfl) (Nat.le_of_ble_eq_true rfl) ⟨Nat.le_refl _, Nat.le_refl _⟩ rfl (fun rh2 h2 hqh2 => ?_)
        obtain ⟨-, HS, hFh2⟩ := hqh2
        have HO : mO G F tr sz T h2 := (hFh2 37 (by omega)).trans HO
        have hM := (hFh2 37 (by omega)).trans hM
        have hF := hF.tr hFh2
        obtain ⟨sa, hs, hs1, hs2, hs3, hs4, hs5⟩ := id HS
        have hhb := (hFh2 40 (by omega)).trans hhb
        refine go_pop (nx := 45) dX7_springs_44 rfl rfl ?_
        refine go_iinc 0 (v := nI (p + 1)) (lv' := [_, _]) (nx := 48) dX7_springs_45 rfl (nI_inc p) (by decide) rfl rfl ?_
        refine go_goto 2 dX7_springs_48 rfl ?_
        refine Go.sub [0, 1] rfl ?_
        refine ih (p + 1) _ (by omega) (by omega) HO ⟨hba, hhb, hha⟩ ?_ hF
        simp only [mCalls]
        rw [eb]
        exact HS
theorem m_springs {G : kG} {n sz : Nat} {h : kH} {ν : mN} {T : mT} {tr : Int64} {F : Nat → Int32} (hn : 49 ≤ n) (HO : mO G F tr sz T h) (HH : oHab G T h) (HS : oS G ν h) (hw : wT T) (hv : wN T.1 ν) (hP0 : 0 < T.1) (hy : ν.2.2.2.1 < 2 ^ 30) : Spi G mX7_springs 3 [.ref (kb G + 37)] n h (fun v h' => v = nI (mWho T ν) ∧ oS G (mSpring T ν) h' ∧ kFr 41 42 h h') := by
  refine Spi.of (by decide) (Nat.le_of_ble_eq_true rfl) ?_
  refine go_iconst (v := nI 0) (nx := 1) dX7_springs_0 (by decide) rfl ?_
  refine go_istore_n (lv' := [_, _]) (nx := 2) dX7_springs_1 rfl (by decide) rfl rfl ?_
  refine Go.sub [0, 1] rfl ?_
  exact l_spr1 hn hw hv hP0 hy (T.1 + 1) 0 h (by omega) (by omega) HO HH HS kFr.rf
