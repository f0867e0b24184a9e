/-! LeastKnown$Foretelling: the last days -/
def oc (T : mT) (C : Nat → Nat) (f : Nat) (wd : Bool) : Nat → Nat → mK → Nat × Option Nat
  | 0, _, K => (mChoose T K C, none)
  | r + 1, day, K =>
    if (((oc T C f wd r (day + 1) K).1 == (f + day) % T.1) == wd) = true then ((oc T C f wd r (day + 1) K).1, none) else
      match ffo (fun o => if o = (f + day) % T.1 then none else if (((oc T C f wd r (day + 1) (meetK K ((f + day) % T.1) o)).1 == (f + day) % T.1) == wd) = true then some (o, (oc T C f wd r (day + 1) (meetK K ((f + day) % T.1) o)).1) else none) T.1 0 with
      | some x => (x.2, some x.1)
      | none => ((oc T C f wd r (day + 1) K).1, none)
def actI (fa : Int32) : Option Nat → Int32
  | none => fa
  | some o => nI o
theorem oc_lt {T : mT} {C : Nat → Nat} {f : Nat} {wd : Bool} (hP0 : 0 < T.1) : ∀ {r day : Nat} {K : mK}, (oc T C f wd r day K).1 < T.1
  | 0, day, K => mChoose_lt hP0
  | r + 1, day, K => by
    simp only [oc]
    split
    · exact oc_lt hP0
    · split
      · rename_i x e
        obtain ⟨v, -, -, h3⟩ := ffo_mem e
        split at h3
        · cases h3
        · split at h3
          · cases h3
            exact oc_lt hP0
          · cases h3
      · exact oc_lt hP0
/-- who == caller, against would, as the code has it -/
theorem so_t {x c : Nat} {wd : Bool} {y : Int32} (h : y = bI (x == c)) (e : y = bI wd) : ((x == c) == wd) = true := by
  rw [h] at e
  cases h2 : (x == c) <;> cases wd <;> first | rfl | (rw [h2] at e; exact absurd e (by decide))
theorem so_f {x c : Nat} {wd : Bool} {y : Int32} (h : y = bI (x == c)) (e : ¬ y = bI wd) : ((x == c) == wd) = false := by
  rw [h] at e
  cases h2 : (x == c) <;> cases wd <;> first | rfl | (rw [h2] at e; exact absurd rfl e)
theorem l_out {G : kG} {n f t f0 r day days cl u0 : Nat} {h0 : kH} {ν : mN} {T : mT} {rw ru : Nat → Int32} {fa : Int32} {wd : Bool} (hf8 : f + 8 ≤ n) (ht : t + 3 ≤ n) (hd0 : t + 3 ≤ f ∨ f + 8 ≤ t) (hw : wT T) (hf0 : f0 < T.1) (hdd : day + (r + 1) = days) (h3 : days ≤ 3) (hcl : cl < T.1) (hv : wK T.1 ν.1) (ih0 : ∀ (ν : mN) (fa : Int32) (h : kH), wK T.1 ν.1 → oNow G (f + 2) ν h → oTown G t T h → rFore G f rw fa ru h → Spi G mX0_outcome (r + 3) [.ref (kb G + f), .ref (kb G + t), .int (nI f0), .int (bI wd), .int (nI (day + 1)), .int (nI days)] n h (fun v h' => v = nI (oc T ν.2.2.1 f0 wd (r) (day + 1) ν.1).1 ∧ oNow G (f + 2) ν h' ∧ rFore G f rw (if day + 1 = 0 then actI fa (oc T ν.2.2.1 f0 wd (r) (day + 1) ν.1).2 else fa) ru h' ∧ kFr f (f + 7) h h')) (hu0 : u0 < 8) : ∀ (d o : Nat) (h : kH), T.1 - o < d → o ≤ T.1 → oNow G (f + 2) ν h → oTown G t T h → rFore G f rw fa ru h → kFr f (f + 7) h0 h → oc T ν.2.2.1 f0 wd (r + 1) day ν.1 = (match ffo (fun o => if o = cl then none else if (((oc T ν.2.2.1 f0 wd r (day + 1) (meetK ν.1 cl o)).1 == cl) == wd) = true then some (o, (oc T ν.2.2.1 f0 wd r (day + 1) (meetK ν.1 cl o)).1) else none) (T.1 - o) o with | some x => (x.2, some x.1) | none => (u0, none)) → Go G mX0_outcome (r + 1 + 3, 0, 0) 72 [(8, .int (nI o)), (7, .int (nI u0)), (6, .int (nI cl)), (0, .ref (kb G + f)), (1, .ref (kb G + t)), (2, .int (nI f0)), (3, .int (bI wd)), (4, .int (nI day)), (5, .int (nI days))] [] (n, 0, 0) h (kQi mX0_outcome n (fun v h' => v = nI (oc T ν.2.2.1 f0 wd (r + 1) (day) ν.1).1 ∧ oNow G (f + 2) ν h' ∧ rFore G f rw (if day = 0 then actI fa (oc T ν.2.2.1 f0 wd (r + 1) (day) ν.1).2 else fa) ru h' ∧ kFr f (f + 7) h0 h')) := by
  intro d
  have hP8 := hw.1
  induction d with
  | zero => intro o h hd; omega
  | succ d ih =>
    intro o h hd ho H HT HF hF hb
    obtain ⟨kn, ct, si, cr, ⟨hN, hkn, hct, hsi, hcr⟩, hK, hC, hS, hR⟩ := id H
    obtain ⟨tk, tc, ⟨hT, htk, htc⟩, hTk, hTc⟩ := id HT
    obtain ⟨hf, hrw, hru⟩ := id HF
    refine go_iload 0 (nx := 74) dX0_outcome_72 rfl rfl ?_
    refine go_aload_n 4 (nx := 75) dX0_outcome_74 rfl rfl rfl ?_
    refine go_gf (nx := 78) fg_X0_55 dX0_outcome_75 (by omega) hT rfl rfl ?_
    refine go_icmp_ge 224 (nx := 81) dX0_outcome_78 rfl rfl (fun c78 => ?_) (fun c78 => ?_)
    · skip
      refine go_iload 1 (nx := 226) dX0_outcome_224 rfl rfl ?_
      refine go_reti dX0_outcome_226 ⟨_, rfl, rfl⟩ ?_
      have e8 : o = T.1 := by have := kle c78; omega
      subst e8
      rw [Nat.sub_self] at hb
      have e : oc T ν.2.2.1 f0 wd (r + 1) day ν.1 = (u0, none) := hb
      exact ⟨by rw [e], H, by rw [e]; split <;> exact HF, hF⟩
    · skip
      have h8 := knle c78
      have ho8 : o < 8 := by omega
      have hcl8 : cl < 8 := by omega
      refine go_iload 0 (nx := 83) dX0_outcome_81 rfl rfl ?_
      refine go_iload 2 (nx := 85) dX0_outcome_83 rfl rfl ?_
      refine go_icmp_ne 91 (nx := 88) dX0_outcome_85 rfl rfl (fun c85 => ?_) (fun c85 => ?_)
      · skip
        have hoc : ¬ o = cl := fun z => c85 (by rw [z])
        refine go_aload_n 3 (nx := 92) dX0_outcome_91 rfl rfl rfl ?_
        refine go_gf (nx := 95) fg_X0_18 dX0_outcome_92 (by omega) hf rfl rfl ?_
        refine go_gf (nx := 98) fg_X0_59 dX0_outcome_95 (by omega) hN rfl rfl ?_
        refine go_iload 2 (nx := 100) dX0_outcome_98 rfl rfl ?_
        refine go_SNi (nx := 103) [_, _] kc_X0_41 (s_at_in (by omega) hkn (by omega) rfl hcl8) dX0_outcome_100 rfl rfl (Nat.le_of_ble_eq_true rfl) (Nat.le_of_ble_eq_true rfl) ⟨Nat.le_refl _, Nat.le_refl _⟩ rfl (fun rh1 h1 hqh1 => ?_)
        obtain ⟨rfl, rfl⟩ := hqh1
        rw [hK cl hcl8]
        refine go_istore (lv' := [_, _, _, _, _, _, _, _, _, _]) (nx := 105) dX0_outcome_103 (by decide) rfl rfl ?_
        refine go_aload_n 4 (nx := 106) dX0_outcome_105 rfl rfl rfl ?_
        refine go_gf (nx := 109) fg_X0_18 dX0_outcome_106 (by omega) hf rfl rfl ?_
        refine go_gf (nx := 112) fg_X0_59 dX0_outcome_109 (by omega) hN rfl rfl ?_
        refine go_iload 1 (nx := 114) dX0_outcome_112 rfl rfl ?_
        refine go_SNi (nx := 117) [_, _] kc_X0_41 (s_at_in (by omega) hkn (by omega) rfl ho8) dX0_outcome_114 rfl rfl (Nat.le_of_ble_eq_true rfl) (Nat.le_of_ble_eq_true rfl) ⟨Nat.le_refl _, Nat.le_refl _⟩ rfl (fun rh2 h2 hqh2 => ?_)
        obtain ⟨rfl, rfl⟩ := hqh2
        rw [hK o ho8]
        refine go_istore (lv' := [_, _, _, _, _, _, _, _, _, _, _]) (nx := 119) dX0_outcome_117 (by decide) rfl rfl ?_
        refine go_aload_n 5 (nx := 120) dX0_outcome_119 rfl rfl rfl ?_
        refine go_gf (nx := 123) fg_X0_18 dX0_outcome_120 (by omega) hf rfl rfl ?_
        refine go_iload 4 (nx := 125) dX0_outcome_123 rfl rfl ?_
        refine go_iload 1 (nx := 127) dX0_outcome_125 rfl rfl ?_
        refine go_iconst (v := nI 1) (nx := 128) dX0_outcome_127 (by decide) rfl ?_
        refine go_iload 2 (nx := 130) dX0_outcome_128 rfl rfl ?_
        refine go_ishl (nx := 131) dX0_outcome_130 rfl ?_
        refine go_ior (nx := 132) dX0_outcome_131 rfl ?_
        refine go_Vv (nx := 135) [_, _] kc_X0_62 ⟨_, _, rfl⟩ (by omega) hN (s_setKnowers (w := col ν.1 cl ||| 2 ^ o) (by omega) ⟨hN, hkn, hct, hsi, hcr⟩ rfl hcl8 (by rw [i_set _ (col_lt _ _) o ho8]) (by rw [col, bits_set _ ho8]; exact bits_lt _)) dX0_outcome_132 rfl rfl (Nat.le_of_ble_eq_true rfl) (Nat.le_of_ble_eq_true rfl) ⟨Nat.le_refl _, Nat.le_refl _⟩ rfl (fun h3 hqh3 => ?_)
        obtain ⟨hR1, hFh3⟩ := hqh3
        have H := oNow_set (ν := ν) ho8 hR1 hK hC hS hR
        obtain ⟨kn, ct, si, cr, ⟨hN, hkn, hct, hsi, hcr⟩, hK, hC, hS, hR⟩ := id H
        have HT := HT.fr hFh3 (by omega)
        have HF := HF.fr hFh3 (by omega)
        obtain ⟨hf, hrw, hru⟩ := id HF
        obtain ⟨tk, tc, ⟨hT, htk, htc⟩, hTk, hTc⟩ := id HT
        have hF := hF.tr (hFh3.wide (by omega) (by omega))
        refine go_aload_n 5 (nx := 136) dX0_outcome_135 rfl rfl rfl ?_
        refine go_gf (nx := 139) fg_X0_18 dX0_outcome_136 (by omega) hf rfl rfl ?_
        refine go_iload 2 (nx := 141) dX0_outcome_139 rfl rfl ?_
        refine go_iload 0 (nx := 143) dX0_outcome_141 rfl rfl ?_
        refine go_iconst (v := nI 1) (nx := 144) dX0_outcome_143 (by decide) rfl ?_
        refine go_iload 4 (nx := 146) dX0_outcome_144 rfl rfl ?_
        refine go_ishl (nx := 147) dX0_outcome_146 rfl ?_
        refine go_ior (nx := 148) dX0_outcome_147 rfl ?_
        refine go_Vv (nx := 151) [_, _] kc_X0_62 ⟨_, _, rfl⟩ (by omega) hN (s_setKnowers (w := col (kSet ν.1 o cl) o ||| 2 ^ cl) (by omega) ⟨hN, hkn, hct, hsi, hcr⟩ rfl ho8 (by rw [i_set _ (col_lt _ _) cl hcl8, col_ne hoc]) (by rw [col, bits_set _ hcl8]; exact bits_lt _)) dX0_outcome_148 rfl rfl (Nat.le_of_ble_eq_true rfl) (Nat.le_of_ble_eq_true rfl) ⟨Nat.le_refl _, Nat.le_refl _⟩ rfl (fun h4 hqh4 => ?_)
        obtain ⟨hR1, hFh4⟩ := hqh4
        have H : oNow G (f + 2) (meetK ν.1 cl o, ν.2) h4 := oNow_set (ν := (kSet ν.1 o cl, ν.2)) hcl8 hR1 hK hC hS hR
        obtain ⟨kn, ct, si, cr, ⟨hN, hkn, hct, hsi, hcr⟩, hK, hC, hS, hR⟩ := id H
        have HT := HT.fr hFh4 (by omega)
        have HF := HF.fr hFh4 (by omega)
        obtain ⟨hf, hrw, hru⟩ := id HF
        obtain ⟨tk, tc, ⟨hT, htk, htc⟩, hTk, hTc⟩ := id HT
        have hF := hF.tr (hFh4.wide (by omega) (by omega))
        refine go_aload_n 5 (nx := 152) dX0_outcome_151 rfl rfl rfl ?_
        refine go_aload_n 6 (nx := 153) dX0_outcome_152 rfl rfl rfl ?_
        refine go_iload_n 7 (nx := 154) dX0_outcome_153 rfl rfl rfl ?_
        refine go_iload_n 8 (nx := 155) dX0_outcome_154 rfl rfl rfl ?_
        refine go_iload 9 (nx := 157) dX0_outcome_155 rfl rfl ?_
        refine go_iconst (v := nI 1) (nx := 158) dX0_outcome_157 (by decide) rfl ?_
        refine go_iadd (nx := 159) dX0_outcome_158 rfl ?_
        rw [nI_add]
        refine go_iload 10 (nx := 161) dX0_outcome_159 rfl rfl ?_
        refine go_Vi (nx := 164) [_, _, _, _, _] kc_X0_79 ⟨_, _, rfl⟩ (by omega) hf (ih0 (meetK ν.1 cl o, ν.2) fa _ (wK_meet hv hcl h8 (Ne.symm hoc)) H HT HF) dX0_outcome_161 rfl rfl (Nat.le_of_ble_eq_true rfl) (by show r + 3 + 1 ≤ r + 1 + 3; omega) ⟨Nat.le_refl _, Nat.le_refl _⟩ rfl (fun rh5 h5 hqh5 => ?_)
        obtain ⟨rfl, H, HF, hFh5⟩ := hqh5
        obtain ⟨kn, ct, si, cr, ⟨hN, hkn, hct, hsi, hcr⟩, hK, hC, hS, hR⟩ := id H
        rw [if_neg (by omega)] at HF
        have HT := HT.fr hFh5 (by omega)
        obtain ⟨hf, hrw, hru⟩ := id HF
        obtain ⟨tk, tc, ⟨hT, htk, htc⟩, hTk, hTc⟩ := id HT
        have hF := hF.tr hFh5
        refine go_istore (lv' := [_, _, _, _, _, _, _, _, _, _, _, _]) (nx := 166) dX0_outcome_164 (by decide) rfl rfl ?_
        refine go_aload_n 6 (nx := 167) dX0_outcome_166 rfl rfl rfl ?_
        refine go_gf (nx := 170) fg_X0_18 dX0_outcome_167 (by omega) hf rfl rfl ?_
        refine go_iload 5 (nx := 172) dX0_outcome_170 rfl rfl ?_
        refine go_iload 2 (nx := 174) dX0_outcome_172 rfl rfl ?_
        refine go_Vv (nx := 177) [_, _] kc_X0_62 ⟨_, _, rfl⟩ (by omega) hN (s_setKnowers (w := col ν.1 cl) (by omega) ⟨hN, hkn, hct, hsi, hcr⟩ rfl hcl8 rfl (col_lt _ _)) dX0_outcome_174 rfl rfl (Nat.le_of_ble_eq_true rfl) (Nat.le_of_ble_eq_true rfl) ⟨Nat.le_refl _, Nat.le_refl _⟩ rfl (fun h6 hqh6 => ?_)
        obtain ⟨hR1, hFh6⟩ := hqh6
        obtain ⟨hN, hkn, hct, hsi, hcr⟩ := id hR1
        have HT := HT.fr hFh6 (by omega)
        have HF := HF.fr hFh6 (by omega)
        obtain ⟨hf, hrw, hru⟩ := id HF
        obtain ⟨tk, tc, ⟨hT, htk, htc⟩, hTk, hTc⟩ := id HT
        have hF := hF.tr (hFh6.wide (by omega) (by omega))
        refine go_aload_n 6 (nx := 178) dX0_outcome_177 rfl rfl rfl ?_
        refine go_gf (nx := 181) fg_X0_18 dX0_outcome_178 (by omega) hf rfl rfl ?_
        refine go_iload 3 (nx := 183) dX0_outcome_181 rfl rfl ?_
        refine go_iload 1 (nx := 185) dX0_outcome_183 rfl rfl ?_
        refine go_Vv (nx := 188) [_, _] kc_X0_62 ⟨_, _, rfl⟩ (by omega) hN (s_setKnowers (w := col ν.1 o) (by omega) ⟨hN, hkn, hct, hsi, hcr⟩ rfl ho8 rfl (col_lt _ _)) dX0_outcome_185 rfl rfl (Nat.le_of_ble_eq_true rfl) (Nat.le_of_ble_eq_true rfl) ⟨Nat.le_refl _, Nat.le_refl _⟩ rfl (fun h7 hqh7 => ?_)
        obtain ⟨hR2, hFh7⟩ := hqh7
        have H : oNow G (f + 2) ν h7 := oNow_undo hR2 hK hC hS hR
        obtain ⟨kn, ct, si, cr, ⟨hN, hkn, hct, hsi, hcr⟩, hK, hC, hS, hR⟩ := id H
        have HT := HT.fr hFh7 (by omega)
        have HF := HF.fr hFh7 (by omega)
        obtain ⟨hf, hrw, hru⟩ := id HF
        obtain ⟨tk, tc, ⟨hT, htk, htc⟩, hTk, hTc⟩ := id HT
        have hF := hF.tr (hFh7.wide (by omega) (by omega))
        have hU : (oc T ν.2.2.1 f0 wd r (day + 1) (meetK ν.1 cl o)).1 < T.1 := oc_lt (by omega)
        refine go_iload 0 (nx := 190) dX0_outcome_188 rfl rfl ?_
        refine go_iload 5 (nx := 192) dX0_outcome_190 rfl rfl ?_
        refine go_icmp_ne 199 (nx := 195) dX0_outcome_192 rfl rfl (fun c192 => ?_) (fun c192 => ?_)
        · skip
          refine go_iconst (v := nI 0) (nx := 200) dX0_outcome_199 (by decide) rfl ?_
          refine go_iload_n 9 (nx := 201) dX0_outcome_200 rfl rfl rfl ?_
          refine go_icmp_ne 218 (nx := 204) dX0_outcome_201 rfl rfl (fun c201 => ?_) (fun c201 => ?_)
          · skip
            refine go_iinc 3 (v := nI (o + 1)) (lv' := [_, _, _, _, _, _, _, _, _, _, _, _]) (nx := 221) dX0_outcome_218 rfl (nI_inc o) (by decide) rfl rfl ?_
            refine go_goto 72 dX0_outcome_221 rfl ?_
            refine Go.sub [0, 4, 5, 6, 7, 8, 9, 10, 11] rfl ?_
            have z := so_f (x := (oc T ν.2.2.1 f0 wd r (day + 1) (meetK ν.1 cl o)).1) (c := cl) (wd := wd) (by show nI 0 = bI ((oc T ν.2.2.1 f0 wd r (day + 1) (meetK ν.1 cl o)).1 == cl); rw [show ((oc T ν.2.2.1 f0 wd r (day + 1) (meetK ν.1 cl o)).1 == cl) = false by simp; intro z; exact c192 (by rw [z])]; rfl) c201
            refine ih (o + 1) _ (by omega) (by omega) H HT HF hF (hb.trans ?_)
            rw [show T.1 - o = (T.1 - (o + 1)) + 1 by omega, ffo_none (by show (if _ then _ else _) = none; rw [if_neg hoc, z]; rfl)]
          · skip
            refine go_iload 10 (nx := 206) dX0_outcome_204 rfl rfl ?_
            refine go_if_ne 215 (nx := 209) dX0_outcome_206 rfl rfl (fun c206 => ?_) (fun c206 => ?_)
            · skip
              refine go_iload 0 (nx := 217) dX0_outcome_215 rfl rfl ?_
              refine go_reti dX0_outcome_217 ⟨_, rfl, rfl⟩ ?_
              have z := so_t (x := (oc T ν.2.2.1 f0 wd r (day + 1) (meetK ν.1 cl o)).1) (c := cl) (wd := wd) (by show nI 0 = bI ((oc T ν.2.2.1 f0 wd r (day + 1) (meetK ν.1 cl o)).1 == cl); rw [show ((oc T ν.2.2.1 f0 wd r (day + 1) (meetK ν.1 cl o)).1 == cl) = false by simp; intro z; exact c192 (by rw [z])]; rfl) c201
              have e : oc T ν.2.2.1 f0 wd (r + 1) day ν.1 = ((oc T ν.2.2.1 f0 wd r (day + 1) (meetK ν.1 cl o)).1, some o) := by
                rw [hb, show T.1 - o = (T.1 - (o + 1)) + 1 by omega, ffo_some (x := (o, (oc T ν.2.2.1 f0 wd r (day + 1) (meetK ν.1 cl o)).1)) (by show (if _ then _ else _) = _; rw [if_neg hoc, if_pos z])]
              have hd0' : ¬ day = 0 := fun q => c206 (by rw [q]; rfl)
              exact ⟨by rw [e], H, by rw [if_neg hd0']; exact HF, hF⟩
            · skip
              refine go_aload_n 6 (nx := 210) dX0_outcome_209 rfl rfl rfl ?_
              refine go_iload 3 (nx := 212) dX0_outcome_210 rfl rfl ?_
              refine go_pf (fs' := [_, _, _, _]) (nx := 215) (fp_X0_70 _) dX0_outcome_212 (by omega) hf (Nat.le_of_ble_eq_true rfl) ⟨rfl, rfl⟩ rfl rfl (fun h8 eh8 fh8 => ?_)
              have hN := (fh8 (f + 2) (by omega)).trans hN
              have hkn := (fh8 ((f + 2) + 1) (by omega)).trans hkn
              have hct := (fh8 ((f + 2) + 2) (by omega)).trans hct
              have hsi := (fh8 ((f + 2) + 3) (by omega)).trans hsi
              have hcr := (fh8 ((f + 2) + 4) (by omega)).trans hcr
              have hrw := (fh8 (f + 1) (by omega)).trans hrw
              have hru := (fh8 (f + 7) (by omega)).trans hru
              have hT := (fh8 (t) (by omega)).trans hT
              have htk := (fh8 (t + 1) (by omega)).trans htk
              have htc := (fh8 (t + 2) (by omega)).trans htc
              have hf := eh8
              refine go_iload 0 (nx := 217) dX0_outcome_215 rfl rfl ?_
              refine go_reti dX0_outcome_217 ⟨_, rfl, rfl⟩ ?_
              have z := so_t (x := (oc T ν.2.2.1 f0 wd r (day + 1) (meetK ν.1 cl o)).1) (c := cl) (wd := wd) (by show nI 0 = bI ((oc T ν.2.2.1 f0 wd r (day + 1) (meetK ν.1 cl o)).1 == cl); rw [show ((oc T ν.2.2.1 f0 wd r (day + 1) (meetK ν.1 cl o)).1 == cl) = false by simp; intro z; exact c192 (by rw [z])]; rfl) c201
              have e : oc T ν.2.2.1 f0 wd (r + 1) day ν.1 = ((oc T ν.2.2.1 f0 wd r (day + 1) (meetK ν.1 cl o)).1, some o) := by
                rw [hb, show T.1 - o = (T.1 - (o + 1)) + 1 by omega, ffo_some (x := (o, (oc T ν.2.2.1 f0 wd r (day + 1) (meetK ν.1 cl o)).1)) (by show (if _ then _ else _) = _; rw [if_neg hoc, if_pos z])]
              have hd0' : day = 0 := keq (b := 0) c206 (by omega) (by decide)
              have fx : kFr f (f + 1) _ h8 := fun j hj => fh8 j (by omega)
              refine ⟨by rw [e], H.fr fx (by omega), ?_, hF.tr (fx.wide (Nat.le_refl _) (by omega))⟩
              rw [e, if_pos hd0']
              exact ⟨hf, hrw, hru⟩
        · skip
          refine go_iconst (v := nI 1) (nx := 196) dX0_outcome_195 (by decide) rfl ?_
          refine go_goto 200 dX0_outcome_196 rfl ?_
          refine go_iload_n 9 (nx := 201) dX0_outcome_200 rfl rfl rfl ?_
          refine go_icmp_ne 218 (nx := 204) dX0_outcome_201 rfl rfl (fun c201 => ?_) (fun c201 => ?_)
          · skip
            refine go_iinc 3 (v := nI (o + 1)) (lv' := [_, _, _, _, _, _, _, _, _, _, _, _]) (nx := 221) dX0_outcome_218 rfl (nI_inc o) (by decide) rfl rfl ?_
            refine go_goto 72 dX0_outcome_221 rfl ?_
            refine Go.sub [0, 4, 5, 6, 7, 8, 9, 10, 11] rfl ?_
            have z := so_f (x := (oc T ν.2.2.1 f0 wd r (day + 1) (meetK ν.1 cl o)).1) (c := cl) (wd := wd) (by show nI 1 = bI ((oc T ν.2.2.1 f0 wd r (day + 1) (meetK ν.1 cl o)).1 == cl); rw [show ((oc T ν.2.2.1 f0 wd r (day + 1) (meetK ν.1 cl o)).1 == cl) = true by simp; exact keq c192 (by omega) (by omega)]; rfl) c201
            refine ih (o + 1) _ (by omega) (by omega) H HT HF hF (hb.trans ?_)
            rw [show T.1 - o = (T.1 - (o + 1)) + 1 by omega, ffo_none (by show (if _ then _ else _) = none; rw [if_neg hoc, z]; rfl)]
          · skip
            refine go_iload 10 (nx := 206) dX0_outcome_204 rfl rfl ?_
            refine go_if_ne 215 (nx := 209) dX0_outcome_206 rfl rfl (fun c206 => ?_) (fun c206 => ?_)
            · skip
              refine go_iload 0 (nx := 217) dX0_outcome_215 rfl rfl ?_
              refine go_reti dX0_outcome_217 ⟨_, rfl, rfl⟩ ?_
              have z := so_t (x := (oc T ν.2.2.1 f0 wd r (day + 1) (meetK ν.1 cl o)).1) (c := cl) (wd := wd) (by show nI 1 = bI ((oc T ν.2.2.1 f0 wd r (day + 1) (meetK ν.1 cl o)).1 == cl); rw [show ((oc T ν.2.2.1 f0 wd r (day + 1) (meetK ν.1 cl o)).1 == cl) = true by simp; exact keq c192 (by omega) (by omega)]; rfl) c201
              have e : oc T ν.2.2.1 f0 wd (r + 1) day ν.1 = ((oc T ν.2.2.1 f0 wd r (day + 1) (meetK ν.1 cl o)).1, some o) := by
                rw [hb, show T.1 - o = (T.1 - (o + 1)) + 1 by omega, ffo_some (x := (o, (oc T ν.2.2.1 f0 wd r (day + 1) (meetK ν.1 cl o)).1)) (by show (if _ then _ else _) = _; rw [if_neg hoc, if_pos z])]
              have hd0' : ¬ day = 0 := fun q => c206 (by rw [q]; rfl)
              exact ⟨by rw [e], H, by rw [if_neg hd0']; exact HF, hF⟩
            · skip
              refine go_aload_n 6 (nx := 210) dX0_outcome_209 rfl rfl rfl ?_
              refine go_iload 3 (nx := 212) dX0_outcome_210 rfl rfl ?_
              refine go_pf (fs' := [_, _, _, _]) (nx := 215) (fp_X0_70 _) dX0_outcome_212 (by omega) hf (Nat.le_of_ble_eq_true rfl) ⟨rfl, rfl⟩ rfl rfl (fun h8 eh8 fh8 => ?_)
              have hN := (fh8 (f + 2) (by omega)).trans hN
              have hkn := (fh8 ((f + 2) + 1) (by omega)).trans hkn
              have hct := (fh8 ((f + 2) + 2) (by omega)).trans hct
              have hsi := (fh8 ((f + 2) + 3) (by omega)).trans hsi
              have hcr := (fh8 ((f + 2) + 4) (by omega)).trans hcr
              have hrw := (fh8 (f + 1) (by omega)).trans hrw
              have hru := (fh8 (f + 7) (by omega)).trans hru
              have hT := (fh8 (t) (by omega)).trans hT
              have htk := (fh8 (t + 1) (by omega)).trans htk
              have htc := (fh8 (t + 2) (by omega)).trans htc
              have hf := eh8
              refine go_iload 0 (nx := 217) dX0_outcome_215 rfl rfl ?_
              refine go_reti dX0_outcome_217 ⟨_, rfl, rfl⟩ ?_
              have z := so_t (x := (oc T ν.2.2.1 f0 wd r (day + 1) (meetK ν.1 cl o)).1) (c := cl) (wd := wd) (by show nI 1 = bI ((oc T ν.2.2.1 f0 wd r (day + 1) (meetK ν.1 cl o)).1 == cl); rw [show ((oc T ν.2.2.1 f0 wd r (day + 1) (meetK ν.1 cl o)).1 == cl) = true by simp; exact keq c192 (by omega) (by omega)]; rfl) c201
              have e : oc T ν.2.2.1 f0 wd (r + 1) day ν.1 = ((oc T ν.2.2.1 f0 wd r (day + 1) (meetK ν.1 cl o)).1, some o) := by
                rw [hb, show T.1 - o = (T.1 - (o + 1)) + 1 by omega, ffo_some (x := (o, (oc T ν.2.2.1 f0 wd r (day + 1) (meetK ν.1 cl o)).1)) (by show (if _ then _ else _) = _; rw [if_neg hoc, if_pos z])]
              have hd0' : day = 0 := keq (b := 0) c206 (by omega) (by decide)
              have fx : kFr f (f + 1) _ h8 := fun j hj => fh8 j (by omega)
              refine ⟨by rw [e], H.fr fx (by omega), ?_, hF.tr (fx.wide (Nat.le_refl _) (by omega))⟩
              rw [e, if_pos hd0']
              exact ⟨hf, hrw, hru⟩
      · skip
        refine go_goto 218 dX0_outcome_88 rfl ?_
        refine go_iinc 0 (v := nI (o + 1)) (lv' := [_, _, _, _, _, _, _, _, _]) (nx := 221) dX0_outcome_218 rfl (nI_inc o) (by decide) rfl rfl ?_
        refine go_goto 72 dX0_outcome_221 rfl ?_
        refine Go.sub [0, 1, 2, 3, 4, 5, 6, 7, 8] rfl ?_
        have z := keq c85 (by omega) (by omega)
        refine ih (o + 1) _ (by omega) (by omega) H HT HF hF (hb.trans ?_)
        rw [show T.1 - o = (T.1 - (o + 1)) + 1 by omega, ffo_none (by show (if _ then _ else _) = none; rw [if_pos z])]
theorem s_out {G : kG} {n f t f0 days : Nat} {T : mT} {rw ru : Nat → Int32} {wd : Bool} (hf8 : f + 8 ≤ n) (ht : t + 3 ≤ n) (hd0 : t + 3 ≤ f ∨ f + 8 ≤ t) (hw : wT T) (hf0 : f0 < T.1) (h3 : days ≤ 3) : ∀ (r day : Nat), day + r = days → ∀ (ν : mN) (fa : Int32) (h : kH), wK T.1 ν.1 → oNow G (f + 2) ν h → oTown G t T h → rFore G f rw fa ru h → Spi G mX0_outcome (r + 3) [.ref (kb G + f), .ref (kb G + t), .int (nI f0), .int (bI wd), .int (nI day), .int (nI days)] n h (fun v h' => v = nI (oc T ν.2.2.1 f0 wd (r) (day) ν.1).1 ∧ oNow G (f + 2) ν h' ∧ rFore G f rw (if day = 0 then actI fa (oc T ν.2.2.1 f0 wd (r) (day) ν.1).2 else fa) ru h' ∧ kFr f (f + 7) h h') := by
  intro r
  have hP8 := hw.1
  induction r with
  | zero =>
    intro day hdd ν fa h hv H HT HF
    obtain ⟨kn, ct, si, cr, ⟨hN, hkn, hct, hsi, hcr⟩, hK, hC, hS, hR⟩ := id H
    obtain ⟨tk, tc, ⟨hT, htk, htc⟩, hTk, hTc⟩ := id HT
    obtain ⟨hf, hrw, hru⟩ := id HF
    refine Spi.of (by decide) (Nat.le_of_ble_eq_true rfl) ?_
    refine go_iload 4 (nx := 2) dX0_outcome_0 rfl rfl ?_
    refine go_iload 5 (nx := 4) dX0_outcome_2 rfl rfl ?_
    refine go_icmp_ge 15 (nx := 7) dX0_outcome_4 rfl rfl (fun c4 => ?_) (fun c4 => False.elim (c4 (nI_le (by omega) (by omega))))
    refine go_aload_n 1 (nx := 16) dX0_outcome_15 rfl rfl rfl ?_
    refine go_aload_n 0 (nx := 17) dX0_outcome_16 rfl rfl rfl ?_
    refine go_gf (nx := 20) fg_X0_18 dX0_outcome_17 (by omega) hf rfl rfl ?_
    refine go_Vi (nx := 23) [_] kc_X0_49 ⟨_, _, rfl⟩ (by omega) hT (s_choose (by omega) ht H HT hw hv (by omega)) dX0_outcome_20 rfl rfl (Nat.le_of_ble_eq_true rfl) (Nat.le_of_ble_eq_true rfl) ⟨Nat.le_refl _, Nat.le_refl _⟩ rfl (fun rh1 h1 hqh1 => ?_)
    obtain ⟨rfl, rfl⟩ := hqh1
    refine go_reti dX0_outcome_23 ⟨_, rfl, rfl⟩ ?_
    exact ⟨rfl, H, by split <;> exact HF, kFr.rf⟩
  | succ r ih =>
    intro day hdd ν fa h hv H HT HF
    obtain ⟨kn, ct, si, cr, ⟨hN, hkn, hct, hsi, hcr⟩, hK, hC, hS, hR⟩ := id H
    obtain ⟨tk, tc, ⟨hT, htk, htc⟩, hTk, hTc⟩ := id HT
    obtain ⟨hf, hrw, hru⟩ := id HF
    have hF : kFr f (f + 7) h h := kFr.rf
    refine Spi.of (by decide) (Nat.le_of_ble_eq_true rfl) ?_
    refine go_iload 4 (nx := 2) dX0_outcome_0 rfl rfl ?_
    refine go_iload 5 (nx := 4) dX0_outcome_2 rfl rfl ?_
    refine go_icmp_ge 15 (nx := 7) dX0_outcome_4 rfl rfl (fun c4 => False.elim (absurd (kle c4) (by omega))) (fun c4 => ?_)
    refine go_aload_n 1 (nx := 8) dX0_outcome_7 rfl rfl rfl ?_
    refine go_gf (nx := 11) fg_X0_55 dX0_outcome_8 (by omega) hT rfl rfl ?_
    refine go_iconst (v := nI 1) (nx := 12) dX0_outcome_11 (by decide) rfl ?_
    refine go_icmp_ge 24 (nx := 15) dX0_outcome_12 rfl rfl (fun c12 => ?_) (fun c12 => False.elim (c12 (nI_le (by omega) (by omega))))
    refine go_iload_n 2 (nx := 25) dX0_outcome_24 rfl rfl rfl ?_
    refine go_iload 4 (nx := 27) dX0_outcome_25 rfl rfl ?_
    refine go_iadd (nx := 28) dX0_outcome_27 rfl ?_
    rw [nI_add]
    refine go_aload_n 1 (nx := 29) dX0_outcome_28 rfl rfl rfl ?_
    refine go_gf (nx := 32) fg_X0_55 dX0_outcome_29 (by omega) hT rfl rfl ?_
    refine go_irem (nx := 33) dX0_outcome_32 (nI_ne0 (by omega) (by omega)) rfl ?_
    rw [pk_rem (by omega) (by omega) (by omega)]
    have hclP : (f0 + day) % T.1 < T.1 := Nat.mod_lt _ (by omega)
    refine go_istore (lv' := [_, _, _, _, _, _, _]) (nx := 35) dX0_outcome_33 (by decide) rfl rfl ?_
    refine go_aload_n 1 (nx := 36) dX0_outcome_35 rfl rfl rfl ?_
    refine go_aload_n 2 (nx := 37) dX0_outcome_36 rfl rfl rfl ?_
    refine go_iload_n 3 (nx := 38) dX0_outcome_37 rfl rfl rfl ?_
    refine go_iload_n 4 (nx := 39) dX0_outcome_38 rfl rfl rfl ?_
    refine go_iload 5 (nx := 41) dX0_outcome_39 rfl rfl ?_
    refine go_iconst (v := nI 1) (nx := 42) dX0_outcome_41 (by decide) rfl ?_
    refine go_iadd (nx := 43) dX0_outcome_42 rfl ?_
    rw [nI_add]
    refine go_iload 6 (nx := 45) dX0_outcome_43 rfl rfl ?_
    refine go_Vi (nx := 48) [_, _, _, _, _] kc_X0_79 ⟨_, _, rfl⟩ (by omega) hf (ih (day + 1) (by omega) ν fa _ hv H HT HF) dX0_outcome_45 rfl rfl (Nat.le_of_ble_eq_true rfl) (by show r + 3 + 1 ≤ r + 1 + 3; omega) ⟨Nat.le_refl _, Nat.le_refl _⟩ rfl (fun rh1 h1 hqh1 => ?_)
    obtain ⟨rfl, H, HF, hFh1⟩ := hqh1
    obtain ⟨kn, ct, si, cr, ⟨hN, hkn, hct, hsi, hcr⟩, hK, hC, hS, hR⟩ := id H
    rw [if_neg (by omega)] at HF
    have HT := HT.fr hFh1 (by omega)
    obtain ⟨hf, hrw, hru⟩ := id HF
    obtain ⟨tk, tc, ⟨hT, htk, htc⟩, hTk, hTc⟩ := id HT
    have hF := hF.tr hFh1
    refine go_istore (lv' := [_, _, _, _, _, _, _, _]) (nx := 50) dX0_outcome_48 (by decide) rfl rfl ?_
    have hU : (oc T ν.2.2.1 f0 wd r (day + 1) ν.1).1 < T.1 := oc_lt (by omega)
    refine go_iload 0 (nx := 52) dX0_outcome_50 rfl rfl ?_
    refine go_iload 1 (nx := 54) dX0_outcome_52 rfl rfl ?_
    refine go_icmp_ne 61 (nx := 57) dX0_outcome_54 rfl rfl (fun c54 => ?_) (fun c54 => ?_)
    · skip
      refine go_iconst (v := nI 0) (nx := 62) dX0_outcome_61 (by decide) rfl ?_
      refine go_iload_n 5 (nx := 63) dX0_outcome_62 rfl rfl rfl ?_
      refine go_icmp_ne 69 (nx := 66) dX0_outcome_63 rfl rfl (fun c63 => ?_) (fun c63 => ?_)
      · skip
        refine go_iconst (v := nI 0) (nx := 70) dX0_outcome_69 (by decide) rfl ?_
        refine go_istore (lv' := [_, _, _, _, _, _, _, _, _]) (nx := 72) dX0_outcome_70 (by decide) rfl rfl ?_
        refine Go.sub [0, 1, 2, 3, 4, 5, 6, 7, 8] rfl ?_
        have z := so_f (x := (oc T ν.2.2.1 f0 wd r (day + 1) ν.1).1) (c := ((f0 + day) % T.1)) (wd := wd) (by show nI 0 = bI ((oc T ν.2.2.1 f0 wd r (day + 1) ν.1).1 == ((f0 + day) % T.1)); rw [show ((oc T ν.2.2.1 f0 wd r (day + 1) ν.1).1 == ((f0 + day) % T.1)) = false by simp; intro z; exact c54 (by rw [z])]; rfl) c63
        refine l_out hf8 ht hd0 hw hf0 hdd h3 hclP hv (fun ν fa h q1 q2 q3 q4 => ih (day + 1) (by omega) ν fa h q1 q2 q3 q4) (by omega) (T.1 + 1) 0 _ (by omega) (by omega) H HT HF hF ?_
        simp only [oc]
        rw [if_neg (by rw [z]; decide)]
        rfl
      · skip
        refine go_iload 0 (nx := 68) dX0_outcome_66 rfl rfl ?_
        refine go_reti dX0_outcome_68 ⟨_, rfl, rfl⟩ ?_
        have z := so_t (x := (oc T ν.2.2.1 f0 wd r (day + 1) ν.1).1) (c := ((f0 + day) % T.1)) (wd := wd) (by show nI 0 = bI ((oc T ν.2.2.1 f0 wd r (day + 1) ν.1).1 == ((f0 + day) % T.1)); rw [show ((oc T ν.2.2.1 f0 wd r (day + 1) ν.1).1 == ((f0 + day) % T.1)) = false by simp; intro z; exact c54 (by rw [z])]; rfl) c63
        have e : oc T ν.2.2.1 f0 wd (r + 1) day ν.1 = ((oc T ν.2.2.1 f0 wd r (day + 1) ν.1).1, none) := by simp only [oc]; rw [if_pos z]
        exact ⟨by rw [e], H, by rw [e]; split <;> exact HF, hF⟩
    · skip
      refine go_iconst (v := nI 1) (nx := 58) dX0_outcome_57 (by decide) rfl ?_
      refine go_goto 62 dX0_outcome_58 rfl ?_
      refine go_iload_n 5 (nx := 63) dX0_outcome_62 rfl rfl rfl ?_
      refine go_icmp_ne 69 (nx := 66) dX0_outcome_63 rfl rfl (fun c63 => ?_) (fun c63 => ?_)
      · skip
        refine go_iconst (v := nI 0) (nx := 70) dX0_outcome_69 (by decide) rfl ?_
        refine go_istore (lv' := [_, _, _, _, _, _, _, _, _]) (nx := 72) dX0_outcome_70 (by decide) rfl rfl ?_
        refine Go.sub [0, 1, 2, 3, 4, 5, 6, 7, 8] rfl ?_
        have z := so_f (x := (oc T ν.2.2.1 f0 wd r (day + 1) ν.1).1) (c := ((f0 + day) % T.1)) (wd := wd) (by show nI 1 = bI ((oc T ν.2.2.1 f0 wd r (day + 1) ν.1).1 == ((f0 + day) % T.1)); rw [show ((oc T ν.2.2.1 f0 wd r (day + 1) ν.1).1 == ((f0 + day) % T.1)) = true by simp; exact keq c54 (by omega) (by omega)]; rfl) c63
        refine l_out hf8 ht hd0 hw hf0 hdd h3 hclP hv (fun ν fa h q1 q2 q3 q4 => ih (day + 1) (by omega) ν fa h q1 q2 q3 q4) (by omega) (T.1 + 1) 0 _ (by omega) (by omega) H HT HF hF ?_
        simp only [oc]
        rw [if_neg (by rw [z]; decide)]
        rfl
      · skip
        refine go_iload 0 (nx := 68) dX0_outcome_66 rfl rfl ?_
        refine go_reti dX0_outcome_68 ⟨_, rfl, rfl⟩ ?_
        have z := so_t (x := (oc T ν.2.2.1 f0 wd r (day + 1) ν.1).1) (c := ((f0 + day) % T.1)) (wd := wd) (by show nI 1 = bI ((oc T ν.2.2.1 f0 wd r (day + 1) ν.1).1 == ((f0 + day) % T.1)); rw [show ((oc T ν.2.2.1 f0 wd r (day + 1) ν.1).1 == ((f0 + day) % T.1)) = true by simp; exact keq c54 (by omega) (by omega)]; rfl) c63
        have e : oc T ν.2.2.1 f0 wd (r + 1) day ν.1 = ((oc T ν.2.2.1 f0 wd r (day + 1) ν.1).1, none) := by simp only [oc]; rw [if_pos z]
        exact ⟨by rw [e], H, by rw [e]; split <;> exact HF, hF⟩
theorem s_lastDays {G : kG} {n f t q f0 days : Nat} {h : kH} {ν : mN} {T : mT} {rw ru : Nat → Int32} {fa x y z : Int32} {wd : Bool} (hf8 : f + 8 ≤ n) (ht : t + 3 ≤ n) (hd0 : t + 3 ≤ f ∨ f + 8 ≤ t) (hw : wT T) (hf0 : f0 < T.1) (hv : wK T.1 ν.1) (h3 : days ≤ 3) (h1 : 1 ≤ days) (hq2 : q + 5 ≤ n) (hdq : q + 5 ≤ f ∨ f + 8 ≤ q) (HF : rFore G f rw fa ru h) (HA : aNow G (f + 2) h) (Hq : oNow G q ν h) (HT : oTown G t T h) (hx : x = nI days) (hy : y = nI f0) (hz : z = bI wd) : Spi G mX0_lastDays 7 [.ref (kb G + f), .ref (kb G + t), .ref (kb G + q), .int x, .int y, .int z] n h (fun v h' => v = nI (oc T ν.2.2.1 f0 wd days 0 ν.1).1 ∧ aNow G (f + 2) h' ∧ rFore G f rw (actI (-9) (oc T ν.2.2.1 f0 wd days 0 ν.1).2) ru h' ∧ kFr f (f + 7) h h') := by
  subst hx hy hz
  have HT' := HT
  obtain ⟨kn, ct, si, cr, rg, yr, la, HA⟩ := HA
  obtain ⟨hN, hkn, hct, hsi, hcr⟩ := id HA
  obtain ⟨hf, hrw, hru⟩ := id HF
  have hF : kFr (f + 2) (f + 7) h h := kFr.rf
  refine Spi.of (by decide) (Nat.le_of_ble_eq_true rfl) ?_
  refine go_aload_n 0 (nx := 1) dX0_lastDays_0 rfl rfl rfl ?_
  refine go_gf (nx := 4) fg_X0_18 dX0_lastDays_1 (by omega) hf rfl rfl ?_
  refine go_aload_n 2 (nx := 5) dX0_lastDays_4 rfl rfl rfl ?_
  refine go_Vv (nx := 8) [_] kc_X0_25 ⟨_, _, rfl⟩ (by omega) hN (s_copyFrom (by omega) hq2 (by omega) HA Hq) dX0_lastDays_5 rfl rfl (Nat.le_of_ble_eq_true rfl) (Nat.le_of_ble_eq_true rfl) ⟨Nat.le_refl _, Nat.le_refl _⟩ rfl (fun h1 hqh1 => ?_)
  obtain ⟨H, hFh1⟩ := hqh1
  have H' := H
  obtain ⟨kn, ct, si, cr, ⟨hN, hkn, hct, hsi, hcr⟩, hK, hC, hS, hR⟩ := H'
  have HT' := HT'.fr hFh1 (by omega)
  have HF := HF.fr hFh1 (by omega)
  obtain ⟨hf, hrw, hru⟩ := id HF
  have hF := hF.tr hFh1
  refine go_aload_n 0 (nx := 9) dX0_lastDays_8 rfl rfl rfl ?_
  refine go_bipush (v := (-9)) (nx := 11) dX0_lastDays_9 (by decide) rfl ?_
  refine go_pf (fs' := [_, _, _, _]) (nx := 14) (fp_X0_70 _) dX0_lastDays_11 (by omega) hf (Nat.le_of_ble_eq_true rfl) ⟨rfl, rfl⟩ rfl rfl (fun h2 eh2 fh2 => ?_)
  have hN := (fh2 (f + 2) (by omega)).trans hN
  have hkn := (fh2 ((f + 2) + 1) (by omega)).trans hkn
  have hct := (fh2 ((f + 2) + 2) (by omega)).trans hct
  have hsi := (fh2 ((f + 2) + 3) (by omega)).trans hsi
  have hcr := (fh2 ((f + 2) + 4) (by omega)).trans hcr
  have hrw := (fh2 (f + 1) (by omega)).trans hrw
  have hru := (fh2 (f + 7) (by omega)).trans hru
  have hf := eh2
  have fx : kFr f (f + 1) _ h2 := fun j hj => fh2 j (by omega)
  have H := H.fr fx (by omega)
  have HT' := HT'.fr fx (by omega)
  have HFx : rFore G f rw (-9) ru _ := ⟨hf, hrw, hru⟩
  have hFx := (hF.wide (show f ≤ f + 2 by omega) (Nat.le_refl _)).tr (fx.wide (Nat.le_refl _) (by omega))
  refine go_aload_n 0 (nx := 15) dX0_lastDays_14 rfl rfl rfl ?_
  refine go_aload_n 1 (nx := 16) dX0_lastDays_15 rfl rfl rfl ?_
  refine go_iload 4 (nx := 18) dX0_lastDays_16 rfl rfl ?_
  refine go_iload 5 (nx := 20) dX0_lastDays_18 rfl rfl ?_
  refine go_iconst (v := nI 0) (nx := 21) dX0_lastDays_20 (by decide) rfl ?_
  refine go_iload_n 3 (nx := 22) dX0_lastDays_21 rfl rfl rfl ?_
  refine go_iconst (v := nI 3) (nx := 23) dX0_lastDays_22 (by decide) rfl ?_
  refine go_mmin (nx := 26) kc_X0_73 dX0_lastDays_23 (Nat.le_of_ble_eq_true rfl) ⟨Nat.le_refl _, Nat.le_refl _⟩ rfl ?_
  rw [show (if nI 3 < nI days then nI 3 else nI days) = nI days from if_neg (fun z => by have := klt z; omega)]
  refine go_Vi (nx := 29) [_, _, _, _, _] kc_X0_79 ⟨_, _, rfl⟩ (by omega) hf (s_out hf8 ht hd0 hw hf0 h3 days 0 (by omega) ν (-9) _ hv H HT' HFx) dX0_lastDays_26 rfl rfl (Nat.le_of_ble_eq_true rfl) (by show days + 3 + 1 ≤ 7; omega) ⟨Nat.le_refl _, Nat.le_refl _⟩ rfl (fun rh3 h3 hqh3 => ?_)
  obtain ⟨rfl, H, HF, hFh3⟩ := hqh3
  rw [if_pos rfl] at HF
  have hF := hFx.tr hFh3
  refine go_reti dX0_lastDays_29 ⟨_, rfl, rfl⟩ ?_
  exact ⟨rfl, aNow.of H, HF, hF⟩
