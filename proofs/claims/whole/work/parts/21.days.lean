/-! LeastKnown$Foretelling: the last days -/
def oc (T : mT) (C : Nat → Nat) (f : Nat) (wd : Bool) : Nat → Nat → mK → Nat × Option Nat
  | 0, _, K => (mChoose T K C, none)
  | r + 1, day, K =>
    if (((oc T C f wd r (day + 1) K).1 == (f + day) % T.1) == wd) = true then ((oc T C f wd r (day + 1) K).1, none) else
      match ffo (fun o => if o = (f + day) % T.1 then none else if (((oc T C f wd r (day + 1) (meetK K ((f + day) % T.1) o)).1 == (f + day) % T.1) == wd) = true then some (o, (oc T C f wd r (day + 1) (meetK K ((f + day) % T.1) o)).1) else none) T.1 0 with
      | some x => (x.2, some x.1)
      | none => ((oc T C f wd r (day + 1) K).1, none)
def actI (fa : Int32) : Option Nat → Int32
  | none => fa
  | some o => nI o
theorem oc_lt {T : mT} {C : Nat → Nat} {f : Nat} {wd : Bool} (hP0 : 0 < T.1) : ∀ {r day : Nat} {K : mK}, (oc T C f wd r day K).1 < T.1
  | 0, day, K => mChoose_lt hP0
  | r + 1, day, K => by
    simp only [oc]
    split
    · exact oc_lt hP0
    · split
      · rename_i x e
        obtain ⟨v, -, -, h3⟩ := ffo_mem e
        split at h3
        · cases h3
        · split at h3
          · cases h3
            exact oc_lt hP0
          · cases h3
      · exact oc_lt hP0
/-- who == caller, against would, as the code has it -/
theorem so_t {x c : Nat} {wd : Bool} {y : Int32} (h : y = bI (x == c)) (e : y = bI wd) : ((x == c) == wd) = true := by
  rw [h] at e
  cases h2 : (x == c) <;> cases wd <;> first | rfl | (rw [h2] at e; exact absurd e (by decide))
theorem so_f {x c : Nat} {wd : Bool} {y : Int32} (h : y = bI (x == c)) (e : ¬ y = bI wd) : ((x == c) == wd) = false := by
  rw [h] at e
  cases h2 : (x == c) <;> cases wd <;> first | rfl | (rw [h2] at e; exact absurd rfl e)
theorem l_out {G : kG} {n f t f0 r day days cl u0 : Nat} {h0 : kH} {ν : mN} {T : mT} {rw ru : Nat → Int32} {fa : Int32} {wd : Bool} (hf8 : f + 8 ≤ n) (ht : t + 3 ≤ n) (hd0 : t + 3 ≤ f ∨ f + 8 ≤ t) (hw : wT T) (hf0 : f0 < T.1) (hdd : day + (r + 1) = days) (h3 : days ≤ 3) (hcl : cl < T.1) (hv : wK T.1 ν.1) (ih0 : ∀ (ν : mN) (fa : Int32) (h : kH), wK T.1 ν.1 → oNow G (f + 2) ν h → oTown G t T h → rFore G f rw fa ru h → Spi G mX0_outcome (r + 3) [.ref (kb G + f), .ref (kb G + t), .int (nI f0), .int (bI wd), .int (nI (day + 1)), .int (nI days)] n h (fun v h' => v = nI (oc T ν.2.2.1 f0 wd (r) (day + 1) ν.1).1 ∧ oNow G (f + 2) ν h' ∧ rFore G f rw (if day + 1 = 0 then actI fa (oc T ν.2.2.1 f0 wd (r) (day + 1) ν.1).2 else fa) ru h' ∧ kFr f (f + 7) h h')) (hu0 : u0 < 8) : ∀ (d o : Nat) (h : kH), T.1 - o < d → o ≤ T.1 → oNow G (f + 2) ν h → oTown G t T h → rFore G f rw fa ru h → kFr f (f + 7) h0 h → oc T ν.2.2.1 f0 wd (r + 1) day ν.1 = (match ffo (fun o => if o = cl then none else if (((oc T ν.2.2.1 f0 wd r (day + 1) (meetK ν.1 cl o)).1 == cl) == wd) = true then some (o, (oc T ν.2.2.1 f0 wd r (day + 1) (meetK ν.1 cl o)).1) else none) (T.1 - o) o with | some x => (x.2, some x.1) | none => (u0, none)) → Go G mX0_outcome (r + 1 + 3, 0, 0) 76 [(9, .int (nI o)), (8, .int (nI u0)), (7, .int (nI cl)), (6, .ref (kb G + (f + 2))), (0, .ref (kb G + f)), (1, .ref (kb G + t)), (2, .int (nI f0)), (3, .int (bI wd)), (4, .int (nI day)), (5, .int (nI days))] [] (n, 0, 0) h (kQi mX0_outcome n (fun v h' => v = nI (oc T ν.2.2.1 f0 wd (r + 1) (day) ν.1).1 ∧ oNow G (f + 2) ν h' ∧ rFore G f rw (if day = 0 then actI fa (oc T ν.2.2.1 f0 wd (r + 1) (day) ν.1).2 else fa) ru h' ∧ kFr f (f + 7) h0 h')) := by
  intro d
  have hP8 := hw.1
  induction d with
  | zero => intro o h hd; omega
  | succ d ih =>
    intro o h hd ho H HT HF hF hb
    obtain ⟨kn, ct, si, cr, ⟨hN, hkn, hct, hsi, hcr⟩, hK, hC, hS, hR⟩ := id H
    obtain ⟨tk, tc, ⟨hT, htk, htc⟩, hTk, hTc⟩ := id HT
    obtain ⟨hf, hrw, hru⟩ := id HF
    refine go_iload 0 (nx := 78) dX0_outcome_76 rfl rfl ?_
    refine go_aload_n 5 (nx := 79) dX0_outcome_78 rfl rfl rfl ?_
    refine go_gf (nx := 82) fg_X0_55 dX0_outcome_79 (by omega) hT rfl rfl ?_
    refine go_icmp_ge 216 (nx := 85) dX0_outcome_82 rfl rfl (fun c82 => ?_) (fun c82 => ?_)
    · skip
      refine go_iload 1 (nx := 218) dX0_outcome_216 rfl rfl ?_
      refine go_reti dX0_outcome_218 ⟨_, rfl, rfl⟩ ?_
      have e8 : o = T.1 := by have := kle c82; omega
      subst e8
      rw [Nat.sub_self] at hb
      have e : oc T ν.2.2.1 f0 wd (r + 1) day ν.1 = (u0, none) := hb
      exact ⟨by rw [e], H, by rw [e]; split <;> exact HF, hF⟩
    · skip
      have h8 := knle c82
      have ho8 : o < 8 := by omega
      have hcl8 : cl < 8 := by omega
      refine go_iload 0 (nx := 87) dX0_outcome_85 rfl rfl ?_
      refine go_iload 2 (nx := 89) dX0_outcome_87 rfl rfl ?_
      refine go_icmp_ne 95 (nx := 92) dX0_outcome_89 rfl rfl (fun c89 => ?_) (fun c89 => ?_)
      · skip
        have hoc : ¬ o = cl := fun z => c89 (by rw [z])
        refine go_aload 3 (nx := 97) dX0_outcome_95 rfl rfl ?_
        refine go_gf (nx := 100) fg_X0_59 dX0_outcome_97 (by omega) hN rfl rfl ?_
        refine go_iload 2 (nx := 102) dX0_outcome_100 rfl rfl ?_
        refine go_SNi (nx := 105) [_, _] kc_X0_41 (s_at_in (by omega) hkn (by omega) rfl hcl8) dX0_outcome_102 rfl rfl (Nat.le_of_ble_eq_true rfl) (Nat.le_of_ble_eq_true rfl) ⟨Nat.le_refl _, Nat.le_refl _⟩ rfl (fun rh1 h1 hqh1 => ?_)
        obtain ⟨rfl, rfl⟩ := hqh1
        rw [hK cl hcl8]
        refine go_istore (lv' := [_, _, _, _, _, _, _, _, _, _, _]) (nx := 107) dX0_outcome_105 (by decide) rfl rfl ?_
        refine go_aload 4 (nx := 109) dX0_outcome_107 rfl rfl ?_
        refine go_gf (nx := 112) fg_X0_59 dX0_outcome_109 (by omega) hN rfl rfl ?_
        refine go_iload 1 (nx := 114) dX0_outcome_112 rfl rfl ?_
        refine go_SNi (nx := 117) [_, _] kc_X0_41 (s_at_in (by omega) hkn (by omega) rfl ho8) dX0_outcome_114 rfl rfl (Nat.le_of_ble_eq_true rfl) (Nat.le_of_ble_eq_true rfl) ⟨Nat.le_refl _, Nat.le_refl _⟩ rfl (fun rh2 h2 hqh2 => ?_)
        obtain ⟨rfl, rfl⟩ := hqh2
        rw [hK o ho8]
        refine go_istore (lv' := [_, _, _, _, _, _, _, _, _, _, _, _]) (nx := 119) dX0_outcome_117 (by decide) rfl rfl ?_
        refine go_aload 5 (nx := 121) dX0_outcome_119 rfl rfl ?_
        refine go_iload 4 (nx := 123) dX0_outcome_121 rfl rfl ?_
        refine go_iload 1 (nx := 125) dX0_outcome_123 rfl rfl ?_
        refine go_iconst (v := nI 1) (nx := 126) dX0_outcome_125 (by decide) rfl ?_
        refine go_iload 2 (nx := 128) dX0_outcome_126 rfl rfl ?_
        refine go_ishl (nx := 129) dX0_outcome_128 rfl ?_
        refine go_ior (nx := 130) dX0_outcome_129 rfl ?_
        refine go_Vv (nx := 133) [_, _] kc_X0_62 ⟨_, _, rfl⟩ (by omega) hN (s_setKnowers (w := col ν.1 cl ||| 2 ^ o) (by omega) ⟨hN, hkn, hct, hsi, hcr⟩ rfl hcl8 (by rw [i_set _ (col_lt _ _) o ho8]) (by rw [col, bits_set _ ho8]; exact bits_lt _)) dX0_outcome_130 rfl rfl (Nat.le_of_ble_eq_true rfl) (Nat.le_of_ble_eq_true rfl) ⟨Nat.le_refl _, Nat.le_refl _⟩ rfl (fun h3 hqh3 => ?_)
        obtain ⟨hR1, hFh3⟩ := hqh3
        have H := oNow_set (ν := ν) ho8 hR1 hK hC hS hR
        obtain ⟨kn, ct, si, cr, ⟨hN, hkn, hct, hsi, hcr⟩, hK, hC, hS, hR⟩ := id H
        have HT := HT.fr hFh3 (by omega)
        have HF := HF.fr hFh3 (by omega)
        obtain ⟨hf, hrw, hru⟩ := id HF
        obtain ⟨tk, tc, ⟨hT, htk, htc⟩, hTk, hTc⟩ := id HT
        have hF := hF.tr (hFh3.wide (by omega) (by omega))
        refine go_aload 5 (nx := 135) dX0_outcome_133 rfl rfl ?_
        refine go_iload 2 (nx := 137) dX0_outcome_135 rfl rfl ?_
        refine go_iload 0 (nx := 139) dX0_outcome_137 rfl rfl ?_
        refine go_iconst (v := nI 1) (nx := 140) dX0_outcome_139 (by decide) rfl ?_
        refine go_iload 4 (nx := 142) dX0_outcome_140 rfl rfl ?_
        refine go_ishl (nx := 143) dX0_outcome_142 rfl ?_
        refine go_ior (nx := 144) dX0_outcome_143 rfl ?_
        refine go_Vv (nx := 147) [_, _] kc_X0_62 ⟨_, _, rfl⟩ (by omega) hN (s_setKnowers (w := col (kSet ν.1 o cl) o ||| 2 ^ cl) (by omega) ⟨hN, hkn, hct, hsi, hcr⟩ rfl ho8 (by rw [i_set _ (col_lt _ _) cl hcl8, col_ne hoc]) (by rw [col, bits_set _ hcl8]; exact bits_lt _)) dX0_outcome_144 rfl rfl (Nat.le_of_ble_eq_true rfl) (Nat.le_of_ble_eq_true rfl) ⟨Nat.le_refl _, Nat.le_refl _⟩ rfl (fun h4 hqh4 => ?_)
        obtain ⟨hR1, hFh4⟩ := hqh4
        have H : oNow G (f + 2) (meetK ν.1 cl o, ν.2) h4 := oNow_set (ν := (kSet ν.1 o cl, ν.2)) hcl8 hR1 hK hC hS hR
        obtain ⟨kn, ct, si, cr, ⟨hN, hkn, hct, hsi, hcr⟩, hK, hC, hS, hR⟩ := id H
        have HT := HT.fr hFh4 (by omega)
        have HF := HF.fr hFh4 (by omega)
        obtain ⟨hf, hrw, hru⟩ := id HF
        obtain ⟨tk, tc, ⟨hT, htk, htc⟩, hTk, hTc⟩ := id HT
        have hF := hF.tr (hFh4.wide (by omega) (by omega))
        refine go_aload_n 6 (nx := 148) dX0_outcome_147 rfl rfl rfl ?_
        refine go_aload_n 7 (nx := 149) dX0_outcome_148 rfl rfl rfl ?_
        refine go_iload_n 8 (nx := 150) dX0_outcome_149 rfl rfl rfl ?_
        refine go_iload_n 9 (nx := 151) dX0_outcome_150 rfl rfl rfl ?_
        refine go_iload 10 (nx := 153) dX0_outcome_151 rfl rfl ?_
        refine go_iconst (v := nI 1) (nx := 154) dX0_outcome_153 (by decide) rfl ?_
        refine go_iadd (nx := 155) dX0_outcome_154 rfl ?_
        rw [nI_add]
        refine go_iload 11 (nx := 157) dX0_outcome_155 rfl rfl ?_
        refine go_Si (nx := 160) [_, _, _, _, _, _] kc_X0_79 (ih0 (meetK ν.1 cl o, ν.2) fa _ (wK_meet hv hcl h8 (Ne.symm hoc)) H HT HF) dX0_outcome_157 rfl rfl (Nat.le_of_ble_eq_true rfl) (by show r + 3 + 1 ≤ r + 1 + 3; omega) ⟨Nat.le_refl _, Nat.le_refl _⟩ rfl (fun rh5 h5 hqh5 => ?_)
        obtain ⟨rfl, H, HF, hFh5⟩ := hqh5
        obtain ⟨kn, ct, si, cr, ⟨hN, hkn, hct, hsi, hcr⟩, hK, hC, hS, hR⟩ := id H
        rw [if_neg (by omega)] at HF
        have HT := HT.fr hFh5 (by omega)
        obtain ⟨hf, hrw, hru⟩ := id HF
        obtain ⟨tk, tc, ⟨hT, htk, htc⟩, hTk, hTc⟩ := id HT
        have hF := hF.tr hFh5
        refine go_istore (lv' := [_, _, _, _, _, _, _, _, _, _, _, _, _]) (nx := 162) dX0_outcome_160 (by decide) rfl rfl ?_
        refine go_aload 6 (nx := 164) dX0_outcome_162 rfl rfl ?_
        refine go_iload 5 (nx := 166) dX0_outcome_164 rfl rfl ?_
        refine go_iload 2 (nx := 168) dX0_outcome_166 rfl rfl ?_
        refine go_Vv (nx := 171) [_, _] kc_X0_62 ⟨_, _, rfl⟩ (by omega) hN (s_setKnowers (w := col ν.1 cl) (by omega) ⟨hN, hkn, hct, hsi, hcr⟩ rfl hcl8 rfl (col_lt _ _)) dX0_outcome_168 rfl rfl (Nat.le_of_ble_eq_true rfl) (Nat.le_of_ble_eq_true rfl) ⟨Nat.le_refl _, Nat.le_refl _⟩ rfl (fun h6 hqh6 => ?_)
        obtain ⟨hR1, hFh6⟩ := hqh6
        obtain ⟨hN, hkn, hct, hsi, hcr⟩ := id hR1
        have HT := HT.fr hFh6 (by omega)
        have HF := HF.fr hFh6 (by omega)
        obtain ⟨hf, hrw, hru⟩ := id HF
        obtain ⟨tk, tc, ⟨hT, htk, htc⟩, hTk, hTc⟩ := id HT
        have hF := hF.tr (hFh6.wide (by omega) (by omega))
        refine go_aload 6 (nx := 173) dX0_outcome_171 rfl rfl ?_
        refine go_iload 3 (nx := 175) dX0_outcome_173 rfl rfl ?_
        refine go_iload 1 (nx := 177) dX0_outcome_175 rfl rfl ?_
        refine go_Vv (nx := 180) [_, _] kc_X0_62 ⟨_, _, rfl⟩ (by omega) hN (s_setKnowers (w := col ν.1 o) (by omega) ⟨hN, hkn, hct, hsi, hcr⟩ rfl ho8 rfl (col_lt _ _)) dX0_outcome_177 rfl rfl (Nat.le_of_ble_eq_true rfl) (Nat.le_of_ble_eq_true rfl) ⟨Nat.le_refl _, Nat.le_refl _⟩ rfl (fun h7 hqh7 => ?_)
        obtain ⟨hR2, hFh7⟩ := hqh7
        have H : oNow G (f + 2) ν h7 := oNow_undo hR2 hK hC hS hR
        obtain ⟨kn, ct, si, cr, ⟨hN, hkn, hct, hsi, hcr⟩, hK, hC, hS, hR⟩ := id H
        have HT := HT.fr hFh7 (by omega)
        have HF := HF.fr hFh7 (by omega)
        obtain ⟨hf, hrw, hru⟩ := id HF
        obtain ⟨tk, tc, ⟨hT, htk, htc⟩, hTk, hTc⟩ := id HT
        have hF := hF.tr (hFh7.wide (by omega) (by omega))
        have hU : (oc T ν.2.2.1 f0 wd r (day + 1) (meetK ν.1 cl o)).1 < T.1 := oc_lt (by omega)
        refine go_iload 0 (nx := 182) dX0_outcome_180 rfl rfl ?_
        refine go_iload 5 (nx := 184) dX0_outcome_182 rfl rfl ?_
        refine go_icmp_ne 191 (nx := 187) dX0_outcome_184 rfl rfl (fun c184 => ?_) (fun c184 => ?_)
        · skip
          refine go_iconst (v := nI 0) (nx := 192) dX0_outcome_191 (by decide) rfl ?_
          refine go_iload_n 10 (nx := 193) dX0_outcome_192 rfl rfl rfl ?_
          refine go_icmp_ne 210 (nx := 196) dX0_outcome_193 rfl rfl (fun c193 => ?_) (fun c193 => ?_)
          · skip
            refine go_iinc 3 (v := nI (o + 1)) (lv' := [_, _, _, _, _, _, _, _, _, _, _, _, _]) (nx := 213) dX0_outcome_210 rfl (nI_inc o) (by decide) rfl rfl ?_
            refine go_goto 76 dX0_outcome_213 rfl ?_
            refine Go.sub [0, 4, 5, 6, 7, 8, 9, 10, 11, 12] rfl ?_
            have z := so_f (x := (oc T ν.2.2.1 f0 wd r (day + 1) (meetK ν.1 cl o)).1) (c := cl) (wd := wd) (by show nI 0 = bI ((oc T ν.2.2.1 f0 wd r (day + 1) (meetK ν.1 cl o)).1 == cl); rw [show ((oc T ν.2.2.1 f0 wd r (day + 1) (meetK ν.1 cl o)).1 == cl) = false by simp; intro z; exact c184 (by rw [z])]; rfl) c193
            refine ih (o + 1) _ (by omega) (by omega) H HT HF hF (hb.trans ?_)
            rw [show T.1 - o = (T.1 - (o + 1)) + 1 by omega, ffo_none (by show (if _ then _ else _) = none; rw [if_neg hoc, z]; rfl)]
          · skip
            refine go_iload 11 (nx := 198) dX0_outcome_196 rfl rfl ?_
            refine go_if_ne 207 (nx := 201) dX0_outcome_198 rfl rfl (fun c198 => ?_) (fun c198 => ?_)
            · skip
              refine go_iload 0 (nx := 209) dX0_outcome_207 rfl rfl ?_
              refine go_reti dX0_outcome_209 ⟨_, rfl, rfl⟩ ?_
              have z := so_t (x := (oc T ν.2.2.1 f0 wd r (day + 1) (meetK ν.1 cl o)).1) (c := cl) (wd := wd) (by show nI 0 = bI ((oc T ν.2.2.1 f0 wd r (day + 1) (meetK ν.1 cl o)).1 == cl); rw [show ((oc T ν.2.2.1 f0 wd r (day + 1) (meetK ν.1 cl o)).1 == cl) = false by simp; intro z; exact c184 (by rw [z])]; rfl) c193
              have e : oc T ν.2.2.1 f0 wd (r + 1) day ν.1 = ((oc T ν.2.2.1 f0 wd r (day + 1) (meetK ν.1 cl o)).1, some o) := by
                rw [hb, show T.1 - o = (T.1 - (o + 1)) + 1 by omega, ffo_some (x := (o, (oc T ν.2.2.1 f0 wd r (day + 1) (meetK ν.1 cl o)).1)) (by show (if _ then _ else _) = _; rw [if_neg hoc, if_pos z])]
              have hd0' : ¬ day = 0 := fun q => c198 (by rw [q]; rfl)
              exact ⟨by rw [e], H, by rw [if_neg hd0']; exact HF, hF⟩
            · skip
              refine go_aload_n 7 (nx := 202) dX0_outcome_201 rfl rfl rfl ?_
              refine go_iload 3 (nx := 204) dX0_outcome_202 rfl rfl ?_
              refine go_pf (fs' := [_, _, _, _]) (nx := 207) (fp_X0_70 _) dX0_outcome_204 (by omega) hf (Nat.le_of_ble_eq_true rfl) ⟨rfl, rfl⟩ rfl rfl (fun h8 eh8 fh8 => ?_)
              have hN := (fh8 (f + 2) (by omega)).trans hN
              have hkn := (fh8 ((f + 2) + 1) (by omega)).trans hkn
              have hct := (fh8 ((f + 2) + 2) (by omega)).trans hct
              have hsi := (fh8 ((f + 2) + 3) (by omega)).trans hsi
              have hcr := (fh8 ((f + 2) + 4) (by omega)).trans hcr
              have hrw := (fh8 (f + 1) (by omega)).trans hrw
              have hru := (fh8 (f + 7) (by omega)).trans hru
              have hT := (fh8 (t) (by omega)).trans hT
              have htk := (fh8 (t + 1) (by omega)).trans htk
              have htc := (fh8 (t + 2) (by omega)).trans htc
              have hf := eh8
              refine go_iload 0 (nx := 209) dX0_outcome_207 rfl rfl ?_
              refine go_reti dX0_outcome_209 ⟨_, rfl, rfl⟩ ?_
              have z := so_t (x := (oc T ν.2.2.1 f0 wd r (day + 1) (meetK ν.1 cl o)).1) (c := cl) (wd := wd) (by show nI 0 = bI ((oc T ν.2.2.1 f0 wd r (day + 1) (meetK ν.1 cl o)).1 == cl); rw [show ((oc T ν.2.2.1 f0 wd r (day + 1) (meetK ν.1 cl o)).1 == cl) = false by simp; intro z; exact c184 (by rw [z])]; rfl) c193
              have e : oc T ν.2.2.1 f0 wd (r + 1) day ν.1 = ((oc T ν.2.2.1 f0 wd r (day + 1) (meetK ν.1 cl o)).1, some o) := by
                rw [hb, show T.1 - o = (T.1 - (o + 1)) + 1 by omega, ffo_some (x := (o, (oc T ν.2.2.1 f0 wd r (day + 1) (meetK ν.1 cl o)).1)) (by show (if _ then _ else _) = _; rw [if_neg hoc, if_pos z])]
              have hd0' : day = 0 := keq (b := 0) c198 (by omega) (by decide)
              have fx : kFr f (f + 1) _ h8 := fun j hj => fh8 j (by omega)
              refine ⟨by rw [e], H.fr fx (by omega), ?_, hF.tr (fx.wide (Nat.le_refl _) (by omega))⟩
              rw [e, if_pos hd0']
              exact ⟨hf, hrw, hru⟩
        · skip
          refine go_iconst (v := nI 1) (nx := 188) dX0_outcome_187 (by decide) rfl ?_
          refine go_goto 192 dX0_outcome_188 rfl ?_
          refine go_iload_n 10 (nx := 193) dX0_outcome_192 rfl rfl rfl ?_
          refine go_icmp_ne 210 (nx := 196) dX0_outcome_193 rfl rfl (fun c193 => ?_) (fun c193 => ?_)
          · skip
            refine go_iinc 3 (v := nI (o + 1)) (lv' := [_, _, _, _, _, _, _, _, _, _, _, _, _]) (nx := 213) dX0_outcome_210 rfl (nI_inc o) (by decide) rfl rfl ?_
            refine go_goto 76 dX0_outcome_213 rfl ?_
            refine Go.sub [0, 4, 5, 6, 7, 8, 9, 10, 11, 12] rfl ?_
            have z := so_f (x := (oc T ν.2.2.1 f0 wd r (day + 1) (meetK ν.1 cl o)).1) (c := cl) (wd := wd) (by show nI 1 = bI ((oc T ν.2.2.1 f0 wd r (day + 1) (meetK ν.1 cl o)).1 == cl); rw [show ((oc T ν.2.2.1 f0 wd r (day + 1) (meetK ν.1 cl o)).1 == cl) = true by simp; exact keq c184 (by omega) (by omega)]; rfl) c193
            refine ih (o + 1) _ (by omega) (by omega) H HT HF hF (hb.trans ?_)
            rw [show T.1 - o = (T.1 - (o + 1)) + 1 by omega, ffo_none (by show (if _ then _ else _) = none; rw [if_neg hoc, z]; rfl)]
          · skip
            refine go_iload 11 (nx := 198) dX0_outcome_196 rfl rfl ?_
            refine go_if_ne 207 (nx := 201) dX0_outcome_198 rfl rfl (fun c198 => ?_) (fun c198 => ?_)
            · skip
              refine go_iload 0 (nx := 209) dX0_outcome_207 rfl rfl ?_
              refine go_reti dX0_outcome_209 ⟨_, rfl, rfl⟩ ?_
              have z := so_t (x := (oc T ν.2.2.1 f0 wd r (day + 1) (meetK ν.1 cl o)).1) (c := cl) (wd := wd) (by show nI 1 = bI ((oc T ν.2.2.1 f0 wd r (day + 1) (meetK ν.1 cl o)).1 == cl); rw [show ((oc T ν.2.2.1 f0 wd r (day + 1) (meetK ν.1 cl o)).1 == cl) = true by simp; exact keq c184 (by omega) (by omega)]; rfl) c193
              have e : oc T ν.2.2.1 f0 wd (r + 1) day ν.1 = ((oc T ν.2.2.1 f0 wd r (day + 1) (meetK ν.1 cl o)).1, some o) := by
                rw [hb, show T.1 - o = (T.1 - (o + 1)) + 1 by omega, ffo_some (x := (o, (oc T ν.2.2.1 f0 wd r (day + 1) (meetK ν.1 cl o)).1)) (by show (if _ then _ else _) = _; rw [if_neg hoc, if_pos z])]
              have hd0' : ¬ day = 0 := fun q => c198 (by rw [q]; rfl)
              exact ⟨by rw [e], H, by rw [if_neg hd0']; exact HF, hF⟩
            · skip
              refine go_aload_n 7 (nx := 202) dX0_outcome_201 rfl rfl rfl ?_
              refine go_iload 3 (nx := 204) dX0_outcome_202 rfl rfl ?_
              refine go_pf (fs' := [_, _, _, _]) (nx := 207) (fp_X0_70 _) dX0_outcome_204 (by omega) hf (Nat.le_of_ble_eq_true rfl) ⟨rfl, rfl⟩ rfl rfl (fun h8 eh8 fh8 => ?_)
              have hN := (fh8 (f + 2) (by omega)).trans hN
              have hkn := (fh8 ((f + 2) + 1) (by omega)).trans hkn
              have hct := (fh8 ((f + 2) + 2) (by omega)).trans hct
              have hsi := (fh8 ((f + 2) + 3) (by omega)).trans hsi
              have hcr := (fh8 ((f + 2) + 4) (by omega)).trans hcr
              have hrw := (fh8 (f + 1) (by omega)).trans hrw
              have hru := (fh8 (f + 7) (by omega)).trans hru
              have hT := (fh8 (t) (by omega)).trans hT
              have htk := (fh8 (t + 1) (by omega)).trans htk
              have htc := (fh8 (t + 2) (by omega)).trans htc
              have hf := eh8
              refine go_iload 0 (nx := 209) dX0_outcome_207 rfl rfl ?_
              refine go_reti dX0_outcome_209 ⟨_, rfl, rfl⟩ ?_
              have z := so_t (x := (oc T ν.2.2.1 f0 wd r (day + 1) (meetK ν.1 cl o)).1) (c := cl) (wd := wd) (by show nI 1 = bI ((oc T ν.2.2.1 f0 wd r (day + 1) (meetK ν.1 cl o)).1 == cl); rw [show ((oc T ν.2.2.1 f0 wd r (day + 1) (meetK ν.1 cl o)).1 == cl) = true by simp; exact keq c184 (by omega) (by omega)]; rfl) c193
              have e : oc T ν.2.2.1 f0 wd (r + 1) day ν.1 = ((oc T ν.2.2.1 f0 wd r (day + 1) (meetK ν.1 cl o)).1, some o) := by
                rw [hb, show T.1 - o = (T.1 - (o + 1)) + 1 by omega, ffo_some (x := (o, (oc T ν.2.2.1 f0 wd r (day + 1) (meetK ν.1 cl o)).1)) (by show (if _ then _ else _) = _; rw [if_neg hoc, if_pos z])]
              have hd0' : day = 0 := keq (b := 0) c198 (by omega) (by decide)
              have fx : kFr f (f + 1) _ h8 := fun j hj => fh8 j (by omega)
              refine ⟨by rw [e], H.fr fx (by omega), ?_, hF.tr (fx.wide (Nat.le_refl _) (by omega))⟩
              rw [e, if_pos hd0']
              exact ⟨hf, hrw, hru⟩
      · skip
        refine go_goto 210 dX0_outcome_92 rfl ?_
        refine go_iinc 0 (v := nI (o + 1)) (lv' := [_, _, _, _, _, _, _, _, _, _]) (nx := 213) dX0_outcome_210 rfl (nI_inc o) (by decide) rfl rfl ?_
        refine go_goto 76 dX0_outcome_213 rfl ?_
        refine Go.sub [0, 1, 2, 3, 4, 5, 6, 7, 8, 9] rfl ?_
        have z := keq c89 (by omega) (by omega)
        refine ih (o + 1) _ (by omega) (by omega) H HT HF hF (hb.trans ?_)
        rw [show T.1 - o = (T.1 - (o + 1)) + 1 by omega, ffo_none (by show (if _ then _ else _) = none; rw [if_pos z])]
theorem s_out {G : kG} {n f t f0 days : Nat} {T : mT} {rw ru : Nat → Int32} {wd : Bool} (hf8 : f + 8 ≤ n) (ht : t + 3 ≤ n) (hd0 : t + 3 ≤ f ∨ f + 8 ≤ t) (hw : wT T) (hf0 : f0 < T.1) (h3 : days ≤ 3) : ∀ (r day : Nat), day + r = days → ∀ (ν : mN) (fa : Int32) (h : kH), wK T.1 ν.1 → oNow G (f + 2) ν h → oTown G t T h → rFore G f rw fa ru h → Spi G mX0_outcome (r + 3) [.ref (kb G + f), .ref (kb G + t), .int (nI f0), .int (bI wd), .int (nI day), .int (nI days)] n h (fun v h' => v = nI (oc T ν.2.2.1 f0 wd (r) (day) ν.1).1 ∧ oNow G (f + 2) ν h' ∧ rFore G f rw (if day = 0 then actI fa (oc T ν.2.2.1 f0 wd (r) (day) ν.1).2 else fa) ru h' ∧ kFr f (f + 7) h h') := by
  intro r
  have hP8 := hw.1
  induction r with
  | zero =>
    intro day hdd ν fa h hv H HT HF
    obtain ⟨kn, ct, si, cr, ⟨hN, hkn, hct, hsi, hcr⟩, hK, hC, hS, hR⟩ := id H
    obtain ⟨tk, tc, ⟨hT, htk, htc⟩, hTk, hTc⟩ := id HT
    obtain ⟨hf, hrw, hru⟩ := id HF
    refine Spi.of (by decide) (Nat.le_of_ble_eq_true rfl) ?_
    refine go_aload_n 0 (nx := 1) dX0_outcome_0 rfl rfl rfl ?_
    refine go_gf (nx := 4) fg_X0_18 dX0_outcome_1 (by omega) hf rfl rfl ?_
    refine go_astore (lv' := [_, _, _, _, _, _, _]) (nx := 6) dX0_outcome_4 (by decide) rfl rfl ?_
    refine go_iload 5 (nx := 8) dX0_outcome_6 rfl rfl ?_
    refine go_iload 6 (nx := 10) dX0_outcome_8 rfl rfl ?_
    refine go_icmp_ge 21 (nx := 13) dX0_outcome_10 rfl rfl (fun c10 => ?_) (fun c10 => False.elim (c10 (nI_le (by omega) (by omega))))
    refine go_aload_n 2 (nx := 22) dX0_outcome_21 rfl rfl rfl ?_
    refine go_aload 0 (nx := 24) dX0_outcome_22 rfl rfl ?_
    refine go_Vi (nx := 27) [_] kc_X0_49 ⟨_, _, rfl⟩ (by omega) hT (s_choose (by omega) ht H HT hw hv (by omega)) dX0_outcome_24 rfl rfl (Nat.le_of_ble_eq_true rfl) (Nat.le_of_ble_eq_true rfl) ⟨Nat.le_refl _, Nat.le_refl _⟩ rfl (fun rh1 h1 hqh1 => ?_)
    obtain ⟨rfl, rfl⟩ := hqh1
    refine go_reti dX0_outcome_27 ⟨_, rfl, rfl⟩ ?_
    exact ⟨rfl, H, by split <;> exact HF, kFr.rf⟩
  | succ r ih =>
    intro day hdd ν fa h hv H HT HF
    obtain ⟨kn, ct, si, cr, ⟨hN, hkn, hct, hsi, hcr⟩, hK, hC, hS, hR⟩ := id H
    obtain ⟨tk, tc, ⟨hT, htk, htc⟩, hTk, hTc⟩ := id HT
    obtain ⟨hf, hrw, hru⟩ := id HF
    have hF : kFr f (f + 7) h h := kFr.rf
    refine Spi.of (by decide) (Nat.le_of_ble_eq_true rfl) ?_
    refine go_aload_n 0 (nx := 1) dX0_outcome_0 rfl rfl rfl ?_
    refine go_gf (nx := 4) fg_X0_18 dX0_outcome_1 (by omega) hf rfl rfl ?_
    refine go_astore (lv' := [_, _, _, _, _, _, _]) (nx := 6) dX0_outcome_4 (by decide) rfl rfl ?_
    refine go_iload 5 (nx := 8) dX0_outcome_6 rfl rfl ?_
    refine go_iload 6 (nx := 10) dX0_outcome_8 rfl rfl ?_
    refine go_icmp_ge 21 (nx := 13) dX0_outcome_10 rfl rfl (fun c10 => False.elim (absurd (kle c10) (by omega))) (fun c10 => ?_)
    refine go_aload_n 2 (nx := 14) dX0_outcome_13 rfl rfl rfl ?_
    refine go_gf (nx := 17) fg_X0_55 dX0_outcome_14 (by omega) hT rfl rfl ?_
    refine go_iconst (v := nI 1) (nx := 18) dX0_outcome_17 (by decide) rfl ?_
    refine go_icmp_ge 28 (nx := 21) dX0_outcome_18 rfl rfl (fun c18 => ?_) (fun c18 => False.elim (c18 (nI_le (by omega) (by omega))))
    refine go_iload_n 3 (nx := 29) dX0_outcome_28 rfl rfl rfl ?_
    refine go_iload 5 (nx := 31) dX0_outcome_29 rfl rfl ?_
    refine go_iadd (nx := 32) dX0_outcome_31 rfl ?_
    rw [nI_add]
    refine go_aload_n 2 (nx := 33) dX0_outcome_32 rfl rfl rfl ?_
    refine go_gf (nx := 36) fg_X0_55 dX0_outcome_33 (by omega) hT rfl rfl ?_
    refine go_irem (nx := 37) dX0_outcome_36 (nI_ne0 (by omega) (by omega)) rfl ?_
    rw [pk_rem (by omega) (by omega) (by omega)]
    have hclP : (f0 + day) % T.1 < T.1 := Nat.mod_lt _ (by omega)
    refine go_istore (lv' := [_, _, _, _, _, _, _, _]) (nx := 39) dX0_outcome_37 (by decide) rfl rfl ?_
    refine go_aload_n 2 (nx := 40) dX0_outcome_39 rfl rfl rfl ?_
    refine go_aload_n 3 (nx := 41) dX0_outcome_40 rfl rfl rfl ?_
    refine go_iload_n 4 (nx := 42) dX0_outcome_41 rfl rfl rfl ?_
    refine go_iload_n 5 (nx := 43) dX0_outcome_42 rfl rfl rfl ?_
    refine go_iload 6 (nx := 45) dX0_outcome_43 rfl rfl ?_
    refine go_iconst (v := nI 1) (nx := 46) dX0_outcome_45 (by decide) rfl ?_
    refine go_iadd (nx := 47) dX0_outcome_46 rfl ?_
    rw [nI_add]
    refine go_iload 7 (nx := 49) dX0_outcome_47 rfl rfl ?_
    refine go_Si (nx := 52) [_, _, _, _, _, _] kc_X0_79 (ih (day + 1) (by omega) ν fa _ hv H HT HF) dX0_outcome_49 rfl rfl (Nat.le_of_ble_eq_true rfl) (by show r + 3 + 1 ≤ r + 1 + 3; omega) ⟨Nat.le_refl _, Nat.le_refl _⟩ rfl (fun rh1 h1 hqh1 => ?_)
    obtain ⟨rfl, H, HF, hFh1⟩ := hqh1
    obtain ⟨kn, ct, si, cr, ⟨hN, hkn, hct, hsi, hcr⟩, hK, hC, hS, hR⟩ := id H
    rw [if_neg (by omega)] at HF
    have HT := HT.fr hFh1 (by omega)
    obtain ⟨hf, hrw, hru⟩ := id HF
    obtain ⟨tk, tc, ⟨hT, htk, htc⟩, hTk, hTc⟩ := id HT
    have hF := hF.tr hFh1
    refine go_istore (lv' := [_, _, _, _, _, _, _, _, _]) (nx := 54) dX0_outcome_52 (by decide) rfl rfl ?_
    have hU : (oc T ν.2.2.1 f0 wd r (day + 1) ν.1).1 < T.1 := oc_lt (by omega)
    refine go_iload 0 (nx := 56) dX0_outcome_54 rfl rfl ?_
    refine go_iload 1 (nx := 58) dX0_outcome_56 rfl rfl ?_
    refine go_icmp_ne 65 (nx := 61) dX0_outcome_58 rfl rfl (fun c58 => ?_) (fun c58 => ?_)
    · skip
      refine go_iconst (v := nI 0) (nx := 66) dX0_outcome_65 (by decide) rfl ?_
      refine go_iload_n 6 (nx := 67) dX0_outcome_66 rfl rfl rfl ?_
      refine go_icmp_ne 73 (nx := 70) dX0_outcome_67 rfl rfl (fun c67 => ?_) (fun c67 => ?_)
      · skip
        refine go_iconst (v := nI 0) (nx := 74) dX0_outcome_73 (by decide) rfl ?_
        refine go_istore (lv' := [_, _, _, _, _, _, _, _, _, _]) (nx := 76) dX0_outcome_74 (by decide) rfl rfl ?_
        refine Go.sub [0, 1, 2, 3, 4, 5, 6, 7, 8, 9] rfl ?_
        have z := so_f (x := (oc T ν.2.2.1 f0 wd r (day + 1) ν.1).1) (c := ((f0 + day) % T.1)) (wd := wd) (by show nI 0 = bI ((oc T ν.2.2.1 f0 wd r (day + 1) ν.1).1 == ((f0 + day) % T.1)); rw [show ((oc T ν.2.2.1 f0 wd r (day + 1) ν.1).1 == ((f0 + day) % T.1)) = false by simp; intro z; exact c58 (by rw [z])]; rfl) c67
        refine l_out hf8 ht hd0 hw hf0 hdd h3 hclP hv (fun ν fa h q1 q2 q3 q4 => ih (day + 1) (by omega) ν fa h q1 q2 q3 q4) (by omega) (T.1 + 1) 0 _ (by omega) (by omega) H HT HF hF ?_
        simp only [oc]
        rw [if_neg (by rw [z]; decide)]
        rfl
      · skip
        refine go_iload 0 (nx := 72) dX0_outcome_70 rfl rfl ?_
        refine go_reti dX0_outcome_72 ⟨_, rfl, rfl⟩ ?_
        have z := so_t (x := (oc T ν.2.2.1 f0 wd r (day + 1) ν.1).1) (c := ((f0 + day) % T.1)) (wd := wd) (by show nI 0 = bI ((oc T ν.2.2.1 f0 wd r (day + 1) ν.1).1 == ((f0 + day) % T.1)); rw [show ((oc T ν.2.2.1 f0 wd r (day + 1) ν.1).1 == ((f0 + day) % T.1)) = false by simp; intro z; exact c58 (by rw [z])]; rfl) c67
        have e : oc T ν.2.2.1 f0 wd (r + 1) day ν.1 = ((oc T ν.2.2.1 f0 wd r (day + 1) ν.1).1, none) := by simp only [oc]; rw [if_pos z]
        exact ⟨by rw [e], H, by rw [e]; split <;> exact HF, hF⟩
    · skip
      refine go_iconst (v := nI 1) (nx := 62) dX0_outcome_61 (by decide) rfl ?_
      refine go_goto 66 dX0_outcome_62 rfl ?_
      refine go_iload_n 6 (nx := 67) dX0_outcome_66 rfl rfl rfl ?_
      refine go_icmp_ne 73 (nx := 70) dX0_outcome_67 rfl rfl (fun c67 => ?_) (fun c67 => ?_)
      · skip
        refine go_iconst (v := nI 0) (nx := 74) dX0_outcome_73 (by decide) rfl ?_
        refine go_istore (lv' := [_, _, _, _, _, _, _, _, _, _]) (nx := 76) dX0_outcome_74 (by decide) rfl rfl ?_
        refine Go.sub [0, 1, 2, 3, 4, 5, 6, 7, 8, 9] rfl ?_
        have z := so_f (x := (oc T ν.2.2.1 f0 wd r (day + 1) ν.1).1) (c := ((f0 + day) % T.1)) (wd := wd) (by show nI 1 = bI ((oc T ν.2.2.1 f0 wd r (day + 1) ν.1).1 == ((f0 + day) % T.1)); rw [show ((oc T ν.2.2.1 f0 wd r (day + 1) ν.1).1 == ((f0 + day) % T.1)) = true by simp; exact keq c58 (by omega) (by omega)]; rfl) c67
        refine l_out hf8 ht hd0 hw hf0 hdd h3 hclP hv (fun ν fa h q1 q2 q3 q4 => ih (day + 1) (by omega) ν fa h q1 q2 q3 q4) (by omega) (T.1 + 1) 0 _ (by omega) (by omega) H HT HF hF ?_
        simp only [oc]
        rw [if_neg (by rw [z]; decide)]
        rfl
      · skip
        refine go_iload 0 (nx := 72) dX0_outcome_70 rfl rfl ?_
        refine go_reti dX0_outcome_72 ⟨_, rfl, rfl⟩ ?_
        have z := so_t (x := (oc T ν.2.2.1 f0 wd r (day + 1) ν.1).1) (c := ((f0 + day) % T.1)) (wd := wd) (by show nI 1 = bI ((oc T ν.2.2.1 f0 wd r (day + 1) ν.1).1 == ((f0 + day) % T.1)); rw [show ((oc T ν.2.2.1 f0 wd r (day + 1) ν.1).1 == ((f0 + day) % T.1)) = true by simp; exact keq c58 (by omega) (by omega)]; rfl) c67
        have e : oc T ν.2.2.1 f0 wd (r + 1) day ν.1 = ((oc T ν.2.2.1 f0 wd r (day + 1) ν.1).1, none) := by simp only [oc]; rw [if_pos z]
        exact ⟨by rw [e], H, by rw [e]; split <;> exact HF, hF⟩
theorem s_lastDays {G : kG} {n f t q f0 days : Nat} {h : kH} {ν : mN} {T : mT} {rw ru : Nat → Int32} {fa x y z : Int32} {wd : Bool} (hf8 : f + 8 ≤ n) (ht : t + 3 ≤ n) (hd0 : t + 3 ≤ f ∨ f + 8 ≤ t) (hw : wT T) (hf0 : f0 < T.1) (hv : wK T.1 ν.1) (h3 : days ≤ 3) (h1 : 1 ≤ days) (hq2 : q + 5 ≤ n) (hdq : q + 5 ≤ f ∨ f + 8 ≤ q) (HF : rFore G f rw fa ru h) (HA : aNow G (f + 2) h) (Hq : oNow G q ν h) (HT : oTown G t T h) (hx : x = nI days) (hy : y = nI f0) (hz : z = bI wd) : Spi G mX0_lastDays 7 [.ref (kb G + f), .ref (kb G + t), .ref (kb G + q), .int x, .int y, .int z] n h (fun v h' => v = nI (oc T ν.2.2.1 f0 wd days 0 ν.1).1 ∧ aNow G (f + 2) h' ∧ rFore G f rw (actI (-9) (oc T ν.2.2.1 f0 wd days 0 ν.1).2) ru h' ∧ kFr f (f + 7) h h') := by
  subst hx hy hz
  have HT' := HT
  obtain ⟨kn, ct, si, cr, rg, yr, la, HA⟩ := HA
  obtain ⟨hN, hkn, hct, hsi, hcr⟩ := id HA
  obtain ⟨hf, hrw, hru⟩ := id HF
  have hF : kFr (f + 2) (f + 7) h h := kFr.rf
  refine Spi.of (by decide) (Nat.le_of_ble_eq_true rfl) ?_
  refine go_aload_n 0 (nx := 1) dX0_lastDays_0 rfl rfl rfl ?_
  refine go_gf (nx := 4) fg_X0_18 dX0_lastDays_1 (by omega) hf rfl rfl ?_
  refine go_aload_n 2 (nx := 5) dX0_lastDays_4 rfl rfl rfl ?_
  refine go_Vv (nx := 8) [_] kc_X0_25 ⟨_, _, rfl⟩ (by omega) hN (s_copyFrom (by omega) hq2 (by omega) HA Hq) dX0_lastDays_5 rfl rfl (Nat.le_of_ble_eq_true rfl) (Nat.le_of_ble_eq_true rfl) ⟨Nat.le_refl _, Nat.le_refl _⟩ rfl (fun h1 hqh1 => ?_)
  obtain ⟨H, hFh1⟩ := hqh1
  have H' := H
  obtain ⟨kn, ct, si, cr, ⟨hN, hkn, hct, hsi, hcr⟩, hK, hC, hS, hR⟩ := H'
  have HT' := HT'.fr hFh1 (by omega)
  have HF := HF.fr hFh1 (by omega)
  obtain ⟨hf, hrw, hru⟩ := id HF
  have hF := hF.tr hFh1
  refine go_aload_n 0 (nx := 9) dX0_lastDays_8 rfl rfl rfl ?_
  refine go_bipush (v := (-9)) (nx := 11) dX0_lastDays_9 (by decide) rfl ?_
  refine go_pf (fs' := [_, _, _, _]) (nx := 14) (fp_X0_70 _) dX0_lastDays_11 (by omega) hf (Nat.le_of_ble_eq_true rfl) ⟨rfl, rfl⟩ rfl rfl (fun h2 eh2 fh2 => ?_)
  have hN := (fh2 (f + 2) (by omega)).trans hN
  have hkn := (fh2 ((f + 2) + 1) (by omega)).trans hkn
  have hct := (fh2 ((f + 2) + 2) (by omega)).trans hct
  have hsi := (fh2 ((f + 2) + 3) (by omega)).trans hsi
  have hcr := (fh2 ((f + 2) + 4) (by omega)).trans hcr
  have hrw := (fh2 (f + 1) (by omega)).trans hrw
  have hru := (fh2 (f + 7) (by omega)).trans hru
  have hf := eh2
  have fx : kFr f (f + 1) _ h2 := fun j hj => fh2 j (by omega)
  have H := H.fr fx (by omega)
  have HT' := HT'.fr fx (by omega)
  have HFx : rFore G f rw (-9) ru _ := ⟨hf, hrw, hru⟩
  have hFx := (hF.wide (show f ≤ f + 2 by omega) (Nat.le_refl _)).tr (fx.wide (Nat.le_refl _) (by omega))
  refine go_aload_n 0 (nx := 15) dX0_lastDays_14 rfl rfl rfl ?_
  refine go_aload_n 1 (nx := 16) dX0_lastDays_15 rfl rfl rfl ?_
  refine go_iload 4 (nx := 18) dX0_lastDays_16 rfl rfl ?_
  refine go_iload 5 (nx := 20) dX0_lastDays_18 rfl rfl ?_
  refine go_iconst (v := nI 0) (nx := 21) dX0_lastDays_20 (by decide) rfl ?_
  refine go_iload_n 3 (nx := 22) dX0_lastDays_21 rfl rfl rfl ?_
  refine go_iconst (v := nI 3) (nx := 23) dX0_lastDays_22 (by decide) rfl ?_
  refine go_mmin (nx := 26) kc_X0_73 dX0_lastDays_23 (Nat.le_of_ble_eq_true rfl) ⟨Nat.le_refl _, Nat.le_refl _⟩ rfl ?_
  rw [show (if nI 3 < nI days then nI 3 else nI days) = nI days from if_neg (fun z => by have := klt z; omega)]
  refine go_Si (nx := 29) [_, _, _, _, _, _] kc_X0_79 (s_out hf8 ht hd0 hw hf0 h3 days 0 (by omega) ν (-9) _ hv H HT' HFx) dX0_lastDays_26 rfl rfl (Nat.le_of_ble_eq_true rfl) (by show days + 3 + 1 ≤ 7; omega) ⟨Nat.le_refl _, Nat.le_refl _⟩ rfl (fun rh3 h3 hqh3 => ?_)
  obtain ⟨rfl, H, HF, hFh3⟩ := hqh3
  rw [if_pos rfl] at HF
  have hF := hFx.tr hFh3
  refine go_reti dX0_lastDays_29 ⟨_, rfl, rfl⟩ ?_
  exact ⟨rfl, aNow.of H, HF, hF⟩
