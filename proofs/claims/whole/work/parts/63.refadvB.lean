/-! the reference: advances, numbers and the rest -/
theorem l_adigits {G : kG} {n sz : Nat} {tx : Nat → Nat} {T : mT} {tr : Int64} {th tk fa dP dF dL dJ wF wL : Int32} {c p : Nat} {h0 : kH} (hn : 49 ≤ n) (h256 : ∀ j, tx j < 256) (hs4 : sz ≤ 400) (hp : tpl tx sz c = p) (hp1 : tdg tx sz p = true) : ∀ (d j : Nat) (h : kH), sz - (p + j) < d → p + j ≤ sz → (∀ i, i < j → tdg tx sz (p + i) = true) → pO G tr sz T th (nI (p + j)) tk (nI p) (nI (vdF tx p j)) fa dP dF dL dJ wF wL h → oTm G tx sz h → kFr 37 38 h0 h → Go G mX7_advances (3, 0, 0) 194 [(0, .ref (kb G + 37)), (1, .int (nI (tx p)))] [] (n, 0, 0) h (kQv mX7_advances n (fun h' => (∃ nx tk pl va : Int32, pO G tr sz T th nx tk pl va fa dP dF dL dJ wF wL h' ∧ pC tx sz c nx tk pl va) ∧ kFr 37 38 h0 h')) := by
  intro d
  induction d with
  | zero => intro j h hd; omega
  | succ d ih =>
    intro j h hd hj hl HO HT hF
    have hM := HO
    unfold pO at hM
    obtain ⟨ta, htm, hta⟩ := id HT
    have hpd := tdg_d hp1
    have hvb := vdF_b j hl
    have tt : ttk tx sz p = tnm tx sz p := by
      rw [ttk, if_pos hpd.1, if_neg (fun q => by rw [tlt_tdg q] at hp1; cases hp1), if_pos hp1]
    refine go_aload_n 0 (nx := 195) dX7_advances_194 rfl rfl rfl ?_
    refine go_aload_n 0 (nx := 196) dX7_advances_195 rfl rfl rfl ?_
    refine go_gf (nx := 199) fg_X7_73 dX7_advances_196 (by omega) hM rfl rfl ?_
    refine go_Vi (nx := 202) [_] kc_X7_76 ⟨_, _, rfl⟩ (by omega) hM (m_byteAt hn hM ⟨_, htm, hta⟩ h256 hs4 rfl (by omega)) dX7_advances_199 rfl rfl (Nat.le_of_ble_eq_true rfl) (Nat.le_of_ble_eq_true rfl) ⟨Nat.le_refl _, Nat.le_refl _⟩ rfl (fun rh1 h1 hqh1 => ?_)
    obtain ⟨rfl, rfl⟩ := hqh1
    refine go_bipush (v := nI 48) (nx := 204) dX7_advances_202 (by decide) rfl ?_
    refine go_bipush (v := nI 57) (nx := 206) dX7_advances_204 (by decide) rfl ?_
    refine go_Si (nx := 209) [_, _, _] kc_X7_54 s_in dX7_advances_206 rfl rfl (Nat.le_of_ble_eq_true rfl) (Nat.le_of_ble_eq_true rfl) ⟨Nat.le_refl _, Nat.le_refl _⟩ rfl (fun rh2 h2 hqh2 => ?_)
    obtain ⟨rfl, rfl⟩ := hqh2
    refine go_if_eq 264 (nx := 212) dX7_advances_209 rfl rfl (fun c209 => ?_) (fun c209 => ?_)
    · skip
      have htl : tdg tx sz (p + j) = false := (mby_d h256).symm.trans (tb0 c209)
      have hj1 : 1 ≤ j := by
        rcases Nat.eq_zero_or_pos j with q | q
        · rw [q] at htl; rw [show p + 0 = p from rfl, hp1] at htl; cases htl
        · exact q
      have htv := tnm_v hj1 hl htl
      have hnx : nxt tx sz (p + j) = tpl tx sz (c + 1) := by
        rw [tpl_s, hp, if_pos hpd.1, run_d (j - 1) (fun i hi => hl i (by omega)), show p + (j - 1) + 1 = p + j by omega]
      have hti : tin tx sz (p + j) = false := by
        have := tin_de (tx := tx) (sz := sz) (k := p + (j - 1)) (hl (j - 1) (by omega)) (by rw [show p + (j - 1) + 1 = p + j by omega]; exact htl)
        rw [show p + (j - 1) + 1 = p + j by omega] at this
        exact this
      refine go_aload_n 0 (nx := 265) dX7_advances_264 rfl rfl rfl ?_
      refine go_aload_n 0 (nx := 266) dX7_advances_265 rfl rfl rfl ?_
      refine go_gf (nx := 269) fg_X7_90 dX7_advances_266 (by omega) hM rfl rfl ?_
      refine go_bipush (v := nI 99) (nx := 271) dX7_advances_269 (by decide) rfl ?_
      refine go_icmp_gt 293 (nx := 274) dX7_advances_271 rfl rfl (fun c271 => ?_) (fun c271 => ?_)
      · skip
        refine go_iconst (v := nI 4) (nx := 294) dX7_advances_293 (by decide) rfl ?_
        refine go_goto 298 dX7_advances_294 rfl ?_
        refine go_pf (fs' := [_, _, _, _, _, _, _, _, _, _, _, _, _, _, _, _, _, _, _, _, _, _, _, _, _, _, _, _, _]) (nx := 301) (fp_X7_83 _) dX7_advances_298 (by omega) hM (Nat.le_of_ble_eq_true rfl) ⟨rfl, rfl⟩ rfl rfl (fun h3 eh3 fh3 => ?_)
        have htm := (fh3 (38) (by omega)).trans htm
        have hM := eh3
        have hF := hF.tr (fun j hj => fh3 j (by omega))
        refine go_goto 329 dX7_advances_301 rfl ?_
        refine go_retv dX7_advances_329 rfl ?_
        refine ⟨⟨_, _, _, _, hM, p + j, rfl, hj, hti, hnx, by rw [hp], ?_⟩, hF⟩
        unfold tSt
        rw [hp, tt, htv]
        rw [if_pos (Or.inl (klt c271 (by decide) (by omega)))]
        exact Or.inr (Or.inr (Or.inl ⟨rfl, rfl⟩))
      · skip
        refine go_iload_n 1 (nx := 275) dX7_advances_274 rfl rfl rfl ?_
        refine go_bipush (v := nI 48) (nx := 277) dX7_advances_275 (by decide) rfl ?_
        refine go_icmp_ne 297 (nx := 280) dX7_advances_277 rfl rfl (fun c277 => ?_) (fun c277 => ?_)
        · skip
          refine go_iconst (v := nI 2) (nx := 298) dX7_advances_297 (by decide) rfl ?_
          refine go_pf (fs' := [_, _, _, _, _, _, _, _, _, _, _, _, _, _, _, _, _, _, _, _, _, _, _, _, _, _, _, _, _]) (nx := 301) (fp_X7_83 _) dX7_advances_298 (by omega) hM (Nat.le_of_ble_eq_true rfl) ⟨rfl, rfl⟩ rfl rfl (fun h3 eh3 fh3 => ?_)
          have htm := (fh3 (38) (by omega)).trans htm
          have hM := eh3
          have hF := hF.tr (fun j hj => fh3 j (by omega))
          refine go_goto 329 dX7_advances_301 rfl ?_
          refine go_retv dX7_advances_329 rfl ?_
          refine ⟨⟨_, _, _, _, hM, p + j, rfl, hj, hti, hnx, by rw [hp], ?_⟩, hF⟩
          unfold tSt
          rw [hp, tt, htv]
          have z := knlt c271 (by decide) (by omega)
          rw [if_neg (fun q => q.elim (fun q => by omega) (fun q => c277 (by rw [q.1])))]
          exact Or.inr (Or.inr (Or.inr (Or.inr ⟨by omega, by omega, rfl, by rw [show 100 + vdF tx p j - 100 = vdF tx p j by omega]⟩)))
        · skip
          refine go_aload_n 0 (nx := 281) dX7_advances_280 rfl rfl rfl ?_
          refine go_gf (nx := 284) fg_X7_73 dX7_advances_281 (by omega) hM rfl rfl ?_
          refine go_aload_n 0 (nx := 285) dX7_advances_284 rfl rfl rfl ?_
          refine go_gf (nx := 288) fg_X7_80 dX7_advances_285 (by omega) hM rfl rfl ?_
          refine go_isub (nx := 289) dX7_advances_288 rfl ?_
          rw [pk_sub (by omega), show p + j - p = j by omega]
          refine go_iconst (v := nI 1) (nx := 290) dX7_advances_289 (by decide) rfl ?_
          refine go_icmp_le 297 (nx := 293) dX7_advances_290 rfl rfl (fun c290 => ?_) (fun c290 => ?_)
          · skip
            refine go_iconst (v := nI 2) (nx := 298) dX7_advances_297 (by decide) rfl ?_
            refine go_pf (fs' := [_, _, _, _, _, _, _, _, _, _, _, _, _, _, _, _, _, _, _, _, _, _, _, _, _, _, _, _, _]) (nx := 301) (fp_X7_83 _) dX7_advances_298 (by omega) hM (Nat.le_of_ble_eq_true rfl) ⟨rfl, rfl⟩ rfl rfl (fun h3 eh3 fh3 => ?_)
            have htm := (fh3 (38) (by omega)).trans htm
            have hM := eh3
            have hF := hF.tr (fun j hj => fh3 j (by omega))
            refine go_goto 329 dX7_advances_301 rfl ?_
            refine go_retv dX7_advances_329 rfl ?_
            refine ⟨⟨_, _, _, _, hM, p + j, rfl, hj, hti, hnx, by rw [hp], ?_⟩, hF⟩
            unfold tSt
            rw [hp, tt, htv]
            have z := knlt c271 (by decide) (by omega)
            have z2 := kle c290 (by omega) (by decide)
            rw [if_neg (fun q => q.elim (fun q => by omega) (fun q => by omega))]
            exact Or.inr (Or.inr (Or.inr (Or.inr ⟨by omega, by omega, rfl, by rw [show 100 + vdF tx p j - 100 = vdF tx p j by omega]⟩)))
          · skip
            refine go_iconst (v := nI 4) (nx := 294) dX7_advances_293 (by decide) rfl ?_
            refine go_goto 298 dX7_advances_294 rfl ?_
            refine go_pf (fs' := [_, _, _, _, _, _, _, _, _, _, _, _, _, _, _, _, _, _, _, _, _, _, _, _, _, _, _, _, _]) (nx := 301) (fp_X7_83 _) dX7_advances_298 (by omega) hM (Nat.le_of_ble_eq_true rfl) ⟨rfl, rfl⟩ rfl rfl (fun h3 eh3 fh3 => ?_)
            have htm := (fh3 (38) (by omega)).trans htm
            have hM := eh3
            have hF := hF.tr (fun j hj => fh3 j (by omega))
            refine go_goto 329 dX7_advances_301 rfl ?_
            refine go_retv dX7_advances_329 rfl ?_
            refine ⟨⟨_, _, _, _, hM, p + j, rfl, hj, hti, hnx, by rw [hp], ?_⟩, hF⟩
            unfold tSt
            rw [hp, tt, htv]
            have z2 := knle c290 (by omega) (by decide)
            rw [if_pos (Or.inr ⟨keq c277 (by omega) (by decide), z2⟩)]
            exact Or.inr (Or.inr (Or.inl ⟨rfl, rfl⟩))
    · skip
      have htl : tdg tx sz (p + j) = true := (mby_d h256).symm.trans (tbn0 c209)
      have hlt := tdg_d htl
      have hl2 : ∀ i, i < j + 1 → tdg tx sz (p + i) = true := fun i hi => by
        rcases Nat.lt_or_ge i j with q | q
        · exact hl i q
        · rw [show i = j by omega]; exact htl
      refine go_aload_n 0 (nx := 213) dX7_advances_212 rfl rfl rfl ?_
      refine go_aload_n 0 (nx := 214) dX7_advances_213 rfl rfl rfl ?_
      refine go_gf (nx := 217) fg_X7_90 dX7_advances_214 (by omega) hM rfl rfl ?_
      refine go_bipush (v := nI 99) (nx := 219) dX7_advances_217 (by decide) rfl ?_
      refine go_icmp_le 229 (nx := 222) dX7_advances_219 rfl rfl (fun c219 => ?_) (fun c219 => ?_)
      · skip
        refine go_bipush (v := nI 10) (nx := 231) dX7_advances_229 (by decide) rfl ?_
        refine go_aload_n 0 (nx := 232) dX7_advances_231 rfl rfl rfl ?_
        refine go_gf (nx := 235) fg_X7_90 dX7_advances_232 (by omega) hM rfl rfl ?_
        refine go_imul (nx := 236) dX7_advances_235 rfl ?_
        refine go_aload_n 0 (nx := 237) dX7_advances_236 rfl rfl rfl ?_
        refine go_aload_n 0 (nx := 238) dX7_advances_237 rfl rfl rfl ?_
        refine go_gf (nx := 241) fg_X7_73 dX7_advances_238 (by omega) hM rfl rfl ?_
        refine go_Vi (nx := 244) [_] kc_X7_76 ⟨_, _, rfl⟩ (by omega) hM (m_byteAt hn hM ⟨_, htm, hta⟩ h256 hs4 rfl (by omega)) dX7_advances_241 rfl rfl (Nat.le_of_ble_eq_true rfl) (Nat.le_of_ble_eq_true rfl) ⟨Nat.le_refl _, Nat.le_refl _⟩ rfl (fun rh3 h3 hqh3 => ?_)
        obtain ⟨rfl, rfl⟩ := hqh3
        refine go_iadd (nx := 245) dX7_advances_244 rfl ?_
        refine go_bipush (v := nI 48) (nx := 247) dX7_advances_245 (by decide) rfl ?_
        refine go_isub (nx := 248) dX7_advances_247 rfl ?_
        have z := kle c219 (by omega) (by decide)
        rw [pk_mul, mby_at hlt.1, nI_add, pk_sub (by omega), show 10 * vdF tx p j + tx (p + j) - 48 = vdF tx p (j + 1) from by
          show _ = (if 99 < vdF tx p j then vdF tx p j else 10 * vdF tx p j + (tx (p + j) - 48))
          rw [if_neg (by omega)]
          omega]
        refine go_pf (fs' := [_, _, _, _, _, _, _, _, _, _, _, _, _, _, _, _, _, _, _, _, _, _, _, _, _, _, _, _, _]) (nx := 251) (fp_X7_90 _) dX7_advances_248 (by omega) hM (Nat.le_of_ble_eq_true rfl) ⟨rfl, rfl⟩ rfl rfl (fun h4 eh4 fh4 => ?_)
        have htm := (fh4 (38) (by omega)).trans htm
        have hM := eh4
        have hF := hF.tr (fun j hj => fh4 j (by omega))
        refine go_aload_n 0 (nx := 252) dX7_advances_251 rfl rfl rfl ?_
        refine go_dup (nx := 253) dX7_advances_252 rfl rfl ?_
        refine go_gf (nx := 256) fg_X7_73 dX7_advances_253 (by omega) hM rfl rfl ?_
        refine go_iconst (v := nI 1) (nx := 257) dX7_advances_256 (by decide) rfl ?_
        refine go_iadd (nx := 258) dX7_advances_257 rfl ?_
        rw [nI_add, show p + j + 1 = p + (j + 1) by omega]
        refine go_pf (fs' := [_, _, _, _, _, _, _, _, _, _, _, _, _, _, _, _, _, _, _, _, _, _, _, _, _, _, _, _, _]) (nx := 261) (fp_X7_73 _) dX7_advances_258 (by omega) hM (Nat.le_of_ble_eq_true rfl) ⟨rfl, rfl⟩ rfl rfl (fun h5 eh5 fh5 => ?_)
        have htm := (fh5 (38) (by omega)).trans htm
        have hM := eh5
        have hF := hF.tr (fun j hj => fh5 j (by omega))
        refine go_goto 194 dX7_advances_261 rfl ?_
        refine Go.sub [0, 1] rfl ?_
        exact ih (j + 1) _ (by omega) (by omega) hl2 hM ⟨_, htm, hta⟩ hF
      · skip
        refine go_aload_n 0 (nx := 223) dX7_advances_222 rfl rfl rfl ?_
        refine go_gf (nx := 226) fg_X7_90 dX7_advances_223 (by omega) hM rfl rfl ?_
        refine go_goto 248 dX7_advances_226 rfl ?_
        have z := knle c219 (by omega) (by decide)
        rw [show vdF tx p j = vdF tx p (j + 1) from by
          show _ = (if 99 < vdF tx p j then vdF tx p j else 10 * vdF tx p j + (tx (p + j) - 48))
          rw [if_pos z]]
        refine go_pf (fs' := [_, _, _, _, _, _, _, _, _, _, _, _, _, _, _, _, _, _, _, _, _, _, _, _, _, _, _, _, _]) (nx := 251) (fp_X7_90 _) dX7_advances_248 (by omega) hM (Nat.le_of_ble_eq_true rfl) ⟨rfl, rfl⟩ rfl rfl (fun h3 eh3 fh3 => ?_)
        have htm := (fh3 (38) (by omega)).trans htm
        have hM := eh3
        have hF := hF.tr (fun j hj => fh3 j (by omega))
        refine go_aload_n 0 (nx := 252) dX7_advances_251 rfl rfl rfl ?_
        refine go_dup (nx := 253) dX7_advances_252 rfl rfl ?_
        refine go_gf (nx := 256) fg_X7_73 dX7_advances_253 (by omega) hM rfl rfl ?_
        refine go_iconst (v := nI 1) (nx := 257) dX7_advances_256 (by decide) rfl ?_
        refine go_iadd (nx := 258) dX7_advances_257 rfl ?_
        rw [nI_add, show p + j + 1 = p + (j + 1) by omega]
        refine go_pf (fs' := [_, _, _, _, _, _, _, _, _, _, _, _, _, _, _, _, _, _, _, _, _, _, _, _, _, _, _, _, _]) (nx := 261) (fp_X7_73 _) dX7_advances_258 (by omega) hM (Nat.le_of_ble_eq_true rfl) ⟨rfl, rfl⟩ rfl rfl (fun h4 eh4 fh4 => ?_)
        have htm := (fh4 (38) (by omega)).trans htm
        have hM := eh4
        have hF := hF.tr (fun j hj => fh4 j (by omega))
        refine go_goto 194 dX7_advances_261 rfl ?_
        refine Go.sub [0, 1] rfl ?_
        exact ih (j + 1) _ (by omega) (by omega) hl2 hM ⟨_, htm, hta⟩ hF
theorem l_advances {G : kG} {n sz : Nat} {tx : Nat → Nat} {T : mT} {tr : Int64} {th tk pl va fa dP dF dL dJ wF wL : Int32} {c : Nat} {h0 : kH} (hn : 49 ≤ n) (h256 : ∀ j, tx j < 256) (hs4 : sz ≤ 400) : ∀ (d k : Nat) (h : kH), sz - k < d → k ≤ sz → tin tx sz k = false → nxt tx sz k = tpl tx sz c → pO G tr sz T th (nI k) tk pl va fa dP dF dL dJ wF wL h → oTm G tx sz h → kFr 37 38 h0 h → Go G mX7_advances (3, 0, 0) 0 [(0, .ref (kb G + 37))] [] (n, 0, 0) h (kQv mX7_advances n (fun h' => (∃ nx tk pl va : Int32, pO G tr sz T th nx tk pl va fa dP dF dL dJ wF wL h' ∧ pC tx sz c nx tk pl va) ∧ kFr 37 38 h0 h')) := by
  intro d
  induction d with
  | zero => intro k h hd; omega
  | succ d ih =>
    intro k h hd hk hti hnk HO HT hF
    have hM := HO
    unfold pO at hM
    obtain ⟨ta, htm, hta⟩ := id HT
    refine go_aload_n 0 (nx := 1) dX7_advances_0 rfl rfl rfl ?_
    refine go_aload_n 0 (nx := 2) dX7_advances_1 rfl rfl rfl ?_
    refine go_gf (nx := 5) fg_X7_73 dX7_advances_2 (by omega) hM rfl rfl ?_
    refine go_Vi (nx := 8) [_] kc_X7_76 ⟨_, _, rfl⟩ (by omega) hM (m_byteAt hn hM ⟨_, htm, hta⟩ h256 hs4 rfl (by omega)) dX7_advances_5 rfl rfl (Nat.le_of_ble_eq_true rfl) (Nat.le_of_ble_eq_true rfl) ⟨Nat.le_refl _, Nat.le_refl _⟩ rfl (fun rh1 h1 hqh1 => ?_)
    obtain ⟨rfl, rfl⟩ := hqh1
    refine go_bipush (v := nI 32) (nx := 10) dX7_advances_8 (by decide) rfl ?_
    refine go_icmp_ne 26 (nx := 13) dX7_advances_10 rfl rfl (fun c10 => ?_) (fun c10 => ?_)
    · skip
      have hb : ¬ (k < sz ∧ tx k = 32) := fun q => c10 ((mby_eq h256 (by decide)).mpr q)
      have htp : tpl tx sz c = k := by
        rw [← hnk]
        rcases Nat.lt_or_ge k sz with q | q
        · exact nxt_at q (fun e => hb ⟨q, e⟩) hti
        · exact nxt_end q
      refine go_aload_n 0 (nx := 27) dX7_advances_26 rfl rfl rfl ?_
      refine go_aload_n 0 (nx := 28) dX7_advances_27 rfl rfl rfl ?_
      refine go_gf (nx := 31) fg_X7_73 dX7_advances_28 (by omega) hM rfl rfl ?_
      refine go_pf (fs' := [_, _, _, _, _, _, _, _, _, _, _, _, _, _, _, _, _, _, _, _, _, _, _, _, _, _, _, _, _]) (nx := 34) (fp_X7_80 _) dX7_advances_31 (by omega) hM (Nat.le_of_ble_eq_true rfl) ⟨rfl, rfl⟩ rfl rfl (fun h2 eh2 fh2 => ?_)
      have htm := (fh2 (38) (by omega)).trans htm
      have hM := eh2
      have hF := hF.tr (fun j hj => fh2 j (by omega))
      refine go_aload_n 0 (nx := 35) dX7_advances_34 rfl rfl rfl ?_
      refine go_aload_n 0 (nx := 36) dX7_advances_35 rfl rfl rfl ?_
      refine go_gf (nx := 39) fg_X7_73 dX7_advances_36 (by omega) hM rfl rfl ?_
      refine go_Vi (nx := 42) [_] kc_X7_76 ⟨_, _, rfl⟩ (by omega) hM (m_byteAt hn hM ⟨_, htm, hta⟩ h256 hs4 rfl (by omega)) dX7_advances_39 rfl rfl (Nat.le_of_ble_eq_true rfl) (Nat.le_of_ble_eq_true rfl) ⟨Nat.le_refl _, Nat.le_refl _⟩ rfl (fun rh3 h3 hqh3 => ?_)
      obtain ⟨rfl, rfl⟩ := hqh3
      refine go_istore_n (lv' := [_, _]) (nx := 43) dX7_advances_42 rfl (by decide) rfl rfl ?_
      refine go_iload_n 0 (nx := 44) dX7_advances_43 rfl rfl rfl ?_
      refine go_if_ge 55 (nx := 47) dX7_advances_44 rfl rfl (fun c44 => ?_) (fun c44 => ?_)
      · skip
        refine go_iload_n 0 (nx := 56) dX7_advances_55 rfl rfl rfl ?_
        refine go_bipush (v := nI 97) (nx := 58) dX7_advances_56 (by decide) rfl ?_
        refine go_bipush (v := nI 122) (nx := 60) dX7_advances_58 (by decide) rfl ?_
        refine go_Si (nx := 63) [_, _, _] kc_X7_54 s_in dX7_advances_60 rfl rfl (Nat.le_of_ble_eq_true rfl) (Nat.le_of_ble_eq_true rfl) ⟨Nat.le_refl _, Nat.le_refl _⟩ rfl (fun rh4 h4 hqh4 => ?_)
        obtain ⟨rfl, rfl⟩ := hqh4
        refine go_if_eq 178 (nx := 66) dX7_advances_63 rfl rfl (fun c63 => ?_) (fun c63 => ?_)
        · skip
          refine go_iload_n 0 (nx := 179) dX7_advances_178 rfl rfl rfl ?_
          refine go_bipush (v := nI 48) (nx := 181) dX7_advances_179 (by decide) rfl ?_
          refine go_bipush (v := nI 57) (nx := 183) dX7_advances_181 (by decide) rfl ?_
          refine go_Si (nx := 186) [_, _, _] kc_X7_54 s_in dX7_advances_183 rfl rfl (Nat.le_of_ble_eq_true rfl) (Nat.le_of_ble_eq_true rfl) ⟨Nat.le_refl _, Nat.le_refl _⟩ rfl (fun rh5 h5 hqh5 => ?_)
          obtain ⟨rfl, rfl⟩ := hqh5
          refine go_if_eq 304 (nx := 189) dX7_advances_186 rfl rfl (fun c186 => ?_) (fun c186 => ?_)
          · skip
            refine go_aload_n 1 (nx := 305) dX7_advances_304 rfl rfl rfl ?_
            refine go_dup (nx := 306) dX7_advances_305 rfl rfl ?_
            refine go_gf (nx := 309) fg_X7_73 dX7_advances_306 (by omega) hM rfl rfl ?_
            refine go_iconst (v := nI 1) (nx := 310) dX7_advances_309 (by decide) rfl ?_
            refine go_iadd (nx := 311) dX7_advances_310 rfl ?_
            rw [nI_add]
            refine go_pf (fs' := [_, _, _, _, _, _, _, _, _, _, _, _, _, _, _, _, _, _, _, _, _, _, _, _, _, _, _, _, _]) (nx := 314) (fp_X7_73 _) dX7_advances_311 (by omega) hM (Nat.le_of_ble_eq_true rfl) ⟨rfl, rfl⟩ rfl rfl (fun h6 eh6 fh6 => ?_)
            have htm := (fh6 (38) (by omega)).trans htm
            have hM := eh6
            have hF := hF.tr (fun j hj => fh6 j (by omega))
            refine go_aload_n 1 (nx := 315) dX7_advances_314 rfl rfl rfl ?_
            refine go_iload_n 0 (nx := 316) dX7_advances_315 rfl rfl rfl ?_
            refine go_bipush (v := nI 59) (nx := 318) dX7_advances_316 (by decide) rfl ?_
            refine go_icmp_ne 325 (nx := 321) dX7_advances_318 rfl rfl (fun c318 => ?_) (fun c318 => ?_)
            · skip
              refine go_iconst (v := nI 4) (nx := 326) dX7_advances_325 (by decide) rfl ?_
              refine go_pf (fs' := [_, _, _, _, _, _, _, _, _, _, _, _, _, _, _, _, _, _, _, _, _, _, _, _, _, _, _, _, _]) (nx := 329) (fp_X7_83 _) dX7_advances_326 (by omega) hM (Nat.le_of_ble_eq_true rfl) ⟨rfl, rfl⟩ rfl rfl (fun h7 eh7 fh7 => ?_)
              have htm := (fh7 (38) (by omega)).trans htm
              have hM := eh7
              have hF := hF.tr (fun j hj => fh7 j (by omega))
              refine go_retv dX7_advances_329 rfl ?_
              have z : k < sz := (mby_neg h256).mp c44
              have hl0 : tlt tx sz k = false := (mby_l h256).symm.trans (tb0 c63)
              have hd0 : tdg tx sz k = false := (mby_d h256).symm.trans (tb0 c186)
              refine ⟨⟨_, _, _, _, hM, k + 1, rfl, z, tin_bh hl0 hd0, ?_, by rw [htp], ?_⟩, hF⟩
              · rw [tpl_s, htp, if_pos z]
              · unfold tSt
                rw [htp, ttk, if_pos z, if_neg (by rw [hl0]; decide), if_neg (by rw [hd0]; decide)]
                rw [if_neg (fun q => c318 (by rw [mby_at z, q]))]
                exact Or.inr (Or.inr (Or.inl ⟨rfl, rfl⟩))
            · skip
              refine go_iconst (v := nI 3) (nx := 322) dX7_advances_321 (by decide) rfl ?_
              refine go_goto 326 dX7_advances_322 rfl ?_
              refine go_pf (fs' := [_, _, _, _, _, _, _, _, _, _, _, _, _, _, _, _, _, _, _, _, _, _, _, _, _, _, _, _, _]) (nx := 329) (fp_X7_83 _) dX7_advances_326 (by omega) hM (Nat.le_of_ble_eq_true rfl) ⟨rfl, rfl⟩ rfl rfl (fun h7 eh7 fh7 => ?_)
              have htm := (fh7 (38) (by omega)).trans htm
              have hM := eh7
              have hF := hF.tr (fun j hj => fh7 j (by omega))
              refine go_retv dX7_advances_329 rfl ?_
              have z : k < sz := (mby_neg h256).mp c44
              have hl0 : tlt tx sz k = false := (mby_l h256).symm.trans (tb0 c63)
              have hd0 : tdg tx sz k = false := (mby_d h256).symm.trans (tb0 c186)
              refine ⟨⟨_, _, _, _, hM, k + 1, rfl, z, tin_bh hl0 hd0, ?_, by rw [htp], ?_⟩, hF⟩
              · rw [tpl_s, htp, if_pos z]
              · unfold tSt
                rw [htp, ttk, if_pos z, if_neg (by rw [hl0]; decide), if_neg (by rw [hd0]; decide)]
                rw [if_pos (((mby_eq h256 (by decide)).mp c318).2)]
                exact Or.inr (Or.inl ⟨rfl, rfl⟩)
          · skip
            refine go_aload_n 1 (nx := 190) dX7_advances_189 rfl rfl rfl ?_
            refine go_iconst (v := nI 0) (nx := 191) dX7_advances_190 (by decide) rfl ?_
            refine go_pf (fs' := [_, _, _, _, _, _, _, _, _, _, _, _, _, _, _, _, _, _, _, _, _, _, _, _, _, _, _, _, _]) (nx := 194) (fp_X7_90 _) dX7_advances_191 (by omega) hM (Nat.le_of_ble_eq_true rfl) ⟨rfl, rfl⟩ rfl rfl (fun h6 eh6 fh6 => ?_)
            have htm := (fh6 (38) (by omega)).trans htm
            have hM := eh6
            have hF := hF.tr (fun j hj => fh6 j (by omega))
            refine Go.sub [1, 0] rfl ?_
            have hd0 : tdg tx sz k = true := (mby_d h256).symm.trans (tbn0 c186)
            rw [mby_at (tdg_d hd0).1]
            exact l_adigits hn h256 hs4 htp hd0 (sz + 1) 0 _ (by omega) hk (fun i hi => absurd hi (Nat.not_lt_zero i)) hM ⟨_, htm, hta⟩ hF
        · skip
          refine go_lconst (v := 0) (nx := 67) dX7_advances_66 (by decide) rfl ?_
          rw [show (0 : Int64) = lN (VL tx k 0) from rfl]
          refine go_lstore_n (lv' := [_, _, _]) (nx := 68) dX7_advances_67 rfl (by decide) rfl rfl ?_
          refine Go.sub [0, 2, 1] rfl ?_
          have hl0 : tlt tx sz k = true := (mby_l h256).symm.trans (tbn0 c63)
          exact l_aletters hn h256 hs4 htp hl0 (sz + 1) 0 _ (by omega) hk (fun i hi => absurd hi (Nat.not_lt_zero i)) hM ⟨_, htm, hta⟩ hF
      · skip
        refine go_aload_n 1 (nx := 48) dX7_advances_47 rfl rfl rfl ?_
        refine go_iconst (v := nI 0) (nx := 49) dX7_advances_48 (by decide) rfl ?_
        refine go_pf (fs' := [_, _, _, _, _, _, _, _, _, _, _, _, _, _, _, _, _, _, _, _, _, _, _, _, _, _, _, _, _]) (nx := 52) (fp_X7_83 _) dX7_advances_49 (by omega) hM (Nat.le_of_ble_eq_true rfl) ⟨rfl, rfl⟩ rfl rfl (fun h4 eh4 fh4 => ?_)
        have htm := (fh4 (38) (by omega)).trans htm
        have hM := eh4
        have hF := hF.tr (fun j hj => fh4 j (by omega))
        refine go_goto 329 dX7_advances_52 rfl ?_
        refine go_retv dX7_advances_329 rfl ?_
        have z : ¬ k < sz := fun q => c44 ((mby_neg h256).mpr q)
        have hks : k = sz := by omega
        refine ⟨⟨_, _, _, _, hM, k, rfl, hk, hti, ?_, by rw [htp], ?_⟩, hF⟩
        · rw [hnk, tpl_s, htp, if_neg z, hks]
        · unfold tSt
          rw [htp, ttk, if_neg z]
          exact Or.inr (Or.inr (Or.inr (Or.inl ⟨rfl, rfl⟩)))
    · skip
      refine go_aload_n 0 (nx := 14) dX7_advances_13 rfl rfl rfl ?_
      refine go_dup (nx := 15) dX7_advances_14 rfl rfl ?_
      refine go_gf (nx := 18) fg_X7_73 dX7_advances_15 (by omega) hM rfl rfl ?_
      refine go_iconst (v := nI 1) (nx := 19) dX7_advances_18 (by decide) rfl ?_
      refine go_iadd (nx := 20) dX7_advances_19 rfl ?_
      rw [nI_add]
      refine go_pf (fs' := [_, _, _, _, _, _, _, _, _, _, _, _, _, _, _, _, _, _, _, _, _, _, _, _, _, _, _, _, _]) (nx := 23) (fp_X7_73 _) dX7_advances_20 (by omega) hM (Nat.le_of_ble_eq_true rfl) ⟨rfl, rfl⟩ rfl rfl (fun h2 eh2 fh2 => ?_)
      have htm := (fh2 (38) (by omega)).trans htm
      have hM := eh2
      have hF := hF.tr (fun j hj => fh2 j (by omega))
      refine go_goto 0 dX7_advances_23 rfl ?_
      have hb := (mby_eq h256 (by decide)).mp c10
      refine Go.sub [0] rfl ?_
      exact ih (k + 1) _ (by omega) (by omega) (tin_bh (tbl_no hb.2).1 (tbl_no hb.2).2) (by rw [← nxt_bl hb.1 hb.2]; exact hnk) hM ⟨_, htm, hta⟩ hF
theorem m_advances {G : kG} {n sz : Nat} {h : kH} {tx : Nat → Nat} {T : mT} {tr : Int64} {th nx tk pl va fa dP dF dL dJ wF wL : Int32} {c k : Nat} (hn : 49 ≤ n) (h256 : ∀ j, tx j < 256) (hs4 : sz ≤ 400) (hx : nx = nI k) (hk : k ≤ sz) (hti : tin tx sz k = false) (hnk : nxt tx sz k = tpl tx sz c) (HO : pO G tr sz T th nx tk pl va fa dP dF dL dJ wF wL h) (HT : oTm G tx sz h) : Spv G mX7_advances 3 [.ref (kb G + 37)] n h (fun h' => (∃ nx tk pl va : Int32, pO G tr sz T th nx tk pl va fa dP dF dL dJ wF wL h' ∧ pC tx sz c nx tk pl va) ∧ kFr 37 38 h h') := by
  subst hx
  refine Spv.of (by decide) (Nat.le_of_ble_eq_true rfl) ?_
  refine Go.loc (lv' := [(0, _)]) rfl ?_
  exact l_advances hn h256 hs4 (sz + 1) k h (by omega) hk hti hnk HO HT kFr.rf
