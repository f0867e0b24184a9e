/-! LeastKnown$Reader: its small ones -/
theorem twd_le {tx : Nat → Nat} {sz k : Nat} : twd tx sz k ≤ 11 := by
  unfold twd
  cases e : ff (isWd tx sz k) 10 with
  | none => exact Nat.le_refl _
  | some w => have := (ff_lt e).1; show w ≤ 11; omega
theorem ttk_lt {tx : Nat → Nat} {sz k : Nat} : ttk tx sz k < 200 := by
  unfold ttk
  split
  · split
    · have := twd_le (tx := tx) (sz := sz) (k := k); omega
    · split
      · rename_i e
        have h1 := tdg_d e
        unfold tnm
        split
        · omega
        · split
          · omega
          · rename_i e2 e3
            have h2 := tdg_d (k := k + 1) (by simpa using e2)
            omega
      · split <;> omega
  · omega
theorem tSt_lt {tx : Nat → Nat} {sz i : Nat} : tSt tx sz i < 200 := ttk_lt
theorem nm_neg : ∀ a, a < 100 → nI a - nI 100 < 0 := by decide +kernel
theorem nm_pos {a : Nat} (h : 100 ≤ a) : nI a - nI 100 = nI (a - 100) := pk_sub h
def rdS (G : kG) (tx : Nat → Nat) (sz c : Nat) (fa : Int32) (fF fL : Bool) (h : kH) : Prop := ∃ tk pl : Nat → Int32, rRead G tk pl (nI c) fa (bI fL) (bI fF) h ∧ tkOk tx sz (tmn tx sz + 1) tk pl
theorem rdS.fr {G : kG} {tx : Nat → Nat} {sz c lo hi : Nat} {fa : Int32} {fF fL : Bool} {h h' : kH} (H : rdS G tx sz c fa fF fL h) (hF : kFr lo hi h h') (hd : 6 ≤ lo ∨ hi ≤ 3) : rdS G tx sz c fa fF fL h' := by
  obtain ⟨tk, pl, ⟨h1, h2, h3⟩, h4⟩ := H
  exact ⟨tk, pl, ⟨(hF 3 (by omega)).trans h1, (hF 4 (by omega)).trans h2, (hF 5 (by omega)).trans h3⟩, h4⟩
theorem s_number {G : kG} {n sz c : Nat} {h : kH} {tx : Nat → Nat} {fa : Int32} {fF fL : Bool} (hn : 37 ≤ n) (HR : rdS G tx sz c fa fF fL h) (hc : c ≤ tmn tx sz) (hs4 : sz ≤ 400) : Spi G mX3_number 1 [.ref (kb G + 3)] n h (fun v h' => v = nI (tSt tx sz c) - nI 100 ∧ h' = h) := by
  obtain ⟨tk, pl, ⟨hr, htk, hpl⟩, hok⟩ := id HR
  have hm := tmn_le (tx := tx) (sz := sz)
  refine Spi.of (by decide) (Nat.le_of_ble_eq_true rfl) ?_
  refine go_aload_n 0 (nx := 1) dX3_number_0 rfl rfl rfl ?_
  refine go_gf (nx := 4) fg_X3_9 dX3_number_1 (by omega) hr rfl rfl ?_
  refine go_aload_n 0 (nx := 5) dX3_number_4 rfl rfl rfl ?_
  refine go_gf (nx := 8) fg_X3_27 dX3_number_5 (by omega) hr rfl rfl ?_
  refine go_SNi (nx := 11) [_, _] kc_X3_41 (s_at_in (j := c) (by omega) htk (by decide) rfl (by omega)) dX3_number_8 rfl rfl (Nat.le_of_ble_eq_true rfl) (Nat.le_of_ble_eq_true rfl) ⟨Nat.le_refl _, Nat.le_refl _⟩ rfl (fun rh1 h1 hqh1 => ?_)
  obtain ⟨rfl, rfl⟩ := hqh1
  rw [(hok c (by omega)).1]
  refine go_bipush (v := nI 100) (nx := 13) dX3_number_11 (by decide) rfl ?_
  refine go_isub (nx := 14) dX3_number_13 rfl ?_
  refine go_reti dX3_number_14 ⟨_, rfl, rfl⟩ ?_
  exact ⟨rfl, rfl⟩
theorem s_take {G : kG} {n sz c : Nat} {h : kH} {tx : Nat → Nat} {fa : Int32} {fF fL : Bool} {x : Int32} {b : Bool} (hn : 37 ≤ n) (HR : rdS G tx sz c fa fF fL h) (hc : c ≤ tmn tx sz) (hs4 : sz ≤ 400) (hx : x = bI b) : Spi G mX3_take 1 [.ref (kb G + 3), .int x] n h (fun v h' => v = bI b ∧ rdS G tx sz (if b = true then c + 1 else c) (if b = true then fa else nI (tpl tx sz c)) fF fL h' ∧ kFr 3 4 h h') := by
  subst hx
  obtain ⟨tk, pl, ⟨hr, htk, hpl⟩, hok⟩ := id HR
  have hm := tmn_le (tx := tx) (sz := sz)
  refine Spi.of (by decide) (Nat.le_of_ble_eq_true rfl) ?_
  refine go_iload_n 1 (nx := 1) dX3_take_0 rfl rfl rfl ?_
  refine go_if_eq 17 (nx := 4) dX3_take_1 rfl rfl (fun c1 => ?_) (fun c1 => ?_)
  · skip
    refine go_aload_n 0 (nx := 18) dX3_take_17 rfl rfl rfl ?_
    refine go_aload_n 0 (nx := 19) dX3_take_18 rfl rfl rfl ?_
    refine go_gf (nx := 22) fg_X3_15 dX3_take_19 (by omega) hr rfl rfl ?_
    refine go_aload_n 0 (nx := 23) dX3_take_22 rfl rfl rfl ?_
    refine go_gf (nx := 26) fg_X3_27 dX3_take_23 (by omega) hr rfl rfl ?_
    refine go_SNi (nx := 29) [_, _] kc_X3_41 (s_at_in (j := c) (by omega) hpl (by decide) rfl (by omega)) dX3_take_26 rfl rfl (Nat.le_of_ble_eq_true rfl) (Nat.le_of_ble_eq_true rfl) ⟨Nat.le_refl _, Nat.le_refl _⟩ rfl (fun rh1 h1 hqh1 => ?_)
    obtain ⟨rfl, rfl⟩ := hqh1
    rw [(hok c (by omega)).2]
    refine go_pf (fs' := [_, _, _, _, _, _]) (nx := 32) (fp_X3_31 _) dX3_take_29 (by omega) hr (Nat.le_of_ble_eq_true rfl) ⟨rfl, rfl⟩ rfl rfl (fun h2 eh2 fh2 => ?_)
    have htk := (fh2 (4) (by omega)).trans htk
    have hpl := (fh2 (5) (by omega)).trans hpl
    have hr := eh2
    refine go_iload_n 1 (nx := 33) dX3_take_32 rfl rfl rfl ?_
    refine go_reti dX3_take_33 ⟨_, rfl, bI_nar _⟩ ?_
    have e := tb0 c1
    refine ⟨rfl, ?_, fun j hj => fh2 j (by omega)⟩
    rw [if_neg (by rw [e]; decide), if_neg (by rw [e]; decide)]
    exact ⟨tk, pl, ⟨hr, htk, hpl⟩, hok⟩
  · skip
    refine go_aload_n 0 (nx := 5) dX3_take_4 rfl rfl rfl ?_
    refine go_dup (nx := 6) dX3_take_5 rfl rfl ?_
    refine go_gf (nx := 9) fg_X3_27 dX3_take_6 (by omega) hr rfl rfl ?_
    refine go_iconst (v := nI 1) (nx := 10) dX3_take_9 (by decide) rfl ?_
    refine go_iadd (nx := 11) dX3_take_10 rfl ?_
    rw [nI_add]
    refine go_pf (fs' := [_, _, _, _, _, _]) (nx := 14) (fp_X3_27 _) dX3_take_11 (by omega) hr (Nat.le_of_ble_eq_true rfl) ⟨rfl, rfl⟩ rfl rfl (fun h1 eh1 fh1 => ?_)
    have htk := (fh1 (4) (by omega)).trans htk
    have hpl := (fh1 (5) (by omega)).trans hpl
    have hr := eh1
    refine go_goto 32 dX3_take_14 rfl ?_
    refine go_iload_n 1 (nx := 33) dX3_take_32 rfl rfl rfl ?_
    refine go_reti dX3_take_33 ⟨_, rfl, bI_nar _⟩ ?_
    have e := tbn0 c1
    refine ⟨rfl, ?_, fun j hj => fh1 j (by omega)⟩
    rw [if_pos e, if_pos e]
    exact ⟨tk, pl, ⟨hr, htk, hpl⟩, hok⟩
theorem s_mayBegin {G : kG} {n sz c : Nat} {h : kH} {tx : Nat → Nat} {fa : Int32} {fF fL : Bool} {t w : Nat} {T : mT} {kn ca : Nat → Int32} {fo lw ju x : Int32} (hn : 37 ≤ n) (HR : rdS G tx sz c fa fF fL h) (hc : c ≤ tmn tx sz) (hs4 : sz ≤ 400) (ht : t + 3 ≤ n) (HT : rTown G t kn ca (nI T.1) fo lw ju h) (hP : T.1 ≤ 8) (hx : x = nI w) (hw : w < 200) : Spi G mX3_mayBegin 0 [.ref (kb G + 3), .ref (kb G + t), .int x] n h (fun v h' => v = bI (rMay (c, T, fF, fL) w) ∧ h' = h) := by
  subst hx
  obtain ⟨tk, pl, ⟨hr, htk, hpl⟩, hok⟩ := id HR
  have hm := tmn_le (tx := tx) (sz := sz)
  obtain ⟨hT, hkn, hca⟩ := id HT
  refine Spi.of (by decide) (Nat.le_of_ble_eq_true rfl) ?_
  refine go_iload_n 2 (nx := 1) dX3_mayBegin_0 rfl rfl rfl ?_
  rcases sw_0_5 (nI w) with hs1 | hs1 | hs1 | hs1 | hs1 | hs1 | hs1
  · refine go_tableOut 83 dX3_mayBegin_1 hs1 rfl ?_
    refine go_iconst (v := nI 0) (nx := 84) dX3_mayBegin_83 (by decide) rfl ?_
    refine go_reti dX3_mayBegin_84 ⟨_, rfl, rfl⟩ ?_
    have e : 5 < w := by
      rw [nI_toInt (by omega)] at hs1
      omega
    refine ⟨?_, rfl⟩
    rw [show rMay (c, T, fF, fL) w = false by unfold rMay; rw [if_neg (by omega), if_neg (by omega), if_neg (by omega), if_neg (by omega)]]
    rfl
  · refine go_tableIn 40 dX3_mayBegin_1 (by rw [hs1]; decide) (by rw [hs1]; decide) (off := 39) (by rw [hs1]; rfl) rfl ?_
    refine go_aload_n 1 (nx := 41) dX3_mayBegin_40 rfl rfl rfl ?_
    refine go_gf (nx := 44) fg_X3_106 dX3_mayBegin_41 (by omega) hT rfl rfl ?_
    refine go_bipush (v := nI 8) (nx := 46) dX3_mayBegin_44 (by decide) rfl ?_
    refine go_icmp_ge 53 (nx := 49) dX3_mayBegin_46 rfl rfl (fun c46 => ?_) (fun c46 => ?_)
    · skip
      refine go_iconst (v := nI 0) (nx := 54) dX3_mayBegin_53 (by decide) rfl ?_
      refine go_reti dX3_mayBegin_54 ⟨_, rfl, rfl⟩ ?_
      have e : w = 0 := keq hs1 (by omega) (by decide)
      subst e
      refine ⟨?_, rfl⟩
      show _ = bI (decide (T.1 < 8))
      rw [decide_eq_false (by have := kle c46; omega)]; rfl
    · skip
      refine go_iconst (v := nI 1) (nx := 50) dX3_mayBegin_49 (by decide) rfl ?_
      refine go_goto 54 dX3_mayBegin_50 rfl ?_
      refine go_reti dX3_mayBegin_54 ⟨_, rfl, rfl⟩ ?_
      have e : w = 0 := keq hs1 (by omega) (by decide)
      subst e
      refine ⟨?_, rfl⟩
      show _ = bI (decide (T.1 < 8))
      rw [decide_eq_true (knle c46)]; rfl
  · refine go_tableIn 55 dX3_mayBegin_1 (by rw [hs1]; decide) (by rw [hs1]; decide) (off := 54) (by rw [hs1]; rfl) rfl ?_
    refine go_iconst (v := nI 1) (nx := 56) dX3_mayBegin_55 (by decide) rfl ?_
    refine go_reti dX3_mayBegin_56 ⟨_, rfl, rfl⟩ ?_
    have e : w = 1 := keq hs1 (by omega) (by decide)
    subst e
    refine ⟨?_, rfl⟩
    rfl
  · refine go_tableIn 55 dX3_mayBegin_1 (by rw [hs1]; decide) (by rw [hs1]; decide) (off := 54) (by rw [hs1]; rfl) rfl ?_
    refine go_iconst (v := nI 1) (nx := 56) dX3_mayBegin_55 (by decide) rfl ?_
    refine go_reti dX3_mayBegin_56 ⟨_, rfl, rfl⟩ ?_
    have e : w = 2 := keq hs1 (by omega) (by decide)
    subst e
    refine ⟨?_, rfl⟩
    rfl
  · refine go_tableIn 55 dX3_mayBegin_1 (by rw [hs1]; decide) (by rw [hs1]; decide) (off := 54) (by rw [hs1]; rfl) rfl ?_
    refine go_iconst (v := nI 1) (nx := 56) dX3_mayBegin_55 (by decide) rfl ?_
    refine go_reti dX3_mayBegin_56 ⟨_, rfl, rfl⟩ ?_
    have e : w = 3 := keq hs1 (by omega) (by decide)
    subst e
    refine ⟨?_, rfl⟩
    rfl
  · refine go_tableIn 57 dX3_mayBegin_1 (by rw [hs1]; decide) (by rw [hs1]; decide) (off := 56) (by rw [hs1]; rfl) rfl ?_
    refine go_aload_n 0 (nx := 58) dX3_mayBegin_57 rfl rfl rfl ?_
    refine go_gf (nx := 61) fg_X3_38 dX3_mayBegin_58 (by omega) hr rfl rfl ?_
    refine go_if_ne 68 (nx := 64) dX3_mayBegin_61 rfl rfl (fun c61 => ?_) (fun c61 => ?_)
    · skip
      refine go_iconst (v := nI 0) (nx := 69) dX3_mayBegin_68 (by decide) rfl ?_
      refine go_reti dX3_mayBegin_69 ⟨_, rfl, rfl⟩ ?_
      have e : w = 4 := keq hs1 (by omega) (by decide)
      subst e
      refine ⟨?_, rfl⟩
      show _ = bI (!fF)
      rw [tbn0 c61]; rfl
    · skip
      refine go_iconst (v := nI 1) (nx := 65) dX3_mayBegin_64 (by decide) rfl ?_
      refine go_goto 69 dX3_mayBegin_65 rfl ?_
      refine go_reti dX3_mayBegin_69 ⟨_, rfl, rfl⟩ ?_
      have e : w = 4 := keq hs1 (by omega) (by decide)
      subst e
      refine ⟨?_, rfl⟩
      show _ = bI (!fF)
      rw [tb0 c61]; rfl
  · refine go_tableIn 70 dX3_mayBegin_1 (by rw [hs1]; decide) (by rw [hs1]; decide) (off := 69) (by rw [hs1]; rfl) rfl ?_
    refine go_aload_n 0 (nx := 71) dX3_mayBegin_70 rfl rfl rfl ?_
    refine go_gf (nx := 74) fg_X3_34 dX3_mayBegin_71 (by omega) hr rfl rfl ?_
    refine go_if_ne 81 (nx := 77) dX3_mayBegin_74 rfl rfl (fun c74 => ?_) (fun c74 => ?_)
    · skip
      refine go_iconst (v := nI 0) (nx := 82) dX3_mayBegin_81 (by decide) rfl ?_
      refine go_reti dX3_mayBegin_82 ⟨_, rfl, rfl⟩ ?_
      have e : w = 5 := keq hs1 (by omega) (by decide)
      subst e
      refine ⟨?_, rfl⟩
      show _ = bI (!fL)
      rw [tbn0 c74]; rfl
    · skip
      refine go_iconst (v := nI 1) (nx := 78) dX3_mayBegin_77 (by decide) rfl ?_
      refine go_goto 82 dX3_mayBegin_78 rfl ?_
      refine go_reti dX3_mayBegin_82 ⟨_, rfl, rfl⟩ ?_
      have e : w = 5 := keq hs1 (by omega) (by decide)
      subst e
      refine ⟨?_, rfl⟩
      show _ = bI (!fL)
      rw [tb0 c74]; rfl
