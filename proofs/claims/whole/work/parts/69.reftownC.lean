/-! the reference: town -/
theorem rItem_no {s : Nat → Nat} {σ : RD} (h : rMay σ (s σ.1) = false) : rItem s σ = .inl σ.1 := by
  unfold rItem
  rw [if_neg (by rw [h]; decide)]
theorem rMay_hi {σ : RD} {w : Nat} (h : 6 ≤ w) : rMay σ w = false := by
  unfold rMay
  rw [if_neg (by omega), if_neg (by omega), if_neg (by omega), if_neg (by omega)]
theorem l_town {G : kG} {n sz : Nat} {tx : Nat → Nat} {ν : mN} {i0 i1 : Option mN} {T : mT} {tr : Int64} {h0 : kH} (hn : 49 ≤ n) (h256 : ∀ j, tx j < 256) (hs4 : sz ≤ 400) (H0 : oM G (tx, sz, ν, i0, i1, T, tr) h0) : ∀ (d k c : Nat) (h : kH) (D : mT) (fF fL : Bool), 401 - k < d → 2 * k ≤ c → c ≤ tmn tx sz → wT D → pI G tx sz tr T (.inr (c, D, fF, fL)) h → oTm G tx sz h → tmr h0 h → rdTown tx sz = rAll (tSt tx sz) (401 - k) k (c, D, fF, fL) → Go G mX7_town (7, 0, 0) 51 [(1, .int (nI k)), (0, .ref (kb G + 37))] [] (n, 0, 0) h (kQi mX7_town n (fun v h' => v = fTown tx sz ∧ oM G (sTown (tx, sz, ν, i0, i1, T, tr)) h' ∧ kFr 37 49 h0 h')) := by
  intro d
  induction d with
  | zero => intro k c h D fF fL hd hk hc; have := tmn_le (tx := tx) (sz := sz); omega
  | succ d ih =>
    intro k c h D fF fL hd hk hc hw HI HT hR hb
    obtain ⟨HE, HD⟩ := id HI
    have HE : pE G tx sz tr T (.inr c) (nI D.1) (nI D.2.2.2.1) (nI D.2.2.2.2.1) (nI D.2.2.2.2.2) (bI fF) (bI fL) h := HE
    have HD : pD G T D h := HD
    obtain ⟨th, nx, tk, pl, va, HO, HC⟩ := id HE
    have hM := HO
    unfold pO at hM
    obtain ⟨k0, hnk, hk0, hti, hnx, hpl, htk⟩ := id HC
    have hm := tmn_le (tx := tx) (sz := sz)
    have hP := hw.1
    rw [show 401 - k = (401 - (k + 1)) + 1 by omega] at hb
    refine go_aload_n 1 (nx := 52) dX7_town_51 rfl rfl rfl ?_
    refine go_Vi (nx := 55) [] kc_X7_96 ⟨_, _, rfl⟩ (by omega) hM (m_isWell hn hM) dX7_town_52 rfl rfl (Nat.le_of_ble_eq_true rfl) (Nat.le_of_ble_eq_true rfl) ⟨Nat.le_refl _, Nat.le_refl _⟩ rfl (fun rh1 h1 hqh1 => ?_)
    obtain ⟨rfl, rfl⟩ := hqh1
    refine go_if_eq 207 (nx := 58) dX7_town_55 rfl rfl (fun c55 => False.elim (absurd c55 (by decide))) (fun c55 => ?_)
    refine go_aload_n 1 (nx := 59) dX7_town_58 rfl rfl rfl ?_
    refine go_gf (nx := 62) fg_X7_83 dX7_town_59 (by omega) hM rfl rfl ?_
    refine go_if_eq 207 (nx := 65) dX7_town_62 rfl rfl (fun c62 => ?_) (fun c62 => ?_)
    · skip
      refine go_aload_n 1 (nx := 208) dX7_town_207 rfl rfl rfl ?_
      refine go_Vi (nx := 211) [] kc_X7_96 ⟨_, _, rfl⟩ (by omega) hM (m_isWell hn hM) dX7_town_208 rfl rfl (Nat.le_of_ble_eq_true rfl) (Nat.le_of_ble_eq_true rfl) ⟨Nat.le_refl _, Nat.le_refl _⟩ rfl (fun rh2 h2 hqh2 => ?_)
      obtain ⟨rfl, rfl⟩ := hqh2
      refine go_if_ne 222 (nx := 214) dX7_town_211 rfl rfl (fun c211 => ?_) (fun c211 => False.elim (absurd c211 (by decide)))
      refine Go.sub [0, 1] rfl ?_
      have e12 : tSt tx sz c = 12 := (tkv_end htk).mp c62
      have eT : rdTown tx sz = .inr (k, D) := hb.trans (rAll_ok e12)
      exact l_town222 hn hw H0 (by unfold fTown; rw [eT]) (by simp only [sTown, eT]) HE HD hR
    · skip
      have e12 : ¬ tSt tx sz c = 12 := fun q => c62 ((tkv_end htk).mpr q)
      have cont : ∀ h' : kH, pI G tx sz tr T (rItem (tSt tx sz) (c, D, fF, fL)) h' → oTm G tx sz h' → tmr h0 h' → Go G mX7_town (7, 0, 0) 51 [(1, .int (nI (k + 1))), (0, .ref (kb G + 37))] [] (n, 0, 0) h' (kQi mX7_town n (fun v h' => v = fTown tx sz ∧ oM G (sTown (tx, sz, ν, i0, i1, T, tr)) h' ∧ kFr 37 49 h0 h')) := by
        intro h' HI2 HT2 hR2
        cases eX : rItem (tSt tx sz) (c, D, fF, fL) with
        | inl j =>
          rw [eX] at HI2
          exact l_t51Z hn HI2 HT2 hs4 H0 hR2 (hb.trans (rAll_in e12 eX))
        | inr τ =>
          rw [eX] at HI2
          obtain ⟨c2, T2, fF2, fL2⟩ := τ
          obtain ⟨⟨hw2, hc2⟩, hk2⟩ := (rItem_w (fun _ => tSt_end) ⟨hw, hc⟩).2 _ eX
          exact ih (k + 1) c2 h' T2 fF2 fL2 (by omega) (by have : c + 2 ≤ c2 := hk2; omega) hc2 hw2 HI2 HT2 hR2 (hb.trans (rAll_go e12 eX))
      refine go_aload_n 1 (nx := 66) dX7_town_65 rfl rfl rfl ?_
      refine go_gf (nx := 69) fg_X7_90 dX7_town_66 (by omega) hM rfl rfl ?_
      refine go_if_ne 89 (nx := 72) dX7_town_69 rfl rfl (fun c69 => ?_) (fun c69 => ?_)
      · skip
        refine go_aload_n 1 (nx := 90) dX7_town_89 rfl rfl rfl ?_
        refine go_gf (nx := 93) fg_X7_90 dX7_town_90 (by omega) hM rfl rfl ?_
        refine go_iconst (v := nI 4) (nx := 94) dX7_town_93 (by decide) rfl ?_
        refine go_icmp_ne 112 (nx := 97) dX7_town_94 rfl rfl (fun c94 => ?_) (fun c94 => ?_)
        · skip
          refine go_aload_n 1 (nx := 113) dX7_town_112 rfl rfl rfl ?_
          refine go_gf (nx := 116) fg_X7_90 dX7_town_113 (by omega) hM rfl rfl ?_
          refine go_iconst (v := nI 5) (nx := 117) dX7_town_116 (by decide) rfl ?_
          refine go_icmp_ne 135 (nx := 120) dX7_town_117 rfl rfl (fun c117 => ?_) (fun c117 => ?_)
          · skip
            refine go_aload_n 1 (nx := 136) dX7_town_135 rfl rfl rfl ?_
            refine go_gf (nx := 139) fg_X7_90 dX7_town_136 (by omega) hM rfl rfl ?_
            refine go_iconst (v := nI 4) (nx := 140) dX7_town_139 (by decide) rfl ?_
            refine go_icmp_ge 147 (nx := 143) dX7_town_140 rfl rfl (fun c140 => ?_) (fun c140 => ?_)
            · skip
              refine go_iconst (v := nI 0) (nx := 148) dX7_town_147 (by decide) rfl ?_
              refine go_istore_n (lv' := [_, _, _]) (nx := 149) dX7_town_148 rfl (by decide) rfl rfl ?_
              refine go_aload_n 2 (nx := 150) dX7_town_149 rfl rfl rfl ?_
              refine go_aload_n 2 (nx := 151) dX7_town_150 rfl rfl rfl ?_
              refine go_gf (nx := 154) fg_X7_83 dX7_town_151 (by omega) hM rfl rfl ?_
              refine go_iconst (v := nI 1) (nx := 155) dX7_town_154 (by decide) rfl ?_
              refine go_icmp_ne 166 (nx := 158) dX7_town_155 rfl rfl (fun c155 => ?_) (fun c155 => ?_)
              · skip
                refine go_iconst (v := nI 0) (nx := 167) dX7_town_166 (by decide) rfl ?_
                refine go_Vi (nx := 170) [_] kc_X7_103 ⟨_, _, rfl⟩ (by omega) hM (m_takesF hn hM rfl) dX7_town_167 rfl rfl (Nat.le_of_ble_eq_true rfl) (Nat.le_of_ble_eq_true rfl) ⟨Nat.le_refl _, Nat.le_refl _⟩ rfl (fun rh2 h2 hqh2 => ?_)
                obtain ⟨rfl, hM, hFh2⟩ := hqh2
                have eM : rMay (c, D, fF, fL) (tSt tx sz c) = false := rMay_hi (by have q0 : ¬ tSt tx sz c < 10 := fun q => c155 ((tkv_word htk).mpr q); omega)
                have HT := HT.fr hFh2 (by omega)
                have HD := HD.fr hFh2 (by omega)
                have hR := hR.k hFh2 (by omega)
                rw [rItem_no eM] at cont
                rw [hpl] at hM
                have HX : pR G tx sz tr T (.inl c) false false h2 := ⟨⟨_, _, _, _, _, _, _, _, _, _, _, hM⟩, HD.w⟩
                unfold pO at hM
                refine go_istore_n (lv' := [_, _, _, _]) (nx := 171) dX7_town_170 rfl (by decide) rfl rfl ?_
                refine go_aload_n 3 (nx := 172) dX7_town_171 rfl rfl rfl ?_
                refine go_Vi (nx := 175) [] kc_X7_96 ⟨_, _, rfl⟩ (by omega) hM (m_isWell hn hM) dX7_town_172 rfl rfl (Nat.le_of_ble_eq_true rfl) (Nat.le_of_ble_eq_true rfl) ⟨Nat.le_refl _, Nat.le_refl _⟩ rfl (fun rh3 h3 hqh3 => ?_)
                obtain ⟨rfl, rfl⟩ := hqh3
                refine go_if_eq 183 (nx := 178) dX7_town_175 rfl rfl (fun c175 => ?_) (fun c175 => False.elim (c175 (by rw [decide_eq_false (tpl_pos hs4)]; rfl)))
                refine Go.sub [0, 1, 3, 2] rfl ?_
                exact l_t183 hn HX HT h256 hs4 hR cont
              · skip
                refine go_iload_n 0 (nx := 159) dX7_town_158 rfl rfl rfl ?_
                refine go_if_eq 166 (nx := 162) dX7_town_159 rfl rfl (fun c159 => ?_) (fun c159 => False.elim (absurd rfl c159))
                refine go_iconst (v := nI 0) (nx := 167) dX7_town_166 (by decide) rfl ?_
                refine go_Vi (nx := 170) [_] kc_X7_103 ⟨_, _, rfl⟩ (by omega) hM (m_takesF hn hM rfl) dX7_town_167 rfl rfl (Nat.le_of_ble_eq_true rfl) (Nat.le_of_ble_eq_true rfl) ⟨Nat.le_refl _, Nat.le_refl _⟩ rfl (fun rh2 h2 hqh2 => ?_)
                obtain ⟨rfl, hM, hFh2⟩ := hqh2
                have h10 := (tkv_word htk).mp c155
                have hvw := tkv_wv htk h10
                rw [hvw] at c69 c94 c117 c140
                have eM : rMay (c, D, fF, fL) (tSt tx sz c) = false := by
                  have n0 : ¬ tSt tx sz c = 0 := fun q => c69 (by rw [q]; rfl)
                  have n4 : ¬ tSt tx sz c = 4 := fun q => c94 (by rw [q])
                  have n5 : ¬ tSt tx sz c = 5 := fun q => c117 (by rw [q])
                  have z := kle c140 (by decide) (by omega)
                  exact rMay_hi (by omega)
                have HT := HT.fr hFh2 (by omega)
                have HD := HD.fr hFh2 (by omega)
                have hR := hR.k hFh2 (by omega)
                rw [rItem_no eM] at cont
                rw [hpl] at hM
                have HX : pR G tx sz tr T (.inl c) false false h2 := ⟨⟨_, _, _, _, _, _, _, _, _, _, _, hM⟩, HD.w⟩
                unfold pO at hM
                refine go_istore_n (lv' := [_, _, _, _]) (nx := 171) dX7_town_170 rfl (by decide) rfl rfl ?_
                refine go_aload_n 3 (nx := 172) dX7_town_171 rfl rfl rfl ?_
                refine go_Vi (nx := 175) [] kc_X7_96 ⟨_, _, rfl⟩ (by omega) hM (m_isWell hn hM) dX7_town_172 rfl rfl (Nat.le_of_ble_eq_true rfl) (Nat.le_of_ble_eq_true rfl) ⟨Nat.le_refl _, Nat.le_refl _⟩ rfl (fun rh3 h3 hqh3 => ?_)
                obtain ⟨rfl, rfl⟩ := hqh3
                refine go_if_eq 183 (nx := 178) dX7_town_175 rfl rfl (fun c175 => ?_) (fun c175 => False.elim (c175 (by rw [decide_eq_false (tpl_pos hs4)]; rfl)))
                refine Go.sub [0, 1, 3, 2] rfl ?_
                exact l_t183 hn HX HT h256 hs4 hR cont
            · skip
              refine go_iconst (v := nI 1) (nx := 144) dX7_town_143 (by decide) rfl ?_
              refine go_goto 148 dX7_town_144 rfl ?_
              refine go_istore_n (lv' := [_, _, _]) (nx := 149) dX7_town_148 rfl (by decide) rfl rfl ?_
              refine go_aload_n 2 (nx := 150) dX7_town_149 rfl rfl rfl ?_
              refine go_aload_n 2 (nx := 151) dX7_town_150 rfl rfl rfl ?_
              refine go_gf (nx := 154) fg_X7_83 dX7_town_151 (by omega) hM rfl rfl ?_
              refine go_iconst (v := nI 1) (nx := 155) dX7_town_154 (by decide) rfl ?_
              refine go_icmp_ne 166 (nx := 158) dX7_town_155 rfl rfl (fun c155 => ?_) (fun c155 => ?_)
              · skip
                refine go_iconst (v := nI 0) (nx := 167) dX7_town_166 (by decide) rfl ?_
                refine go_Vi (nx := 170) [_] kc_X7_103 ⟨_, _, rfl⟩ (by omega) hM (m_takesF hn hM rfl) dX7_town_167 rfl rfl (Nat.le_of_ble_eq_true rfl) (Nat.le_of_ble_eq_true rfl) ⟨Nat.le_refl _, Nat.le_refl _⟩ rfl (fun rh2 h2 hqh2 => ?_)
                obtain ⟨rfl, hM, hFh2⟩ := hqh2
                have eM : rMay (c, D, fF, fL) (tSt tx sz c) = false := rMay_hi (by have q0 : ¬ tSt tx sz c < 10 := fun q => c155 ((tkv_word htk).mpr q); omega)
                have HT := HT.fr hFh2 (by omega)
                have HD := HD.fr hFh2 (by omega)
                have hR := hR.k hFh2 (by omega)
                rw [rItem_no eM] at cont
                rw [hpl] at hM
                have HX : pR G tx sz tr T (.inl c) false false h2 := ⟨⟨_, _, _, _, _, _, _, _, _, _, _, hM⟩, HD.w⟩
                unfold pO at hM
                refine go_istore_n (lv' := [_, _, _, _]) (nx := 171) dX7_town_170 rfl (by decide) rfl rfl ?_
                refine go_aload_n 3 (nx := 172) dX7_town_171 rfl rfl rfl ?_
                refine go_Vi (nx := 175) [] kc_X7_96 ⟨_, _, rfl⟩ (by omega) hM (m_isWell hn hM) dX7_town_172 rfl rfl (Nat.le_of_ble_eq_true rfl) (Nat.le_of_ble_eq_true rfl) ⟨Nat.le_refl _, Nat.le_refl _⟩ rfl (fun rh3 h3 hqh3 => ?_)
                obtain ⟨rfl, rfl⟩ := hqh3
                refine go_if_eq 183 (nx := 178) dX7_town_175 rfl rfl (fun c175 => ?_) (fun c175 => False.elim (c175 (by rw [decide_eq_false (tpl_pos hs4)]; rfl)))
                refine Go.sub [0, 1, 3, 2] rfl ?_
                exact l_t183 hn HX HT h256 hs4 hR cont
              · skip
                refine go_iload_n 0 (nx := 159) dX7_town_158 rfl rfl rfl ?_
                refine go_if_eq 166 (nx := 162) dX7_town_159 rfl rfl (fun c159 => False.elim (absurd c159 (by decide))) (fun c159 => ?_)
                refine go_iconst (v := nI 1) (nx := 163) dX7_town_162 (by decide) rfl ?_
                refine go_goto 167 dX7_town_163 rfl ?_
                refine go_Vi (nx := 170) [_] kc_X7_103 ⟨_, _, rfl⟩ (by omega) hM (m_takesT hn hM HC HT h256 hs4 rfl) dX7_town_167 rfl rfl (Nat.le_of_ble_eq_true rfl) (Nat.le_of_ble_eq_true rfl) ⟨Nat.le_refl _, Nat.le_refl _⟩ rfl (fun rh2 h2 hqh2 => ?_)
                obtain ⟨rfl, ⟨nx2, tk2, pl2, va2, hM, HC2⟩, hFh2⟩ := hqh2
                have h10 := (tkv_word htk).mp c155
                have hvw := tkv_wv htk h10
                rw [hvw] at c69 c94 c117 c140
                have eM : rMay (c, D, fF, fL) (tSt tx sz c) = true := by
                  have n0 : ¬ tSt tx sz c = 0 := fun q => c69 (by rw [q]; rfl)
                  have n4 : ¬ tSt tx sz c = 4 := fun q => c94 (by rw [q])
                  have n5 : ¬ tSt tx sz c = 5 := fun q => c117 (by rw [q])
                  have z := knle c140 (by decide) (by omega)
                  unfold rMay
                  rw [if_neg n0, if_pos (by omega)]
                have HT := HT.fr hFh2 (by omega)
                have HD := HD.fr hFh2 (by omega)
                have hR := hR.k hFh2 (by omega)
                have hw6 := (rMay_w (fun _ => tSt_end) hc eM).1
                have hw6 : tSt tx sz c < 6 := hw6
                have hP8 : tSt tx sz c = 0 → D.1 < 8 := fun q => by
                  rw [q] at eM
                  unfold rMay at eM
                  rw [if_pos rfl] at eM
                  exact of_decide_eq_true eM
                rw [rItem_of eM] at cont
                unfold pO at hM
                rw [hvw]
                refine go_istore_n (lv' := [_, _, _, _]) (nx := 171) dX7_town_170 rfl (by decide) rfl rfl ?_
                refine go_aload_n 3 (nx := 172) dX7_town_171 rfl rfl rfl ?_
                refine go_Vi (nx := 175) [] kc_X7_96 ⟨_, _, rfl⟩ (by omega) hM (m_isWell hn hM) dX7_town_172 rfl rfl (Nat.le_of_ble_eq_true rfl) (Nat.le_of_ble_eq_true rfl) ⟨Nat.le_refl _, Nat.le_refl _⟩ rfl (fun rh3 h3 hqh3 => ?_)
                obtain ⟨rfl, rfl⟩ := hqh3
                refine go_if_eq 183 (nx := 178) dX7_town_175 rfl rfl (fun c175 => False.elim (absurd c175 (by decide))) (fun c175 => ?_)
                refine go_aload_n 3 (nx := 179) dX7_town_178 rfl rfl rfl ?_
                refine go_iload_n 0 (nx := 180) dX7_town_179 rfl rfl rfl ?_
                refine go_Vv (nx := 183) [_] kc_X7_134 ⟨_, _, rfl⟩ (by omega) hM (m_readsItem (w := tSt tx sz c) hn ⟨_, _, _, _, _, hM, HC2⟩ HD HT h256 hs4 hw rfl hw6 hP8) dX7_town_180 rfl rfl (Nat.le_of_ble_eq_true rfl) (Nat.le_of_ble_eq_true rfl) ⟨Nat.le_refl _, Nat.le_refl _⟩ rfl (fun h4 hqh4 => ?_)
                obtain ⟨HX, HT, hR2⟩ := hqh4
                have hR := hR.tr hR2
                refine Go.sub [0, 1, 3, 2] rfl ?_
                exact l_t183 hn HX HT h256 hs4 hR cont
          · skip
            refine go_aload_n 1 (nx := 121) dX7_town_120 rfl rfl rfl ?_
            refine go_gf (nx := 124) fg_X7_127 dX7_town_121 (by omega) hM rfl rfl ?_
            refine go_if_ne 131 (nx := 127) dX7_town_124 rfl rfl (fun c124 => ?_) (fun c124 => ?_)
            · skip
              refine go_iconst (v := nI 0) (nx := 132) dX7_town_131 (by decide) rfl ?_
              refine go_goto 148 dX7_town_132 rfl ?_
              refine go_istore_n (lv' := [_, _, _]) (nx := 149) dX7_town_148 rfl (by decide) rfl rfl ?_
              refine go_aload_n 2 (nx := 150) dX7_town_149 rfl rfl rfl ?_
              refine go_aload_n 2 (nx := 151) dX7_town_150 rfl rfl rfl ?_
              refine go_gf (nx := 154) fg_X7_83 dX7_town_151 (by omega) hM rfl rfl ?_
              refine go_iconst (v := nI 1) (nx := 155) dX7_town_154 (by decide) rfl ?_
              refine go_icmp_ne 166 (nx := 158) dX7_town_155 rfl rfl (fun c155 => ?_) (fun c155 => ?_)
              · skip
                refine go_iconst (v := nI 0) (nx := 167) dX7_town_166 (by decide) rfl ?_
                refine go_Vi (nx := 170) [_] kc_X7_103 ⟨_, _, rfl⟩ (by omega) hM (m_takesF hn hM rfl) dX7_town_167 rfl rfl (Nat.le_of_ble_eq_true rfl) (Nat.le_of_ble_eq_true rfl) ⟨Nat.le_refl _, Nat.le_refl _⟩ rfl (fun rh2 h2 hqh2 => ?_)
                obtain ⟨rfl, hM, hFh2⟩ := hqh2
                have eM : rMay (c, D, fF, fL) (tSt tx sz c) = false := rMay_hi (by have q0 : ¬ tSt tx sz c < 10 := fun q => c155 ((tkv_word htk).mpr q); omega)
                have HT := HT.fr hFh2 (by omega)
                have HD := HD.fr hFh2 (by omega)
                have hR := hR.k hFh2 (by omega)
                rw [rItem_no eM] at cont
                rw [hpl] at hM
                have HX : pR G tx sz tr T (.inl c) false false h2 := ⟨⟨_, _, _, _, _, _, _, _, _, _, _, hM⟩, HD.w⟩
                unfold pO at hM
                refine go_istore_n (lv' := [_, _, _, _]) (nx := 171) dX7_town_170 rfl (by decide) rfl rfl ?_
                refine go_aload_n 3 (nx := 172) dX7_town_171 rfl rfl rfl ?_
                refine go_Vi (nx := 175) [] kc_X7_96 ⟨_, _, rfl⟩ (by omega) hM (m_isWell hn hM) dX7_town_172 rfl rfl (Nat.le_of_ble_eq_true rfl) (Nat.le_of_ble_eq_true rfl) ⟨Nat.le_refl _, Nat.le_refl _⟩ rfl (fun rh3 h3 hqh3 => ?_)
                obtain ⟨rfl, rfl⟩ := hqh3
                refine go_if_eq 183 (nx := 178) dX7_town_175 rfl rfl (fun c175 => ?_) (fun c175 => False.elim (c175 (by rw [decide_eq_false (tpl_pos hs4)]; rfl)))
                refine Go.sub [0, 1, 3, 2] rfl ?_
                exact l_t183 hn HX HT h256 hs4 hR cont
              · skip
                refine go_iload_n 0 (nx := 159) dX7_town_158 rfl rfl rfl ?_
                refine go_if_eq 166 (nx := 162) dX7_town_159 rfl rfl (fun c159 => ?_) (fun c159 => False.elim (absurd rfl c159))
                refine go_iconst (v := nI 0) (nx := 167) dX7_town_166 (by decide) rfl ?_
                refine go_Vi (nx := 170) [_] kc_X7_103 ⟨_, _, rfl⟩ (by omega) hM (m_takesF hn hM rfl) dX7_town_167 rfl rfl (Nat.le_of_ble_eq_true rfl) (Nat.le_of_ble_eq_true rfl) ⟨Nat.le_refl _, Nat.le_refl _⟩ rfl (fun rh2 h2 hqh2 => ?_)
                obtain ⟨rfl, hM, hFh2⟩ := hqh2
                have h10 := (tkv_word htk).mp c155
                have hvw := tkv_wv htk h10
                rw [hvw] at c69 c94 c117
                have eM : rMay (c, D, fF, fL) (tSt tx sz c) = false := by
                  have w5 : tSt tx sz c = 5 := keq c117 (by omega) (by decide)
                  rw [w5]
                  unfold rMay
                  rw [if_neg (by decide), if_neg (by decide), if_neg (by decide), if_pos rfl]
                  show (!fL) = _
                  rw [tbn0 c124]; rfl
                have HT := HT.fr hFh2 (by omega)
                have HD := HD.fr hFh2 (by omega)
                have hR := hR.k hFh2 (by omega)
                rw [rItem_no eM] at cont
                rw [hpl] at hM
                have HX : pR G tx sz tr T (.inl c) false false h2 := ⟨⟨_, _, _, _, _, _, _, _, _, _, _, hM⟩, HD.w⟩
                unfold pO at hM
                refine go_istore_n (lv' := [_, _, _, _]) (nx := 171) dX7_town_170 rfl (by decide) rfl rfl ?_
                refine go_aload_n 3 (nx := 172) dX7_town_171 rfl rfl rfl ?_
                refine go_Vi (nx := 175) [] kc_X7_96 ⟨_, _, rfl⟩ (by omega) hM (m_isWell hn hM) dX7_town_172 rfl rfl (Nat.le_of_ble_eq_true rfl) (Nat.le_of_ble_eq_true rfl) ⟨Nat.le_refl _, Nat.le_refl _⟩ rfl (fun rh3 h3 hqh3 => ?_)
                obtain ⟨rfl, rfl⟩ := hqh3
                refine go_if_eq 183 (nx := 178) dX7_town_175 rfl rfl (fun c175 => ?_) (fun c175 => False.elim (c175 (by rw [decide_eq_false (tpl_pos hs4)]; rfl)))
                refine Go.sub [0, 1, 3, 2] rfl ?_
                exact l_t183 hn HX HT h256 hs4 hR cont
            · skip
              refine go_iconst (v := nI 1) (nx := 128) dX7_town_127 (by decide) rfl ?_
              refine go_goto 148 dX7_town_128 rfl ?_
              refine go_istore_n (lv' := [_, _, _]) (nx := 149) dX7_town_148 rfl (by decide) rfl rfl ?_
              refine go_aload_n 2 (nx := 150) dX7_town_149 rfl rfl rfl ?_
              refine go_aload_n 2 (nx := 151) dX7_town_150 rfl rfl rfl ?_
              refine go_gf (nx := 154) fg_X7_83 dX7_town_151 (by omega) hM rfl rfl ?_
              refine go_iconst (v := nI 1) (nx := 155) dX7_town_154 (by decide) rfl ?_
              refine go_icmp_ne 166 (nx := 158) dX7_town_155 rfl rfl (fun c155 => ?_) (fun c155 => ?_)
              · skip
                refine go_iconst (v := nI 0) (nx := 167) dX7_town_166 (by decide) rfl ?_
                refine go_Vi (nx := 170) [_] kc_X7_103 ⟨_, _, rfl⟩ (by omega) hM (m_takesF hn hM rfl) dX7_town_167 rfl rfl (Nat.le_of_ble_eq_true rfl) (Nat.le_of_ble_eq_true rfl) ⟨Nat.le_refl _, Nat.le_refl _⟩ rfl (fun rh2 h2 hqh2 => ?_)
                obtain ⟨rfl, hM, hFh2⟩ := hqh2
                have eM : rMay (c, D, fF, fL) (tSt tx sz c) = false := rMay_hi (by have q0 : ¬ tSt tx sz c < 10 := fun q => c155 ((tkv_word htk).mpr q); omega)
                have HT := HT.fr hFh2 (by omega)
                have HD := HD.fr hFh2 (by omega)
                have hR := hR.k hFh2 (by omega)
                rw [rItem_no eM] at cont
                rw [hpl] at hM
                have HX : pR G tx sz tr T (.inl c) false false h2 := ⟨⟨_, _, _, _, _, _, _, _, _, _, _, hM⟩, HD.w⟩
                unfold pO at hM
                refine go_istore_n (lv' := [_, _, _, _]) (nx := 171) dX7_town_170 rfl (by decide) rfl rfl ?_
                refine go_aload_n 3 (nx := 172) dX7_town_171 rfl rfl rfl ?_
                refine go_Vi (nx := 175) [] kc_X7_96 ⟨_, _, rfl⟩ (by omega) hM (m_isWell hn hM) dX7_town_172 rfl rfl (Nat.le_of_ble_eq_true rfl) (Nat.le_of_ble_eq_true rfl) ⟨Nat.le_refl _, Nat.le_refl _⟩ rfl (fun rh3 h3 hqh3 => ?_)
                obtain ⟨rfl, rfl⟩ := hqh3
                refine go_if_eq 183 (nx := 178) dX7_town_175 rfl rfl (fun c175 => ?_) (fun c175 => False.elim (c175 (by rw [decide_eq_false (tpl_pos hs4)]; rfl)))
                refine Go.sub [0, 1, 3, 2] rfl ?_
                exact l_t183 hn HX HT h256 hs4 hR cont
              · skip
                refine go_iload_n 0 (nx := 159) dX7_town_158 rfl rfl rfl ?_
                refine go_if_eq 166 (nx := 162) dX7_town_159 rfl rfl (fun c159 => False.elim (absurd c159 (by decide))) (fun c159 => ?_)
                refine go_iconst (v := nI 1) (nx := 163) dX7_town_162 (by decide) rfl ?_
                refine go_goto 167 dX7_town_163 rfl ?_
                refine go_Vi (nx := 170) [_] kc_X7_103 ⟨_, _, rfl⟩ (by omega) hM (m_takesT hn hM HC HT h256 hs4 rfl) dX7_town_167 rfl rfl (Nat.le_of_ble_eq_true rfl) (Nat.le_of_ble_eq_true rfl) ⟨Nat.le_refl _, Nat.le_refl _⟩ rfl (fun rh2 h2 hqh2 => ?_)
                obtain ⟨rfl, ⟨nx2, tk2, pl2, va2, hM, HC2⟩, hFh2⟩ := hqh2
                have h10 := (tkv_word htk).mp c155
                have hvw := tkv_wv htk h10
                rw [hvw] at c69 c94 c117
                have eM : rMay (c, D, fF, fL) (tSt tx sz c) = true := by
                  have w5 : tSt tx sz c = 5 := keq c117 (by omega) (by decide)
                  rw [w5]
                  unfold rMay
                  rw [if_neg (by decide), if_neg (by decide), if_neg (by decide), if_pos rfl]
                  show (!fL) = _
                  rw [tb0 c124]; rfl
                have HT := HT.fr hFh2 (by omega)
                have HD := HD.fr hFh2 (by omega)
                have hR := hR.k hFh2 (by omega)
                have hw6 := (rMay_w (fun _ => tSt_end) hc eM).1
                have hw6 : tSt tx sz c < 6 := hw6
                have hP8 : tSt tx sz c = 0 → D.1 < 8 := fun q => by
                  rw [q] at eM
                  unfold rMay at eM
                  rw [if_pos rfl] at eM
                  exact of_decide_eq_true eM
                rw [rItem_of eM] at cont
                unfold pO at hM
                rw [hvw]
                refine go_istore_n (lv' := [_, _, _, _]) (nx := 171) dX7_town_170 rfl (by decide) rfl rfl ?_
                refine go_aload_n 3 (nx := 172) dX7_town_171 rfl rfl rfl ?_
                refine go_Vi (nx := 175) [] kc_X7_96 ⟨_, _, rfl⟩ (by omega) hM (m_isWell hn hM) dX7_town_172 rfl rfl (Nat.le_of_ble_eq_true rfl) (Nat.le_of_ble_eq_true rfl) ⟨Nat.le_refl _, Nat.le_refl _⟩ rfl (fun rh3 h3 hqh3 => ?_)
                obtain ⟨rfl, rfl⟩ := hqh3
                refine go_if_eq 183 (nx := 178) dX7_town_175 rfl rfl (fun c175 => False.elim (absurd c175 (by decide))) (fun c175 => ?_)
                refine go_aload_n 3 (nx := 179) dX7_town_178 rfl rfl rfl ?_
                refine go_iload_n 0 (nx := 180) dX7_town_179 rfl rfl rfl ?_
                refine go_Vv (nx := 183) [_] kc_X7_134 ⟨_, _, rfl⟩ (by omega) hM (m_readsItem (w := tSt tx sz c) hn ⟨_, _, _, _, _, hM, HC2⟩ HD HT h256 hs4 hw rfl hw6 hP8) dX7_town_180 rfl rfl (Nat.le_of_ble_eq_true rfl) (Nat.le_of_ble_eq_true rfl) ⟨Nat.le_refl _, Nat.le_refl _⟩ rfl (fun h4 hqh4 => ?_)
                obtain ⟨HX, HT, hR2⟩ := hqh4
                have hR := hR.tr hR2
                refine Go.sub [0, 1, 3, 2] rfl ?_
                exact l_t183 hn HX HT h256 hs4 hR cont
        · skip
          refine go_aload_n 1 (nx := 98) dX7_town_97 rfl rfl rfl ?_
          refine go_gf (nx := 101) fg_X7_117 dX7_town_98 (by omega) hM rfl rfl ?_
          refine go_if_ne 108 (nx := 104) dX7_town_101 rfl rfl (fun c101 => ?_) (fun c101 => ?_)
          · skip
            refine go_iconst (v := nI 0) (nx := 109) dX7_town_108 (by decide) rfl ?_
            refine go_goto 148 dX7_town_109 rfl ?_
            refine go_istore_n (lv' := [_, _, _]) (nx := 149) dX7_town_148 rfl (by decide) rfl rfl ?_
            refine go_aload_n 2 (nx := 150) dX7_town_149 rfl rfl rfl ?_
            refine go_aload_n 2 (nx := 151) dX7_town_150 rfl rfl rfl ?_
            refine go_gf (nx := 154) fg_X7_83 dX7_town_151 (by omega) hM rfl rfl ?_
            refine go_iconst (v := nI 1) (nx := 155) dX7_town_154 (by decide) rfl ?_
            refine go_icmp_ne 166 (nx := 158) dX7_town_155 rfl rfl (fun c155 => ?_) (fun c155 => ?_)
            · skip
              refine go_iconst (v := nI 0) (nx := 167) dX7_town_166 (by decide) rfl ?_
              refine go_Vi (nx := 170) [_] kc_X7_103 ⟨_, _, rfl⟩ (by omega) hM (m_takesF hn hM rfl) dX7_town_167 rfl rfl (Nat.le_of_ble_eq_true rfl) (Nat.le_of_ble_eq_true rfl) ⟨Nat.le_refl _, Nat.le_refl _⟩ rfl (fun rh2 h2 hqh2 => ?_)
              obtain ⟨rfl, hM, hFh2⟩ := hqh2
              have eM : rMay (c, D, fF, fL) (tSt tx sz c) = false := rMay_hi (by have q0 : ¬ tSt tx sz c < 10 := fun q => c155 ((tkv_word htk).mpr q); omega)
              have HT := HT.fr hFh2 (by omega)
              have HD := HD.fr hFh2 (by omega)
              have hR := hR.k hFh2 (by omega)
              rw [rItem_no eM] at cont
              rw [hpl] at hM
              have HX : pR G tx sz tr T (.inl c) false false h2 := ⟨⟨_, _, _, _, _, _, _, _, _, _, _, hM⟩, HD.w⟩
              unfold pO at hM
              refine go_istore_n (lv' := [_, _, _, _]) (nx := 171) dX7_town_170 rfl (by decide) rfl rfl ?_
              refine go_aload_n 3 (nx := 172) dX7_town_171 rfl rfl rfl ?_
              refine go_Vi (nx := 175) [] kc_X7_96 ⟨_, _, rfl⟩ (by omega) hM (m_isWell hn hM) dX7_town_172 rfl rfl (Nat.le_of_ble_eq_true rfl) (Nat.le_of_ble_eq_true rfl) ⟨Nat.le_refl _, Nat.le_refl _⟩ rfl (fun rh3 h3 hqh3 => ?_)
              obtain ⟨rfl, rfl⟩ := hqh3
              refine go_if_eq 183 (nx := 178) dX7_town_175 rfl rfl (fun c175 => ?_) (fun c175 => False.elim (c175 (by rw [decide_eq_false (tpl_pos hs4)]; rfl)))
              refine Go.sub [0, 1, 3, 2] rfl ?_
              exact l_t183 hn HX HT h256 hs4 hR cont
            · skip
              refine go_iload_n 0 (nx := 159) dX7_town_158 rfl rfl rfl ?_
              refine go_if_eq 166 (nx := 162) dX7_town_159 rfl rfl (fun c159 => ?_) (fun c159 => False.elim (absurd rfl c159))
              refine go_iconst (v := nI 0) (nx := 167) dX7_town_166 (by decide) rfl ?_
              refine go_Vi (nx := 170) [_] kc_X7_103 ⟨_, _, rfl⟩ (by omega) hM (m_takesF hn hM rfl) dX7_town_167 rfl rfl (Nat.le_of_ble_eq_true rfl) (Nat.le_of_ble_eq_true rfl) ⟨Nat.le_refl _, Nat.le_refl _⟩ rfl (fun rh2 h2 hqh2 => ?_)
              obtain ⟨rfl, hM, hFh2⟩ := hqh2
              have h10 := (tkv_word htk).mp c155
              have hvw := tkv_wv htk h10
              rw [hvw] at c69 c94
              have eM : rMay (c, D, fF, fL) (tSt tx sz c) = false := by
                have w4 : tSt tx sz c = 4 := keq c94 (by omega) (by decide)
                rw [w4]
                unfold rMay
                rw [if_neg (by decide), if_neg (by decide), if_pos rfl]
                show (!fF) = _
                rw [tbn0 c101]; rfl
              have HT := HT.fr hFh2 (by omega)
              have HD := HD.fr hFh2 (by omega)
              have hR := hR.k hFh2 (by omega)
              rw [rItem_no eM] at cont
              rw [hpl] at hM
              have HX : pR G tx sz tr T (.inl c) false false h2 := ⟨⟨_, _, _, _, _, _, _, _, _, _, _, hM⟩, HD.w⟩
              unfold pO at hM
              refine go_istore_n (lv' := [_, _, _, _]) (nx := 171) dX7_town_170 rfl (by decide) rfl rfl ?_
              refine go_aload_n 3 (nx := 172) dX7_town_171 rfl rfl rfl ?_
              refine go_Vi (nx := 175) [] kc_X7_96 ⟨_, _, rfl⟩ (by omega) hM (m_isWell hn hM) dX7_town_172 rfl rfl (Nat.le_of_ble_eq_true rfl) (Nat.le_of_ble_eq_true rfl) ⟨Nat.le_refl _, Nat.le_refl _⟩ rfl (fun rh3 h3 hqh3 => ?_)
              obtain ⟨rfl, rfl⟩ := hqh3
              refine go_if_eq 183 (nx := 178) dX7_town_175 rfl rfl (fun c175 => ?_) (fun c175 => False.elim (c175 (by rw [decide_eq_false (tpl_pos hs4)]; rfl)))
              refine Go.sub [0, 1, 3, 2] rfl ?_
              exact l_t183 hn HX HT h256 hs4 hR cont
          · skip
            refine go_iconst (v := nI 1) (nx := 105) dX7_town_104 (by decide) rfl ?_
            refine go_goto 148 dX7_town_105 rfl ?_
            refine go_istore_n (lv' := [_, _, _]) (nx := 149) dX7_town_148 rfl (by decide) rfl rfl ?_
            refine go_aload_n 2 (nx := 150) dX7_town_149 rfl rfl rfl ?_
            refine go_aload_n 2 (nx := 151) dX7_town_150 rfl rfl rfl ?_
            refine go_gf (nx := 154) fg_X7_83 dX7_town_151 (by omega) hM rfl rfl ?_
            refine go_iconst (v := nI 1) (nx := 155) dX7_town_154 (by decide) rfl ?_
            refine go_icmp_ne 166 (nx := 158) dX7_town_155 rfl rfl (fun c155 => ?_) (fun c155 => ?_)
            · skip
              refine go_iconst (v := nI 0) (nx := 167) dX7_town_166 (by decide) rfl ?_
              refine go_Vi (nx := 170) [_] kc_X7_103 ⟨_, _, rfl⟩ (by omega) hM (m_takesF hn hM rfl) dX7_town_167 rfl rfl (Nat.le_of_ble_eq_true rfl) (Nat.le_of_ble_eq_true rfl) ⟨Nat.le_refl _, Nat.le_refl _⟩ rfl (fun rh2 h2 hqh2 => ?_)
              obtain ⟨rfl, hM, hFh2⟩ := hqh2
              have eM : rMay (c, D, fF, fL) (tSt tx sz c) = false := rMay_hi (by have q0 : ¬ tSt tx sz c < 10 := fun q => c155 ((tkv_word htk).mpr q); omega)
              have HT := HT.fr hFh2 (by omega)
              have HD := HD.fr hFh2 (by omega)
              have hR := hR.k hFh2 (by omega)
              rw [rItem_no eM] at cont
              rw [hpl] at hM
              have HX : pR G tx sz tr T (.inl c) false false h2 := ⟨⟨_, _, _, _, _, _, _, _, _, _, _, hM⟩, HD.w⟩
              unfold pO at hM
              refine go_istore_n (lv' := [_, _, _, _]) (nx := 171) dX7_town_170 rfl (by decide) rfl rfl ?_
              refine go_aload_n 3 (nx := 172) dX7_town_171 rfl rfl rfl ?_
              refine go_Vi (nx := 175) [] kc_X7_96 ⟨_, _, rfl⟩ (by omega) hM (m_isWell hn hM) dX7_town_172 rfl rfl (Nat.le_of_ble_eq_true rfl) (Nat.le_of_ble_eq_true rfl) ⟨Nat.le_refl _, Nat.le_refl _⟩ rfl (fun rh3 h3 hqh3 => ?_)
              obtain ⟨rfl, rfl⟩ := hqh3
              refine go_if_eq 183 (nx := 178) dX7_town_175 rfl rfl (fun c175 => ?_) (fun c175 => False.elim (c175 (by rw [decide_eq_false (tpl_pos hs4)]; rfl)))
              refine Go.sub [0, 1, 3, 2] rfl ?_
              exact l_t183 hn HX HT h256 hs4 hR cont
            · skip
              refine go_iload_n 0 (nx := 159) dX7_town_158 rfl rfl rfl ?_
              refine go_if_eq 166 (nx := 162) dX7_town_159 rfl rfl (fun c159 => False.elim (absurd c159 (by decide))) (fun c159 => ?_)
              refine go_iconst (v := nI 1) (nx := 163) dX7_town_162 (by decide) rfl ?_
              refine go_goto 167 dX7_town_163 rfl ?_
              refine go_Vi (nx := 170) [_] kc_X7_103 ⟨_, _, rfl⟩ (by omega) hM (m_takesT hn hM HC HT h256 hs4 rfl) dX7_town_167 rfl rfl (Nat.le_of_ble_eq_true rfl) (Nat.le_of_ble_eq_true rfl) ⟨Nat.le_refl _, Nat.le_refl _⟩ rfl (fun rh2 h2 hqh2 => ?_)
              obtain ⟨rfl, ⟨nx2, tk2, pl2, va2, hM, HC2⟩, hFh2⟩ := hqh2
              have h10 := (tkv_word htk).mp c155
              have hvw := tkv_wv htk h10
              rw [hvw] at c69 c94
              have eM : rMay (c, D, fF, fL) (tSt tx sz c) = true := by
                have w4 : tSt tx sz c = 4 := keq c94 (by omega) (by decide)
                rw [w4]
                unfold rMay
                rw [if_neg (by decide), if_neg (by decide), if_pos rfl]
                show (!fF) = _
                rw [tb0 c101]; rfl
              have HT := HT.fr hFh2 (by omega)
              have HD := HD.fr hFh2 (by omega)
              have hR := hR.k hFh2 (by omega)
              have hw6 := (rMay_w (fun _ => tSt_end) hc eM).1
              have hw6 : tSt tx sz c < 6 := hw6
              have hP8 : tSt tx sz c = 0 → D.1 < 8 := fun q => by
                rw [q] at eM
                unfold rMay at eM
                rw [if_pos rfl] at eM
                exact of_decide_eq_true eM
              rw [rItem_of eM] at cont
              unfold pO at hM
              rw [hvw]
              refine go_istore_n (lv' := [_, _, _, _]) (nx := 171) dX7_town_170 rfl (by decide) rfl rfl ?_
              refine go_aload_n 3 (nx := 172) dX7_town_171 rfl rfl rfl ?_
              refine go_Vi (nx := 175) [] kc_X7_96 ⟨_, _, rfl⟩ (by omega) hM (m_isWell hn hM) dX7_town_172 rfl rfl (Nat.le_of_ble_eq_true rfl) (Nat.le_of_ble_eq_true rfl) ⟨Nat.le_refl _, Nat.le_refl _⟩ rfl (fun rh3 h3 hqh3 => ?_)
              obtain ⟨rfl, rfl⟩ := hqh3
              refine go_if_eq 183 (nx := 178) dX7_town_175 rfl rfl (fun c175 => False.elim (absurd c175 (by decide))) (fun c175 => ?_)
              refine go_aload_n 3 (nx := 179) dX7_town_178 rfl rfl rfl ?_
              refine go_iload_n 0 (nx := 180) dX7_town_179 rfl rfl rfl ?_
              refine go_Vv (nx := 183) [_] kc_X7_134 ⟨_, _, rfl⟩ (by omega) hM (m_readsItem (w := tSt tx sz c) hn ⟨_, _, _, _, _, hM, HC2⟩ HD HT h256 hs4 hw rfl hw6 hP8) dX7_town_180 rfl rfl (Nat.le_of_ble_eq_true rfl) (Nat.le_of_ble_eq_true rfl) ⟨Nat.le_refl _, Nat.le_refl _⟩ rfl (fun h4 hqh4 => ?_)
              obtain ⟨HX, HT, hR2⟩ := hqh4
              have hR := hR.tr hR2
              refine Go.sub [0, 1, 3, 2] rfl ?_
              exact l_t183 hn HX HT h256 hs4 hR cont
      · skip
        refine go_aload_n 1 (nx := 73) dX7_town_72 rfl rfl rfl ?_
        refine go_gf (nx := 76) fg_X7_107 dX7_town_73 (by omega) hM rfl rfl ?_
        refine go_bipush (v := nI 8) (nx := 78) dX7_town_76 (by decide) rfl ?_
        refine go_icmp_ge 85 (nx := 81) dX7_town_78 rfl rfl (fun c78 => ?_) (fun c78 => ?_)
        · skip
          refine go_iconst (v := nI 0) (nx := 86) dX7_town_85 (by decide) rfl ?_
          refine go_goto 148 dX7_town_86 rfl ?_
          refine go_istore_n (lv' := [_, _, _]) (nx := 149) dX7_town_148 rfl (by decide) rfl rfl ?_
          refine go_aload_n 2 (nx := 150) dX7_town_149 rfl rfl rfl ?_
          refine go_aload_n 2 (nx := 151) dX7_town_150 rfl rfl rfl ?_
          refine go_gf (nx := 154) fg_X7_83 dX7_town_151 (by omega) hM rfl rfl ?_
          refine go_iconst (v := nI 1) (nx := 155) dX7_town_154 (by decide) rfl ?_
          refine go_icmp_ne 166 (nx := 158) dX7_town_155 rfl rfl (fun c155 => ?_) (fun c155 => ?_)
          · skip
            refine go_iconst (v := nI 0) (nx := 167) dX7_town_166 (by decide) rfl ?_
            refine go_Vi (nx := 170) [_] kc_X7_103 ⟨_, _, rfl⟩ (by omega) hM (m_takesF hn hM rfl) dX7_town_167 rfl rfl (Nat.le_of_ble_eq_true rfl) (Nat.le_of_ble_eq_true rfl) ⟨Nat.le_refl _, Nat.le_refl _⟩ rfl (fun rh2 h2 hqh2 => ?_)
            obtain ⟨rfl, hM, hFh2⟩ := hqh2
            have eM : rMay (c, D, fF, fL) (tSt tx sz c) = false := rMay_hi (by have q0 : ¬ tSt tx sz c < 10 := fun q => c155 ((tkv_word htk).mpr q); omega)
            have HT := HT.fr hFh2 (by omega)
            have HD := HD.fr hFh2 (by omega)
            have hR := hR.k hFh2 (by omega)
            rw [rItem_no eM] at cont
            rw [hpl] at hM
            have HX : pR G tx sz tr T (.inl c) false false h2 := ⟨⟨_, _, _, _, _, _, _, _, _, _, _, hM⟩, HD.w⟩
            unfold pO at hM
            refine go_istore_n (lv' := [_, _, _, _]) (nx := 171) dX7_town_170 rfl (by decide) rfl rfl ?_
            refine go_aload_n 3 (nx := 172) dX7_town_171 rfl rfl rfl ?_
            refine go_Vi (nx := 175) [] kc_X7_96 ⟨_, _, rfl⟩ (by omega) hM (m_isWell hn hM) dX7_town_172 rfl rfl (Nat.le_of_ble_eq_true rfl) (Nat.le_of_ble_eq_true rfl) ⟨Nat.le_refl _, Nat.le_refl _⟩ rfl (fun rh3 h3 hqh3 => ?_)
            obtain ⟨rfl, rfl⟩ := hqh3
            refine go_if_eq 183 (nx := 178) dX7_town_175 rfl rfl (fun c175 => ?_) (fun c175 => False.elim (c175 (by rw [decide_eq_false (tpl_pos hs4)]; rfl)))
            refine Go.sub [0, 1, 3, 2] rfl ?_
            exact l_t183 hn HX HT h256 hs4 hR cont
          · skip
            refine go_iload_n 0 (nx := 159) dX7_town_158 rfl rfl rfl ?_
            refine go_if_eq 166 (nx := 162) dX7_town_159 rfl rfl (fun c159 => ?_) (fun c159 => False.elim (absurd rfl c159))
            refine go_iconst (v := nI 0) (nx := 167) dX7_town_166 (by decide) rfl ?_
            refine go_Vi (nx := 170) [_] kc_X7_103 ⟨_, _, rfl⟩ (by omega) hM (m_takesF hn hM rfl) dX7_town_167 rfl rfl (Nat.le_of_ble_eq_true rfl) (Nat.le_of_ble_eq_true rfl) ⟨Nat.le_refl _, Nat.le_refl _⟩ rfl (fun rh2 h2 hqh2 => ?_)
            obtain ⟨rfl, hM, hFh2⟩ := hqh2
            have h10 := (tkv_word htk).mp c155
            have hvw := tkv_wv htk h10
            rw [hvw] at c69
            have eM : rMay (c, D, fF, fL) (tSt tx sz c) = false := by
              have w0 : tSt tx sz c = 0 := keq (b := 0) c69 (by omega) (by decide)
              rw [w0]
              unfold rMay
              rw [if_pos rfl]
              exact decide_eq_false (by have := kle c78; show ¬ D.1 < 8; omega)
            have HT := HT.fr hFh2 (by omega)
            have HD := HD.fr hFh2 (by omega)
            have hR := hR.k hFh2 (by omega)
            rw [rItem_no eM] at cont
            rw [hpl] at hM
            have HX : pR G tx sz tr T (.inl c) false false h2 := ⟨⟨_, _, _, _, _, _, _, _, _, _, _, hM⟩, HD.w⟩
            unfold pO at hM
            refine go_istore_n (lv' := [_, _, _, _]) (nx := 171) dX7_town_170 rfl (by decide) rfl rfl ?_
            refine go_aload_n 3 (nx := 172) dX7_town_171 rfl rfl rfl ?_
            refine go_Vi (nx := 175) [] kc_X7_96 ⟨_, _, rfl⟩ (by omega) hM (m_isWell hn hM) dX7_town_172 rfl rfl (Nat.le_of_ble_eq_true rfl) (Nat.le_of_ble_eq_true rfl) ⟨Nat.le_refl _, Nat.le_refl _⟩ rfl (fun rh3 h3 hqh3 => ?_)
            obtain ⟨rfl, rfl⟩ := hqh3
            refine go_if_eq 183 (nx := 178) dX7_town_175 rfl rfl (fun c175 => ?_) (fun c175 => False.elim (c175 (by rw [decide_eq_false (tpl_pos hs4)]; rfl)))
            refine Go.sub [0, 1, 3, 2] rfl ?_
            exact l_t183 hn HX HT h256 hs4 hR cont
        · skip
          refine go_iconst (v := nI 1) (nx := 82) dX7_town_81 (by decide) rfl ?_
          refine go_goto 148 dX7_town_82 rfl ?_
          refine go_istore_n (lv' := [_, _, _]) (nx := 149) dX7_town_148 rfl (by decide) rfl rfl ?_
          refine go_aload_n 2 (nx := 150) dX7_town_149 rfl rfl rfl ?_
          refine go_aload_n 2 (nx := 151) dX7_town_150 rfl rfl rfl ?_
          refine go_gf (nx := 154) fg_X7_83 dX7_town_151 (by omega) hM rfl rfl ?_
          refine go_iconst (v := nI 1) (nx := 155) dX7_town_154 (by decide) rfl ?_
          refine go_icmp_ne 166 (nx := 158) dX7_town_155 rfl rfl (fun c155 => ?_) (fun c155 => ?_)
          · skip
            refine go_iconst (v := nI 0) (nx := 167) dX7_town_166 (by decide) rfl ?_
            refine go_Vi (nx := 170) [_] kc_X7_103 ⟨_, _, rfl⟩ (by omega) hM (m_takesF hn hM rfl) dX7_town_167 rfl rfl (Nat.le_of_ble_eq_true rfl) (Nat.le_of_ble_eq_true rfl) ⟨Nat.le_refl _, Nat.le_refl _⟩ rfl (fun rh2 h2 hqh2 => ?_)
            obtain ⟨rfl, hM, hFh2⟩ := hqh2
            have eM : rMay (c, D, fF, fL) (tSt tx sz c) = false := rMay_hi (by have q0 : ¬ tSt tx sz c < 10 := fun q => c155 ((tkv_word htk).mpr q); omega)
            have HT := HT.fr hFh2 (by omega)
            have HD := HD.fr hFh2 (by omega)
            have hR := hR.k hFh2 (by omega)
            rw [rItem_no eM] at cont
            rw [hpl] at hM
            have HX : pR G tx sz tr T (.inl c) false false h2 := ⟨⟨_, _, _, _, _, _, _, _, _, _, _, hM⟩, HD.w⟩
            unfold pO at hM
            refine go_istore_n (lv' := [_, _, _, _]) (nx := 171) dX7_town_170 rfl (by decide) rfl rfl ?_
            refine go_aload_n 3 (nx := 172) dX7_town_171 rfl rfl rfl ?_
            refine go_Vi (nx := 175) [] kc_X7_96 ⟨_, _, rfl⟩ (by omega) hM (m_isWell hn hM) dX7_town_172 rfl rfl (Nat.le_of_ble_eq_true rfl) (Nat.le_of_ble_eq_true rfl) ⟨Nat.le_refl _, Nat.le_refl _⟩ rfl (fun rh3 h3 hqh3 => ?_)
            obtain ⟨rfl, rfl⟩ := hqh3
            refine go_if_eq 183 (nx := 178) dX7_town_175 rfl rfl (fun c175 => ?_) (fun c175 => False.elim (c175 (by rw [decide_eq_false (tpl_pos hs4)]; rfl)))
            refine Go.sub [0, 1, 3, 2] rfl ?_
            exact l_t183 hn HX HT h256 hs4 hR cont
          · skip
            refine go_iload_n 0 (nx := 159) dX7_town_158 rfl rfl rfl ?_
            refine go_if_eq 166 (nx := 162) dX7_town_159 rfl rfl (fun c159 => False.elim (absurd c159 (by decide))) (fun c159 => ?_)
            refine go_iconst (v := nI 1) (nx := 163) dX7_town_162 (by decide) rfl ?_
            refine go_goto 167 dX7_town_163 rfl ?_
            refine go_Vi (nx := 170) [_] kc_X7_103 ⟨_, _, rfl⟩ (by omega) hM (m_takesT hn hM HC HT h256 hs4 rfl) dX7_town_167 rfl rfl (Nat.le_of_ble_eq_true rfl) (Nat.le_of_ble_eq_true rfl) ⟨Nat.le_refl _, Nat.le_refl _⟩ rfl (fun rh2 h2 hqh2 => ?_)
            obtain ⟨rfl, ⟨nx2, tk2, pl2, va2, hM, HC2⟩, hFh2⟩ := hqh2
            have h10 := (tkv_word htk).mp c155
            have hvw := tkv_wv htk h10
            rw [hvw] at c69
            have eM : rMay (c, D, fF, fL) (tSt tx sz c) = true := by
              have w0 : tSt tx sz c = 0 := keq (b := 0) c69 (by omega) (by decide)
              rw [w0]
              unfold rMay
              rw [if_pos rfl]
              have z8 : D.1 < 8 := knle c78
              exact decide_eq_true z8
            have HT := HT.fr hFh2 (by omega)
            have HD := HD.fr hFh2 (by omega)
            have hR := hR.k hFh2 (by omega)
            have hw6 := (rMay_w (fun _ => tSt_end) hc eM).1
            have hw6 : tSt tx sz c < 6 := hw6
            have hP8 : tSt tx sz c = 0 → D.1 < 8 := fun q => by
              rw [q] at eM
              unfold rMay at eM
              rw [if_pos rfl] at eM
              exact of_decide_eq_true eM
            rw [rItem_of eM] at cont
            unfold pO at hM
            rw [hvw]
            refine go_istore_n (lv' := [_, _, _, _]) (nx := 171) dX7_town_170 rfl (by decide) rfl rfl ?_
            refine go_aload_n 3 (nx := 172) dX7_town_171 rfl rfl rfl ?_
            refine go_Vi (nx := 175) [] kc_X7_96 ⟨_, _, rfl⟩ (by omega) hM (m_isWell hn hM) dX7_town_172 rfl rfl (Nat.le_of_ble_eq_true rfl) (Nat.le_of_ble_eq_true rfl) ⟨Nat.le_refl _, Nat.le_refl _⟩ rfl (fun rh3 h3 hqh3 => ?_)
            obtain ⟨rfl, rfl⟩ := hqh3
            refine go_if_eq 183 (nx := 178) dX7_town_175 rfl rfl (fun c175 => False.elim (absurd c175 (by decide))) (fun c175 => ?_)
            refine go_aload_n 3 (nx := 179) dX7_town_178 rfl rfl rfl ?_
            refine go_iload_n 0 (nx := 180) dX7_town_179 rfl rfl rfl ?_
            refine go_Vv (nx := 183) [_] kc_X7_134 ⟨_, _, rfl⟩ (by omega) hM (m_readsItem (w := tSt tx sz c) hn ⟨_, _, _, _, _, hM, HC2⟩ HD HT h256 hs4 hw rfl hw6 hP8) dX7_town_180 rfl rfl (Nat.le_of_ble_eq_true rfl) (Nat.le_of_ble_eq_true rfl) ⟨Nat.le_refl _, Nat.le_refl _⟩ rfl (fun h4 hqh4 => ?_)
            obtain ⟨HX, HT, hR2⟩ := hqh4
            have hR := hR.tr hR2
            refine Go.sub [0, 1, 3, 2] rfl ?_
            exact l_t183 hn HX HT h256 hs4 hR cont
theorem m_town {G : kG} {n sz : Nat} {h : kH} {tx : Nat → Nat} {ν : mN} {i0 i1 : Option mN} {T : mT} {tr : Int64} (hn : 49 ≤ n) (H : oM G (tx, sz, ν, i0, i1, T, tr) h) (W : wS (tx, sz, ν, i0, i1, T, tr)) : Spi G mX7_town 7 [.ref (kb G + 37)] n h (fun v h' => v = fTown tx sz ∧ oM G (sTown (tx, sz, ν, i0, i1, T, tr)) h' ∧ kFr 37 49 h h') := by
  obtain ⟨hwT, hwN, hY, hw0, hw1, hsz, htx⟩ := id W
  have hsz : sz ≤ 400 := hsz
  have htx : ∀ j, tx j < 256 := htx
  obtain ⟨⟨F, HO⟩, HTm, ⟨ka, hkt, hk1⟩, ⟨ba, hhb, hb1⟩, -⟩ := id H
  have hM : h 37 = .inr (7, [.int (F 0), .long tr, .ref (kb G + 38), .int (nI sz), .int (F 4), .int (F 5), .int (F 6), .int (F 7), .int (F 8), .ref (kb G + 39), .ref (kb G + 40), .int (nI T.1), .int (F 12), .int (nI T.2.2.2.1), .int (F 14), .int (nI T.2.2.2.2.1), .int (F 16), .int (nI T.2.2.2.2.2), .int (F 18), .int (F 19), .int (F 20), .ref (kb G + 41), .ref (kb G + 42), .ref (kb G + 43), .ref (kb G + 44), .ref (kb G + 45), .ref (kb G + 46), .ref (kb G + 47), .ref (kb G + 48)]) := HO
  have HTm : oTm G tx sz h := HTm
  refine Spi.of (by decide) (Nat.le_of_ble_eq_true rfl) ?_
  refine Go.loc (lv' := [(0, _)]) rfl ?_
  refine go_aload_n 0 (nx := 1) dX7_town_0 rfl rfl rfl ?_
  refine go_iconst (v := nI 0) (nx := 2) dX7_town_1 (by decide) rfl ?_
  refine go_pf (fs' := [_, _, _, _, _, _, _, _, _, _, _, _, _, _, _, _, _, _, _, _, _, _, _, _, _, _, _, _, _]) (nx := 5) (fp_X7_51 _) dX7_town_2 (by omega) hM (Nat.le_of_ble_eq_true rfl) ⟨rfl, rfl⟩ rfl rfl (fun h1 eh1 fh1 => ?_)
  have hkt := (fh1 (39) (by omega)).trans hkt
  have hhb := (fh1 (40) (by omega)).trans hhb
  have hM := eh1
  refine go_aload_n 0 (nx := 6) dX7_town_5 rfl rfl rfl ?_
  refine go_iconst (v := (-1)) (nx := 7) dX7_town_6 (by decide) rfl ?_
  refine go_pf (fs' := [_, _, _, _, _, _, _, _, _, _, _, _, _, _, _, _, _, _, _, _, _, _, _, _, _, _, _, _, _]) (nx := 10) (fp_X7_93 _) dX7_town_7 (by omega) hM (Nat.le_of_ble_eq_true rfl) ⟨rfl, rfl⟩ rfl rfl (fun h2 eh2 fh2 => ?_)
  have hkt := (fh2 (39) (by omega)).trans hkt
  have hhb := (fh2 (40) (by omega)).trans hhb
  have hM := eh2
  refine go_aload_n 0 (nx := 11) dX7_town_10 rfl rfl rfl ?_
  refine go_iconst (v := nI 0) (nx := 12) dX7_town_11 (by decide) rfl ?_
  refine go_pf (fs' := [_, _, _, _, _, _, _, _, _, _, _, _, _, _, _, _, _, _, _, _, _, _, _, _, _, _, _, _, _]) (nx := 15) (fp_X7_73 _) dX7_town_12 (by omega) hM (Nat.le_of_ble_eq_true rfl) ⟨rfl, rfl⟩ rfl rfl (fun h3 eh3 fh3 => ?_)
  have hkt := (fh3 (39) (by omega)).trans hkt
  have hhb := (fh3 (40) (by omega)).trans hhb
  have hM := eh3
  refine go_iconst (v := nI 0) (nx := 16) dX7_town_15 (by decide) rfl ?_
  refine go_istore_n (lv' := [_, _]) (nx := 17) dX7_town_16 rfl (by decide) rfl rfl ?_
  refine go_aload_n 1 (nx := 18) dX7_town_17 rfl rfl rfl ?_
  refine go_iconst (v := nI 0) (nx := 19) dX7_town_18 (by decide) rfl ?_
  refine go_pf (fs' := [_, _, _, _, _, _, _, _, _, _, _, _, _, _, _, _, _, _, _, _, _, _, _, _, _, _, _, _, _]) (nx := 22) (fp_X7_107 _) dX7_town_19 (by omega) hM (Nat.le_of_ble_eq_true rfl) ⟨rfl, rfl⟩ rfl rfl (fun h4 eh4 fh4 => ?_)
  have hkt := (fh4 (39) (by omega)).trans hkt
  have hhb := (fh4 (40) (by omega)).trans hhb
  have hM := eh4
  refine go_aload_n 1 (nx := 23) dX7_town_22 rfl rfl rfl ?_
  refine go_iconst (v := nI 0) (nx := 24) dX7_town_23 (by decide) rfl ?_
  refine go_pf (fs' := [_, _, _, _, _, _, _, _, _, _, _, _, _, _, _, _, _, _, _, _, _, _, _, _, _, _, _, _, _]) (nx := 27) (fp_X7_114 _) dX7_town_24 (by omega) hM (Nat.le_of_ble_eq_true rfl) ⟨rfl, rfl⟩ rfl rfl (fun h5 eh5 fh5 => ?_)
  have hkt := (fh5 (39) (by omega)).trans hkt
  have hhb := (fh5 (40) (by omega)).trans hhb
  have hM := eh5
  refine go_aload_n 1 (nx := 28) dX7_town_27 rfl rfl rfl ?_
  refine go_iconst (v := nI 0) (nx := 29) dX7_town_28 (by decide) rfl ?_
  refine go_pf (fs' := [_, _, _, _, _, _, _, _, _, _, _, _, _, _, _, _, _, _, _, _, _, _, _, _, _, _, _, _, _]) (nx := 32) (fp_X7_121 _) dX7_town_29 (by omega) hM (Nat.le_of_ble_eq_true rfl) ⟨rfl, rfl⟩ rfl rfl (fun h6 eh6 fh6 => ?_)
  have hkt := (fh6 (39) (by omega)).trans hkt
  have hhb := (fh6 (40) (by omega)).trans hhb
  have hM := eh6
  refine go_aload_n 1 (nx := 33) dX7_town_32 rfl rfl rfl ?_
  refine go_iconst (v := nI 2) (nx := 34) dX7_town_33 (by decide) rfl ?_
  refine go_pf (fs' := [_, _, _, _, _, _, _, _, _, _, _, _, _, _, _, _, _, _, _, _, _, _, _, _, _, _, _, _, _]) (nx := 37) (fp_X7_124 _) dX7_town_34 (by omega) hM (Nat.le_of_ble_eq_true rfl) ⟨rfl, rfl⟩ rfl rfl (fun h7 eh7 fh7 => ?_)
  have hkt := (fh7 (39) (by omega)).trans hkt
  have hhb := (fh7 (40) (by omega)).trans hhb
  have hM := eh7
  refine go_aload_n 1 (nx := 38) dX7_town_37 rfl rfl rfl ?_
  refine go_iconst (v := nI 0) (nx := 39) dX7_town_38 (by decide) rfl ?_
  refine go_pf (fs' := [_, _, _, _, _, _, _, _, _, _, _, _, _, _, _, _, _, _, _, _, _, _, _, _, _, _, _, _, _]) (nx := 42) (fp_X7_117 _) dX7_town_39 (by omega) hM (Nat.le_of_ble_eq_true rfl) ⟨rfl, rfl⟩ rfl rfl (fun h8 eh8 fh8 => ?_)
  have hkt := (fh8 (39) (by omega)).trans hkt
  have hhb := (fh8 (40) (by omega)).trans hhb
  have hM := eh8
  refine go_aload_n 1 (nx := 43) dX7_town_42 rfl rfl rfl ?_
  refine go_iconst (v := nI 0) (nx := 44) dX7_town_43 (by decide) rfl ?_
  refine go_pf (fs' := [_, _, _, _, _, _, _, _, _, _, _, _, _, _, _, _, _, _, _, _, _, _, _, _, _, _, _, _, _]) (nx := 47) (fp_X7_127 _) dX7_town_44 (by omega) hM (Nat.le_of_ble_eq_true rfl) ⟨rfl, rfl⟩ rfl rfl (fun h9 eh9 fh9 => ?_)
  have hkt := (fh9 (39) (by omega)).trans hkt
  have hhb := (fh9 (40) (by omega)).trans hhb
  have hM := eh9
  have fx : kFr 37 38 h h9 := fun j hj => by rw [fh9 j (by omega), fh8 j (by omega), fh7 j (by omega), fh6 j (by omega), fh5 j (by omega), fh4 j (by omega), fh3 j (by omega), fh2 j (by omega), fh1 j (by omega)]
  have HT := HTm.fr fx (by omega)
  have hR : tmr h h9 := tmr.rf.k fx (by omega)
  refine go_aload_n 1 (nx := 48) dX7_town_47 rfl rfl rfl ?_
  refine go_Vv (nx := 51) [] kc_X7_100 ⟨_, _, rfl⟩ (by omega) hM (m_advances (c := 0) (k := 0) hn htx hsz rfl (Nat.zero_le _) tin_0 rfl hM HT) dX7_town_48 rfl rfl (Nat.le_of_ble_eq_true rfl) (Nat.le_of_ble_eq_true rfl) ⟨Nat.le_refl _, Nat.le_refl _⟩ rfl (fun h10 hqh10 => ?_)
  obtain ⟨HE, hFh10⟩ := hqh10
  have HT := HT.fr hFh10 (by omega)
  have hR := hR.k hFh10 (by omega)
  have hkt := (hFh10 39 (by omega)).trans hkt
  have hhb := (hFh10 40 (by omega)).trans hhb
  refine Go.sub [0, 1] rfl ?_
  obtain ⟨nx2, tk2, pl2, va2, HO2, HC2⟩ := HE
  have HI : pI G tx sz tr T (.inr (0, T0, false, false)) _ := ⟨⟨_, _, _, _, _, HO2, HC2⟩, ka, ba, hkt, hhb, hk1, hb1, fun p hp => absurd hp (Nat.not_lt_zero p), fun p hp => absurd hp (Nat.not_lt_zero p)⟩
  exact l_town hn htx hsz H 402 0 0 _ T0 false false (by omega) (by omega) (Nat.zero_le _) wT_0 HI HT hR rfl
