/-! LeastKnown$Reader: a pair read -/
def rdP (s : Nat → Nat) (w c : Nat) (T : mT) : Nat ⊕ (Nat × mT) := if rA T w (s c) = true then (if rB T (s c) (s (c + 1)) = true then .inr (c + 2, rTell w (s c - 100) (s (c + 1) - 100) T) else .inl (c + 1)) else .inl c
theorem s_rdPair {G : kG} {n sz c t : Nat} {h : kH} {tx : Nat → Nat} {fa : Int32} {fF fL : Bool} {T : mT} {w : Nat} {x : Int32} (hn : 37 ≤ n) (HR : rdS G tx sz c fa fF fL h) (hc : c ≤ tmn tx sz) (hs4 : sz ≤ 400) (ht : t + 3 ≤ n) (ht6 : 6 ≤ t) (HT : oTown G t T h) (hw : wT T) (hx : x = nI w) (hw0 : w < 10) : Spi G mX3_readPair 2 [.ref (kb G + 3), .ref (kb G + t), .int x] n h (fun v h' => rdQ G t tx sz fa fF fL (rdP (tSt tx sz) w c T) v h' ∧ tfr t h h') := by
  subst hx
  obtain ⟨tk, pl, ⟨hr, htk, hpl⟩, hok⟩ := id HR
  have hm := tmn_le (tx := tx) (sz := sz)
  obtain ⟨kn, ca, ⟨hT, hkn, hca⟩, hk, hca2⟩ := id HT
  have hs2 := tSt_lt (tx := tx) (sz := sz) (i := c)
  have hs3 := tSt_lt (tx := tx) (sz := sz) (i := c + 1)
  have hP := hw.1
  have dF : tfr t h h := tfr.rf
  refine Spi.of (by decide) (Nat.le_of_ble_eq_true rfl) ?_
  refine go_aload_n 0 (nx := 1) dX3_readPair_0 rfl rfl rfl ?_
  refine go_Vi (nx := 4) [] kc_X3_119 ⟨_, _, rfl⟩ (by omega) hr (s_number hn HR hc hs4) dX3_readPair_1 rfl rfl (Nat.le_of_ble_eq_true rfl) (Nat.le_of_ble_eq_true rfl) ⟨Nat.le_refl _, Nat.le_refl _⟩ rfl (fun rh1 h1 hqh1 => ?_)
  obtain ⟨rfl, rfl⟩ := hqh1
  refine go_istore_n (lv' := [_, _, _, _]) (nx := 5) dX3_readPair_4 rfl (by decide) rfl rfl ?_
  refine go_iload_n 3 (nx := 6) dX3_readPair_5 rfl rfl rfl ?_
  refine go_iconst (v := nI 3) (nx := 7) dX3_readPair_6 (by decide) rfl ?_
  refine go_icmp_ne 23 (nx := 10) dX3_readPair_7 rfl rfl (fun c7 => ?_) (fun c7 => ?_)
  · skip
    refine go_iconst (v := nI 1) (nx := 24) dX3_readPair_23 (by decide) rfl ?_
    refine go_goto 28 dX3_readPair_24 rfl ?_
    refine go_istore (lv' := [_, _, _, _, _]) (nx := 30) dX3_readPair_28 (by decide) rfl rfl ?_
    refine go_aload_n 2 (nx := 31) dX3_readPair_30 rfl rfl rfl ?_
    refine go_iload_n 1 (nx := 32) dX3_readPair_31 rfl rfl rfl ?_
    refine go_if_lt 52 (nx := 35) dX3_readPair_32 rfl rfl (fun c32 => ?_) (fun c32 => ?_)
    · skip
      refine go_iconst (v := nI 0) (nx := 53) dX3_readPair_52 (by decide) rfl ?_
      refine go_Vi (nx := 56) [_] kc_X3_102 ⟨_, _, rfl⟩ (by omega) hr (s_take (b := false) hn HR hc hs4 rfl) dX3_readPair_53 rfl rfl (Nat.le_of_ble_eq_true rfl) (Nat.le_of_ble_eq_true rfl) ⟨Nat.le_refl _, Nat.le_refl _⟩ rfl (fun rh2 h2 hqh2 => ?_)
      obtain ⟨rfl, HR, hFh2⟩ := hqh2
      have HR : rdS G tx sz (c) (nI (tpl tx sz (c))) fF fL h2 := HR
      have HT := HT.fr hFh2 (by omega)
      have dF := dF.k hFh2 (by omega)
      have hT := (hFh2 (t) (by omega)).trans hT
      have hkn := (hFh2 (t + 1) (by omega)).trans hkn
      have hca := (hFh2 (t + 2) (by omega)).trans hca
      obtain ⟨tk, pl, ⟨hr, htk, hpl⟩, hok⟩ := id HR
      refine go_if_ne 61 (nx := 59) dX3_readPair_56 rfl rfl (fun c56 => False.elim (absurd rfl c56)) (fun c56 => ?_)
      refine go_iconst (v := nI 0) (nx := 60) dX3_readPair_59 (by decide) rfl ?_
      refine go_reti dX3_readPair_60 ⟨_, rfl, rfl⟩ ?_
      have z : (tSt tx sz c) < 100 := Nat.lt_of_not_le fun q => by rw [nm_pos q] at c32; exact Nat.not_lt_zero _ (klt (b := 0) c32 (by omega) (by decide))
      have eA : rA T w (tSt tx sz c) = false := by rw [rA, decide_eq_false (by omega)]; rfl
      rw [rdP, if_neg (by rw [eA]; decide)]
      exact ⟨⟨rfl, ⟨_, HR⟩, HT.a⟩, dF⟩
    · skip
      refine go_iload_n 1 (nx := 36) dX3_readPair_35 rfl rfl rfl ?_
      refine go_aload_n 3 (nx := 37) dX3_readPair_36 rfl rfl rfl ?_
      refine go_gf (nx := 40) fg_X3_106 dX3_readPair_37 (by omega) hT rfl rfl ?_
      refine go_icmp_ge 52 (nx := 43) dX3_readPair_40 rfl rfl (fun c40 => ?_) (fun c40 => ?_)
      · skip
        refine go_iconst (v := nI 0) (nx := 53) dX3_readPair_52 (by decide) rfl ?_
        refine go_Vi (nx := 56) [_] kc_X3_102 ⟨_, _, rfl⟩ (by omega) hr (s_take (b := false) hn HR hc hs4 rfl) dX3_readPair_53 rfl rfl (Nat.le_of_ble_eq_true rfl) (Nat.le_of_ble_eq_true rfl) ⟨Nat.le_refl _, Nat.le_refl _⟩ rfl (fun rh2 h2 hqh2 => ?_)
        obtain ⟨rfl, HR, hFh2⟩ := hqh2
        have HR : rdS G tx sz (c) (nI (tpl tx sz (c))) fF fL h2 := HR
        have HT := HT.fr hFh2 (by omega)
        have dF := dF.k hFh2 (by omega)
        have hT := (hFh2 (t) (by omega)).trans hT
        have hkn := (hFh2 (t + 1) (by omega)).trans hkn
        have hca := (hFh2 (t + 2) (by omega)).trans hca
        obtain ⟨tk, pl, ⟨hr, htk, hpl⟩, hok⟩ := id HR
        refine go_if_ne 61 (nx := 59) dX3_readPair_56 rfl rfl (fun c56 => False.elim (absurd rfl c56)) (fun c56 => ?_)
        refine go_iconst (v := nI 0) (nx := 60) dX3_readPair_59 (by decide) rfl ?_
        refine go_reti dX3_readPair_60 ⟨_, rfl, rfl⟩ ?_
        have z1 : 100 ≤ (tSt tx sz c) := Nat.le_of_not_lt fun q => c32 (nm_neg _ q)
        rw [nm_pos z1] at c40
        have z2 := kle c40 (by omega) (by omega)
        have eA : rA T w (tSt tx sz c) = false := by rw [rA, decide_eq_false (show ¬ (tSt tx sz c) < 100 + T.1 by omega), Bool.and_false]; rfl
        rw [rdP, if_neg (by rw [eA]; decide)]
        exact ⟨⟨rfl, ⟨_, HR⟩, HT.a⟩, dF⟩
      · skip
        refine go_iload 0 (nx := 45) dX3_readPair_43 rfl rfl ?_
        refine go_if_eq 52 (nx := 48) dX3_readPair_45 rfl rfl (fun c45 => False.elim (absurd c45 (by decide))) (fun c45 => ?_)
        refine go_iconst (v := nI 1) (nx := 49) dX3_readPair_48 (by decide) rfl ?_
        refine go_goto 53 dX3_readPair_49 rfl ?_
        refine go_Vi (nx := 56) [_] kc_X3_102 ⟨_, _, rfl⟩ (by omega) hr (s_take (b := true) hn HR hc hs4 rfl) dX3_readPair_53 rfl rfl (Nat.le_of_ble_eq_true rfl) (Nat.le_of_ble_eq_true rfl) ⟨Nat.le_refl _, Nat.le_refl _⟩ rfl (fun rh2 h2 hqh2 => ?_)
        obtain ⟨rfl, HR, hFh2⟩ := hqh2
        have HR : rdS G tx sz (c + 1) fa fF fL h2 := HR
        have HT := HT.fr hFh2 (by omega)
        have dF := dF.k hFh2 (by omega)
        have hT := (hFh2 (t) (by omega)).trans hT
        have hkn := (hFh2 (t + 1) (by omega)).trans hkn
        have hca := (hFh2 (t + 2) (by omega)).trans hca
        obtain ⟨tk, pl, ⟨hr, htk, hpl⟩, hok⟩ := id HR
        refine go_if_ne 61 (nx := 59) dX3_readPair_56 rfl rfl (fun c56 => ?_) (fun c56 => False.elim (absurd c56 (by decide)))
        have z1 : 100 ≤ (tSt tx sz c) := Nat.le_of_not_lt fun q => c32 (nm_neg _ q)
        have c40' := c40
        rw [nm_pos z1] at c40'
        have z2 : (tSt tx sz c) < 100 + T.1 := by have := knle c40' (by omega) (by omega); omega
        have z3 : (tSt tx sz c) - 100 < 8 := by omega
        have h3 : w ≠ 3 := fun q => c7 (by rw [q])
        have eA : rA T w (tSt tx sz c) = true := by simp [rA, z1, z2, h3]
        have hc2 : c + 1 ≤ tmn tx sz := Nat.lt_of_not_le fun q => by have := tSt_end q; omega
        refine go_aload_n 2 (nx := 62) dX3_readPair_61 rfl rfl rfl ?_
        refine go_Vi (nx := 65) [] kc_X3_119 ⟨_, _, rfl⟩ (by omega) hr (s_number hn HR hc2 hs4) dX3_readPair_62 rfl rfl (Nat.le_of_ble_eq_true rfl) (Nat.le_of_ble_eq_true rfl) ⟨Nat.le_refl _, Nat.le_refl _⟩ rfl (fun rh3 h3 hqh3 => ?_)
        obtain ⟨rfl, rfl⟩ := hqh3
        refine go_istore (lv' := [_, _, _, _, _, _]) (nx := 67) dX3_readPair_65 (by decide) rfl rfl ?_
        refine go_aload_n 3 (nx := 68) dX3_readPair_67 rfl rfl rfl ?_
        refine go_iload 0 (nx := 70) dX3_readPair_68 rfl rfl ?_
        refine go_if_lt 92 (nx := 73) dX3_readPair_70 rfl rfl (fun c70 => ?_) (fun c70 => ?_)
        · skip
          refine go_iconst (v := nI 0) (nx := 93) dX3_readPair_92 (by decide) rfl ?_
          refine go_Vi (nx := 96) [_] kc_X3_102 ⟨_, _, rfl⟩ (by omega) hr (s_take (b := false) hn HR hc2 hs4 rfl) dX3_readPair_93 rfl rfl (Nat.le_of_ble_eq_true rfl) (Nat.le_of_ble_eq_true rfl) ⟨Nat.le_refl _, Nat.le_refl _⟩ rfl (fun rh4 h4 hqh4 => ?_)
          obtain ⟨rfl, HR, hFh4⟩ := hqh4
          have HR : rdS G tx sz (c + 1) (nI (tpl tx sz (c + 1))) fF fL h4 := HR
          have HT := HT.fr hFh4 (by omega)
          have dF := dF.k hFh4 (by omega)
          have hT := (hFh4 (t) (by omega)).trans hT
          have hkn := (hFh4 (t + 1) (by omega)).trans hkn
          have hca := (hFh4 (t + 2) (by omega)).trans hca
          obtain ⟨tk, pl, ⟨hr, htk, hpl⟩, hok⟩ := id HR
          refine go_if_ne 101 (nx := 99) dX3_readPair_96 rfl rfl (fun c96 => False.elim (absurd rfl c96)) (fun c96 => ?_)
          refine go_iconst (v := nI 0) (nx := 100) dX3_readPair_99 (by decide) rfl ?_
          refine go_reti dX3_readPair_100 ⟨_, rfl, rfl⟩ ?_
          have z : (tSt tx sz (c + 1)) < 100 := Nat.lt_of_not_le fun q => by rw [nm_pos q] at c70; exact Nat.not_lt_zero _ (klt (b := 0) c70 (by omega) (by decide))
          have eB : rB T (tSt tx sz c) (tSt tx sz (c + 1)) = false := by rw [rB, decide_eq_false (by omega)]; rfl
          rw [rdP, if_pos eA, if_neg (by rw [eB]; decide)]
          exact ⟨⟨rfl, ⟨_, HR⟩, HT.a⟩, dF⟩
        · skip
          refine go_iload 0 (nx := 75) dX3_readPair_73 rfl rfl ?_
          refine go_aload_n 4 (nx := 76) dX3_readPair_75 rfl rfl rfl ?_
          refine go_gf (nx := 79) fg_X3_106 dX3_readPair_76 (by omega) hT rfl rfl ?_
          refine go_icmp_ge 92 (nx := 82) dX3_readPair_79 rfl rfl (fun c79 => ?_) (fun c79 => ?_)
          · skip
            refine go_iconst (v := nI 0) (nx := 93) dX3_readPair_92 (by decide) rfl ?_
            refine go_Vi (nx := 96) [_] kc_X3_102 ⟨_, _, rfl⟩ (by omega) hr (s_take (b := false) hn HR hc2 hs4 rfl) dX3_readPair_93 rfl rfl (Nat.le_of_ble_eq_true rfl) (Nat.le_of_ble_eq_true rfl) ⟨Nat.le_refl _, Nat.le_refl _⟩ rfl (fun rh4 h4 hqh4 => ?_)
            obtain ⟨rfl, HR, hFh4⟩ := hqh4
            have HR : rdS G tx sz (c + 1) (nI (tpl tx sz (c + 1))) fF fL h4 := HR
            have HT := HT.fr hFh4 (by omega)
            have dF := dF.k hFh4 (by omega)
            have hT := (hFh4 (t) (by omega)).trans hT
            have hkn := (hFh4 (t + 1) (by omega)).trans hkn
            have hca := (hFh4 (t + 2) (by omega)).trans hca
            obtain ⟨tk, pl, ⟨hr, htk, hpl⟩, hok⟩ := id HR
            refine go_if_ne 101 (nx := 99) dX3_readPair_96 rfl rfl (fun c96 => False.elim (absurd rfl c96)) (fun c96 => ?_)
            refine go_iconst (v := nI 0) (nx := 100) dX3_readPair_99 (by decide) rfl ?_
            refine go_reti dX3_readPair_100 ⟨_, rfl, rfl⟩ ?_
            have y1 : 100 ≤ (tSt tx sz (c + 1)) := Nat.le_of_not_lt fun q => c70 (nm_neg _ q)
            rw [nm_pos y1] at c79
            have y2 := kle c79 (by omega) (by omega)
            have eB : rB T (tSt tx sz c) (tSt tx sz (c + 1)) = false := by rw [rB, decide_eq_false (show ¬ (tSt tx sz (c + 1)) < 100 + T.1 by omega), Bool.and_false]; rfl
            rw [rdP, if_pos eA, if_neg (by rw [eB]; decide)]
            exact ⟨⟨rfl, ⟨_, HR⟩, HT.a⟩, dF⟩
          · skip
            refine go_iload 0 (nx := 84) dX3_readPair_82 rfl rfl ?_
            refine go_iload_n 2 (nx := 85) dX3_readPair_84 rfl rfl rfl ?_
            refine go_icmp_eq 92 (nx := 88) dX3_readPair_85 rfl rfl (fun c85 => ?_) (fun c85 => ?_)
            · skip
              refine go_iconst (v := nI 0) (nx := 93) dX3_readPair_92 (by decide) rfl ?_
              refine go_Vi (nx := 96) [_] kc_X3_102 ⟨_, _, rfl⟩ (by omega) hr (s_take (b := false) hn HR hc2 hs4 rfl) dX3_readPair_93 rfl rfl (Nat.le_of_ble_eq_true rfl) (Nat.le_of_ble_eq_true rfl) ⟨Nat.le_refl _, Nat.le_refl _⟩ rfl (fun rh4 h4 hqh4 => ?_)
              obtain ⟨rfl, HR, hFh4⟩ := hqh4
              have HR : rdS G tx sz (c + 1) (nI (tpl tx sz (c + 1))) fF fL h4 := HR
              have HT := HT.fr hFh4 (by omega)
              have dF := dF.k hFh4 (by omega)
              have hT := (hFh4 (t) (by omega)).trans hT
              have hkn := (hFh4 (t + 1) (by omega)).trans hkn
              have hca := (hFh4 (t + 2) (by omega)).trans hca
              obtain ⟨tk, pl, ⟨hr, htk, hpl⟩, hok⟩ := id HR
              refine go_if_ne 101 (nx := 99) dX3_readPair_96 rfl rfl (fun c96 => False.elim (absurd rfl c96)) (fun c96 => ?_)
              refine go_iconst (v := nI 0) (nx := 100) dX3_readPair_99 (by decide) rfl ?_
              refine go_reti dX3_readPair_100 ⟨_, rfl, rfl⟩ ?_
              have y1 : 100 ≤ (tSt tx sz (c + 1)) := Nat.le_of_not_lt fun q => c70 (nm_neg _ q)
              have c79' := c79
              rw [nm_pos y1] at c79'
              have y2 : (tSt tx sz (c + 1)) < 100 + T.1 := by have := knle c79' (by omega) (by omega); omega
              have y3 : (tSt tx sz (c + 1)) - 100 < 8 := by omega
              rw [nm_pos y1, nm_pos z1] at c85
              have y4 : (tSt tx sz (c + 1)) = (tSt tx sz c) := by have := keq c85 (by omega) (by omega); omega
              have eB : rB T (tSt tx sz c) (tSt tx sz (c + 1)) = false := by rw [rB, y4]; simp
              rw [rdP, if_pos eA, if_neg (by rw [eB]; decide)]
              exact ⟨⟨rfl, ⟨_, HR⟩, HT.a⟩, dF⟩
            · skip
              refine go_iconst (v := nI 1) (nx := 89) dX3_readPair_88 (by decide) rfl ?_
              refine go_goto 93 dX3_readPair_89 rfl ?_
              refine go_Vi (nx := 96) [_] kc_X3_102 ⟨_, _, rfl⟩ (by omega) hr (s_take (b := true) hn HR hc2 hs4 rfl) dX3_readPair_93 rfl rfl (Nat.le_of_ble_eq_true rfl) (Nat.le_of_ble_eq_true rfl) ⟨Nat.le_refl _, Nat.le_refl _⟩ rfl (fun rh4 h4 hqh4 => ?_)
              obtain ⟨rfl, HR, hFh4⟩ := hqh4
              have HR : rdS G tx sz (c + 1 + 1) fa fF fL h4 := HR
              have HT := HT.fr hFh4 (by omega)
              have dF := dF.k hFh4 (by omega)
              have hT := (hFh4 (t) (by omega)).trans hT
              have hkn := (hFh4 (t + 1) (by omega)).trans hkn
              have hca := (hFh4 (t + 2) (by omega)).trans hca
              obtain ⟨tk, pl, ⟨hr, htk, hpl⟩, hok⟩ := id HR
              refine go_if_ne 101 (nx := 99) dX3_readPair_96 rfl rfl (fun c96 => ?_) (fun c96 => False.elim (absurd c96 (by decide)))
              have y1 : 100 ≤ (tSt tx sz (c + 1)) := Nat.le_of_not_lt fun q => c70 (nm_neg _ q)
              have c79' := c79
              rw [nm_pos y1] at c79'
              have y2 : (tSt tx sz (c + 1)) < 100 + T.1 := by have := knle c79' (by omega) (by omega); omega
              have y3 : (tSt tx sz (c + 1)) - 100 < 8 := by omega
              have y4 : (tSt tx sz (c + 1)) ≠ (tSt tx sz c) := fun q => c85 (by rw [q])
              have eB : rB T (tSt tx sz c) (tSt tx sz (c + 1)) = true := by simp [rB, y1, y2, y4]
              refine go_iload_n 5 (nx := 102) dX3_readPair_101 rfl rfl rfl ?_
              refine go_iconst (v := nI 3) (nx := 103) dX3_readPair_102 (by decide) rfl ?_
              refine go_icmp_ne 119 (nx := 106) dX3_readPair_103 rfl rfl (fun c103 => ?_) (fun c103 => ?_)
              · skip
                refine go_aload_n 4 (nx := 120) dX3_readPair_119 rfl rfl rfl ?_
                refine go_iload_n 2 (nx := 121) dX3_readPair_120 rfl rfl rfl ?_
                refine go_iload 0 (nx := 123) dX3_readPair_121 rfl rfl ?_
                refine go_Vv (nx := 126) [_, _] kc_X3_134 ⟨_, _, rfl⟩ (by omega) hT (s_tell ht HT (nm_pos z1) z3 (nm_pos y1) y3) dX3_readPair_123 rfl rfl (Nat.le_of_ble_eq_true rfl) (Nat.le_of_ble_eq_true rfl) ⟨Nat.le_refl _, Nat.le_refl _⟩ rfl (fun h5 hqh5 => ?_)
                obtain ⟨HT, hFh5⟩ := hqh5
                have HR := HR.fr hFh5 (by omega)
                have dF := dF.k hFh5 (by omega)
                obtain ⟨kn, ca, ⟨hT, hkn, hca⟩, hk, hca2⟩ := id HT
                refine go_iload_n 5 (nx := 127) dX3_readPair_126 rfl rfl rfl ?_
                refine go_iconst (v := nI 2) (nx := 128) dX3_readPair_127 (by decide) rfl ?_
                refine go_icmp_ne 138 (nx := 131) dX3_readPair_128 rfl rfl (fun c128 => ?_) (fun c128 => ?_)
                · skip
                  refine go_iconst (v := nI 1) (nx := 139) dX3_readPair_138 (by decide) rfl ?_
                  refine go_reti dX3_readPair_139 ⟨_, rfl, rfl⟩ ?_
                  have h5 : w ≠ 3 := fun q => c103 (by rw [q])
                  have h6 : w ≠ 2 := fun q => c128 (by rw [q])
                  rw [rdP, if_pos eA, if_pos eB]
                  have e : rTell w ((tSt tx sz c) - 100) ((tSt tx sz (c + 1)) - 100) T = (T.1, kSet T.2.1 ((tSt tx sz c) - 100) ((tSt tx sz (c + 1)) - 100), T.2.2) := by unfold rTell; rw [if_neg h5, if_neg h6, if_neg h5]
                  rw [e]
                  exact ⟨⟨rfl, HR, HT⟩, dF⟩
                · skip
                  refine go_aload_n 4 (nx := 132) dX3_readPair_131 rfl rfl rfl ?_
                  refine go_iload 0 (nx := 134) dX3_readPair_132 rfl rfl ?_
                  refine go_iload_n 2 (nx := 135) dX3_readPair_134 rfl rfl rfl ?_
                  refine go_Vv (nx := 138) [_, _] kc_X3_134 ⟨_, _, rfl⟩ (by omega) hT (s_tell ht HT (nm_pos y1) y3 (nm_pos z1) z3) dX3_readPair_135 rfl rfl (Nat.le_of_ble_eq_true rfl) (Nat.le_of_ble_eq_true rfl) ⟨Nat.le_refl _, Nat.le_refl _⟩ rfl (fun h6 hqh6 => ?_)
                  obtain ⟨HT, hFh6⟩ := hqh6
                  have HR := HR.fr hFh6 (by omega)
                  have dF := dF.k hFh6 (by omega)
                  obtain ⟨kn, ca, ⟨hT, hkn, hca⟩, hk, hca2⟩ := id HT
                  refine go_iconst (v := nI 1) (nx := 139) dX3_readPair_138 (by decide) rfl ?_
                  refine go_reti dX3_readPair_139 ⟨_, rfl, rfl⟩ ?_
                  have h5 : w = 2 := keq c128 (by omega) (by decide)
                  subst h5
                  rw [rdP, if_pos eA, if_pos eB]
                  exact ⟨⟨rfl, HR, HT⟩, dF⟩
              · skip
                refine go_aload_n 4 (nx := 107) dX3_readPair_106 rfl rfl rfl ?_
                refine go_gf (nx := 110) fg_X3_131 dX3_readPair_107 (by omega) hT rfl rfl ?_
                refine go_iload_n 2 (nx := 111) dX3_readPair_110 rfl rfl rfl ?_
                refine go_iload 0 (nx := 113) dX3_readPair_111 rfl rfl ?_
                refine go_SNv (nx := 116) [_, _, _] kc_X3_62 (s_put (j := (tSt tx sz c) - 100) (by omega) hca (by decide) (nm_pos z1) z3) dX3_readPair_113 rfl rfl (Nat.le_of_ble_eq_true rfl) (Nat.le_of_ble_eq_true rfl) ⟨Nat.le_refl _, Nat.le_refl _⟩ rfl (fun h5 hqh5 => ?_)
                obtain ⟨eh5, fh5⟩ := hqh5
                have fx : kFr (t + 2) (t + 3) _ h5 := fun j hj => fh5 j (by omega)
                have HR := HR.fr fx (by omega)
                have dF := dF.k fx (by omega)
                have hT := (fx t (by omega)).trans hT
                have hkn := (fx (t + 1) (by omega)).trans hkn
                have hca := eh5
                have HT : oTown G t (rTell 3 ((tSt tx sz c) - 100) ((tSt tx sz (c + 1)) - 100) T) h5 := ⟨kn, _, ⟨hT, hkn, hca⟩, hk, fun p hp => by
                  show _ = hab (if p = (tSt tx sz c) - 100 then some ((tSt tx sz (c + 1)) - 100) else T.2.2.1 p)
                  by_cases e : p = (tSt tx sz c) - 100
                  · rw [e, pk_us, if_pos rfl, nm_pos y1]; rfl
                  · rw [pk_un e, if_neg e]; exact hca2 p hp⟩
                refine go_goto 126 dX3_readPair_116 rfl ?_
                refine go_iload_n 5 (nx := 127) dX3_readPair_126 rfl rfl rfl ?_
                refine go_iconst (v := nI 2) (nx := 128) dX3_readPair_127 (by decide) rfl ?_
                refine go_icmp_ne 138 (nx := 131) dX3_readPair_128 rfl rfl (fun c128 => ?_) (fun c128 => False.elim (absurd (keq c103 (by omega) (by decide)) (by have := keq c128 (by omega) (by decide); omega)))
                refine go_iconst (v := nI 1) (nx := 139) dX3_readPair_138 (by decide) rfl ?_
                refine go_reti dX3_readPair_139 ⟨_, rfl, rfl⟩ ?_
                have h5 : w = 3 := keq c103 (by omega) (by decide)
                subst h5
                rw [rdP, if_pos eA, if_pos eB]
                exact ⟨⟨rfl, HR, HT⟩, dF⟩
  · skip
    refine go_aload_n 2 (nx := 11) dX3_readPair_10 rfl rfl rfl ?_
    refine go_gf (nx := 14) fg_X3_131 dX3_readPair_11 (by omega) hT rfl rfl ?_
    refine go_iload_n 0 (nx := 15) dX3_readPair_14 rfl rfl rfl ?_
    refine go_SNi (nx := 18) [_, _] kc_X3_41 (s_at (by omega) hca (by decide)) dX3_readPair_15 rfl rfl (Nat.le_of_ble_eq_true rfl) (Nat.le_of_ble_eq_true rfl) ⟨Nat.le_refl _, Nat.le_refl _⟩ rfl (fun rh2 h2 hqh2 => ?_)
    obtain ⟨rfl, rfl⟩ := hqh2
    refine go_bipush (v := (-9)) (nx := 20) dX3_readPair_18 (by decide) rfl ?_
    refine go_icmp_ne 27 (nx := 23) dX3_readPair_20 rfl rfl (fun c20 => ?_) (fun c20 => ?_)
    · skip
      refine go_iconst (v := nI 0) (nx := 28) dX3_readPair_27 (by decide) rfl ?_
      refine go_istore (lv' := [_, _, _, _, _]) (nx := 30) dX3_readPair_28 (by decide) rfl rfl ?_
      refine go_aload_n 2 (nx := 31) dX3_readPair_30 rfl rfl rfl ?_
      refine go_iload_n 1 (nx := 32) dX3_readPair_31 rfl rfl rfl ?_
      refine go_if_lt 52 (nx := 35) dX3_readPair_32 rfl rfl (fun c32 => ?_) (fun c32 => ?_)
      · skip
        refine go_iconst (v := nI 0) (nx := 53) dX3_readPair_52 (by decide) rfl ?_
        refine go_Vi (nx := 56) [_] kc_X3_102 ⟨_, _, rfl⟩ (by omega) hr (s_take (b := false) hn HR hc hs4 rfl) dX3_readPair_53 rfl rfl (Nat.le_of_ble_eq_true rfl) (Nat.le_of_ble_eq_true rfl) ⟨Nat.le_refl _, Nat.le_refl _⟩ rfl (fun rh3 h3 hqh3 => ?_)
        obtain ⟨rfl, HR, hFh3⟩ := hqh3
        have HR : rdS G tx sz (c) (nI (tpl tx sz (c))) fF fL h3 := HR
        have HT := HT.fr hFh3 (by omega)
        have dF := dF.k hFh3 (by omega)
        have hT := (hFh3 (t) (by omega)).trans hT
        have hkn := (hFh3 (t + 1) (by omega)).trans hkn
        have hca := (hFh3 (t + 2) (by omega)).trans hca
        obtain ⟨tk, pl, ⟨hr, htk, hpl⟩, hok⟩ := id HR
        refine go_if_ne 61 (nx := 59) dX3_readPair_56 rfl rfl (fun c56 => False.elim (absurd rfl c56)) (fun c56 => ?_)
        refine go_iconst (v := nI 0) (nx := 60) dX3_readPair_59 (by decide) rfl ?_
        refine go_reti dX3_readPair_60 ⟨_, rfl, rfl⟩ ?_
        have z : (tSt tx sz c) < 100 := Nat.lt_of_not_le fun q => by rw [nm_pos q] at c32; exact Nat.not_lt_zero _ (klt (b := 0) c32 (by omega) (by decide))
        have eA : rA T w (tSt tx sz c) = false := by rw [rA, decide_eq_false (by omega)]; rfl
        rw [rdP, if_neg (by rw [eA]; decide)]
        exact ⟨⟨rfl, ⟨_, HR⟩, HT.a⟩, dF⟩
      · skip
        refine go_iload_n 1 (nx := 36) dX3_readPair_35 rfl rfl rfl ?_
        refine go_aload_n 3 (nx := 37) dX3_readPair_36 rfl rfl rfl ?_
        refine go_gf (nx := 40) fg_X3_106 dX3_readPair_37 (by omega) hT rfl rfl ?_
        refine go_icmp_ge 52 (nx := 43) dX3_readPair_40 rfl rfl (fun c40 => ?_) (fun c40 => ?_)
        · skip
          refine go_iconst (v := nI 0) (nx := 53) dX3_readPair_52 (by decide) rfl ?_
          refine go_Vi (nx := 56) [_] kc_X3_102 ⟨_, _, rfl⟩ (by omega) hr (s_take (b := false) hn HR hc hs4 rfl) dX3_readPair_53 rfl rfl (Nat.le_of_ble_eq_true rfl) (Nat.le_of_ble_eq_true rfl) ⟨Nat.le_refl _, Nat.le_refl _⟩ rfl (fun rh3 h3 hqh3 => ?_)
          obtain ⟨rfl, HR, hFh3⟩ := hqh3
          have HR : rdS G tx sz (c) (nI (tpl tx sz (c))) fF fL h3 := HR
          have HT := HT.fr hFh3 (by omega)
          have dF := dF.k hFh3 (by omega)
          have hT := (hFh3 (t) (by omega)).trans hT
          have hkn := (hFh3 (t + 1) (by omega)).trans hkn
          have hca := (hFh3 (t + 2) (by omega)).trans hca
          obtain ⟨tk, pl, ⟨hr, htk, hpl⟩, hok⟩ := id HR
          refine go_if_ne 61 (nx := 59) dX3_readPair_56 rfl rfl (fun c56 => False.elim (absurd rfl c56)) (fun c56 => ?_)
          refine go_iconst (v := nI 0) (nx := 60) dX3_readPair_59 (by decide) rfl ?_
          refine go_reti dX3_readPair_60 ⟨_, rfl, rfl⟩ ?_
          have z1 : 100 ≤ (tSt tx sz c) := Nat.le_of_not_lt fun q => c32 (nm_neg _ q)
          rw [nm_pos z1] at c40
          have z2 := kle c40 (by omega) (by omega)
          have eA : rA T w (tSt tx sz c) = false := by rw [rA, decide_eq_false (show ¬ (tSt tx sz c) < 100 + T.1 by omega), Bool.and_false]; rfl
          rw [rdP, if_neg (by rw [eA]; decide)]
          exact ⟨⟨rfl, ⟨_, HR⟩, HT.a⟩, dF⟩
        · skip
          refine go_iload 0 (nx := 45) dX3_readPair_43 rfl rfl ?_
          refine go_if_eq 52 (nx := 48) dX3_readPair_45 rfl rfl (fun c45 => ?_) (fun c45 => False.elim (absurd rfl c45))
          refine go_iconst (v := nI 0) (nx := 53) dX3_readPair_52 (by decide) rfl ?_
          refine go_Vi (nx := 56) [_] kc_X3_102 ⟨_, _, rfl⟩ (by omega) hr (s_take (b := false) hn HR hc hs4 rfl) dX3_readPair_53 rfl rfl (Nat.le_of_ble_eq_true rfl) (Nat.le_of_ble_eq_true rfl) ⟨Nat.le_refl _, Nat.le_refl _⟩ rfl (fun rh3 h3 hqh3 => ?_)
          obtain ⟨rfl, HR, hFh3⟩ := hqh3
          have HR : rdS G tx sz (c) (nI (tpl tx sz (c))) fF fL h3 := HR
          have HT := HT.fr hFh3 (by omega)
          have dF := dF.k hFh3 (by omega)
          have hT := (hFh3 (t) (by omega)).trans hT
          have hkn := (hFh3 (t + 1) (by omega)).trans hkn
          have hca := (hFh3 (t + 2) (by omega)).trans hca
          obtain ⟨tk, pl, ⟨hr, htk, hpl⟩, hok⟩ := id HR
          refine go_if_ne 61 (nx := 59) dX3_readPair_56 rfl rfl (fun c56 => False.elim (absurd rfl c56)) (fun c56 => ?_)
          refine go_iconst (v := nI 0) (nx := 60) dX3_readPair_59 (by decide) rfl ?_
          refine go_reti dX3_readPair_60 ⟨_, rfl, rfl⟩ ?_
          have z1 : 100 ≤ (tSt tx sz c) := Nat.le_of_not_lt fun q => c32 (nm_neg _ q)
          have c40' := c40
          rw [nm_pos z1] at c40'
          have z2 : (tSt tx sz c) < 100 + T.1 := by have := knle c40' (by omega) (by omega); omega
          have z3 : (tSt tx sz c) - 100 < 8 := by omega
          have hnn := hab_none (o := T.2.2.1 ((tSt tx sz c) - 100)) (fun b e => by have := hw.2.2.1 _ b e; omega)
          have c20' := c20
          rw [nm_pos z1, atF_in z3 (by decide), hca2 _ z3] at c20'
          have h3 : (T.2.2.1 ((tSt tx sz c) - 100)).isNone = false := by
            cases e : T.2.2.1 ((tSt tx sz c) - 100) with
            | none => exact absurd (hnn.mpr e) c20'
            | some b => rfl
          have h4 : w = 3 := keq c7 (by omega) (by decide)
          have eA : rA T w (tSt tx sz c) = false := by rw [rA, h3, h4, Bool.or_false]; simp
          rw [rdP, if_neg (by rw [eA]; decide)]
          exact ⟨⟨rfl, ⟨_, HR⟩, HT.a⟩, dF⟩
    · skip
      refine go_iconst (v := nI 1) (nx := 24) dX3_readPair_23 (by decide) rfl ?_
      refine go_goto 28 dX3_readPair_24 rfl ?_
      refine go_istore (lv' := [_, _, _, _, _]) (nx := 30) dX3_readPair_28 (by decide) rfl rfl ?_
      refine go_aload_n 2 (nx := 31) dX3_readPair_30 rfl rfl rfl ?_
      refine go_iload_n 1 (nx := 32) dX3_readPair_31 rfl rfl rfl ?_
      refine go_if_lt 52 (nx := 35) dX3_readPair_32 rfl rfl (fun c32 => ?_) (fun c32 => ?_)
      · skip
        refine go_iconst (v := nI 0) (nx := 53) dX3_readPair_52 (by decide) rfl ?_
        refine go_Vi (nx := 56) [_] kc_X3_102 ⟨_, _, rfl⟩ (by omega) hr (s_take (b := false) hn HR hc hs4 rfl) dX3_readPair_53 rfl rfl (Nat.le_of_ble_eq_true rfl) (Nat.le_of_ble_eq_true rfl) ⟨Nat.le_refl _, Nat.le_refl _⟩ rfl (fun rh3 h3 hqh3 => ?_)
        obtain ⟨rfl, HR, hFh3⟩ := hqh3
        have HR : rdS G tx sz (c) (nI (tpl tx sz (c))) fF fL h3 := HR
        have HT := HT.fr hFh3 (by omega)
        have dF := dF.k hFh3 (by omega)
        have hT := (hFh3 (t) (by omega)).trans hT
        have hkn := (hFh3 (t + 1) (by omega)).trans hkn
        have hca := (hFh3 (t + 2) (by omega)).trans hca
        obtain ⟨tk, pl, ⟨hr, htk, hpl⟩, hok⟩ := id HR
        refine go_if_ne 61 (nx := 59) dX3_readPair_56 rfl rfl (fun c56 => False.elim (absurd rfl c56)) (fun c56 => ?_)
        refine go_iconst (v := nI 0) (nx := 60) dX3_readPair_59 (by decide) rfl ?_
        refine go_reti dX3_readPair_60 ⟨_, rfl, rfl⟩ ?_
        have z : (tSt tx sz c) < 100 := Nat.lt_of_not_le fun q => by rw [nm_pos q] at c32; exact Nat.not_lt_zero _ (klt (b := 0) c32 (by omega) (by decide))
        have eA : rA T w (tSt tx sz c) = false := by rw [rA, decide_eq_false (by omega)]; rfl
        rw [rdP, if_neg (by rw [eA]; decide)]
        exact ⟨⟨rfl, ⟨_, HR⟩, HT.a⟩, dF⟩
      · skip
        refine go_iload_n 1 (nx := 36) dX3_readPair_35 rfl rfl rfl ?_
        refine go_aload_n 3 (nx := 37) dX3_readPair_36 rfl rfl rfl ?_
        refine go_gf (nx := 40) fg_X3_106 dX3_readPair_37 (by omega) hT rfl rfl ?_
        refine go_icmp_ge 52 (nx := 43) dX3_readPair_40 rfl rfl (fun c40 => ?_) (fun c40 => ?_)
        · skip
          refine go_iconst (v := nI 0) (nx := 53) dX3_readPair_52 (by decide) rfl ?_
          refine go_Vi (nx := 56) [_] kc_X3_102 ⟨_, _, rfl⟩ (by omega) hr (s_take (b := false) hn HR hc hs4 rfl) dX3_readPair_53 rfl rfl (Nat.le_of_ble_eq_true rfl) (Nat.le_of_ble_eq_true rfl) ⟨Nat.le_refl _, Nat.le_refl _⟩ rfl (fun rh3 h3 hqh3 => ?_)
          obtain ⟨rfl, HR, hFh3⟩ := hqh3
          have HR : rdS G tx sz (c) (nI (tpl tx sz (c))) fF fL h3 := HR
          have HT := HT.fr hFh3 (by omega)
          have dF := dF.k hFh3 (by omega)
          have hT := (hFh3 (t) (by omega)).trans hT
          have hkn := (hFh3 (t + 1) (by omega)).trans hkn
          have hca := (hFh3 (t + 2) (by omega)).trans hca
          obtain ⟨tk, pl, ⟨hr, htk, hpl⟩, hok⟩ := id HR
          refine go_if_ne 61 (nx := 59) dX3_readPair_56 rfl rfl (fun c56 => False.elim (absurd rfl c56)) (fun c56 => ?_)
          refine go_iconst (v := nI 0) (nx := 60) dX3_readPair_59 (by decide) rfl ?_
          refine go_reti dX3_readPair_60 ⟨_, rfl, rfl⟩ ?_
          have z1 : 100 ≤ (tSt tx sz c) := Nat.le_of_not_lt fun q => c32 (nm_neg _ q)
          rw [nm_pos z1] at c40
          have z2 := kle c40 (by omega) (by omega)
          have eA : rA T w (tSt tx sz c) = false := by rw [rA, decide_eq_false (show ¬ (tSt tx sz c) < 100 + T.1 by omega), Bool.and_false]; rfl
          rw [rdP, if_neg (by rw [eA]; decide)]
          exact ⟨⟨rfl, ⟨_, HR⟩, HT.a⟩, dF⟩
        · skip
          refine go_iload 0 (nx := 45) dX3_readPair_43 rfl rfl ?_
          refine go_if_eq 52 (nx := 48) dX3_readPair_45 rfl rfl (fun c45 => False.elim (absurd c45 (by decide))) (fun c45 => ?_)
          refine go_iconst (v := nI 1) (nx := 49) dX3_readPair_48 (by decide) rfl ?_
          refine go_goto 53 dX3_readPair_49 rfl ?_
          refine go_Vi (nx := 56) [_] kc_X3_102 ⟨_, _, rfl⟩ (by omega) hr (s_take (b := true) hn HR hc hs4 rfl) dX3_readPair_53 rfl rfl (Nat.le_of_ble_eq_true rfl) (Nat.le_of_ble_eq_true rfl) ⟨Nat.le_refl _, Nat.le_refl _⟩ rfl (fun rh3 h3 hqh3 => ?_)
          obtain ⟨rfl, HR, hFh3⟩ := hqh3
          have HR : rdS G tx sz (c + 1) fa fF fL h3 := HR
          have HT := HT.fr hFh3 (by omega)
          have dF := dF.k hFh3 (by omega)
          have hT := (hFh3 (t) (by omega)).trans hT
          have hkn := (hFh3 (t + 1) (by omega)).trans hkn
          have hca := (hFh3 (t + 2) (by omega)).trans hca
          obtain ⟨tk, pl, ⟨hr, htk, hpl⟩, hok⟩ := id HR
          refine go_if_ne 61 (nx := 59) dX3_readPair_56 rfl rfl (fun c56 => ?_) (fun c56 => False.elim (absurd c56 (by decide)))
          have z1 : 100 ≤ (tSt tx sz c) := Nat.le_of_not_lt fun q => c32 (nm_neg _ q)
          have c40' := c40
          rw [nm_pos z1] at c40'
          have z2 : (tSt tx sz c) < 100 + T.1 := by have := knle c40' (by omega) (by omega); omega
          have z3 : (tSt tx sz c) - 100 < 8 := by omega
          have hnn := hab_none (o := T.2.2.1 ((tSt tx sz c) - 100)) (fun b e => by have := hw.2.2.1 _ b e; omega)
          have c20' := c20
          rw [nm_pos z1, atF_in z3 (by decide), hca2 _ z3] at c20'
          have h3 := hnn.mp c20'
          have eA : rA T w (tSt tx sz c) = true := by simp [rA, z1, z2, h3]
          have hc2 : c + 1 ≤ tmn tx sz := Nat.lt_of_not_le fun q => by have := tSt_end q; omega
          refine go_aload_n 2 (nx := 62) dX3_readPair_61 rfl rfl rfl ?_
          refine go_Vi (nx := 65) [] kc_X3_119 ⟨_, _, rfl⟩ (by omega) hr (s_number hn HR hc2 hs4) dX3_readPair_62 rfl rfl (Nat.le_of_ble_eq_true rfl) (Nat.le_of_ble_eq_true rfl) ⟨Nat.le_refl _, Nat.le_refl _⟩ rfl (fun rh4 h4 hqh4 => ?_)
          obtain ⟨rfl, rfl⟩ := hqh4
          refine go_istore (lv' := [_, _, _, _, _, _]) (nx := 67) dX3_readPair_65 (by decide) rfl rfl ?_
          refine go_aload_n 3 (nx := 68) dX3_readPair_67 rfl rfl rfl ?_
          refine go_iload 0 (nx := 70) dX3_readPair_68 rfl rfl ?_
          refine go_if_lt 92 (nx := 73) dX3_readPair_70 rfl rfl (fun c70 => ?_) (fun c70 => ?_)
          · skip
            refine go_iconst (v := nI 0) (nx := 93) dX3_readPair_92 (by decide) rfl ?_
            refine go_Vi (nx := 96) [_] kc_X3_102 ⟨_, _, rfl⟩ (by omega) hr (s_take (b := false) hn HR hc2 hs4 rfl) dX3_readPair_93 rfl rfl (Nat.le_of_ble_eq_true rfl) (Nat.le_of_ble_eq_true rfl) ⟨Nat.le_refl _, Nat.le_refl _⟩ rfl (fun rh5 h5 hqh5 => ?_)
            obtain ⟨rfl, HR, hFh5⟩ := hqh5
            have HR : rdS G tx sz (c + 1) (nI (tpl tx sz (c + 1))) fF fL h5 := HR
            have HT := HT.fr hFh5 (by omega)
            have dF := dF.k hFh5 (by omega)
            have hT := (hFh5 (t) (by omega)).trans hT
            have hkn := (hFh5 (t + 1) (by omega)).trans hkn
            have hca := (hFh5 (t + 2) (by omega)).trans hca
            obtain ⟨tk, pl, ⟨hr, htk, hpl⟩, hok⟩ := id HR
            refine go_if_ne 101 (nx := 99) dX3_readPair_96 rfl rfl (fun c96 => False.elim (absurd rfl c96)) (fun c96 => ?_)
            refine go_iconst (v := nI 0) (nx := 100) dX3_readPair_99 (by decide) rfl ?_
            refine go_reti dX3_readPair_100 ⟨_, rfl, rfl⟩ ?_
            have z : (tSt tx sz (c + 1)) < 100 := Nat.lt_of_not_le fun q => by rw [nm_pos q] at c70; exact Nat.not_lt_zero _ (klt (b := 0) c70 (by omega) (by decide))
            have eB : rB T (tSt tx sz c) (tSt tx sz (c + 1)) = false := by rw [rB, decide_eq_false (by omega)]; rfl
            rw [rdP, if_pos eA, if_neg (by rw [eB]; decide)]
            exact ⟨⟨rfl, ⟨_, HR⟩, HT.a⟩, dF⟩
          · skip
            refine go_iload 0 (nx := 75) dX3_readPair_73 rfl rfl ?_
            refine go_aload_n 4 (nx := 76) dX3_readPair_75 rfl rfl rfl ?_
            refine go_gf (nx := 79) fg_X3_106 dX3_readPair_76 (by omega) hT rfl rfl ?_
            refine go_icmp_ge 92 (nx := 82) dX3_readPair_79 rfl rfl (fun c79 => ?_) (fun c79 => ?_)
            · skip
              refine go_iconst (v := nI 0) (nx := 93) dX3_readPair_92 (by decide) rfl ?_
              refine go_Vi (nx := 96) [_] kc_X3_102 ⟨_, _, rfl⟩ (by omega) hr (s_take (b := false) hn HR hc2 hs4 rfl) dX3_readPair_93 rfl rfl (Nat.le_of_ble_eq_true rfl) (Nat.le_of_ble_eq_true rfl) ⟨Nat.le_refl _, Nat.le_refl _⟩ rfl (fun rh5 h5 hqh5 => ?_)
              obtain ⟨rfl, HR, hFh5⟩ := hqh5
              have HR : rdS G tx sz (c + 1) (nI (tpl tx sz (c + 1))) fF fL h5 := HR
              have HT := HT.fr hFh5 (by omega)
              have dF := dF.k hFh5 (by omega)
              have hT := (hFh5 (t) (by omega)).trans hT
              have hkn := (hFh5 (t + 1) (by omega)).trans hkn
              have hca := (hFh5 (t + 2) (by omega)).trans hca
              obtain ⟨tk, pl, ⟨hr, htk, hpl⟩, hok⟩ := id HR
              refine go_if_ne 101 (nx := 99) dX3_readPair_96 rfl rfl (fun c96 => False.elim (absurd rfl c96)) (fun c96 => ?_)
              refine go_iconst (v := nI 0) (nx := 100) dX3_readPair_99 (by decide) rfl ?_
              refine go_reti dX3_readPair_100 ⟨_, rfl, rfl⟩ ?_
              have y1 : 100 ≤ (tSt tx sz (c + 1)) := Nat.le_of_not_lt fun q => c70 (nm_neg _ q)
              rw [nm_pos y1] at c79
              have y2 := kle c79 (by omega) (by omega)
              have eB : rB T (tSt tx sz c) (tSt tx sz (c + 1)) = false := by rw [rB, decide_eq_false (show ¬ (tSt tx sz (c + 1)) < 100 + T.1 by omega), Bool.and_false]; rfl
              rw [rdP, if_pos eA, if_neg (by rw [eB]; decide)]
              exact ⟨⟨rfl, ⟨_, HR⟩, HT.a⟩, dF⟩
            · skip
              refine go_iload 0 (nx := 84) dX3_readPair_82 rfl rfl ?_
              refine go_iload_n 2 (nx := 85) dX3_readPair_84 rfl rfl rfl ?_
              refine go_icmp_eq 92 (nx := 88) dX3_readPair_85 rfl rfl (fun c85 => ?_) (fun c85 => ?_)
              · skip
                refine go_iconst (v := nI 0) (nx := 93) dX3_readPair_92 (by decide) rfl ?_
                refine go_Vi (nx := 96) [_] kc_X3_102 ⟨_, _, rfl⟩ (by omega) hr (s_take (b := false) hn HR hc2 hs4 rfl) dX3_readPair_93 rfl rfl (Nat.le_of_ble_eq_true rfl) (Nat.le_of_ble_eq_true rfl) ⟨Nat.le_refl _, Nat.le_refl _⟩ rfl (fun rh5 h5 hqh5 => ?_)
                obtain ⟨rfl, HR, hFh5⟩ := hqh5
                have HR : rdS G tx sz (c + 1) (nI (tpl tx sz (c + 1))) fF fL h5 := HR
                have HT := HT.fr hFh5 (by omega)
                have dF := dF.k hFh5 (by omega)
                have hT := (hFh5 (t) (by omega)).trans hT
                have hkn := (hFh5 (t + 1) (by omega)).trans hkn
                have hca := (hFh5 (t + 2) (by omega)).trans hca
                obtain ⟨tk, pl, ⟨hr, htk, hpl⟩, hok⟩ := id HR
                refine go_if_ne 101 (nx := 99) dX3_readPair_96 rfl rfl (fun c96 => False.elim (absurd rfl c96)) (fun c96 => ?_)
                refine go_iconst (v := nI 0) (nx := 100) dX3_readPair_99 (by decide) rfl ?_
                refine go_reti dX3_readPair_100 ⟨_, rfl, rfl⟩ ?_
                have y1 : 100 ≤ (tSt tx sz (c + 1)) := Nat.le_of_not_lt fun q => c70 (nm_neg _ q)
                have c79' := c79
                rw [nm_pos y1] at c79'
                have y2 : (tSt tx sz (c + 1)) < 100 + T.1 := by have := knle c79' (by omega) (by omega); omega
                have y3 : (tSt tx sz (c + 1)) - 100 < 8 := by omega
                rw [nm_pos y1, nm_pos z1] at c85
                have y4 : (tSt tx sz (c + 1)) = (tSt tx sz c) := by have := keq c85 (by omega) (by omega); omega
                have eB : rB T (tSt tx sz c) (tSt tx sz (c + 1)) = false := by rw [rB, y4]; simp
                rw [rdP, if_pos eA, if_neg (by rw [eB]; decide)]
                exact ⟨⟨rfl, ⟨_, HR⟩, HT.a⟩, dF⟩
              · skip
                refine go_iconst (v := nI 1) (nx := 89) dX3_readPair_88 (by decide) rfl ?_
                refine go_goto 93 dX3_readPair_89 rfl ?_
                refine go_Vi (nx := 96) [_] kc_X3_102 ⟨_, _, rfl⟩ (by omega) hr (s_take (b := true) hn HR hc2 hs4 rfl) dX3_readPair_93 rfl rfl (Nat.le_of_ble_eq_true rfl) (Nat.le_of_ble_eq_true rfl) ⟨Nat.le_refl _, Nat.le_refl _⟩ rfl (fun rh5 h5 hqh5 => ?_)
                obtain ⟨rfl, HR, hFh5⟩ := hqh5
                have HR : rdS G tx sz (c + 1 + 1) fa fF fL h5 := HR
                have HT := HT.fr hFh5 (by omega)
                have dF := dF.k hFh5 (by omega)
                have hT := (hFh5 (t) (by omega)).trans hT
                have hkn := (hFh5 (t + 1) (by omega)).trans hkn
                have hca := (hFh5 (t + 2) (by omega)).trans hca
                obtain ⟨tk, pl, ⟨hr, htk, hpl⟩, hok⟩ := id HR
                refine go_if_ne 101 (nx := 99) dX3_readPair_96 rfl rfl (fun c96 => ?_) (fun c96 => False.elim (absurd c96 (by decide)))
                have y1 : 100 ≤ (tSt tx sz (c + 1)) := Nat.le_of_not_lt fun q => c70 (nm_neg _ q)
                have c79' := c79
                rw [nm_pos y1] at c79'
                have y2 : (tSt tx sz (c + 1)) < 100 + T.1 := by have := knle c79' (by omega) (by omega); omega
                have y3 : (tSt tx sz (c + 1)) - 100 < 8 := by omega
                have y4 : (tSt tx sz (c + 1)) ≠ (tSt tx sz c) := fun q => c85 (by rw [q])
                have eB : rB T (tSt tx sz c) (tSt tx sz (c + 1)) = true := by simp [rB, y1, y2, y4]
                refine go_iload_n 5 (nx := 102) dX3_readPair_101 rfl rfl rfl ?_
                refine go_iconst (v := nI 3) (nx := 103) dX3_readPair_102 (by decide) rfl ?_
                refine go_icmp_ne 119 (nx := 106) dX3_readPair_103 rfl rfl (fun c103 => ?_) (fun c103 => ?_)
                · skip
                  refine go_aload_n 4 (nx := 120) dX3_readPair_119 rfl rfl rfl ?_
                  refine go_iload_n 2 (nx := 121) dX3_readPair_120 rfl rfl rfl ?_
                  refine go_iload 0 (nx := 123) dX3_readPair_121 rfl rfl ?_
                  refine go_Vv (nx := 126) [_, _] kc_X3_134 ⟨_, _, rfl⟩ (by omega) hT (s_tell ht HT (nm_pos z1) z3 (nm_pos y1) y3) dX3_readPair_123 rfl rfl (Nat.le_of_ble_eq_true rfl) (Nat.le_of_ble_eq_true rfl) ⟨Nat.le_refl _, Nat.le_refl _⟩ rfl (fun h6 hqh6 => ?_)
                  obtain ⟨HT, hFh6⟩ := hqh6
                  have HR := HR.fr hFh6 (by omega)
                  have dF := dF.k hFh6 (by omega)
                  obtain ⟨kn, ca, ⟨hT, hkn, hca⟩, hk, hca2⟩ := id HT
                  refine go_iload_n 5 (nx := 127) dX3_readPair_126 rfl rfl rfl ?_
                  refine go_iconst (v := nI 2) (nx := 128) dX3_readPair_127 (by decide) rfl ?_
                  refine go_icmp_ne 138 (nx := 131) dX3_readPair_128 rfl rfl (fun c128 => ?_) (fun c128 => ?_)
                  · skip
                    refine go_iconst (v := nI 1) (nx := 139) dX3_readPair_138 (by decide) rfl ?_
                    refine go_reti dX3_readPair_139 ⟨_, rfl, rfl⟩ ?_
                    have h5 : w ≠ 3 := fun q => c103 (by rw [q])
                    have h6 : w ≠ 2 := fun q => c128 (by rw [q])
                    rw [rdP, if_pos eA, if_pos eB]
                    have e : rTell w ((tSt tx sz c) - 100) ((tSt tx sz (c + 1)) - 100) T = (T.1, kSet T.2.1 ((tSt tx sz c) - 100) ((tSt tx sz (c + 1)) - 100), T.2.2) := by unfold rTell; rw [if_neg h5, if_neg h6, if_neg h5]
                    rw [e]
                    exact ⟨⟨rfl, HR, HT⟩, dF⟩
                  · skip
                    refine go_aload_n 4 (nx := 132) dX3_readPair_131 rfl rfl rfl ?_
                    refine go_iload 0 (nx := 134) dX3_readPair_132 rfl rfl ?_
                    refine go_iload_n 2 (nx := 135) dX3_readPair_134 rfl rfl rfl ?_
                    refine go_Vv (nx := 138) [_, _] kc_X3_134 ⟨_, _, rfl⟩ (by omega) hT (s_tell ht HT (nm_pos y1) y3 (nm_pos z1) z3) dX3_readPair_135 rfl rfl (Nat.le_of_ble_eq_true rfl) (Nat.le_of_ble_eq_true rfl) ⟨Nat.le_refl _, Nat.le_refl _⟩ rfl (fun h7 hqh7 => ?_)
                    obtain ⟨HT, hFh7⟩ := hqh7
                    have HR := HR.fr hFh7 (by omega)
                    have dF := dF.k hFh7 (by omega)
                    obtain ⟨kn, ca, ⟨hT, hkn, hca⟩, hk, hca2⟩ := id HT
                    refine go_iconst (v := nI 1) (nx := 139) dX3_readPair_138 (by decide) rfl ?_
                    refine go_reti dX3_readPair_139 ⟨_, rfl, rfl⟩ ?_
                    have h5 : w = 2 := keq c128 (by omega) (by decide)
                    subst h5
                    rw [rdP, if_pos eA, if_pos eB]
                    exact ⟨⟨rfl, HR, HT⟩, dF⟩
                · skip
                  refine go_aload_n 4 (nx := 107) dX3_readPair_106 rfl rfl rfl ?_
                  refine go_gf (nx := 110) fg_X3_131 dX3_readPair_107 (by omega) hT rfl rfl ?_
                  refine go_iload_n 2 (nx := 111) dX3_readPair_110 rfl rfl rfl ?_
                  refine go_iload 0 (nx := 113) dX3_readPair_111 rfl rfl ?_
                  refine go_SNv (nx := 116) [_, _, _] kc_X3_62 (s_put (j := (tSt tx sz c) - 100) (by omega) hca (by decide) (nm_pos z1) z3) dX3_readPair_113 rfl rfl (Nat.le_of_ble_eq_true rfl) (Nat.le_of_ble_eq_true rfl) ⟨Nat.le_refl _, Nat.le_refl _⟩ rfl (fun h6 hqh6 => ?_)
                  obtain ⟨eh6, fh6⟩ := hqh6
                  have fx : kFr (t + 2) (t + 3) _ h6 := fun j hj => fh6 j (by omega)
                  have HR := HR.fr fx (by omega)
                  have dF := dF.k fx (by omega)
                  have hT := (fx t (by omega)).trans hT
                  have hkn := (fx (t + 1) (by omega)).trans hkn
                  have hca := eh6
                  have HT : oTown G t (rTell 3 ((tSt tx sz c) - 100) ((tSt tx sz (c + 1)) - 100) T) h6 := ⟨kn, _, ⟨hT, hkn, hca⟩, hk, fun p hp => by
                    show _ = hab (if p = (tSt tx sz c) - 100 then some ((tSt tx sz (c + 1)) - 100) else T.2.2.1 p)
                    by_cases e : p = (tSt tx sz c) - 100
                    · rw [e, pk_us, if_pos rfl, nm_pos y1]; rfl
                    · rw [pk_un e, if_neg e]; exact hca2 p hp⟩
                  refine go_goto 126 dX3_readPair_116 rfl ?_
                  refine go_iload_n 5 (nx := 127) dX3_readPair_126 rfl rfl rfl ?_
                  refine go_iconst (v := nI 2) (nx := 128) dX3_readPair_127 (by decide) rfl ?_
                  refine go_icmp_ne 138 (nx := 131) dX3_readPair_128 rfl rfl (fun c128 => ?_) (fun c128 => False.elim (absurd (keq c103 (by omega) (by decide)) (by have := keq c128 (by omega) (by decide); omega)))
                  refine go_iconst (v := nI 1) (nx := 139) dX3_readPair_138 (by decide) rfl ?_
                  refine go_reti dX3_readPair_139 ⟨_, rfl, rfl⟩ ?_
                  have h5 : w = 3 := keq c103 (by omega) (by decide)
                  subst h5
                  rw [rdP, if_pos eA, if_pos eB]
                  exact ⟨⟨rfl, HR, HT⟩, dF⟩
