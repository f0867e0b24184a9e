/-! LeastKnown$Reader: the LAW read -/
def rdQ (G : kG) (t : Nat) (tx : Nat → Nat) (sz : Nat) (fa : Int32) (fF fL : Bool) (R : Nat ⊕ (Nat × mT)) (v : Int32) (h' : kH) : Prop := match R with
  | .inl j => v = nI 0 ∧ (∃ c2, rdS G tx sz c2 (nI (tpl tx sz j)) fF fL h') ∧ aTown G t h'
  | .inr (c2, T2) => v = nI 1 ∧ rdS G tx sz c2 fa fF fL h' ∧ oTown G t T2 h'
theorem oTown.a {G : kG} {t : Nat} {T : mT} {h : kH} (H : oTown G t T h) : aTown G t h := by
  obtain ⟨kn, ca, q, -⟩ := H
  exact ⟨kn, ca, _, _, _, _, q⟩
def rdF (s : Nat → Nat) (c : Nat) (T : mT) : Nat ⊕ (Nat × mT) := if rN (s c) 9 = true then .inr (c + 1, T.1, T.2.1, T.2.2.1, s c - 100, T.2.2.2.2) else .inl c
def rdL (s : Nat → Nat) (c : Nat) (T : mT) : Nat ⊕ (Nat × mT) := if 6 ≤ s c ∧ s c ≤ 9 then (if s c = 8 then (if rN (s (c + 1)) 7 = true then .inr (c + 2, T.1, T.2.1, T.2.2.1, T.2.2.2.1, 2, s (c + 1) - 100) else .inl (c + 1)) else .inr (c + 1, T.1, T.2.1, T.2.2.1, T.2.2.2.1, s c - 6, T.2.2.2.2.2)) else .inl c
theorem s_rdForgets {G : kG} {n sz c t : Nat} {h : kH} {tx : Nat → Nat} {fa : Int32} {fF fL : Bool} {T : mT} (hn : 37 ≤ n) (HR : rdS G tx sz c fa fF fL h) (hc : c ≤ tmn tx sz) (hs4 : sz ≤ 400) (ht : t + 3 ≤ n) (ht6 : 6 ≤ t) (HT : oTown G t T h) (hw : wT T) : Spi G mX3_readForgets 2 [.ref (kb G + 3), .ref (kb G + t)] n h (fun v h' => rdQ G t tx sz fa true fL (rdF (tSt tx sz) c T) v h' ∧ tfr t h h') := by
  refine (s_readForgets hn HR hc hs4 ht ht6 HT hw).mono fun v h' ⟨q, d⟩ => ⟨?_, d⟩
  rcases q with ⟨e, q1, q2, q3⟩ | ⟨e, q1, q2, q3⟩
  · rw [rdF, if_pos e]
    exact ⟨q1, q2, q3⟩
  · rw [rdF, if_neg (by rw [e]; decide)]
    exact ⟨q1, ⟨_, q2⟩, q3.a⟩
theorem s_rdLaw {G : kG} {n sz c t : Nat} {h : kH} {tx : Nat → Nat} {fa : Int32} {fF fL : Bool} {T : mT} (hn : 37 ≤ n) (HR : rdS G tx sz c fa fF fL h) (hc : c ≤ tmn tx sz) (hs4 : sz ≤ 400) (ht : t + 3 ≤ n) (ht6 : 6 ≤ t) (HT : oTown G t T h) (hw : wT T) : Spi G mX3_readLaw 2 [.ref (kb G + 3), .ref (kb G + t)] n h (fun v h' => rdQ G t tx sz fa fF true (rdL (tSt tx sz) c T) v h' ∧ tfr t h h') := by
  obtain ⟨tk, pl, ⟨hr, htk, hpl⟩, hok⟩ := id HR
  have hm := tmn_le (tx := tx) (sz := sz)
  obtain ⟨kn, ca, ⟨hT, hkn, hca⟩, hk, hca2⟩ := id HT
  have hs2 := tSt_lt (tx := tx) (sz := sz) (i := c)
  have hs3 := tSt_lt (tx := tx) (sz := sz) (i := c + 1)
  have dF : tfr t h h := tfr.rf
  refine Spi.of (by decide) (Nat.le_of_ble_eq_true rfl) ?_
  refine go_aload_n 0 (nx := 1) dX3_readLaw_0 rfl rfl rfl ?_
  refine go_iconst (v := nI 1) (nx := 2) dX3_readLaw_1 (by decide) rfl ?_
  refine go_pf (fs' := [_, _, _, _, _, _]) (nx := 5) (fp_X3_34 _) dX3_readLaw_2 (by omega) hr (Nat.le_of_ble_eq_true rfl) ⟨rfl, rfl⟩ rfl rfl (fun h1 eh1 fh1 => ?_)
  have htk := (fh1 (4) (by omega)).trans htk
  have hpl := (fh1 (5) (by omega)).trans hpl
  have hT := (fh1 (t) (by omega)).trans hT
  have hkn := (fh1 (t + 1) (by omega)).trans hkn
  have hca := (fh1 (t + 2) (by omega)).trans hca
  have hr := eh1
  have HR : rdS G tx sz c fa fF true h1 := ⟨tk, pl, ⟨hr, htk, hpl⟩, hok⟩
  have HT := HT.fr (h' := h1) (lo := 3) (hi := 4) (fun j hj => fh1 j (by omega)) (by omega)
  have dF := dF.k (h2 := h1) (lo := 3) (hi := 4) (fun j hj => fh1 j (by omega)) (by omega)
  refine go_aload_n 0 (nx := 6) dX3_readLaw_5 rfl rfl rfl ?_
  refine go_gf (nx := 9) fg_X3_9 dX3_readLaw_6 (by omega) hr rfl rfl ?_
  refine go_aload_n 0 (nx := 10) dX3_readLaw_9 rfl rfl rfl ?_
  refine go_gf (nx := 13) fg_X3_27 dX3_readLaw_10 (by omega) hr rfl rfl ?_
  refine go_SNi (nx := 16) [_, _] kc_X3_41 (s_at_in (j := c) (by omega) htk (by decide) rfl (by omega)) dX3_readLaw_13 rfl rfl (Nat.le_of_ble_eq_true rfl) (Nat.le_of_ble_eq_true rfl) ⟨Nat.le_refl _, Nat.le_refl _⟩ rfl (fun rh2 h2 hqh2 => ?_)
  obtain ⟨rfl, rfl⟩ := hqh2
  rw [(hok c (by omega)).1]
  refine go_istore_n (lv' := [_, _, _]) (nx := 17) dX3_readLaw_16 rfl (by decide) rfl rfl ?_
  refine go_aload_n 1 (nx := 18) dX3_readLaw_17 rfl rfl rfl ?_
  refine go_iload_n 0 (nx := 19) dX3_readLaw_18 rfl rfl rfl ?_
  refine go_bipush (v := nI 6) (nx := 21) dX3_readLaw_19 (by decide) rfl ?_
  refine go_icmp_lt 34 (nx := 24) dX3_readLaw_21 rfl rfl (fun c21 => ?_) (fun c21 => ?_)
  · skip
    refine go_iconst (v := nI 0) (nx := 35) dX3_readLaw_34 (by decide) rfl ?_
    refine go_Vi (nx := 38) [_] kc_X3_102 ⟨_, _, rfl⟩ (by omega) hr (s_take (b := false) hn HR hc hs4 rfl) dX3_readLaw_35 rfl rfl (Nat.le_of_ble_eq_true rfl) (Nat.le_of_ble_eq_true rfl) ⟨Nat.le_refl _, Nat.le_refl _⟩ rfl (fun rh3 h3 hqh3 => ?_)
    obtain ⟨rfl, HR, hFh3⟩ := hqh3
    have HR : rdS G tx sz (c) (nI (tpl tx sz (c))) fF true h3 := HR
    have HT := HT.fr hFh3 (by omega)
    have dF := dF.k hFh3 (by omega)
    have hT := (hFh3 (t) (by omega)).trans hT
    have hkn := (hFh3 (t + 1) (by omega)).trans hkn
    have hca := (hFh3 (t + 2) (by omega)).trans hca
    obtain ⟨tk, pl, ⟨hr, htk, hpl⟩, hok⟩ := id HR
    refine go_if_ne 43 (nx := 41) dX3_readLaw_38 rfl rfl (fun c38 => False.elim (absurd rfl c38)) (fun c38 => ?_)
    refine go_iconst (v := nI 0) (nx := 42) dX3_readLaw_41 (by decide) rfl ?_
    refine go_reti dX3_readLaw_42 ⟨_, rfl, rfl⟩ ?_
    have z := klt c21 (by omega) (by omega)
    rw [rdL, if_neg (by omega)]
    exact ⟨⟨rfl, ⟨_, HR⟩, HT.a⟩, dF⟩
  · skip
    refine go_iload_n 0 (nx := 25) dX3_readLaw_24 rfl rfl rfl ?_
    refine go_bipush (v := nI 9) (nx := 27) dX3_readLaw_25 (by decide) rfl ?_
    refine go_icmp_gt 34 (nx := 30) dX3_readLaw_27 rfl rfl (fun c27 => ?_) (fun c27 => ?_)
    · skip
      refine go_iconst (v := nI 0) (nx := 35) dX3_readLaw_34 (by decide) rfl ?_
      refine go_Vi (nx := 38) [_] kc_X3_102 ⟨_, _, rfl⟩ (by omega) hr (s_take (b := false) hn HR hc hs4 rfl) dX3_readLaw_35 rfl rfl (Nat.le_of_ble_eq_true rfl) (Nat.le_of_ble_eq_true rfl) ⟨Nat.le_refl _, Nat.le_refl _⟩ rfl (fun rh3 h3 hqh3 => ?_)
      obtain ⟨rfl, HR, hFh3⟩ := hqh3
      have HR : rdS G tx sz (c) (nI (tpl tx sz (c))) fF true h3 := HR
      have HT := HT.fr hFh3 (by omega)
      have dF := dF.k hFh3 (by omega)
      have hT := (hFh3 (t) (by omega)).trans hT
      have hkn := (hFh3 (t + 1) (by omega)).trans hkn
      have hca := (hFh3 (t + 2) (by omega)).trans hca
      obtain ⟨tk, pl, ⟨hr, htk, hpl⟩, hok⟩ := id HR
      refine go_if_ne 43 (nx := 41) dX3_readLaw_38 rfl rfl (fun c38 => False.elim (absurd rfl c38)) (fun c38 => ?_)
      refine go_iconst (v := nI 0) (nx := 42) dX3_readLaw_41 (by decide) rfl ?_
      refine go_reti dX3_readLaw_42 ⟨_, rfl, rfl⟩ ?_
      have z := klt c27 (by omega) (by omega)
      rw [rdL, if_neg (by omega)]
      exact ⟨⟨rfl, ⟨_, HR⟩, HT.a⟩, dF⟩
    · skip
      refine go_iconst (v := nI 1) (nx := 31) dX3_readLaw_30 (by decide) rfl ?_
      refine go_goto 35 dX3_readLaw_31 rfl ?_
      refine go_Vi (nx := 38) [_] kc_X3_102 ⟨_, _, rfl⟩ (by omega) hr (s_take (b := true) hn HR hc hs4 rfl) dX3_readLaw_35 rfl rfl (Nat.le_of_ble_eq_true rfl) (Nat.le_of_ble_eq_true rfl) ⟨Nat.le_refl _, Nat.le_refl _⟩ rfl (fun rh3 h3 hqh3 => ?_)
      obtain ⟨rfl, HR, hFh3⟩ := hqh3
      have HR : rdS G tx sz (c + 1) fa fF true h3 := HR
      have HT := HT.fr hFh3 (by omega)
      have dF := dF.k hFh3 (by omega)
      have hT := (hFh3 (t) (by omega)).trans hT
      have hkn := (hFh3 (t + 1) (by omega)).trans hkn
      have hca := (hFh3 (t + 2) (by omega)).trans hca
      obtain ⟨tk, pl, ⟨hr, htk, hpl⟩, hok⟩ := id HR
      refine go_if_ne 43 (nx := 41) dX3_readLaw_38 rfl rfl (fun c38 => ?_) (fun c38 => False.elim (absurd c38 (by decide)))
      refine go_aload_n 2 (nx := 44) dX3_readLaw_43 rfl rfl rfl ?_
      refine go_iload_n 0 (nx := 45) dX3_readLaw_44 rfl rfl rfl ?_
      refine go_bipush (v := nI 6) (nx := 47) dX3_readLaw_45 (by decide) rfl ?_
      refine go_isub (nx := 48) dX3_readLaw_47 rfl ?_
      refine go_pf (fs' := [_, _, _, _, _, _]) (nx := 51) (fp_X3_125 _) dX3_readLaw_48 (by omega) hT (Nat.le_of_ble_eq_true rfl) ⟨rfl, rfl⟩ rfl rfl (fun h4 eh4 fh4 => ?_)
      have hr := (fh4 (3) (by omega)).trans hr
      have htk := (fh4 (4) (by omega)).trans htk
      have hpl := (fh4 (5) (by omega)).trans hpl
      have hkn := (fh4 (t + 1) (by omega)).trans hkn
      have hca := (fh4 (t + 2) (by omega)).trans hca
      have hT := eh4
      have z1 := knlt c21 (by omega) (by omega)
      have z2 := knlt c27 (by omega) (by omega)
      rw [pk_sub z1] at hT
      have hc2 : c + 1 ≤ tmn tx sz := Nat.lt_of_not_le fun q => by have := tSt_end q; omega
      have fx : kFr t (t + 1) _ h4 := fun j hj => fh4 j (by omega)
      have HR := HR.fr fx (by omega)
      have dF := dF.k fx (by omega)
      have HT : oTown G t (T.1, T.2.1, T.2.2.1, T.2.2.2.1, tSt tx sz c - 6, T.2.2.2.2.2) h4 := ⟨kn, ca, ⟨hT, hkn, hca⟩, hk, hca2⟩
      refine go_aload_n 2 (nx := 52) dX3_readLaw_51 rfl rfl rfl ?_
      refine go_gf (nx := 55) fg_X3_125 dX3_readLaw_52 (by omega) hT rfl rfl ?_
      refine go_iconst (v := nI 2) (nx := 56) dX3_readLaw_55 (by decide) rfl ?_
      refine go_icmp_eq 61 (nx := 59) dX3_readLaw_56 rfl rfl (fun c56 => ?_) (fun c56 => ?_)
      · skip
        refine go_aload_n 1 (nx := 62) dX3_readLaw_61 rfl rfl rfl ?_
        refine go_Vi (nx := 65) [] kc_X3_119 ⟨_, _, rfl⟩ (by omega) hr (s_number hn HR hc2 hs4) dX3_readLaw_62 rfl rfl (Nat.le_of_ble_eq_true rfl) (Nat.le_of_ble_eq_true rfl) ⟨Nat.le_refl _, Nat.le_refl _⟩ rfl (fun rh5 h5 hqh5 => ?_)
        obtain ⟨rfl, rfl⟩ := hqh5
        refine go_istore_n (lv' := [_, _, _, _]) (nx := 66) dX3_readLaw_65 rfl (by decide) rfl rfl ?_
        refine go_aload_n 2 (nx := 67) dX3_readLaw_66 rfl rfl rfl ?_
        refine go_iload_n 0 (nx := 68) dX3_readLaw_67 rfl rfl rfl ?_
        refine go_if_lt 81 (nx := 71) dX3_readLaw_68 rfl rfl (fun c68 => ?_) (fun c68 => ?_)
        · skip
          refine go_iconst (v := nI 0) (nx := 82) dX3_readLaw_81 (by decide) rfl ?_
          refine go_Vi (nx := 85) [_] kc_X3_102 ⟨_, _, rfl⟩ (by omega) hr (s_take (b := false) hn HR hc2 hs4 rfl) dX3_readLaw_82 rfl rfl (Nat.le_of_ble_eq_true rfl) (Nat.le_of_ble_eq_true rfl) ⟨Nat.le_refl _, Nat.le_refl _⟩ rfl (fun rh6 h6 hqh6 => ?_)
          obtain ⟨rfl, HR, hFh6⟩ := hqh6
          have HR : rdS G tx sz (c + 1) (nI (tpl tx sz (c + 1))) fF true h6 := HR
          have HT := HT.fr hFh6 (by omega)
          have dF := dF.k hFh6 (by omega)
          have hT := (hFh6 (t) (by omega)).trans hT
          have hkn := (hFh6 (t + 1) (by omega)).trans hkn
          have hca := (hFh6 (t + 2) (by omega)).trans hca
          obtain ⟨tk, pl, ⟨hr, htk, hpl⟩, hok⟩ := id HR
          refine go_if_ne 90 (nx := 88) dX3_readLaw_85 rfl rfl (fun c85 => False.elim (absurd rfl c85)) (fun c85 => ?_)
          refine go_iconst (v := nI 0) (nx := 89) dX3_readLaw_88 (by decide) rfl ?_
          refine go_reti dX3_readLaw_89 ⟨_, rfl, rfl⟩ ?_
          have z3 : tSt tx sz c = 8 := by have := keq c56 (by omega) (by decide); omega
          have e : rN (tSt tx sz (c + 1)) 7 = false := by
            have z : tSt tx sz (c + 1) < 100 := Nat.lt_of_not_le fun q => by rw [nm_pos q] at c68; exact Nat.not_lt_zero _ (klt (b := 0) c68 (by omega) (by decide))
            simp [rN]; omega
          rw [rdL, if_pos ⟨z1, z2⟩, if_pos z3, if_neg (by rw [e]; decide)]
          exact ⟨⟨rfl, ⟨_, HR⟩, HT.a⟩, dF⟩
        · skip
          refine go_iload_n 0 (nx := 72) dX3_readLaw_71 rfl rfl rfl ?_
          refine go_bipush (v := nI 7) (nx := 74) dX3_readLaw_72 (by decide) rfl ?_
          refine go_icmp_gt 81 (nx := 77) dX3_readLaw_74 rfl rfl (fun c74 => ?_) (fun c74 => ?_)
          · skip
            refine go_iconst (v := nI 0) (nx := 82) dX3_readLaw_81 (by decide) rfl ?_
            refine go_Vi (nx := 85) [_] kc_X3_102 ⟨_, _, rfl⟩ (by omega) hr (s_take (b := false) hn HR hc2 hs4 rfl) dX3_readLaw_82 rfl rfl (Nat.le_of_ble_eq_true rfl) (Nat.le_of_ble_eq_true rfl) ⟨Nat.le_refl _, Nat.le_refl _⟩ rfl (fun rh6 h6 hqh6 => ?_)
            obtain ⟨rfl, HR, hFh6⟩ := hqh6
            have HR : rdS G tx sz (c + 1) (nI (tpl tx sz (c + 1))) fF true h6 := HR
            have HT := HT.fr hFh6 (by omega)
            have dF := dF.k hFh6 (by omega)
            have hT := (hFh6 (t) (by omega)).trans hT
            have hkn := (hFh6 (t + 1) (by omega)).trans hkn
            have hca := (hFh6 (t + 2) (by omega)).trans hca
            obtain ⟨tk, pl, ⟨hr, htk, hpl⟩, hok⟩ := id HR
            refine go_if_ne 90 (nx := 88) dX3_readLaw_85 rfl rfl (fun c85 => False.elim (absurd rfl c85)) (fun c85 => ?_)
            refine go_iconst (v := nI 0) (nx := 89) dX3_readLaw_88 (by decide) rfl ?_
            refine go_reti dX3_readLaw_89 ⟨_, rfl, rfl⟩ ?_
            have z3 : tSt tx sz c = 8 := by have := keq c56 (by omega) (by decide); omega
            have e : rN (tSt tx sz (c + 1)) 7 = false := by
              have z : 100 ≤ tSt tx sz (c + 1) := Nat.le_of_not_lt fun q => c68 (nm_neg _ q)
              rw [nm_pos z] at c74
              have z2 := klt c74 (by omega) (by omega)
              simp [rN]; omega
            rw [rdL, if_pos ⟨z1, z2⟩, if_pos z3, if_neg (by rw [e]; decide)]
            exact ⟨⟨rfl, ⟨_, HR⟩, HT.a⟩, dF⟩
          · skip
            refine go_iconst (v := nI 1) (nx := 78) dX3_readLaw_77 (by decide) rfl ?_
            refine go_goto 82 dX3_readLaw_78 rfl ?_
            refine go_Vi (nx := 85) [_] kc_X3_102 ⟨_, _, rfl⟩ (by omega) hr (s_take (b := true) hn HR hc2 hs4 rfl) dX3_readLaw_82 rfl rfl (Nat.le_of_ble_eq_true rfl) (Nat.le_of_ble_eq_true rfl) ⟨Nat.le_refl _, Nat.le_refl _⟩ rfl (fun rh6 h6 hqh6 => ?_)
            obtain ⟨rfl, HR, hFh6⟩ := hqh6
            have HR : rdS G tx sz (c + 1 + 1) fa fF true h6 := HR
            have HT := HT.fr hFh6 (by omega)
            have dF := dF.k hFh6 (by omega)
            have hT := (hFh6 (t) (by omega)).trans hT
            have hkn := (hFh6 (t + 1) (by omega)).trans hkn
            have hca := (hFh6 (t + 2) (by omega)).trans hca
            obtain ⟨tk, pl, ⟨hr, htk, hpl⟩, hok⟩ := id HR
            refine go_if_ne 90 (nx := 88) dX3_readLaw_85 rfl rfl (fun c85 => ?_) (fun c85 => False.elim (absurd c85 (by decide)))
            refine go_aload_n 3 (nx := 91) dX3_readLaw_90 rfl rfl rfl ?_
            refine go_iload_n 0 (nx := 92) dX3_readLaw_91 rfl rfl rfl ?_
            refine go_pf (fs' := [_, _, _, _, _, _]) (nx := 95) (fp_X3_128 _) dX3_readLaw_92 (by omega) hT (Nat.le_of_ble_eq_true rfl) ⟨rfl, rfl⟩ rfl rfl (fun h7 eh7 fh7 => ?_)
            have hr := (fh7 (3) (by omega)).trans hr
            have htk := (fh7 (4) (by omega)).trans htk
            have hpl := (fh7 (5) (by omega)).trans hpl
            have hkn := (fh7 (t + 1) (by omega)).trans hkn
            have hca := (fh7 (t + 2) (by omega)).trans hca
            have hT := eh7
            refine go_iconst (v := nI 1) (nx := 96) dX3_readLaw_95 (by decide) rfl ?_
            refine go_reti dX3_readLaw_96 ⟨_, rfl, rfl⟩ ?_
            have z3 : tSt tx sz c = 8 := by have := keq c56 (by omega) (by decide); omega
            have z : 100 ≤ tSt tx sz (c + 1) := Nat.le_of_not_lt fun q => c68 (nm_neg _ q)
            rw [nm_pos z] at c74
            have z4 := knlt c74 (by omega) (by omega)
            have e : rN (tSt tx sz (c + 1)) 7 = true := by simp [rN]; omega
            rw [nm_pos z, show tSt tx sz c - 6 = 2 by omega] at hT
            rw [rdL, if_pos ⟨z1, z2⟩, if_pos z3, if_pos e]
            have fx : kFr t (t + 1) _ h7 := fun j hj => fh7 j (by omega)
            exact ⟨⟨rfl, HR.fr fx (by omega), ⟨kn, ca, ⟨hT, hkn, hca⟩, hk, hca2⟩⟩, dF.k fx (by omega)⟩
      · skip
        refine go_iconst (v := nI 1) (nx := 60) dX3_readLaw_59 (by decide) rfl ?_
        refine go_reti dX3_readLaw_60 ⟨_, rfl, rfl⟩ ?_
        have z3 : ¬ tSt tx sz c = 8 := fun q => c56 (by rw [q])
        rw [rdL, if_pos ⟨z1, z2⟩, if_neg z3]
        exact ⟨⟨rfl, HR, HT⟩, dF⟩
