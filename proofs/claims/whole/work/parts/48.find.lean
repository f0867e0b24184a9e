/-! LeastKnown$Reader: where the tokens are -/
def rRead (G : kG) (tk pl : Nat → Int32) (cu fa lt ft : Int32) (h : kH) : Prop := h 3 = .inr (3, [.ref (kb G + 4), .ref (kb G + 5), .int cu, .int fa, .int lt, .int ft]) ∧ h 4 = .inl (G.2.1, 401, .inl tk) ∧ h 5 = .inl (G.2.1, 401, .inl pl)
def tkOk (tx : Nat → Nat) (sz m : Nat) (tk pl : Nat → Int32) : Prop := ∀ i, i < m → tk i = nI (tSt tx sz i) ∧ pl i = nI (tpl tx sz i)
theorem l_find {G : kG} {n sz : Nat} {tx : Nat → Nat} {cu fa lt ft : Int32} {h0 : kH} (hWD : WDok G) (hn : 37 ≤ n) (h256 : ∀ j, tx j < 256) : ∀ (d k : Nat) (h : kH) (tk pl : Nat → Int32), sz - k < d → k ≤ sz → oText G tx sz h → rRead G tk pl cu fa lt ft h → tkOk tx sz (tcb tx sz k) tk pl → kFr 3 6 h0 h → Go G mX3_findTokens (8, 0, 0) 4 [(3, .int (nI k)), (2, .int (nI (tcb tx sz k))), (0, .ref (kb G + 3)), (1, .ref (kb G + 1))] [] (n, 0, 0) h (kQv mX3_findTokens n (fun h' => (∃ tk pl : Nat → Int32, rRead G tk pl cu fa lt ft h' ∧ tkOk tx sz (tmn tx sz + 1) tk pl) ∧ kFr 3 6 h0 h')) := by
  intro d
  induction d with
  | zero => intro k h tk pl hd; omega
  | succ d ih =>
    intro k h tk pl hd hk HT HR hok hF
    obtain ⟨htc, hsz, ba, hby, hba⟩ := id HT
    obtain ⟨hr, htk, hpl⟩ := id HR
    have hcb := tcb_le (tx := tx) (sz := sz) k
    refine go_iload_n 0 (nx := 5) dX3_findTokens_4 rfl rfl rfl ?_
    refine go_aload_n 3 (nx := 6) dX3_findTokens_5 rfl rfl rfl ?_
    refine go_gf (nx := 9) fg_X3_49 dX3_findTokens_6 (by omega) htc rfl rfl ?_
    refine go_icmp_ge 51 (nx := 12) dX3_findTokens_9 rfl rfl (fun c9 => ?_) (fun c9 => ?_)
    · skip
      refine go_aload_n 2 (nx := 52) dX3_findTokens_51 rfl rfl rfl ?_
      refine go_gf (nx := 55) fg_X3_9 dX3_findTokens_52 (by omega) hr rfl rfl ?_
      refine go_iload_n 1 (nx := 56) dX3_findTokens_55 rfl rfl rfl ?_
      refine go_bipush (v := nI 12) (nx := 58) dX3_findTokens_56 (by decide) rfl ?_
      refine go_SNv (nx := 61) [_, _, _] kc_X3_62 (s_put (by omega) htk (by decide) rfl (by omega)) dX3_findTokens_58 rfl rfl (Nat.le_of_ble_eq_true rfl) (Nat.le_of_ble_eq_true rfl) ⟨Nat.le_refl _, Nat.le_refl _⟩ rfl (fun h1 hqh1 => ?_)
      obtain ⟨eh1, fh1⟩ := hqh1
      have hr := (fh1 (3) (by omega)).trans hr
      have hpl := (fh1 (5) (by omega)).trans hpl
      have htc := (fh1 (1) (by omega)).trans htc
      have hby := (fh1 (2) (by omega)).trans hby
      have htk := eh1
      have hF := hF.tr (fun j hj => fh1 j (by omega))
      have HT := HT.fr (h' := h1) (lo := 4) (hi := 6) (fun j hj => fh1 j (by omega)) (by omega)
      refine go_aload_n 2 (nx := 62) dX3_findTokens_61 rfl rfl rfl ?_
      refine go_gf (nx := 65) fg_X3_15 dX3_findTokens_62 (by omega) hr rfl rfl ?_
      refine go_iload_n 1 (nx := 66) dX3_findTokens_65 rfl rfl rfl ?_
      refine go_aload_n 3 (nx := 67) dX3_findTokens_66 rfl rfl rfl ?_
      refine go_gf (nx := 70) fg_X3_49 dX3_findTokens_67 (by omega) htc rfl rfl ?_
      refine go_SNv (nx := 73) [_, _, _] kc_X3_62 (s_put (by omega) hpl (by decide) rfl (by omega)) dX3_findTokens_70 rfl rfl (Nat.le_of_ble_eq_true rfl) (Nat.le_of_ble_eq_true rfl) ⟨Nat.le_refl _, Nat.le_refl _⟩ rfl (fun h2 hqh2 => ?_)
      obtain ⟨eh2, fh2⟩ := hqh2
      have hr := (fh2 (3) (by omega)).trans hr
      have htk := (fh2 (4) (by omega)).trans htk
      have htc := (fh2 (1) (by omega)).trans htc
      have hby := (fh2 (2) (by omega)).trans hby
      have hpl := eh2
      have hF := hF.tr (fun j hj => fh2 j (by omega))
      have HT := HT.fr (h' := h2) (lo := 4) (hi := 6) (fun j hj => fh2 j (by omega)) (by omega)
      refine go_retv dX3_findTokens_73 rfl ?_
      have e8 : k = sz := by have := kle c9; omega
      subst e8
      refine ⟨⟨_, _, ⟨hr, htk, hpl⟩, fun i hi => ?_⟩, hF⟩
      by_cases ei : i = tmn tx k
      · subst ei
        have e1 := tSt_end (tx := tx) (sz := k) (Nat.le_refl _)
        have e2 := tpl_end (tx := tx) (sz := k)
        rw [show tcb tx k k = tmn tx k from rfl, pk_us, pk_us, e1, e2]
        exact ⟨rfl, rfl⟩
      · rw [show tcb tx k k = tmn tx k from rfl, pk_un ei, pk_un ei]
        exact hok i (by show i < tmn tx k; omega)
    · skip
      have h9 := knle c9
      refine go_aload_n 3 (nx := 13) dX3_findTokens_12 rfl rfl rfl ?_
      refine go_iload_n 0 (nx := 14) dX3_findTokens_13 rfl rfl rfl ?_
      refine go_Vi (nx := 17) [_] kc_X3_54 ⟨_, _, rfl⟩ (by omega) htc (s_begins hn HT h256 rfl h9) dX3_findTokens_14 rfl rfl (Nat.le_of_ble_eq_true rfl) (Nat.le_of_ble_eq_true rfl) ⟨Nat.le_refl _, Nat.le_refl _⟩ rfl (fun rh1 h1 hqh1 => ?_)
      obtain ⟨rfl, rfl⟩ := hqh1
      refine go_if_eq 45 (nx := 20) dX3_findTokens_17 rfl rfl (fun c17 => ?_) (fun c17 => ?_)
      · skip
        refine go_iinc 0 (v := nI (k + 1)) (lv' := [_, _, _, _]) (nx := 48) dX3_findTokens_45 rfl (nI_inc k) (by decide) rfl rfl ?_
        refine go_goto 4 dX3_findTokens_48 rfl ?_
        refine Go.sub [0, 1, 2, 3] rfl ?_
        have e : tcb tx sz (k + 1) = tcb tx sz k := by simp only [tcb]; rw [if_neg (by rw [tb0 c17]; decide)]; rfl
        have kk := ih (k + 1) _ _ _ (by omega) (by omega) HT ⟨hr, htk, hpl⟩ (by rw [e]; exact hok) hF
        rw [e] at kk
        exact kk
      · skip
        refine go_aload_n 2 (nx := 21) dX3_findTokens_20 rfl rfl rfl ?_
        refine go_gf (nx := 24) fg_X3_9 dX3_findTokens_21 (by omega) hr rfl rfl ?_
        refine go_iload_n 1 (nx := 25) dX3_findTokens_24 rfl rfl rfl ?_
        refine go_aload_n 3 (nx := 26) dX3_findTokens_25 rfl rfl rfl ?_
        refine go_iload_n 0 (nx := 27) dX3_findTokens_26 rfl rfl rfl ?_
        refine go_Si (nx := 30) [_, _] kc_X3_58 (s_tokenAt hWD hn HT h256 rfl h9) dX3_findTokens_27 rfl rfl (Nat.le_of_ble_eq_true rfl) (Nat.le_of_ble_eq_true rfl) ⟨Nat.le_refl _, Nat.le_refl _⟩ rfl (fun rh2 h2 hqh2 => ?_)
        obtain ⟨rfl, rfl⟩ := hqh2
        refine go_SNv (nx := 33) [_, _, _] kc_X3_62 (s_put (by omega) htk (by decide) rfl (by omega)) dX3_findTokens_30 rfl rfl (Nat.le_of_ble_eq_true rfl) (Nat.le_of_ble_eq_true rfl) ⟨Nat.le_refl _, Nat.le_refl _⟩ rfl (fun h3 hqh3 => ?_)
        obtain ⟨eh3, fh3⟩ := hqh3
        have hr := (fh3 (3) (by omega)).trans hr
        have hpl := (fh3 (5) (by omega)).trans hpl
        have htc := (fh3 (1) (by omega)).trans htc
        have hby := (fh3 (2) (by omega)).trans hby
        have htk := eh3
        have hF := hF.tr (fun j hj => fh3 j (by omega))
        have HT := HT.fr (h' := h3) (lo := 4) (hi := 6) (fun j hj => fh3 j (by omega)) (by omega)
        refine go_aload_n 2 (nx := 34) dX3_findTokens_33 rfl rfl rfl ?_
        refine go_gf (nx := 37) fg_X3_15 dX3_findTokens_34 (by omega) hr rfl rfl ?_
        refine go_iload_n 1 (nx := 38) dX3_findTokens_37 rfl rfl rfl ?_
        refine go_iload_n 0 (nx := 39) dX3_findTokens_38 rfl rfl rfl ?_
        refine go_SNv (nx := 42) [_, _, _] kc_X3_62 (s_put (by omega) hpl (by decide) rfl (by omega)) dX3_findTokens_39 rfl rfl (Nat.le_of_ble_eq_true rfl) (Nat.le_of_ble_eq_true rfl) ⟨Nat.le_refl _, Nat.le_refl _⟩ rfl (fun h4 hqh4 => ?_)
        obtain ⟨eh4, fh4⟩ := hqh4
        have hr := (fh4 (3) (by omega)).trans hr
        have htk := (fh4 (4) (by omega)).trans htk
        have htc := (fh4 (1) (by omega)).trans htc
        have hby := (fh4 (2) (by omega)).trans hby
        have hpl := eh4
        have hF := hF.tr (fun j hj => fh4 j (by omega))
        have HT := HT.fr (h' := h4) (lo := 4) (hi := 6) (fun j hj => fh4 j (by omega)) (by omega)
        refine go_iinc 1 (v := nI (tcb tx sz k + 1)) (lv' := [_, _, _, _]) (nx := 45) dX3_findTokens_42 rfl (nI_inc _) (by decide) rfl rfl ?_
        refine go_iinc 1 (v := nI (k + 1)) (lv' := [_, _, _, _]) (nx := 48) dX3_findTokens_45 rfl (nI_inc k) (by decide) rfl rfl ?_
        refine go_goto 4 dX3_findTokens_48 rfl ?_
        refine Go.sub [0, 1, 2, 3] rfl ?_
        have eb := tbn0 c17
        have e : tcb tx sz (k + 1) = tcb tx sz k + 1 := by simp only [tcb]; rw [if_pos eb]
        have ep : tpl tx sz (tcb tx sz k) = k := by rw [tpl_cb k (by omega), nxt_hit eb]
        have kk := ih (k + 1) _ _ _ (by omega) (by omega) HT ⟨hr, htk, hpl⟩ (fun i hi => ?_) hF
        · rw [e] at kk
          exact kk
        · rw [e] at hi
          by_cases ei : i = tcb tx sz k
          · subst ei
            rw [pk_us, pk_us, tSt, ep]
            exact ⟨rfl, rfl⟩
          · rw [pk_un ei, pk_un ei]
            exact hok i (by omega)
theorem s_find {G : kG} {n sz : Nat} {h : kH} {tx : Nat → Nat} {tk pl : Nat → Int32} {cu fa lt ft : Int32} (hWD : WDok G) (hn : 37 ≤ n) (HT : oText G tx sz h) (h256 : ∀ j, tx j < 256) (HR : rRead G tk pl cu fa lt ft h) : Spv G mX3_findTokens 8 [.ref (kb G + 3), .ref (kb G + 1)] n h (fun h' => (∃ tk pl : Nat → Int32, rRead G tk pl cu fa lt ft h' ∧ tkOk tx sz (tmn tx sz + 1) tk pl) ∧ kFr 3 6 h h') := by
  obtain ⟨htc, hsz, ba, hby, hba⟩ := id HT
  obtain ⟨hr, htk, hpl⟩ := id HR
  refine Spv.of (by decide) (Nat.le_of_ble_eq_true rfl) ?_
  refine go_iconst (v := nI 0) (nx := 1) dX3_findTokens_0 (by decide) rfl ?_
  refine go_istore_n (lv' := [_, _, _]) (nx := 2) dX3_findTokens_1 rfl (by decide) rfl rfl ?_
  refine go_iconst (v := nI 0) (nx := 3) dX3_findTokens_2 (by decide) rfl ?_
  refine go_istore_n (lv' := [_, _, _, _]) (nx := 4) dX3_findTokens_3 rfl (by decide) rfl rfl ?_
  refine Go.sub [0, 1, 2, 3] rfl ?_
  exact l_find hWD hn h256 (sz + 1) 0 h tk pl (by omega) (by omega) HT HR (fun i hi => absurd hi (Nat.not_lt_zero i)) kFr.rf
