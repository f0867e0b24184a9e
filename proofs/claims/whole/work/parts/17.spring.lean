/-! a spring: what it keeps; LeastKnown$Now.spring -/
theorem wK_set {P a b : Nat} {K : mK} (hK : wK P K) (ha : a < P) (hb : b < P) (h : a ≠ b) : wK P (kSet K a b) := by
  intro x y e
  unfold kSet at e
  cases e2 : K x y
  · rw [e2] at e
    simp at e
    obtain ⟨rfl, rfl⟩ := e
    exact ⟨ha, hb, h⟩
  · exact hK x y e2
theorem wK_and {P : Nat} {K : mK} (hK : wK P K) (f : Nat → Nat → Bool) : wK P (fun x y => K x y && f x y) := by
  intro x y e
  simp only [Bool.and_eq_true] at e
  exact hK x y e.1
theorem wN_learn {P a b : Nat} {ν : mN} (h : wN P ν) (ha : a < P) (hb : b < P) (hab : a ≠ b) : wN P (mLearn ν a b) := by
  refine ⟨wK_set h.1 ha hb hab, h.2.1, h.2.2.1, fun j => ?_, h.2.2.2.2⟩
  show upd ν.2.1 (8 * a + b) (nI ν.2.2.2.1) j = -1 ∨ ∃ s, s ≤ ν.2.2.2.1 ∧ upd ν.2.1 (8 * a + b) (nI ν.2.2.2.1) j = nI s
  by_cases e : j = 8 * a + b
  · subst e; rw [pk_us]; exact Or.inr ⟨_, Nat.le_refl _, rfl⟩
  · rw [pk_un e]; exact h.2.2.2.1 j
theorem wN_calls {T : mT} {ν : mN} (hw : wT T) (h : wN T.1 ν) : ∀ {p : Nat}, p ≤ T.1 → wN T.1 (mCalls T p ν)
  | 0, _ => h
  | p + 1, hp => by
    have ih := wN_calls hw h (p := p) (by omega)
    simp only [mCalls]
    split
    · exact ih
    · rename_i b e
      obtain ⟨h1, h2, h3⟩ := hw.2.2.1 p b e
      exact wN_learn (wN_learn ih h1 h2 (Ne.symm h3)) h2 h1 h3
theorem wN_honour {P who : Nat} {ν : mN} (h : wN P ν) (hw : who < P) : ∀ {p : Nat}, p ≤ P → wN P (mHonour who p ν)
  | 0, _ => h
  | p + 1, hp => by
    have ih := wN_honour h hw (p := p) (by omega)
    simp only [mHonour]
    split
    · exact ih
    · rename_i e
      exact wN_learn ih (by omega) hw e
/-- all but who reigned how often is as it was; the year, too -/
theorem mCalls_C {T : mT} {ν : mN} : ∀ (p : Nat), (mCalls T p ν).2.2 = ν.2.2
  | 0 => rfl
  | p + 1 => by
    have ih := mCalls_C (T := T) (ν := ν) p
    simp only [mCalls]
    split
    · exact ih
    · exact ih
theorem mHonour_C {who : Nat} {ν : mN} : ∀ (p : Nat), (mHonour who p ν).2.2 = ν.2.2
  | 0 => rfl
  | p + 1 => by
    have ih := mHonour_C (who := who) (ν := ν) p
    simp only [mHonour]
    split
    · exact ih
    · exact ih
/-- NOW in the midst of a spring: who reigned may have reigned once more than years have gone -/
theorem wN_spring {T : mT} {ν : mN} (hw : wT T) (h : wN T.1 ν) (hP : 0 < T.1) : wN T.1 (mSpring T ν) := by
  have h1 := wN_calls hw h (Nat.le_refl _)
  have hwho : mWho T ν < T.1 := mChoose_lt hP
  have h2 := wN_honour h1 hwho (Nat.le_refl _)
  have key : ∀ K : mK, wK T.1 K → wN T.1 (K, (mHonour (mWho T ν) T.1 (mCalls T T.1 ν)).2.1, (fun p => if p = mWho T ν then (mHonour (mWho T ν) T.1 (mCalls T T.1 ν)).2.2.1 p + 1 else (mHonour (mWho T ν) T.1 (mCalls T T.1 ν)).2.2.1 p), (mHonour (mWho T ν) T.1 (mCalls T T.1 ν)).2.2.2.1 + 1, nI (mWho T ν)) := by
    intro K hK
    refine ⟨hK, fun p hp => ?_, fun p => ?_, fun j => ?_, Or.inr ⟨_, hwho, rfl⟩⟩
    · show (if p = mWho T ν then _ else _) = 0
      rw [if_neg (by omega)]
      exact h2.2.1 p hp
    · show (if p = mWho T ν then _ else _) ≤ _ + 1
      have := h2.2.2.1 p
      split <;> omega
    · rcases h2.2.2.2.1 j with e | ⟨s, hs, e⟩
      · exact Or.inl e
      · exact Or.inr ⟨s, Nat.le_succ_of_le hs, e⟩
  unfold mSpring
  simp only []
  split
  · exact key _ (wK_and h2.1 _)
  · exact key _ h2.1
theorem l_spring {G : kG} {n q t : Nat} {h0 : kH} {ν : mN} {T : mT} (hq : q + 5 ≤ n) (ht : t + 3 ≤ n) (hd0 : t + 3 ≤ q ∨ q + 5 ≤ t) (hw : wT T) (hv : wN T.1 ν) (hP0 : 0 < T.1) : ∀ (d p : Nat) (h : kH) (lv : List (Nat × Value)), T.1 - p < d → p ≤ T.1 → lv = [(2, .int (nI p)), (0, .ref (kb G + q)), (1, .ref (kb G + t))] → oNow G q (mCalls T p ν) h → oTown G t T h → kFr q (q + 5) h0 h → Go G mX2_spring (4, 0, 0) 2 lv [] (n, 0, 0) h (kQi mX2_spring n (fun v h' => v = nI (mWho T ν) ∧ oNow G q (mSpring T ν) h' ∧ kFr q (q + 5) h0 h')) := by
  intro d
  have hP := hw.1
  induction d with
  | zero => intro p h lv hd; omega
  | succ d ih =>
    intro p h lv hd hp hlv H HT hF
    subst hlv
    have H' := H
    have HT' := HT
    obtain ⟨kn, ct, si, cr, ⟨hN, hkn, hct, hsi, hcr⟩, hK, hC, hS, hR⟩ := H
    obtain ⟨tk, tc, ⟨hT, htk, htc⟩, hTk, hTc⟩ := HT
    refine go_iload_n 0 (nx := 3) dX2_spring_2 rfl rfl rfl ?_
    refine go_aload_n 2 (nx := 4) dX2_spring_3 rfl rfl rfl ?_
    refine go_gf (nx := 7) fg_X2_67 dX2_spring_4 (by omega) hT rfl rfl ?_
    refine go_icmp_ge 45 (nx := 10) dX2_spring_7 rfl rfl (fun c7 => ?_) (fun c7 => ?_)
    · skip
      have e8 : p = T.1 := by have := kle c7; omega
      subst e8
      refine go_aload_n 1 (nx := 46) dX2_spring_45 rfl rfl rfl ?_
      refine go_aload_n 2 (nx := 47) dX2_spring_46 rfl rfl rfl ?_
      refine go_aload_n 1 (nx := 48) dX2_spring_47 rfl rfl rfl ?_
      refine go_Vi (nx := 51) [_] kc_X2_77 ⟨_, _, rfl⟩ (by omega) hT (s_choose hq ht H' HT' hw (wN_calls hw hv (Nat.le_refl _)).1 hP0) dX2_spring_48 rfl rfl (Nat.le_of_ble_eq_true rfl) (Nat.le_of_ble_eq_true rfl) ⟨Nat.le_refl _, Nat.le_refl _⟩ rfl (fun rh1 h1 hqh1 => ?_)
      obtain ⟨rfl, rfl⟩ := hqh1
      refine go_aload_n 2 (nx := 52) dX2_spring_51 rfl rfl rfl ?_
      refine go_gf (nx := 55) fg_X2_67 dX2_spring_52 (by omega) hT rfl rfl ?_
      refine go_Vv (nx := 58) [_, _] kc_X2_81 ⟨_, _, rfl⟩ (by omega) hN (s_crown hq H' rfl (by have := mChoose_lt (K := (mCalls T T.1 ν).1) (C := (mCalls T T.1 ν).2.2.1) hP0; omega) rfl hP) dX2_spring_55 rfl rfl (Nat.le_of_ble_eq_true rfl) (Nat.le_of_ble_eq_true rfl) ⟨Nat.le_refl _, Nat.le_refl _⟩ rfl (fun h2 hqh2 => ?_)
      obtain ⟨H, hFh2⟩ := hqh2
      have H' := H
      obtain ⟨kn, ct, si, cr, ⟨hN, hkn, hct, hsi, hcr⟩, hK, hC, hS, hR⟩ := H
      have HT' := HT'.fr hFh2 (by omega)
      have hT := (hFh2 (t) (by omega)).trans hT
      have htk := (hFh2 (t + 1) (by omega)).trans htk
      have htc := (hFh2 (t + 2) (by omega)).trans htc
      have hF := hF.tr hFh2
      refine go_aload_n 2 (nx := 59) dX2_spring_58 rfl rfl rfl ?_
      refine go_gf (nx := 62) fg_X2_84 dX2_spring_59 (by omega) hT rfl rfl ?_
      refine go_if_le 70 (nx := 65) dX2_spring_62 rfl rfl (fun c62 => ?_) (fun c62 => ?_)
      · skip
        refine go_aload_n 1 (nx := 71) dX2_spring_70 rfl rfl rfl ?_
        refine go_dup (nx := 72) dX2_spring_71 rfl rfl ?_
        refine go_gf (nx := 75) fg_X2_43 dX2_spring_72 (by omega) hN rfl rfl ?_
        refine go_iconst (v := nI 1) (nx := 76) dX2_spring_75 (by decide) rfl ?_
        refine go_iadd (nx := 77) dX2_spring_76 rfl ?_
        rw [nI_add]
        refine go_pf (fs' := [_, _, _, _, _, _, _]) (nx := 80) (fp_X2_43 _) dX2_spring_77 (by omega) hN (Nat.le_of_ble_eq_true rfl) ⟨rfl, rfl⟩ rfl rfl (fun h3 eh3 fh3 => ?_)
        have hkn := (fh3 (q + 1) (by omega)).trans hkn
        have hct := (fh3 (q + 2) (by omega)).trans hct
        have hsi := (fh3 (q + 3) (by omega)).trans hsi
        have hcr := (fh3 (q + 4) (by omega)).trans hcr
        have hT := (fh3 (t) (by omega)).trans hT
        have htk := (fh3 (t + 1) (by omega)).trans htk
        have htc := (fh3 (t + 2) (by omega)).trans htc
        have hN := eh3
        have hF := hF.tr (fun j hj => fh3 j (by omega))
        refine go_aload_n 1 (nx := 81) dX2_spring_80 rfl rfl rfl ?_
        refine go_gf (nx := 84) fg_X2_46 dX2_spring_81 (by omega) hN rfl rfl ?_
        refine go_reti dX2_spring_84 ⟨_, rfl, rfl⟩ ?_
        refine ⟨rfl, ?_, hF⟩
        have e : mSpring T ν = ((mCrown T.1 (mWho T ν) (mCalls T T.1 ν)).1, (mCrown T.1 (mWho T ν) (mCalls T T.1 ν)).2.1, (mCrown T.1 (mWho T ν) (mCalls T T.1 ν)).2.2.1, (mCrown T.1 (mWho T ν) (mCalls T T.1 ν)).2.2.2.1 + 1, (mCrown T.1 (mWho T ν) (mCalls T T.1 ν)).2.2.2.2) := by
          unfold mSpring
          simp only []
          rw [if_neg (by have := kle (b := 0) c62 (by have := hw.2.2.2.1; omega) (by decide); omega)]
        rw [e]
        exact ⟨kn, ct, si, cr, ⟨hN, hkn, hct, hsi, hcr⟩, hK, hC, hS, hR⟩
      · skip
        refine go_aload_n 1 (nx := 66) dX2_spring_65 rfl rfl rfl ?_
        refine go_aload_n 2 (nx := 67) dX2_spring_66 rfl rfl rfl ?_
        refine go_Vv (nx := 70) [_] kc_X2_87 ⟨_, _, rfl⟩ (by omega) hN (s_forget hq ht hd0 H' HT' hw (by exact (wN_honour (wN_calls hw hv (Nat.le_refl _)) (mChoose_lt hP0) (Nat.le_refl _)).1)) dX2_spring_67 rfl rfl (Nat.le_of_ble_eq_true rfl) (Nat.le_of_ble_eq_true rfl) ⟨Nat.le_refl _, Nat.le_refl _⟩ rfl (fun h3 hqh3 => ?_)
        obtain ⟨H, hFh3⟩ := hqh3
        have H' := H
        obtain ⟨kn, ct, si, cr, ⟨hN, hkn, hct, hsi, hcr⟩, hK, hC, hS, hR⟩ := H
        have HT' := HT'.fr hFh3 (by omega)
        have hT := (hFh3 (t) (by omega)).trans hT
        have htk := (hFh3 (t + 1) (by omega)).trans htk
        have htc := (hFh3 (t + 2) (by omega)).trans htc
        have hF := hF.tr hFh3
        refine go_aload_n 1 (nx := 71) dX2_spring_70 rfl rfl rfl ?_
        refine go_dup (nx := 72) dX2_spring_71 rfl rfl ?_
        refine go_gf (nx := 75) fg_X2_43 dX2_spring_72 (by omega) hN rfl rfl ?_
        refine go_iconst (v := nI 1) (nx := 76) dX2_spring_75 (by decide) rfl ?_
        refine go_iadd (nx := 77) dX2_spring_76 rfl ?_
        rw [nI_add]
        refine go_pf (fs' := [_, _, _, _, _, _, _]) (nx := 80) (fp_X2_43 _) dX2_spring_77 (by omega) hN (Nat.le_of_ble_eq_true rfl) ⟨rfl, rfl⟩ rfl rfl (fun h4 eh4 fh4 => ?_)
        have hkn := (fh4 (q + 1) (by omega)).trans hkn
        have hct := (fh4 (q + 2) (by omega)).trans hct
        have hsi := (fh4 (q + 3) (by omega)).trans hsi
        have hcr := (fh4 (q + 4) (by omega)).trans hcr
        have hT := (fh4 (t) (by omega)).trans hT
        have htk := (fh4 (t + 1) (by omega)).trans htk
        have htc := (fh4 (t + 2) (by omega)).trans htc
        have hN := eh4
        have hF := hF.tr (fun j hj => fh4 j (by omega))
        refine go_aload_n 1 (nx := 81) dX2_spring_80 rfl rfl rfl ?_
        refine go_gf (nx := 84) fg_X2_46 dX2_spring_81 (by omega) hN rfl rfl ?_
        refine go_reti dX2_spring_84 ⟨_, rfl, rfl⟩ ?_
        refine ⟨rfl, ?_, hF⟩
        have e : mSpring T ν = ((mForget T.2.2.2.1 (mCrown T.1 (mWho T ν) (mCalls T T.1 ν))).1, (mForget T.2.2.2.1 (mCrown T.1 (mWho T ν) (mCalls T T.1 ν))).2.1, (mForget T.2.2.2.1 (mCrown T.1 (mWho T ν) (mCalls T T.1 ν))).2.2.1, (mForget T.2.2.2.1 (mCrown T.1 (mWho T ν) (mCalls T T.1 ν))).2.2.2.1 + 1, (mForget T.2.2.2.1 (mCrown T.1 (mWho T ν) (mCalls T T.1 ν))).2.2.2.2) := by
          unfold mSpring
          simp only []
          rw [if_pos (by have := knle (b := 0) c62 (by have := hw.2.2.2.1; omega) (by decide); omega)]
        rw [e]
        exact ⟨kn, ct, si, cr, ⟨hN, hkn, hct, hsi, hcr⟩, hK, hC, hS, hR⟩
    · skip
      have h8 := knle c7
      refine go_aload_n 2 (nx := 11) dX2_spring_10 rfl rfl rfl ?_
      refine go_gf (nx := 14) fg_X2_70 dX2_spring_11 (by omega) hT rfl rfl ?_
      refine go_iload_n 0 (nx := 15) dX2_spring_14 rfl rfl rfl ?_
      refine go_SNi (nx := 18) [_, _] kc_X2_27 (s_at_in (by omega) htc (by omega) rfl (by have := knle c7; omega)) dX2_spring_15 rfl rfl (Nat.le_of_ble_eq_true rfl) (Nat.le_of_ble_eq_true rfl) ⟨Nat.le_refl _, Nat.le_refl _⟩ rfl (fun rh1 h1 hqh1 => ?_)
      obtain ⟨rfl, rfl⟩ := hqh1
      rw [hTc p (by omega)]
      have hn := hab_none (o := T.2.2.1 p) (fun b e => by have := hw.2.2.1 p b e; omega)
      refine go_istore_n (lv' := [_, _, _, _]) (nx := 19) dX2_spring_18 rfl (by decide) rfl rfl ?_
      refine go_iload_n 0 (nx := 20) dX2_spring_19 rfl rfl rfl ?_
      refine go_bipush (v := (-9)) (nx := 22) dX2_spring_20 (by decide) rfl ?_
      refine go_icmp_eq 39 (nx := 25) dX2_spring_22 rfl rfl (fun c22 => ?_) (fun c22 => ?_)
      · skip
        refine go_iinc 1 (v := nI (p + 1)) (lv' := [_, _, _, _]) (nx := 42) dX2_spring_39 rfl (nI_inc p) (by decide) rfl rfl ?_
        refine go_goto 2 dX2_spring_42 rfl ?_
        refine Go.sub [0, 2, 3] rfl ?_
        refine ih (p + 1) _ _ (by omega) (by omega) rfl ?_ HT' hF
        simp only [mCalls]
        rw [hn.mp c22]
        exact H'
      · skip
        obtain ⟨b, eb⟩ : ∃ b, T.2.2.1 p = some b := by
          cases e : T.2.2.1 p with
          | none => exact absurd (hn.mpr e) c22
          | some b => exact ⟨b, rfl⟩
        rw [eb, show hab (some b) = nI b from rfl]
        refine go_aload_n 2 (nx := 26) dX2_spring_25 rfl rfl rfl ?_
        refine go_iload_n 1 (nx := 27) dX2_spring_26 rfl rfl rfl ?_
        refine go_iload_n 0 (nx := 28) dX2_spring_27 rfl rfl rfl ?_
        refine go_Vi (nx := 31) [_, _] kc_X2_73 ⟨_, _, rfl⟩ (by omega) hN (s_learn hq H' rfl (by omega) rfl (by have := hw.2.2.1 p b eb; omega)) dX2_spring_28 rfl rfl (Nat.le_of_ble_eq_true rfl) (Nat.le_of_ble_eq_true rfl) ⟨Nat.le_refl _, Nat.le_refl _⟩ rfl (fun rh2 h2 hqh2 => ?_)
        obtain ⟨-, H, hFh2⟩ := hqh2
        have H' := H
        obtain ⟨kn, ct, si, cr, ⟨hN, hkn, hct, hsi, hcr⟩, hK, hC, hS, hR⟩ := H
        have HT' := HT'.fr hFh2 (by omega)
        have hT := (hFh2 (t) (by omega)).trans hT
        have htk := (hFh2 (t + 1) (by omega)).trans htk
        have htc := (hFh2 (t + 2) (by omega)).trans htc
        have hF := hF.tr hFh2
        refine go_pop (nx := 32) dX2_spring_31 rfl rfl ?_
        refine go_aload_n 2 (nx := 33) dX2_spring_32 rfl rfl rfl ?_
        refine go_iload_n 0 (nx := 34) dX2_spring_33 rfl rfl rfl ?_
        refine go_iload_n 1 (nx := 35) dX2_spring_34 rfl rfl rfl ?_
        refine go_Vi (nx := 38) [_, _] kc_X2_73 ⟨_, _, rfl⟩ (by omega) hN (s_learn hq H' rfl (by have := hw.2.2.1 p b eb; omega) rfl (by omega)) dX2_spring_35 rfl rfl (Nat.le_of_ble_eq_true rfl) (Nat.le_of_ble_eq_true rfl) ⟨Nat.le_refl _, Nat.le_refl _⟩ rfl (fun rh3 h3 hqh3 => ?_)
        obtain ⟨-, H, hFh3⟩ := hqh3
        have H' := H
        obtain ⟨kn, ct, si, cr, ⟨hN, hkn, hct, hsi, hcr⟩, hK, hC, hS, hR⟩ := H
        have HT' := HT'.fr hFh3 (by omega)
        have hT := (hFh3 (t) (by omega)).trans hT
        have htk := (hFh3 (t + 1) (by omega)).trans htk
        have htc := (hFh3 (t + 2) (by omega)).trans htc
        have hF := hF.tr hFh3
        refine go_pop (nx := 39) dX2_spring_38 rfl rfl ?_
        refine go_iinc 1 (v := nI (p + 1)) (lv' := [_, _, _, _]) (nx := 42) dX2_spring_39 rfl (nI_inc p) (by decide) rfl rfl ?_
        refine go_goto 2 dX2_spring_42 rfl ?_
        refine Go.sub [0, 2, 3] rfl ?_
        refine ih (p + 1) _ _ (by omega) (by omega) rfl ?_ HT' hF
        simp only [mCalls]
        rw [eb]
        exact H'
theorem s_spring {G : kG} {n q t : Nat} {h : kH} {ν : mN} {T : mT} (hq : q + 5 ≤ n) (ht : t + 3 ≤ n) (hd0 : t + 3 ≤ q ∨ q + 5 ≤ t) (hw : wT T) (hv : wN T.1 ν) (hP0 : 0 < T.1) (H : oNow G q ν h) (HT : oTown G t T h) : Spi G mX2_spring 4 [.ref (kb G + q), .ref (kb G + t)] n h (fun v h' => v = nI (mWho T ν) ∧ oNow G q (mSpring T ν) h' ∧ kFr q (q + 5) h h') := by
  refine Spi.of (by decide) (Nat.le_of_ble_eq_true rfl) ?_
  refine go_iconst (v := nI 0) (nx := 1) dX2_spring_0 (by decide) rfl ?_
  refine go_istore_n (lv' := [_, _, _]) (nx := 2) dX2_spring_1 rfl (by decide) rfl rfl ?_
  exact l_spring hq ht hd0 hw hv hP0 (T.1 + 1) 0 h _ (by omega) (by omega) rfl H HT kFr.rf
