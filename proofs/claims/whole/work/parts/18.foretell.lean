/-! LeastKnown$Foretelling: what comes by itself -/
theorem go_mmin {G : kG} {M : kM} {κ : kZ} {n cs sl pc nx idx : Nat} {lv : List (Nat × Value)} {st : List Value} {h : kH} {Q : Option Value → kZ → kH → Prop} {x y : Int32} (ce : kCS M.1.cls idx mJ9_min_7cf53 2) (hd : decode M.2.1 pc = .ok (.invokestatic idx, 3)) (hcat : (st.map fun v => v.category).sum ≤ 8) (hc : cs ≤ κ.2.1 ∧ sl ≤ κ.2.2) (hn : pc + 3 = nx) (kk : Go G M κ nx lv (.int (if y < x then y else x) :: st) (n, cs, sl) h Q) : Go G M κ pc lv (.int y :: .int x :: st) (n, cs, sl) h Q := by
  intro p l e R s m args below meth c H locs ls Qm hG hC hW hl hr
  subst hn
  obtain ⟨hx, hb, hml, hown, hname, hWm, hfr, hlo, hrc, hrs⟩ := id hC
  obtain ⟨⟨hco, hin, -, -⟩, hli, hst⟩ := ce
  exact va_mmin hx hb (hml.trans hl.1.symm) hown (kword hG hWm hli args) (kword hG hWm hst args) (kword hG hWm hin args) (kword hG hWm hco args) (by omega) (by omega) (Nat.le_trans hc.1 hrc) (Nat.le_trans hc.2 hrs) hd (kk p l e R s m args below meth c H locs ls Qm hG hC hW hl hr)
def rFore (G : kG) (f : Nat) (rw : Nat → Int32) (fa : Int32) (ru : Nat → Int32) (h : kH) : Prop := h f = .inr (0, [.ref (kb G + (f + 1)), .int fa, .ref (kb G + (f + 2)), .ref (kb G + (f + 7))]) ∧ h (f + 1) = .inl (G.2.1, 3, .inl rw) ∧ h (f + 7) = .inl (G.2.1, 20, .inl ru)
theorem rFore.fr {G : kG} {f lo hi : Nat} {rw ru : Nat → Int32} {fa : Int32} {h h' : kH} (H : rFore G f rw fa ru h) (hF : kFr lo hi h h') (hd : f + 8 ≤ lo ∨ hi ≤ f ∨ (f + 2 ≤ lo ∧ hi ≤ f + 7)) : rFore G f rw fa ru h' :=
  ⟨(hF f (by omega)).trans H.1, (hF (f + 1) (by omega)).trans H.2.1, (hF (f + 7) (by omega)).trans H.2.2⟩
def aNow (G : kG) (q : Nat) (h : kH) : Prop := ∃ (kn ct si cr : Nat → Int32) (rg yr la : Int32), rNow G q kn ct si cr rg yr la h
theorem aNow.of {G : kG} {q : Nat} {ν : mN} {h : kH} (H : oNow G q ν h) : aNow G q h := by
  obtain ⟨kn, ct, si, cr, H, -⟩ := H
  exact ⟨kn, ct, si, cr, _, _, _, H⟩
theorem aNow.fr {G : kG} {q lo hi : Nat} {h h' : kH} (H : aNow G q h) (hF : kFr lo hi h h') (hd : q + 5 ≤ lo ∨ hi ≤ q) : aNow G q h' := by
  obtain ⟨kn, ct, si, cr, rg, yr, la, H⟩ := H
  exact ⟨kn, ct, si, cr, rg, yr, la, H.fr hF hd⟩
def mSp (T : mT) : Nat → mN → mN
  | 0, ν => ν
  | k + 1, ν => mSpring T (mSp T k ν)
theorem wN_sp {T : mT} {ν : mN} (hw : wT T) (h : wN T.1 ν) (hP : 0 < T.1) : ∀ k, wN T.1 (mSp T k ν)
  | 0 => h
  | k + 1 => wN_spring hw (wN_sp hw h hP k) hP
theorem l_ahead {G : kG} {n f t q m : Nat} {h0 : kH} {ν : mN} {T : mT} {rw ru : Nat → Int32} {fa : Int32} (hf8 : f + 8 ≤ n) (ht : t + 3 ≤ n) (hd0 : t + 3 ≤ f ∨ f + 8 ≤ t) (hw : wT T) (hv : wN T.1 ν) (hP0 : 0 < T.1) (hm : m ≤ 40) : ∀ (d i : Nat) (h : kH), m - i < d → i ≤ m → oNow G (f + 2) (mSp T i ν) h → oTown G t T h → rFore G f rw fa ru h → kFr (f + 2) (f + 7) h0 h → Go G mX0_rulerAhead (5, 0, 0) 11 [(4, .int (nI i)), (0, .ref (kb G + f)), (1, .ref (kb G + t)), (2, .ref (kb G + q)), (3, .int (nI m))] [] (n, 0, 0) h (kQi mX0_rulerAhead n (fun v h' => v = nI (mWho T (mSp T m ν)) ∧ (∃ μ, oNow G (f + 2) μ h') ∧ kFr (f + 2) (f + 7) h0 h')) := by
  intro d
  induction d with
  | zero => intro i h hd; omega
  | succ d ih =>
    intro i h hd hi H HT HF hF
    have H' := H
    have HT' := HT
    obtain ⟨kn, ct, si, cr, ⟨hN, hkn, hct, hsi, hcr⟩, hK, hC, hS, hR⟩ := H
    obtain ⟨hf, hrw, hru⟩ := id HF
    have H := H'
    refine go_iload 0 (nx := 13) dX0_rulerAhead_11 rfl rfl ?_
    refine go_iload_n 4 (nx := 14) dX0_rulerAhead_13 rfl rfl rfl ?_
    refine go_icmp_ge 32 (nx := 17) dX0_rulerAhead_14 rfl rfl (fun c14 => ?_) (fun c14 => ?_)
    · skip
      refine go_aload_n 1 (nx := 33) dX0_rulerAhead_32 rfl rfl rfl ?_
      refine go_gf (nx := 36) fg_X0_18 dX0_rulerAhead_33 (by omega) hf rfl rfl ?_
      refine go_aload_n 2 (nx := 37) dX0_rulerAhead_36 rfl rfl rfl ?_
      refine go_Vi (nx := 40) [_] kc_X0_29 ⟨_, _, rfl⟩ (by omega) hN (s_spring (by omega) ht (by omega) hw (wN_sp hw hv hP0 i) hP0 H HT') dX0_rulerAhead_37 rfl rfl (Nat.le_of_ble_eq_true rfl) (Nat.le_of_ble_eq_true rfl) ⟨Nat.le_refl _, Nat.le_refl _⟩ rfl (fun rh1 h1 hqh1 => ?_)
      obtain ⟨rfl, H, hFh1⟩ := hqh1
      have H' := H
      obtain ⟨kn, ct, si, cr, ⟨hN, hkn, hct, hsi, hcr⟩, hK, hC, hS, hR⟩ := H'
      have HT' := HT'.fr hFh1 (by omega)
      have HF := HF.fr hFh1 (by omega)
      obtain ⟨hf, hrw, hru⟩ := id HF
      have hF := hF.tr hFh1
      refine go_reti dX0_rulerAhead_40 ⟨_, rfl, rfl⟩ ?_
      have e8 : i = m := by have := kle c14; omega
      subst e8
      exact ⟨rfl, ⟨_, H⟩, hF⟩
    · skip
      refine go_aload_n 1 (nx := 18) dX0_rulerAhead_17 rfl rfl rfl ?_
      refine go_gf (nx := 21) fg_X0_18 dX0_rulerAhead_18 (by omega) hf rfl rfl ?_
      refine go_aload_n 2 (nx := 22) dX0_rulerAhead_21 rfl rfl rfl ?_
      refine go_Vi (nx := 25) [_] kc_X0_29 ⟨_, _, rfl⟩ (by omega) hN (s_spring (by omega) ht (by omega) hw (wN_sp hw hv hP0 i) hP0 H HT') dX0_rulerAhead_22 rfl rfl (Nat.le_of_ble_eq_true rfl) (Nat.le_of_ble_eq_true rfl) ⟨Nat.le_refl _, Nat.le_refl _⟩ rfl (fun rh1 h1 hqh1 => ?_)
      obtain ⟨rfl, H, hFh1⟩ := hqh1
      have H' := H
      obtain ⟨kn, ct, si, cr, ⟨hN, hkn, hct, hsi, hcr⟩, hK, hC, hS, hR⟩ := H'
      have HT' := HT'.fr hFh1 (by omega)
      have HF := HF.fr hFh1 (by omega)
      obtain ⟨hf, hrw, hru⟩ := id HF
      have hF := hF.tr hFh1
      refine go_pop (nx := 26) dX0_rulerAhead_25 rfl rfl ?_
      refine go_iinc 0 (v := nI (i + 1)) (lv' := [_, _, _, _, _]) (nx := 29) dX0_rulerAhead_26 rfl (nI_inc i) (by decide) rfl rfl ?_
      refine go_goto 11 dX0_rulerAhead_29 rfl ?_
      refine Go.sub [0, 1, 2, 3, 4] rfl ?_
      have h8 := knle c14
      exact ih (i + 1) _ (by omega) (by omega) H HT' HF hF
theorem s_ahead {G : kG} {n f t q m : Nat} {h : kH} {ν : mN} {T : mT} {rw ru : Nat → Int32} {fa x : Int32} (hf8 : f + 8 ≤ n) (ht : t + 3 ≤ n) (hd0 : t + 3 ≤ f ∨ f + 8 ≤ t) (hw : wT T) (hv : wN T.1 ν) (hP0 : 0 < T.1) (hq2 : q + 5 ≤ n) (hdq : q + 5 ≤ f ∨ f + 8 ≤ q) (hx : x = nI m) (hm : m ≤ 40) (HF : rFore G f rw fa ru h) (HA : aNow G (f + 2) h) (Hq : oNow G q ν h) (HT : oTown G t T h) : Spi G mX0_rulerAhead 5 [.ref (kb G + f), .ref (kb G + t), .ref (kb G + q), .int x] n h (fun v h' => v = nI (mWho T (mSp T m ν)) ∧ (∃ μ, oNow G (f + 2) μ h') ∧ kFr (f + 2) (f + 7) h h') := by
  subst hx
  have HT' := HT
  obtain ⟨kn, ct, si, cr, rg, yr, la, HA⟩ := HA
  obtain ⟨hN, hkn, hct, hsi, hcr⟩ := id HA
  obtain ⟨hf, hrw, hru⟩ := id HF
  have hF : kFr (f + 2) (f + 7) h h := kFr.rf
  refine Spi.of (by decide) (Nat.le_of_ble_eq_true rfl) ?_
  refine go_aload_n 0 (nx := 1) dX0_rulerAhead_0 rfl rfl rfl ?_
  refine go_gf (nx := 4) fg_X0_18 dX0_rulerAhead_1 (by omega) hf rfl rfl ?_
  refine go_aload_n 2 (nx := 5) dX0_rulerAhead_4 rfl rfl rfl ?_
  refine go_Vv (nx := 8) [_] kc_X0_25 ⟨_, _, rfl⟩ (by omega) hN (s_copyFrom (by omega) hq2 (by omega) HA Hq) dX0_rulerAhead_5 rfl rfl (Nat.le_of_ble_eq_true rfl) (Nat.le_of_ble_eq_true rfl) ⟨Nat.le_refl _, Nat.le_refl _⟩ rfl (fun h1 hqh1 => ?_)
  obtain ⟨H, hFh1⟩ := hqh1
  have H' := H
  obtain ⟨kn, ct, si, cr, ⟨hN, hkn, hct, hsi, hcr⟩, hK, hC, hS, hR⟩ := H'
  have HT' := HT'.fr hFh1 (by omega)
  have HF := HF.fr hFh1 (by omega)
  obtain ⟨hf, hrw, hru⟩ := id HF
  have hF := hF.tr hFh1
  refine go_iconst (v := nI 0) (nx := 9) dX0_rulerAhead_8 (by decide) rfl ?_
  refine go_istore (lv' := [_, _, _, _, _]) (nx := 11) dX0_rulerAhead_9 (by decide) rfl rfl ?_
  refine Go.sub [0, 1, 2, 3, 4] rfl ?_
  exact l_ahead hf8 ht hd0 hw hv hP0 hm (m + 1) 0 _ (by omega) (by omega) H HT' HF hF
def allN (s : Nat → Bool) : Nat → Bool
  | 0 => true
  | m + 1 => allN s m && s m
theorem allN_iff {s : Nat → Bool} : ∀ {m : Nat}, allN s m = true ↔ ∀ i, i < m → s i = true
  | 0 => ⟨fun _ i hi => absurd hi (Nat.not_lt_zero i), fun _ => rfl⟩
  | m + 1 => by
    have ih := allN_iff (s := s) (m := m)
    simp only [allN, Bool.and_eq_true, ih]
    constructor
    · rintro ⟨h1, h2⟩ i hi
      by_cases e : i = m
      · rw [e]; exact h2
      · exact h1 i (by omega)
    · exact fun h => ⟨fun i hi => h i (by omega), h m (by omega)⟩
def rgB (W : Nat → Nat) (p : Nat) : Bool := allN (fun i => decide (i < p) || (W (20 + i) == W (20 + (i - p)))) 20
theorem rgB_iff {W : Nat → Nat} {p : Nat} : rgB W p = true ↔ ∀ i, i < 20 → p ≤ i → W (20 + i) = W (20 + (i - p)) := by
  unfold rgB
  rw [allN_iff]
  constructor
  · intro h i hi hp
    have h2 := h i hi
    simp at h2
    omega
  · intro h i hi
    simp
    rcases Nat.lt_or_ge i p with e | e
    · exact Or.inl e
    · exact Or.inr (h i hi e)
def rgF (W : Nat → Nat) : Int32 := match ff (fun p => decide (1 ≤ p) && rgB W p) 11 with
  | some p => nI p
  | none => -9
theorem l_isRing {G : kG} {n f p : Nat} {h : kH} {rw ru : Nat → Int32} {fa : Int32} {W : Nat → Nat} (hf8 : f + 8 ≤ n) (HF : rFore G f rw fa ru h) (hru0 : ∀ i, i < 20 → ru i = nI (W (20 + i)) ∧ W (20 + i) < 8) (hp : p ≤ 10) : ∀ (d i : Nat), 20 - i < d → i ≤ 20 → p ≤ i → (∀ j, j < i → p ≤ j → W (20 + j) = W (20 + (j - p))) → Go G mX0_isRing (1, 0, 0) 2 [(2, .int (nI i)), (0, .ref (kb G + f)), (1, .int (nI p))] [] (n, 0, 0) h (kQi mX0_isRing n (fun v h' => v = bI (rgB W p) ∧ h' = h)) := by
  intro d
  obtain ⟨hf, hrw, hru⟩ := HF
  induction d with
  | zero => intro i hd; omega
  | succ d ih =>
    intro i hd hi hpi hj
    refine go_iload_n 0 (nx := 3) dX0_isRing_2 rfl rfl rfl ?_
    refine go_bipush (v := nI 20) (nx := 5) dX0_isRing_3 (by decide) rfl ?_
    refine go_icmp_ge 37 (nx := 8) dX0_isRing_5 rfl rfl (fun c5 => ?_) (fun c5 => ?_)
    · skip
      refine go_iconst (v := nI 1) (nx := 38) dX0_isRing_37 (by decide) rfl ?_
      refine go_reti dX0_isRing_38 ⟨_, rfl, rfl⟩ ?_
      have e8 : i = 20 := by have := kle c5; omega
      subst e8
      exact ⟨by rw [rgB_iff.mpr hj]; rfl, rfl⟩
    · skip
      have h8 := knle c5
      refine go_aload_n 1 (nx := 9) dX0_isRing_8 rfl rfl rfl ?_
      refine go_gf (nx := 12) fg_X0_22 dX0_isRing_9 (by omega) hf rfl rfl ?_
      refine go_iload_n 0 (nx := 13) dX0_isRing_12 rfl rfl rfl ?_
      refine go_SNi (nx := 16) [_, _] kc_X0_41 (s_at_in (by omega) hru (by omega) rfl h8) dX0_isRing_13 rfl rfl (Nat.le_of_ble_eq_true rfl) (Nat.le_of_ble_eq_true rfl) ⟨Nat.le_refl _, Nat.le_refl _⟩ rfl (fun rh1 h1 hqh1 => ?_)
      obtain ⟨rfl, rfl⟩ := hqh1
      refine go_aload_n 1 (nx := 17) dX0_isRing_16 rfl rfl rfl ?_
      refine go_gf (nx := 20) fg_X0_22 dX0_isRing_17 (by omega) hf rfl rfl ?_
      refine go_iload_n 0 (nx := 21) dX0_isRing_20 rfl rfl rfl ?_
      refine go_iload_n 2 (nx := 22) dX0_isRing_21 rfl rfl rfl ?_
      refine go_isub (nx := 23) dX0_isRing_22 rfl ?_
      refine go_SNi (nx := 26) [_, _] kc_X0_41 (s_at_in (j := i - p) (by omega) hru (by omega) (pk_sub hpi) (by omega)) dX0_isRing_23 rfl rfl (Nat.le_of_ble_eq_true rfl) (Nat.le_of_ble_eq_true rfl) ⟨Nat.le_refl _, Nat.le_refl _⟩ rfl (fun rh2 h2 hqh2 => ?_)
      obtain ⟨rfl, rfl⟩ := hqh2
      rw [(hru0 i h8).1, (hru0 (i - p) (by omega)).1]
      have w1 := (hru0 i h8).2
      have w2 := (hru0 (i - p) (by omega)).2
      refine go_icmp_eq 31 (nx := 29) dX0_isRing_26 rfl rfl (fun c26 => ?_) (fun c26 => ?_)
      · skip
        refine go_iinc 0 (v := nI (i + 1)) (lv' := [_, _, _]) (nx := 34) dX0_isRing_31 rfl (nI_inc i) (by decide) rfl rfl ?_
        refine go_goto 2 dX0_isRing_34 rfl ?_
        refine Go.sub [0, 1, 2] rfl ?_
        refine ih (i + 1) (by omega) (by omega) (by omega) (fun j hj2 hpj => ?_)
        by_cases e : j = i
        · subst e; exact keq c26
        · exact hj j (by omega) hpj
      · skip
        refine go_iconst (v := nI 0) (nx := 30) dX0_isRing_29 (by decide) rfl ?_
        refine go_reti dX0_isRing_30 ⟨_, rfl, rfl⟩ ?_
        refine ⟨?_, rfl⟩
        rw [show rgB W p = false from Bool.eq_false_iff.mpr fun z => c26 (by rw [rgB_iff.mp z i h8 hpi])]
        rfl
theorem s_isRing {G : kG} {n f p : Nat} {h : kH} {rw ru : Nat → Int32} {fa x : Int32} {W : Nat → Nat} (hf8 : f + 8 ≤ n) (HF : rFore G f rw fa ru h) (hru0 : ∀ i, i < 20 → ru i = nI (W (20 + i)) ∧ W (20 + i) < 8) (hx : x = nI p) (hp : p ≤ 10) : Spi G mX0_isRing 1 [.ref (kb G + f), .int x] n h (fun v h' => v = bI (rgB W p) ∧ h' = h) := by
  subst hx
  refine Spi.of (by decide) (Nat.le_of_ble_eq_true rfl) ?_
  refine go_iload_n 1 (nx := 1) dX0_isRing_0 rfl rfl rfl ?_
  refine go_istore_n (lv' := [_, _, _]) (nx := 2) dX0_isRing_1 rfl (by decide) rfl rfl ?_
  refine Go.sub [0, 1, 2] rfl ?_
  exact l_isRing hf8 HF hru0 hp 21 p (by omega) (by omega) (by omega) (fun j h1 h2 => absurd h1 (by omega))
