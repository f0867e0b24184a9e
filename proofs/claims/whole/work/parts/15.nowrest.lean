/-! the rest of LeastKnown$Now -/
theorem cntB_ct (f : Nat → Bool) : cntB f = fb_ct f 8 := by
  simp only [cntB, fb_ct, Bool.toNat, Nat.zero_add]
  simp only [Bool.cond_eq_ite]
theorem l_acq {G : kG} {n q a : Nat} {h : kH} {ν : mN} (hq : q + 5 ≤ n) (H : oNow G q ν h) (ha : a < 8) : ∀ (d b : Nat), 8 - b < d → b ≤ 8 → Go G mX2_acquaintances (2, 0, 0) 4 [(3, .int (nI b)), (2, .int (nI (fb_ct (ν.1 a) b))), (0, .ref (kb G + q)), (1, .int (nI a))] [] (n, 0, 0) h (kQi mX2_acquaintances n (fun v h' => v = nI (acq ν.1 a) ∧ h' = h)) := by
  intro d
  have H' := H
  obtain ⟨kn, ct, si, cr, ⟨hN, hkn, hct, hsi, hcr⟩, hK, hC, hS, hR⟩ := H
  induction d with
  | zero => intro b hd; omega
  | succ d ih =>
    intro b hd hb
    refine go_iload_n 0 (nx := 5) dX2_acquaintances_4 rfl rfl rfl ?_
    refine go_bipush (v := nI 8) (nx := 7) dX2_acquaintances_5 (by decide) rfl ?_
    refine go_icmp_ge 28 (nx := 10) dX2_acquaintances_7 rfl rfl (fun c7 => ?_) (fun c7 => ?_)
    · skip
      refine go_iload_n 1 (nx := 29) dX2_acquaintances_28 rfl rfl rfl ?_
      refine go_reti dX2_acquaintances_29 ⟨_, rfl, rfl⟩ ?_
      have e8 : b = 8 := by have := kle c7; omega
      subst e8
      exact ⟨by rw [acq, cntB_ct], rfl⟩
    · skip
      refine go_aload_n 2 (nx := 11) dX2_acquaintances_10 rfl rfl rfl ?_
      refine go_iload_n 3 (nx := 12) dX2_acquaintances_11 rfl rfl rfl ?_
      refine go_iload_n 0 (nx := 13) dX2_acquaintances_12 rfl rfl rfl ?_
      refine go_Vi (nx := 16) [_, _] kc_X2_63 ⟨_, _, rfl⟩ (by omega) hN (s_isAware hq H' rfl ha rfl (knle c7)) dX2_acquaintances_13 rfl rfl (Nat.le_of_ble_eq_true rfl) (Nat.le_of_ble_eq_true rfl) ⟨Nat.le_refl _, Nat.le_refl _⟩ rfl (fun rh1 h1 hqh1 => ?_)
      obtain ⟨rfl, rfl⟩ := hqh1
      refine go_if_eq 22 (nx := 19) dX2_acquaintances_16 rfl rfl (fun c16 => ?_) (fun c16 => ?_)
      · skip
        refine go_iinc 0 (v := nI (b + 1)) (lv' := [_, _, _, _]) (nx := 25) dX2_acquaintances_22 rfl (nI_inc b) (by decide) rfl rfl ?_
        refine go_goto 4 dX2_acquaintances_25 rfl ?_
        refine Go.sub [0, 1, 2, 3] rfl ?_
        have h8 := knle c7
        have k := ih (b + 1) (by omega) (by omega)
        rw [show fb_ct (ν.1 a) (b + 1) = fb_ct (ν.1 a) b from by
          show _ + (if ν.1 a b = true then 1 else 0) = _
          rw [tb0 c16]; rfl] at k
        exact k
      · skip
        refine go_iinc 1 (v := nI (fb_ct (ν.1 a) b + 1)) (lv' := [_, _, _, _]) (nx := 22) dX2_acquaintances_19 rfl (nI_inc _) (by decide) rfl rfl ?_
        refine go_iinc 1 (v := nI (b + 1)) (lv' := [_, _, _, _]) (nx := 25) dX2_acquaintances_22 rfl (nI_inc b) (by decide) rfl rfl ?_
        refine go_goto 4 dX2_acquaintances_25 rfl ?_
        refine Go.sub [0, 1, 2, 3] rfl ?_
        have h8 := knle c7
        have k := ih (b + 1) (by omega) (by omega)
        rw [show fb_ct (ν.1 a) (b + 1) = fb_ct (ν.1 a) b + 1 from by
          show _ + (if ν.1 a b = true then 1 else 0) = _
          rw [tbn0 c16]; rfl] at k
        exact k
theorem s_acq {G : kG} {n q a : Nat} {h : kH} {ν : mN} {x : Int32} (hq : q + 5 ≤ n) (H : oNow G q ν h) (hx : x = nI a) (ha : a < 8) : Spi G mX2_acquaintances 2 [.ref (kb G + q), .int x] n h (fun v h' => v = nI (acq ν.1 a) ∧ h' = h) := by
  subst hx
  refine Spi.of (by decide) (Nat.le_of_ble_eq_true rfl) ?_
  refine go_iconst (v := nI 0) (nx := 1) dX2_acquaintances_0 (by decide) rfl ?_
  refine go_istore_n (lv' := [_, _, _]) (nx := 2) dX2_acquaintances_1 rfl (by decide) rfl rfl ?_
  refine go_iconst (v := nI 0) (nx := 3) dX2_acquaintances_2 (by decide) rfl ?_
  refine go_istore_n (lv' := [_, _, _, _]) (nx := 4) dX2_acquaintances_3 rfl (by decide) rfl rfl ?_
  refine Go.sub [0, 1, 2, 3] rfl ?_
  exact l_acq hq H ha 9 0 (by omega) (by omega)
def sm (f : Nat → Nat) : Nat → Nat
  | 0 => 0
  | n + 1 => sm f n + f n
theorem l_all {G : kG} {n q : Nat} {h : kH} {ν : mN} (hq : q + 5 ≤ n) (H : oNow G q ν h) : ∀ (d b : Nat), 8 - b < d → b ≤ 8 → Go G mX2_allCounts (1, 0, 0) 4 [(2, .int (nI b)), (1, .int (nI (sm (cnt ν.1) b))), (0, .ref (kb G + q))] [] (n, 0, 0) h (kQi mX2_allCounts n (fun v h' => v = nI (sm (cnt ν.1) 8) ∧ h' = h)) := by
  intro d
  obtain ⟨kn, ct, si, cr, ⟨hN, hkn, hct, hsi, hcr⟩, hK, hC, hS, hR⟩ := H
  induction d with
  | zero => intro b hd; omega
  | succ d ih =>
    intro b hd hb
    refine go_iload_n 0 (nx := 5) dX2_allCounts_4 rfl rfl rfl ?_
    refine go_bipush (v := nI 8) (nx := 7) dX2_allCounts_5 (by decide) rfl ?_
    refine go_icmp_ge 27 (nx := 10) dX2_allCounts_7 rfl rfl (fun c7 => ?_) (fun c7 => ?_)
    · skip
      refine go_iload_n 1 (nx := 28) dX2_allCounts_27 rfl rfl rfl ?_
      refine go_reti dX2_allCounts_28 ⟨_, rfl, rfl⟩ ?_
      have e8 : b = 8 := by have := kle c7; omega
      subst e8
      exact ⟨rfl, rfl⟩
    · skip
      refine go_iload_n 1 (nx := 11) dX2_allCounts_10 rfl rfl rfl ?_
      refine go_aload_n 2 (nx := 12) dX2_allCounts_11 rfl rfl rfl ?_
      refine go_gf (nx := 15) fg_X2_15 dX2_allCounts_12 (by omega) hN rfl rfl ?_
      refine go_iload_n 0 (nx := 16) dX2_allCounts_15 rfl rfl rfl ?_
      refine go_SNi (nx := 19) [_, _] kc_X2_27 (s_at_in (by omega) hct (by omega) rfl (knle c7)) dX2_allCounts_16 rfl rfl (Nat.le_of_ble_eq_true rfl) (Nat.le_of_ble_eq_true rfl) ⟨Nat.le_refl _, Nat.le_refl _⟩ rfl (fun rh1 h1 hqh1 => ?_)
      obtain ⟨rfl, rfl⟩ := hqh1
      rw [hC b (knle c7)]
      refine go_iadd (nx := 20) dX2_allCounts_19 rfl ?_
      rw [nI_add]
      refine go_istore_n (lv' := [_, _, _]) (nx := 21) dX2_allCounts_20 rfl (by decide) rfl rfl ?_
      refine go_iinc 1 (v := nI (b + 1)) (lv' := [_, _, _]) (nx := 24) dX2_allCounts_21 rfl (nI_inc b) (by decide) rfl rfl ?_
      refine go_goto 4 dX2_allCounts_24 rfl ?_
      refine Go.sub [0, 1, 2] rfl ?_
      have h8 := knle c7
      exact ih (b + 1) (by omega) (by omega)
theorem s_allCounts {G : kG} {n q : Nat} {h : kH} {ν : mN} (hq : q + 5 ≤ n) (H : oNow G q ν h) : Spi G mX2_allCounts 1 [.ref (kb G + q)] n h (fun v h' => v = nI (sm (cnt ν.1) 8) ∧ h' = h) := by
  refine Spi.of (by decide) (Nat.le_of_ble_eq_true rfl) ?_
  refine go_iconst (v := nI 0) (nx := 1) dX2_allCounts_0 (by decide) rfl ?_
  refine go_istore_n (lv' := [_, _]) (nx := 2) dX2_allCounts_1 rfl (by decide) rfl rfl ?_
  refine go_iconst (v := nI 0) (nx := 3) dX2_allCounts_2 (by decide) rfl ?_
  refine go_istore_n (lv' := [_, _, _]) (nx := 4) dX2_allCounts_3 rfl (by decide) rfl rfl ?_
  refine Go.sub [0, 1, 2] rfl ?_
  exact l_all hq H 9 0 (by omega) (by omega)
theorem l_crown {G : kG} {n q P who : Nat} {h0 : kH} {ν : mN} (hq : q + 5 ≤ n) (hP : P ≤ 8) (hw : who < 8) : ∀ (d p : Nat) (h : kH), P - p < d → p ≤ P → oNow G q (mHonour who p ν) h → kFr q (q + 5) h0 h → Go G mX2_crown (3, 0, 0) 2 [(3, .int (nI p)), (0, .ref (kb G + q)), (1, .int (nI who)), (2, .int (nI P))] [] (n, 0, 0) h (kQv mX2_crown n (fun h' => oNow G q (mCrown P who ν) h' ∧ kFr q (q + 5) h0 h')) := by
  intro d
  induction d with
  | zero => intro p h hd; omega
  | succ d ih =>
    intro p h hd hp H hF
    have H' := H
    obtain ⟨kn, ct, si, cr, ⟨hN, hkn, hct, hsi, hcr⟩, hK, hC, hS, hR⟩ := H
    refine go_iload_n 0 (nx := 3) dX2_crown_2 rfl rfl rfl ?_
    refine go_iload_n 3 (nx := 4) dX2_crown_3 rfl rfl rfl ?_
    refine go_icmp_ge 25 (nx := 7) dX2_crown_4 rfl rfl (fun c4 => ?_) (fun c4 => ?_)
    · skip
      refine go_aload_n 1 (nx := 26) dX2_crown_25 rfl rfl rfl ?_
      refine go_gf (nx := 29) fg_X2_21 dX2_crown_26 (by omega) hN rfl rfl ?_
      refine go_iload_n 2 (nx := 30) dX2_crown_29 rfl rfl rfl ?_
      refine go_aload_n 1 (nx := 31) dX2_crown_30 rfl rfl rfl ?_
      refine go_gf (nx := 34) fg_X2_21 dX2_crown_31 (by omega) hN rfl rfl ?_
      refine go_iload_n 2 (nx := 35) dX2_crown_34 rfl rfl rfl ?_
      refine go_SNi (nx := 38) [_, _] kc_X2_27 (s_at_in (by omega) hcr (by omega) rfl hw) dX2_crown_35 rfl rfl (Nat.le_of_ble_eq_true rfl) (Nat.le_of_ble_eq_true rfl) ⟨Nat.le_refl _, Nat.le_refl _⟩ rfl (fun rh1 h1 hqh1 => ?_)
      obtain ⟨rfl, rfl⟩ := hqh1
      rw [hR who hw]
      refine go_iconst (v := nI 1) (nx := 39) dX2_crown_38 (by decide) rfl ?_
      refine go_iadd (nx := 40) dX2_crown_39 rfl ?_
      rw [nI_add]
      refine go_SNv (nx := 43) [_, _, _] kc_X2_53 (s_put (by omega) hcr (by omega) rfl hw) dX2_crown_40 rfl rfl (Nat.le_of_ble_eq_true rfl) (Nat.le_of_ble_eq_true rfl) ⟨Nat.le_refl _, Nat.le_refl _⟩ rfl (fun h2 hqh2 => ?_)
      obtain ⟨eh2, fh2⟩ := hqh2
      have hN := (fh2 (q) (by omega)).trans hN
      have hkn := (fh2 (q + 1) (by omega)).trans hkn
      have hct := (fh2 (q + 2) (by omega)).trans hct
      have hsi := (fh2 (q + 3) (by omega)).trans hsi
      have hcr := eh2
      have hF := hF.tr (fun j hj => fh2 j (by omega))
      refine go_aload_n 1 (nx := 44) dX2_crown_43 rfl rfl rfl ?_
      refine go_dup (nx := 45) dX2_crown_44 rfl rfl ?_
      refine go_gf (nx := 48) fg_X2_39 dX2_crown_45 (by omega) hN rfl rfl ?_
      refine go_iconst (v := nI 1) (nx := 49) dX2_crown_48 (by decide) rfl ?_
      refine go_iload_n 2 (nx := 50) dX2_crown_49 rfl rfl rfl ?_
      refine go_ishl (nx := 51) dX2_crown_50 rfl ?_
      refine go_ior (nx := 52) dX2_crown_51 rfl ?_
      refine go_pf (fs' := [_, _, _, _, _, _, _]) (nx := 55) (fp_X2_39 _) dX2_crown_52 (by omega) hN (Nat.le_of_ble_eq_true rfl) ⟨rfl, rfl⟩ rfl rfl (fun h3 eh3 fh3 => ?_)
      have hkn := (fh3 (q + 1) (by omega)).trans hkn
      have hct := (fh3 (q + 2) (by omega)).trans hct
      have hsi := (fh3 (q + 3) (by omega)).trans hsi
      have hcr := (fh3 (q + 4) (by omega)).trans hcr
      have hN := eh3
      have hF := hF.tr (fun j hj => fh3 j (by omega))
      refine go_aload_n 1 (nx := 56) dX2_crown_55 rfl rfl rfl ?_
      refine go_iload_n 2 (nx := 57) dX2_crown_56 rfl rfl rfl ?_
      refine go_pf (fs' := [_, _, _, _, _, _, _]) (nx := 60) (fp_X2_46 _) dX2_crown_57 (by omega) hN (Nat.le_of_ble_eq_true rfl) ⟨rfl, rfl⟩ rfl rfl (fun h4 eh4 fh4 => ?_)
      have hkn := (fh4 (q + 1) (by omega)).trans hkn
      have hct := (fh4 (q + 2) (by omega)).trans hct
      have hsi := (fh4 (q + 3) (by omega)).trans hsi
      have hcr := (fh4 (q + 4) (by omega)).trans hcr
      have hN := eh4
      have hF := hF.tr (fun j hj => fh4 j (by omega))
      refine go_retv dX2_crown_60 rfl ?_
      have e8 : p = P := by have := kle c4; omega
      subst e8
      refine ⟨⟨kn, ct, si, _, ⟨?_, hkn, hct, hsi, hcr⟩, hK, hC, hS, fun p' hp' => ?_⟩, hF⟩
      · rw [hN, i_set _ (bits_lt _) who hw, bits_set _ hw]
        refine congrArg (fun z => Sum.inr (2, [_, _, _, _, Value.int (nI z), _, _])) (bits_ext fun i _ => ?_)
        show _ = !((if i = who then _ + 1 else _) == 0)
        by_cases e : i = who
        · simp [e]
        · simp [e]
      · show _ = nI (if p' = who then _ + 1 else _)
        by_cases e : p' = who
        · subst e; rw [pk_us, if_pos rfl]
        · rw [pk_un e, if_neg e]; exact hR p' hp'
    · skip
      refine go_iload_n 0 (nx := 8) dX2_crown_7 rfl rfl rfl ?_
      refine go_iload_n 2 (nx := 9) dX2_crown_8 rfl rfl rfl ?_
      refine go_icmp_eq 19 (nx := 12) dX2_crown_9 rfl rfl (fun c9 => ?_) (fun c9 => ?_)
      · skip
        refine go_iinc 0 (v := nI (p + 1)) (lv' := [_, _, _, _]) (nx := 22) dX2_crown_19 rfl (nI_inc p) (by decide) rfl rfl ?_
        refine go_goto 2 dX2_crown_22 rfl ?_
        refine Go.sub [0, 1, 2, 3] rfl ?_
        have h8 := knle c4
        refine ih (p + 1) _ (by omega) (by omega) ?_ hF
        simp only [mHonour]
        rw [if_pos (keq c9)]
        exact H'
      · skip
        refine go_aload_n 1 (nx := 13) dX2_crown_12 rfl rfl rfl ?_
        refine go_iload_n 0 (nx := 14) dX2_crown_13 rfl rfl rfl ?_
        refine go_iload_n 2 (nx := 15) dX2_crown_14 rfl rfl rfl ?_
        refine go_Vi (nx := 18) [_, _] kc_X2_73 ⟨_, _, rfl⟩ (by omega) hN (s_learn hq H' rfl (by have := knle c4; omega) rfl hw) dX2_crown_15 rfl rfl (Nat.le_of_ble_eq_true rfl) (Nat.le_of_ble_eq_true rfl) ⟨Nat.le_refl _, Nat.le_refl _⟩ rfl (fun rh1 h1 hqh1 => ?_)
        obtain ⟨-, H, hFh1⟩ := hqh1
        have H' := H
        obtain ⟨kn, ct, si, cr, ⟨hN, hkn, hct, hsi, hcr⟩, hK, hC, hS, hR⟩ := H
        have hF := hF.tr hFh1
        refine go_pop (nx := 19) dX2_crown_18 rfl rfl ?_
        refine go_iinc 0 (v := nI (p + 1)) (lv' := [_, _, _, _]) (nx := 22) dX2_crown_19 rfl (nI_inc p) (by decide) rfl rfl ?_
        refine go_goto 2 dX2_crown_22 rfl ?_
        refine Go.sub [0, 1, 2, 3] rfl ?_
        have h8 := knle c4
        refine ih (p + 1) _ (by omega) (by omega) ?_ hF
        simp only [mHonour]
        rw [if_neg (fun e => c9 (by rw [e]))]
        exact H'
theorem s_crown {G : kG} {n q P who : Nat} {h : kH} {ν : mN} {x y : Int32} (hq : q + 5 ≤ n) (H : oNow G q ν h) (hx : x = nI who) (hw : who < 8) (hy : y = nI P) (hP : P ≤ 8) : Spv G mX2_crown 3 [.ref (kb G + q), .int x, .int y] n h (fun h' => oNow G q (mCrown P who ν) h' ∧ kFr q (q + 5) h h') := by
  subst hx hy
  refine Spv.of (by decide) (Nat.le_of_ble_eq_true rfl) ?_
  refine go_iconst (v := nI 0) (nx := 1) dX2_crown_0 (by decide) rfl ?_
  refine go_istore_n (lv' := [_, _, _, _]) (nx := 2) dX2_crown_1 rfl (by decide) rfl rfl ?_
  refine Go.sub [0, 1, 2, 3] rfl ?_
  exact l_crown hq hP hw (P + 1) 0 h (by omega) (by omega) H kFr.rf
def kClr (K : mK) (a b : Nat) : mK := fun x y => K x y && !(x == a && y == b)
theorem col_clr {K : mK} {a b : Nat} (ha : a < 8) : col (kClr K a b) b = col K b &&& (255 - 2 ^ a) := by
  rw [col, col, bits_clr _ ha]
  exact bits_ext fun i _ => by simp [kClr]
theorem colc_ne {K : mK} {a b c : Nat} (h : c ≠ b) : col (kClr K a b) c = col K c := bits_ext fun i _ => by simp [kClr, h]
theorem clr_lt {w a : Nat} (hw : w < 256) (ha : a < 8) : w &&& (255 - 2 ^ a) < 256 := by rw [clr_key _ hw _ ha]; exact bits_lt _
theorem oNow_clr {G : kG} {q a b : Nat} {h : kH} {ν : mN} {kn ct si cr : Nat → Int32} (ha : a < 8) (hb : b < 8) (H : rNow G q (upd kn b (nI (col ν.1 b &&& (255 - 2 ^ a)))) (upd ct b (nI (popc (col ν.1 b &&& (255 - 2 ^ a))))) si cr (nI (bitsOf fun p => !(ν.2.2.1 p == 0))) (nI ν.2.2.2.1) ν.2.2.2.2 h) (hK : ∀ b, b < 8 → kn b = nI (col ν.1 b)) (hC : ∀ b, b < 8 → ct b = nI (cnt ν.1 b)) (hS : ∀ j, j < 64 → si j = ν.2.1 j) (hR : ∀ p, p < 8 → cr p = nI (ν.2.2.1 p)) : oNow G q (kClr ν.1 a b, ν.2) h := by
  refine ⟨_, _, _, _, H, fun c hc => ?_, fun c hc => ?_, hS, hR⟩
  · by_cases e : c = b
    · subst e; rw [pk_us]; exact congrArg nI (col_clr ha).symm
    · rw [pk_un e, hK c hc]; exact congrArg nI (colc_ne e).symm
  · by_cases e : c = b
    · subst e; rw [pk_us]; exact congrArg nI (by rw [cnt_popc, col_clr ha])
    · rw [pk_un e, hC c hc]; exact congrArg nI (by rw [cnt_popc, cnt_popc, colc_ne e])

theorem fg_step {K K0 : mK} {c : Nat → Nat → Bool} {a b : Nat} (hK : ∀ x y, K x y = (K0 x y && !((decide (y < b) || (decide (y = b) && decide (x < a))) && c x y))) (h : K a b = true → c a b = false) : ∀ x y, K x y = (K0 x y && !((decide (y < b) || (decide (y = b) && decide (x < a + 1))) && c x y)) := by
  intro x y
  by_cases hx : x = a
  · by_cases hy : y = b
    · subst hx hy
      cases e : c x y
      · rw [hK x y, e]; simp
      · have e2 : K x y = false := by
          cases e3 : K x y
          · rfl
          · rw [h e3] at e; cases e
        rw [e2]
        rw [hK x y] at e2
        simp at e2
        simp [e2]
    · rw [hK x y]; simp [hy]
  · rw [hK x y, show decide (x < a + 1) = decide (x < a) by simp; omega]
theorem fg_stepC {K K0 : mK} {c : Nat → Nat → Bool} {a b : Nat} (hK : ∀ x y, K x y = (K0 x y && !((decide (y < b) || (decide (y = b) && decide (x < a))) && c x y))) (h : c a b = true) : ∀ x y, kClr K a b x y = (K0 x y && !((decide (y < b) || (decide (y = b) && decide (x < a + 1))) && c x y)) := by
  intro x y
  unfold kClr
  by_cases hx : x = a
  · by_cases hy : y = b
    · subst hx hy
      simp [h]
    · rw [hK x y]; simp [hy]
  · rw [hK x y, show decide (x < a + 1) = decide (x < a) by simp; omega]
    simp [hx]
/-- what a forgets of b -/
def fgC (fo : Nat) (ν : mN) (a b : Nat) : Bool := decide (nI fo ≤ nI ν.2.2.2.1 - ν.2.1 (8 * a + b))
theorem l_fgIn {G : kG} {n q t b : Nat} {h0 : kH} {ν : mN} {T : mT} (hq : q + 5 ≤ n) (ht : t + 3 ≤ n) (hd0 : t + 3 ≤ q ∨ q + 5 ≤ t) (hw : wT T) (hb : b < T.1) {Q : Option Value → kZ → kH → Prop}
    (kk : ∀ (K : mK) (h : kH) (lv : List (Nat × Value)), lv = [(2, .int (nI b)), (0, .ref (kb G + q)), (1, .ref (kb G + t))] → oNow G q (K, ν.2) h → oTown G t T h → kFr q (q + 5) h0 h → (∀ x y, K x y = (ν.1 x y && !((decide (y < b) || (decide (y = b) && decide (x < T.1))) && fgC T.2.2.2.1 ν x y))) → Go G mX2_forget (2, 0, 0) 72 lv [] (n, 0, 0) h Q) :
    ∀ (d a : Nat) (K : mK) (h : kH), T.1 - a < d → a ≤ T.1 → oNow G q (K, ν.2) h → oTown G t T h → kFr q (q + 5) h0 h → (∀ x y, K x y = (ν.1 x y && !((decide (y < b) || (decide (y = b) && decide (x < a))) && fgC T.2.2.2.1 ν x y))) → Go G mX2_forget (2, 0, 0) 12 [(3, .int (nI a)), (2, .int (nI b)), (0, .ref (kb G + q)), (1, .ref (kb G + t))] [] (n, 0, 0) h Q := by
  intro d
  have hP := hw.1
  have hfo := hw.2.2.2.1
  induction d with
  | zero => intro a K h hd; omega
  | succ d ih =>
    intro a K h hd ha H HT hF hKK
    have H' := H
    have HT' := HT
    obtain ⟨kn, ct, si, cr, ⟨hN, hkn, hct, hsi, hcr⟩, hK, hC, hS, hR⟩ := H
    obtain ⟨tk, tc, ⟨hT, htk, htc⟩, hTk, hTc⟩ := HT
    refine go_iload_n 0 (nx := 13) dX2_forget_12 rfl rfl rfl ?_
    refine go_aload_n 3 (nx := 14) dX2_forget_13 rfl rfl rfl ?_
    refine go_gf (nx := 17) fg_X2_67 dX2_forget_14 (by omega) hT rfl rfl ?_
    refine go_icmp_ge 72 (nx := 20) dX2_forget_17 rfl rfl (fun c17 => ?_) (fun c17 => ?_)
    · skip
      have e8 : a = T.1 := by have := kle c17; omega
      subst e8
      exact Go.sub [1, 2, 3] rfl (kk K _ _ rfl H' HT' hF hKK)
    · skip
      have h8 := knle c17
      refine go_aload_n 2 (nx := 21) dX2_forget_20 rfl rfl rfl ?_
      refine go_iload_n 0 (nx := 22) dX2_forget_21 rfl rfl rfl ?_
      refine go_iload_n 1 (nx := 23) dX2_forget_22 rfl rfl rfl ?_
      refine go_Vi (nx := 26) [_, _] kc_X2_63 ⟨_, _, rfl⟩ (by omega) hN (s_isAware hq H' rfl (by have := knle c17; omega) rfl (by omega)) dX2_forget_23 rfl rfl (Nat.le_of_ble_eq_true rfl) (Nat.le_of_ble_eq_true rfl) ⟨Nat.le_refl _, Nat.le_refl _⟩ rfl (fun rh1 h1 hqh1 => ?_)
      obtain ⟨rfl, rfl⟩ := hqh1
      refine go_if_eq 66 (nx := 29) dX2_forget_26 rfl rfl (fun c26 => ?_) (fun c26 => ?_)
      · skip
        refine go_iinc 0 (v := nI (a + 1)) (lv' := [_, _, _, _]) (nx := 69) dX2_forget_66 rfl (nI_inc a) (by decide) rfl rfl ?_
        refine go_goto 12 dX2_forget_69 rfl ?_
        refine Go.sub [0, 1, 2, 3] rfl ?_
        refine ih (a + 1) K _ (by omega) (by omega) H' HT' hF (fg_step hKK fun e => ?_)
        have e2 : K a b = false := tb0 c26
        rw [e2] at e
        cases e
      · skip
        refine go_aload_n 2 (nx := 30) dX2_forget_29 rfl rfl rfl ?_
        refine go_gf (nx := 33) fg_X2_43 dX2_forget_30 (by omega) hN rfl rfl ?_
        refine go_aload_n 2 (nx := 34) dX2_forget_33 rfl rfl rfl ?_
        refine go_iload_n 0 (nx := 35) dX2_forget_34 rfl rfl rfl ?_
        refine go_iload_n 1 (nx := 36) dX2_forget_35 rfl rfl rfl ?_
        refine go_Vi (nx := 39) [_, _] kc_X2_91 ⟨_, _, rfl⟩ (by omega) hN (s_sight hq H' rfl (by have := knle c17; omega) rfl (by omega)) dX2_forget_36 rfl rfl (Nat.le_of_ble_eq_true rfl) (Nat.le_of_ble_eq_true rfl) ⟨Nat.le_refl _, Nat.le_refl _⟩ rfl (fun rh2 h2 hqh2 => ?_)
        obtain ⟨rfl, rfl⟩ := hqh2
        refine go_isub (nx := 40) dX2_forget_39 rfl ?_
        refine go_aload_n 3 (nx := 41) dX2_forget_40 rfl rfl rfl ?_
        refine go_gf (nx := 44) fg_X2_84 dX2_forget_41 (by omega) hT rfl rfl ?_
        refine go_icmp_lt 66 (nx := 47) dX2_forget_44 rfl rfl (fun c44 => ?_) (fun c44 => ?_)
        · skip
          refine go_iinc 0 (v := nI (a + 1)) (lv' := [_, _, _, _]) (nx := 69) dX2_forget_66 rfl (nI_inc a) (by decide) rfl rfl ?_
          refine go_goto 12 dX2_forget_69 rfl ?_
          refine Go.sub [0, 1, 2, 3] rfl ?_
          refine ih (a + 1) K _ (by omega) (by omega) H' HT' hF (fg_step hKK fun _ => ?_)
          exact decide_eq_false fun e => Int32.not_le.mpr c44 e
        · skip
          refine go_aload_n 2 (nx := 48) dX2_forget_47 rfl rfl rfl ?_
          refine go_iload_n 1 (nx := 49) dX2_forget_48 rfl rfl rfl ?_
          refine go_aload_n 2 (nx := 50) dX2_forget_49 rfl rfl rfl ?_
          refine go_gf (nx := 53) fg_X2_9 dX2_forget_50 (by omega) hN rfl rfl ?_
          refine go_iload_n 1 (nx := 54) dX2_forget_53 rfl rfl rfl ?_
          refine go_SNi (nx := 57) [_, _] kc_X2_27 (s_at_in (by omega) hkn (by omega) rfl (by omega)) dX2_forget_54 rfl rfl (Nat.le_of_ble_eq_true rfl) (Nat.le_of_ble_eq_true rfl) ⟨Nat.le_refl _, Nat.le_refl _⟩ rfl (fun rh3 h3 hqh3 => ?_)
          obtain ⟨rfl, rfl⟩ := hqh3
          refine go_iconst (v := nI 1) (nx := 58) dX2_forget_57 (by decide) rfl ?_
          refine go_iload_n 0 (nx := 59) dX2_forget_58 rfl rfl rfl ?_
          refine go_ishl (nx := 60) dX2_forget_59 rfl ?_
          refine go_iconst (v := (-1)) (nx := 61) dX2_forget_60 (by decide) rfl ?_
          refine go_ixor (nx := 62) dX2_forget_61 rfl ?_
          refine go_iand (nx := 63) dX2_forget_62 rfl ?_
          refine go_Vv (nx := 66) [_, _] kc_X2_31 ⟨_, _, rfl⟩ (by omega) hN (s_setKnowers (w := col K b &&& (255 - 2 ^ a)) hq ⟨hN, hkn, hct, hsi, hcr⟩ rfl (by omega) (by rw [hK b (by omega), i_clr _ (col_lt _ _) a (by have := knle c17; omega)]) (clr_lt (col_lt _ _) (by have := knle c17; omega))) dX2_forget_63 rfl rfl (Nat.le_of_ble_eq_true rfl) (Nat.le_of_ble_eq_true rfl) ⟨Nat.le_refl _, Nat.le_refl _⟩ rfl (fun h4 hqh4 => ?_)
          obtain ⟨hR1, hFh4⟩ := hqh4
          have H2 := oNow_clr (ν := (K, ν.2)) (by omega) (by omega) hR1 hK hC hS hR
          have hF := hF.tr hFh4
          have HT' := HT'.fr hFh4 (by omega)
          refine go_iinc 0 (v := nI (a + 1)) (lv' := [_, _, _, _]) (nx := 69) dX2_forget_66 rfl (nI_inc a) (by decide) rfl rfl ?_
          refine go_goto 12 dX2_forget_69 rfl ?_
          refine Go.sub [0, 1, 2, 3] rfl ?_
          refine ih (a + 1) (kClr K a b) _ (by omega) (by omega) H2 HT' hF (fg_stepC hKK ?_)
          exact decide_eq_true (Int32.not_lt.mp c44)
theorem l_fgOut {G : kG} {n q t : Nat} {h0 : kH} {ν : mN} {T : mT} (hq : q + 5 ≤ n) (ht : t + 3 ≤ n) (hd0 : t + 3 ≤ q ∨ q + 5 ≤ t) (hw : wT T) (hv : wK T.1 ν.1) : ∀ (d b : Nat) (K : mK) (h : kH) (lv : List (Nat × Value)), T.1 - b < d → b ≤ T.1 → lv = [(2, .int (nI b)), (0, .ref (kb G + q)), (1, .ref (kb G + t))] → oNow G q (K, ν.2) h → oTown G t T h → kFr q (q + 5) h0 h → (∀ x y, K x y = (ν.1 x y && !((decide (y < b) || (decide (y = b) && decide (x < 0))) && fgC T.2.2.2.1 ν x y))) → Go G mX2_forget (2, 0, 0) 2 lv [] (n, 0, 0) h (kQv mX2_forget n (fun h' => oNow G q (mForget T.2.2.2.1 ν) h' ∧ kFr q (q + 5) h0 h')) := by
  intro d
  have hP := hw.1
  induction d with
  | zero => intro b K h lv hd; omega
  | succ d ih =>
    intro b K h lv hd hb hlv H HT hF hKK
    subst hlv
    have H' := H
    have HT' := HT
    obtain ⟨kn, ct, si, cr, ⟨hN, hkn, hct, hsi, hcr⟩, hK, hC, hS, hR⟩ := H
    obtain ⟨tk, tc, ⟨hT, htk, htc⟩, hTk, hTc⟩ := HT
    refine go_iload_n 0 (nx := 3) dX2_forget_2 rfl rfl rfl ?_
    refine go_aload_n 2 (nx := 4) dX2_forget_3 rfl rfl rfl ?_
    refine go_gf (nx := 7) fg_X2_67 dX2_forget_4 (by omega) hT rfl rfl ?_
    refine go_icmp_ge 78 (nx := 10) dX2_forget_7 rfl rfl (fun c7 => ?_) (fun c7 => ?_)
    · skip
      refine go_retv dX2_forget_78 rfl ?_
      have e8 : b = T.1 := by have := kle c7; omega
      subst e8
      refine ⟨?_, hF⟩
      rw [show mForget T.2.2.2.1 ν = (K, ν.2) from ?_]
      · exact H'
      · unfold mForget
        refine congrArg (·, ν.2) (funext fun x => funext fun y => ?_)
        rw [hKK x y]
        cases e : ν.1 x y
        · rfl
        · simp [(hv x y e).2.1, fgC]
    · skip
      refine go_iconst (v := nI 0) (nx := 11) dX2_forget_10 (by decide) rfl ?_
      refine go_istore_n (lv' := [_, _, _, _]) (nx := 12) dX2_forget_11 rfl (by decide) rfl rfl ?_
      refine Go.sub [0, 1, 2, 3] rfl ?_
      have h8 := knle c7
      refine l_fgIn (h0 := h0) (ν := ν) hq ht hd0 hw h8 (fun K2 h2 lv2 e2 H2 HT2 hF2 hKK2 => ?_) (T.1 + 1) 0 K _ (by omega) (by omega) H' HT' hF hKK
      subst e2
      refine go_iinc 0 (v := nI (b + 1)) (lv' := [_, _, _]) (nx := 75) dX2_forget_72 rfl (nI_inc b) (by decide) rfl rfl ?_
      refine go_goto 2 dX2_forget_75 rfl ?_
      refine ih (b + 1) K2 h2 _ (by omega) (by omega) rfl H2 HT2 hF2 (fun x y => ?_)
      rw [hKK2 x y]
      cases e : ν.1 x y
      · rfl
      · have hx := (hv x y e).1
        simp only [hx, show decide (x < 0) = false by simp, decide_true, Bool.and_true, Bool.and_false, Bool.or_false, Bool.true_and]
        rw [show (decide (y < b) || decide (y = b)) = decide (y < b + 1) by rw [Bool.eq_iff_iff]; simp; omega]
theorem s_forget {G : kG} {n q t : Nat} {h : kH} {ν : mN} {T : mT} (hq : q + 5 ≤ n) (ht : t + 3 ≤ n) (hd0 : t + 3 ≤ q ∨ q + 5 ≤ t) (H : oNow G q ν h) (HT : oTown G t T h) (hw : wT T) (hv : wK T.1 ν.1) : Spv G mX2_forget 2 [.ref (kb G + q), .ref (kb G + t)] n h (fun h' => oNow G q (mForget T.2.2.2.1 ν) h' ∧ kFr q (q + 5) h h') := by
  refine Spv.of (by decide) (Nat.le_of_ble_eq_true rfl) ?_
  refine go_iconst (v := nI 0) (nx := 1) dX2_forget_0 (by decide) rfl ?_
  refine go_istore_n (lv' := [_, _, _]) (nx := 2) dX2_forget_1 rfl (by decide) rfl rfl ?_
  refine l_fgOut hq ht hd0 hw hv (T.1 + 1) 0 ν.1 h _ (by omega) (by omega) rfl H HT kFr.rf (fun x y => ?_)
  simp
