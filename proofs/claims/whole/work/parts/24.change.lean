/-! LeastKnown: what changes NOW and the town -/
def fMeet (T : mT) (ν : mN) (x y : Int32) : Int32 := if pairB T x y = true then bI (!ν.1 (cl x) (cl y)) + bI (!ν.1 (cl y) (cl x)) else -1
def nMeet (T : mT) (ν : mN) (x y : Int32) : mN := if pairB T x y = true then mLearn (mLearn ν (cl x) (cl y)) (cl y) (cl x) else ν
def triB (T : mT) (x y z : Int32) : Bool := pairB T x y && pairB T x z && pairB T y z
def fIntro (T : mT) (ν : mN) (x y z : Int32) : Int32 := if triB T x y z = true then (if ν.1 (cl x) (cl z) = true then bI (!ν.1 (cl y) (cl z)) else -2) else -1
def nIntro (T : mT) (ν : mN) (x y z : Int32) : mN := if (triB T x y z && ν.1 (cl x) (cl z)) = true then mLearn ν (cl y) (cl z) else ν
def mMove (ν : mN) (p : Nat) : mN := (fun x y => ν.1 x y && !(y == p), ν.2)
def fMoves (T : mT) (ν : mN) (x : Int32) : Int32 := if perB T x = true then nI (cnt ν.1 (cl x)) else -1
def nMoves (T : mT) (ν : mN) (x : Int32) : mN := if perB T x = true then mMove ν (cl x) else ν
def nAnew (T : mT) : mN := (T.2.1, fun _ => -1, fun _ => 0, 0, -9)
def rulB (x y : Int32) : Bool := decide (0 ≤ x) && decide (x ≤ nI 3) && (decide (0 ≤ y) && decide (y ≤ (if x = nI 2 then nI 7 else nI 0)))
def fRules (T : mT) (x y : Int32) : Int32 := if rulB x y = true then nI T.2.2.2.2.1 else -1
def tRules (T : mT) (x y : Int32) : mT := if rulB x y = true then (T.1, T.2.1, T.2.2.1, T.2.2.2.1, cl x, if x = nI 2 then cl y else T.2.2.2.2.2) else T
theorem oNow_move {G : kG} {q p : Nat} {h : kH} {ν : mN} {kn ct si cr : Nat → Int32} (H : rNow G q (upd kn p (nI 0)) (upd ct p (nI (popc 0))) si cr (nI (bitsOf fun p => !(ν.2.2.1 p == 0))) (nI ν.2.2.2.1) ν.2.2.2.2 h) (hK : ∀ b, b < 8 → kn b = nI (col ν.1 b)) (hC : ∀ b, b < 8 → ct b = nI (cnt ν.1 b)) (hS : ∀ j, j < 64 → si j = ν.2.1 j) (hR : ∀ p, p < 8 → cr p = nI (ν.2.2.1 p)) : oNow G q (mMove ν p) h := by
  have e0 : col (mMove ν p).1 p = 0 := bits_zero.mpr fun i _ => by simp [mMove]
  have e1 : ∀ c, c ≠ p → col (mMove ν p).1 c = col ν.1 c := fun c hc => bits_ext fun i _ => by simp [mMove, hc]
  refine ⟨_, _, _, _, H, fun c hc => ?_, fun c hc => ?_, hS, hR⟩
  · by_cases e : c = p
    · subst e; rw [pk_us, e0]
    · rw [pk_un e, hK c hc, e1 c e]
  · by_cases e : c = p
    · subst e; rw [pk_us, cnt_popc, e0]
    · rw [pk_un e, hC c hc, cnt_popc, cnt_popc, e1 c e]
theorem x_meet {G : kG} {n t sz : Nat} {h : kH} {tx : Nat → Nat} {ν : mN} {i0 i1 : Option mN} {T : mT} {tr : Int64} {x y : Int32} (hn : 37 ≤ n) (H : oX G t (tx, sz, ν, i0, i1, T, tr) h) (W : wS (tx, sz, ν, i0, i1, T, tr)) : Spi G mX6_meet 3 [.ref (kb G + 0), .int x, .int y] n h (fun v h' => v = fMeet T ν x y ∧ oX G t (tx, sz, nMeet T ν x y, i0, i1, T, tr) h' ∧ kFr 0 37 h h') := by
  obtain ⟨ht, hX, hTx, hRd, hNow, hI0, hI1, hFt, hTo, hDr⟩ := id H
  have hX : h 0 = .inr (6, [.ref (kb G + 1), .ref (kb G + 3), .ref (kb G + 6), .ref (kb G + 11), .ref (kb G + 17), .ref (kb G + 23), .ref (kb G + t), .ref (kb G + (65 - t)), .long tr]) := hX
  have hTx : oText G tx sz h := hTx
  have hNow : oNow G 6 ν h := hNow
  have hI0 : oImg G 11 i0 h := hI0
  have hI1 : oImg G 17 i1 h := hI1
  have hTo : oTown G t T h := hTo
  obtain ⟨hwT, hwN, hY, hw0, hw1, hsz, htx⟩ := id W
  have hwT : wT T := hwT
  have hwN : wN T.1 ν := hwN
  have hY : ν.2.2.2.1 ≤ 99 := hY
  have hsz : sz ≤ 400 := hsz
  have hP8 := hwT.1
  obtain ⟨kn, ct, si, cr, ⟨hN, hkn, hct, hsi, hcr⟩, hK, hC, hS, hR⟩ := id hNow
  obtain ⟨tk, tc, ⟨hT, htk, htc⟩, hTk, hTc⟩ := id hTo
  have hZ : kFr 0 37 h h := kFr.rf
  refine Spi.of (by decide) (Nat.le_of_ble_eq_true rfl) ?_
  refine go_aload_n 0 (nx := 1) dX6_meet_0 rfl rfl rfl ?_
  refine go_iload_n 1 (nx := 2) dX6_meet_1 rfl rfl rfl ?_
  refine go_iload_n 2 (nx := 3) dX6_meet_2 rfl rfl rfl ?_
  refine go_Vi (nx := 6) [_, _] kc_X6_77 ⟨_, _, rfl⟩ (by omega) hX (s_isPair hn H W) dX6_meet_3 rfl rfl (Nat.le_of_ble_eq_true rfl) (Nat.le_of_ble_eq_true rfl) ⟨Nat.le_refl _, Nat.le_refl _⟩ rfl (fun rh1 h1 hqh1 => ?_)
  obtain ⟨rfl, rfl⟩ := hqh1
  refine go_if_ne 11 (nx := 9) dX6_meet_6 rfl rfl (fun c6 => ?_) (fun c6 => ?_)
  · skip
    obtain ⟨a, b, ha, hb, hab, rfl, rfl⟩ := pair_of hP8 (tbn0 c6)
    have ha8 : a < 8 := by omega
    have hb8 : b < 8 := by omega
    refine go_aload_n 0 (nx := 12) dX6_meet_11 rfl rfl rfl ?_
    refine go_gf (nx := 15) fg_X6_26 dX6_meet_12 (by omega) hX rfl rfl ?_
    refine go_iload_n 1 (nx := 16) dX6_meet_15 rfl rfl rfl ?_
    refine go_iload_n 2 (nx := 17) dX6_meet_16 rfl rfl rfl ?_
    refine go_Vi (nx := 20) [_, _] kc_X6_127 ⟨_, _, rfl⟩ (by omega) hN (s_learn (by omega) hNow rfl ha8 rfl hb8) dX6_meet_17 rfl rfl (Nat.le_of_ble_eq_true rfl) (Nat.le_of_ble_eq_true rfl) ⟨Nat.le_refl _, Nat.le_refl _⟩ rfl (fun rh2 h2 hqh2 => ?_)
    obtain ⟨rfl, hNow, hFh2⟩ := hqh2
    obtain ⟨kn, ct, si, cr, ⟨hN, hkn, hct, hsi, hcr⟩, hK, hC, hS, hR⟩ := id hNow
    have H := H.setNow hNow hFh2
    have hX := (hFh2 0 (by omega)).trans hX
    have hT := (hFh2 (t) (by omega)).trans hT
    have htk := (hFh2 (t + 1) (by omega)).trans htk
    have htc := (hFh2 (t + 2) (by omega)).trans htc
    have hTo := hTo.fr hFh2 (by omega)
    have hZ := hZ.tr (hFh2.wide (by omega) (by omega))
    refine go_aload_n 0 (nx := 21) dX6_meet_20 rfl rfl rfl ?_
    refine go_gf (nx := 24) fg_X6_26 dX6_meet_21 (by omega) hX rfl rfl ?_
    refine go_iload_n 2 (nx := 25) dX6_meet_24 rfl rfl rfl ?_
    refine go_iload_n 1 (nx := 26) dX6_meet_25 rfl rfl rfl ?_
    refine go_Vi (nx := 29) [_, _] kc_X6_127 ⟨_, _, rfl⟩ (by omega) hN (s_learn (by omega) hNow rfl hb8 rfl ha8) dX6_meet_26 rfl rfl (Nat.le_of_ble_eq_true rfl) (Nat.le_of_ble_eq_true rfl) ⟨Nat.le_refl _, Nat.le_refl _⟩ rfl (fun rh3 h3 hqh3 => ?_)
    obtain ⟨rfl, hNow, hFh3⟩ := hqh3
    obtain ⟨kn, ct, si, cr, ⟨hN, hkn, hct, hsi, hcr⟩, hK, hC, hS, hR⟩ := id hNow
    have H := H.setNow hNow hFh3
    have hX := (hFh3 0 (by omega)).trans hX
    have hT := (hFh3 (t) (by omega)).trans hT
    have htk := (hFh3 (t + 1) (by omega)).trans htk
    have htc := (hFh3 (t + 2) (by omega)).trans htc
    have hTo := hTo.fr hFh3 (by omega)
    have hZ := hZ.tr (hFh3.wide (by omega) (by omega))
    refine go_iadd (nx := 30) dX6_meet_29 rfl ?_
    refine go_reti dX6_meet_30 ⟨_, rfl, rfl⟩ ?_
    rw [fMeet, nMeet, if_pos (tbn0 c6), if_pos (tbn0 c6), cl_nI (by omega), cl_nI (by omega)]
    refine ⟨?_, H, hZ⟩
    rw [show (mLearn ν a b).1 b a = ν.1 b a from by show (ν.1 b a || (b == a && a == b)) = _; simp [hab]]
  · skip
    refine go_iconst (v := (-1)) (nx := 10) dX6_meet_9 (by decide) rfl ?_
    refine go_reti dX6_meet_10 ⟨_, rfl, rfl⟩ ?_
    rw [fMeet, nMeet, if_neg (by rw [tb0 c6]; decide), if_neg (by rw [tb0 c6]; decide)]
    exact ⟨rfl, H, hZ⟩
theorem x_introduce {G : kG} {n t sz : Nat} {h : kH} {tx : Nat → Nat} {ν : mN} {i0 i1 : Option mN} {T : mT} {tr : Int64} {x y z : Int32} (hn : 37 ≤ n) (H : oX G t (tx, sz, ν, i0, i1, T, tr) h) (W : wS (tx, sz, ν, i0, i1, T, tr)) : Spi G mX6_introduce 3 [.ref (kb G + 0), .int x, .int y, .int z] n h (fun v h' => v = fIntro T ν x y z ∧ oX G t (tx, sz, nIntro T ν x y z, i0, i1, T, tr) h' ∧ kFr 0 37 h h') := by
  obtain ⟨ht, hX, hTx, hRd, hNow, hI0, hI1, hFt, hTo, hDr⟩ := id H
  have hX : h 0 = .inr (6, [.ref (kb G + 1), .ref (kb G + 3), .ref (kb G + 6), .ref (kb G + 11), .ref (kb G + 17), .ref (kb G + 23), .ref (kb G + t), .ref (kb G + (65 - t)), .long tr]) := hX
  have hTx : oText G tx sz h := hTx
  have hNow : oNow G 6 ν h := hNow
  have hI0 : oImg G 11 i0 h := hI0
  have hI1 : oImg G 17 i1 h := hI1
  have hTo : oTown G t T h := hTo
  obtain ⟨hwT, hwN, hY, hw0, hw1, hsz, htx⟩ := id W
  have hwT : wT T := hwT
  have hwN : wN T.1 ν := hwN
  have hY : ν.2.2.2.1 ≤ 99 := hY
  have hsz : sz ≤ 400 := hsz
  have hP8 := hwT.1
  obtain ⟨kn, ct, si, cr, ⟨hN, hkn, hct, hsi, hcr⟩, hK, hC, hS, hR⟩ := id hNow
  obtain ⟨tk, tc, ⟨hT, htk, htc⟩, hTk, hTc⟩ := id hTo
  have hZ : kFr 0 37 h h := kFr.rf
  refine Spi.of (by decide) (Nat.le_of_ble_eq_true rfl) ?_
  refine go_aload_n 0 (nx := 1) dX6_introduce_0 rfl rfl rfl ?_
  refine go_iload_n 1 (nx := 2) dX6_introduce_1 rfl rfl rfl ?_
  refine go_iload_n 2 (nx := 3) dX6_introduce_2 rfl rfl rfl ?_
  refine go_Vi (nx := 6) [_, _] kc_X6_77 ⟨_, _, rfl⟩ (by omega) hX (s_isPair hn H W) dX6_introduce_3 rfl rfl (Nat.le_of_ble_eq_true rfl) (Nat.le_of_ble_eq_true rfl) ⟨Nat.le_refl _, Nat.le_refl _⟩ rfl (fun rh1 h1 hqh1 => ?_)
  obtain ⟨rfl, rfl⟩ := hqh1
  refine go_if_eq 27 (nx := 9) dX6_introduce_6 rfl rfl (fun c6 => ?_) (fun c6 => ?_)
  · skip
    refine go_iconst (v := (-1)) (nx := 28) dX6_introduce_27 (by decide) rfl ?_
    refine go_reti dX6_introduce_28 ⟨_, rfl, rfl⟩ ?_
    have e : triB T x y z = false := by simp [triB, tb0 c6]
    rw [fIntro, nIntro, if_neg (by rw [e]; decide), if_neg (by rw [e]; simp)]
    exact ⟨rfl, H, hZ⟩
  · skip
    refine go_aload_n 0 (nx := 10) dX6_introduce_9 rfl rfl rfl ?_
    refine go_iload_n 1 (nx := 11) dX6_introduce_10 rfl rfl rfl ?_
    refine go_iload_n 3 (nx := 12) dX6_introduce_11 rfl rfl rfl ?_
    refine go_Vi (nx := 15) [_, _] kc_X6_77 ⟨_, _, rfl⟩ (by omega) hX (s_isPair hn H W) dX6_introduce_12 rfl rfl (Nat.le_of_ble_eq_true rfl) (Nat.le_of_ble_eq_true rfl) ⟨Nat.le_refl _, Nat.le_refl _⟩ rfl (fun rh2 h2 hqh2 => ?_)
    obtain ⟨rfl, rfl⟩ := hqh2
    refine go_if_eq 27 (nx := 18) dX6_introduce_15 rfl rfl (fun c15 => ?_) (fun c15 => ?_)
    · skip
      refine go_iconst (v := (-1)) (nx := 28) dX6_introduce_27 (by decide) rfl ?_
      refine go_reti dX6_introduce_28 ⟨_, rfl, rfl⟩ ?_
      have e : triB T x y z = false := by simp [triB, tb0 c15]
      rw [fIntro, nIntro, if_neg (by rw [e]; decide), if_neg (by rw [e]; simp)]
      exact ⟨rfl, H, hZ⟩
    · skip
      refine go_aload_n 0 (nx := 19) dX6_introduce_18 rfl rfl rfl ?_
      refine go_iload_n 2 (nx := 20) dX6_introduce_19 rfl rfl rfl ?_
      refine go_iload_n 3 (nx := 21) dX6_introduce_20 rfl rfl rfl ?_
      refine go_Vi (nx := 24) [_, _] kc_X6_77 ⟨_, _, rfl⟩ (by omega) hX (s_isPair hn H W) dX6_introduce_21 rfl rfl (Nat.le_of_ble_eq_true rfl) (Nat.le_of_ble_eq_true rfl) ⟨Nat.le_refl _, Nat.le_refl _⟩ rfl (fun rh3 h3 hqh3 => ?_)
      obtain ⟨rfl, rfl⟩ := hqh3
      refine go_if_ne 29 (nx := 27) dX6_introduce_24 rfl rfl (fun c24 => ?_) (fun c24 => ?_)
      · skip
        obtain ⟨a, b, ha, hb, hab, rfl, rfl⟩ := pair_of hP8 (tbn0 c6)
        obtain ⟨c, hc, rfl⟩ := per_of hP8 (by have q := tbn0 c15; simp only [pairB, Bool.and_eq_true] at q; exact q.1.2)
        have ha8 : a < 8 := by omega
        have hb8 : b < 8 := by omega
        have hc8 : c < 8 := by omega
        refine go_aload_n 0 (nx := 30) dX6_introduce_29 rfl rfl rfl ?_
        refine go_gf (nx := 33) fg_X6_26 dX6_introduce_30 (by omega) hX rfl rfl ?_
        refine go_iload_n 1 (nx := 34) dX6_introduce_33 rfl rfl rfl ?_
        refine go_iload_n 3 (nx := 35) dX6_introduce_34 rfl rfl rfl ?_
        refine go_Vi (nx := 38) [_, _] kc_X6_81 ⟨_, _, rfl⟩ (by omega) hN (s_isAware (by omega) hNow rfl ha8 rfl hc8) dX6_introduce_35 rfl rfl (Nat.le_of_ble_eq_true rfl) (Nat.le_of_ble_eq_true rfl) ⟨Nat.le_refl _, Nat.le_refl _⟩ rfl (fun rh4 h4 hqh4 => ?_)
        obtain ⟨rfl, rfl⟩ := hqh4
        refine go_if_ne 44 (nx := 41) dX6_introduce_38 rfl rfl (fun c38 => ?_) (fun c38 => ?_)
        · skip
          refine go_aload_n 0 (nx := 45) dX6_introduce_44 rfl rfl rfl ?_
          refine go_gf (nx := 48) fg_X6_26 dX6_introduce_45 (by omega) hX rfl rfl ?_
          refine go_iload_n 2 (nx := 49) dX6_introduce_48 rfl rfl rfl ?_
          refine go_iload_n 3 (nx := 50) dX6_introduce_49 rfl rfl rfl ?_
          refine go_Vi (nx := 53) [_, _] kc_X6_127 ⟨_, _, rfl⟩ (by omega) hN (s_learn (by omega) hNow rfl hb8 rfl hc8) dX6_introduce_50 rfl rfl (Nat.le_of_ble_eq_true rfl) (Nat.le_of_ble_eq_true rfl) ⟨Nat.le_refl _, Nat.le_refl _⟩ rfl (fun rh5 h5 hqh5 => ?_)
          obtain ⟨rfl, hNow, hFh5⟩ := hqh5
          obtain ⟨kn, ct, si, cr, ⟨hN, hkn, hct, hsi, hcr⟩, hK, hC, hS, hR⟩ := id hNow
          have H := H.setNow hNow hFh5
          have hX := (hFh5 0 (by omega)).trans hX
          have hT := (hFh5 (t) (by omega)).trans hT
          have htk := (hFh5 (t + 1) (by omega)).trans htk
          have htc := (hFh5 (t + 2) (by omega)).trans htc
          have hTo := hTo.fr hFh5 (by omega)
          have hZ := hZ.tr (hFh5.wide (by omega) (by omega))
          refine go_reti dX6_introduce_53 ⟨_, rfl, rfl⟩ ?_
          have e : triB T (nI a) (nI b) (nI c) = true := by simp [triB, tbn0 c6, tbn0 c15, tbn0 c24]
          rw [fIntro, nIntro, if_pos e, cl_nI (by omega), cl_nI (by omega), cl_nI (by omega), if_pos (tbn0 c38), if_pos (by rw [e, tbn0 c38]; rfl)]
          exact ⟨rfl, H, hZ⟩
        · skip
          refine go_bipush (v := (-2)) (nx := 43) dX6_introduce_41 (by decide) rfl ?_
          refine go_reti dX6_introduce_43 ⟨_, rfl, rfl⟩ ?_
          have e : triB T (nI a) (nI b) (nI c) = true := by simp [triB, tbn0 c6, tbn0 c15, tbn0 c24]
          rw [fIntro, nIntro, if_pos e, cl_nI (by omega), cl_nI (by omega), if_neg (by rw [tb0 c38]; decide), if_neg (by rw [tb0 c38]; simp)]
          exact ⟨rfl, H, hZ⟩
      · skip
        refine go_iconst (v := (-1)) (nx := 28) dX6_introduce_27 (by decide) rfl ?_
        refine go_reti dX6_introduce_28 ⟨_, rfl, rfl⟩ ?_
        have e : triB T x y z = false := by simp [triB, tb0 c24]
        rw [fIntro, nIntro, if_neg (by rw [e]; decide), if_neg (by rw [e]; simp)]
        exact ⟨rfl, H, hZ⟩
theorem x_moves {G : kG} {n t sz : Nat} {h : kH} {tx : Nat → Nat} {ν : mN} {i0 i1 : Option mN} {T : mT} {tr : Int64} {x : Int32} (hn : 37 ≤ n) (H : oX G t (tx, sz, ν, i0, i1, T, tr) h) (W : wS (tx, sz, ν, i0, i1, T, tr)) : Spi G mX6_moves 2 [.ref (kb G + 0), .int x] n h (fun v h' => v = fMoves T ν x ∧ oX G t (tx, sz, nMoves T ν x, i0, i1, T, tr) h' ∧ kFr 0 37 h h') := by
  obtain ⟨ht, hX, hTx, hRd, hNow, hI0, hI1, hFt, hTo, hDr⟩ := id H
  have hX : h 0 = .inr (6, [.ref (kb G + 1), .ref (kb G + 3), .ref (kb G + 6), .ref (kb G + 11), .ref (kb G + 17), .ref (kb G + 23), .ref (kb G + t), .ref (kb G + (65 - t)), .long tr]) := hX
  have hTx : oText G tx sz h := hTx
  have hNow : oNow G 6 ν h := hNow
  have hI0 : oImg G 11 i0 h := hI0
  have hI1 : oImg G 17 i1 h := hI1
  have hTo : oTown G t T h := hTo
  obtain ⟨hwT, hwN, hY, hw0, hw1, hsz, htx⟩ := id W
  have hwT : wT T := hwT
  have hwN : wN T.1 ν := hwN
  have hY : ν.2.2.2.1 ≤ 99 := hY
  have hsz : sz ≤ 400 := hsz
  have hP8 := hwT.1
  obtain ⟨kn, ct, si, cr, ⟨hN, hkn, hct, hsi, hcr⟩, hK, hC, hS, hR⟩ := id hNow
  obtain ⟨tk, tc, ⟨hT, htk, htc⟩, hTk, hTc⟩ := id hTo
  have hZ : kFr 0 37 h h := kFr.rf
  refine Spi.of (by decide) (Nat.le_of_ble_eq_true rfl) ?_
  refine go_aload_n 0 (nx := 1) dX6_moves_0 rfl rfl rfl ?_
  refine go_iload_n 1 (nx := 2) dX6_moves_1 rfl rfl rfl ?_
  refine go_Vi (nx := 5) [_] kc_X6_89 ⟨_, _, rfl⟩ (by omega) hX (s_isPerson hn H W) dX6_moves_2 rfl rfl (Nat.le_of_ble_eq_true rfl) (Nat.le_of_ble_eq_true rfl) ⟨Nat.le_refl _, Nat.le_refl _⟩ rfl (fun rh1 h1 hqh1 => ?_)
  obtain ⟨rfl, rfl⟩ := hqh1
  refine go_if_ne 10 (nx := 8) dX6_moves_5 rfl rfl (fun c5 => ?_) (fun c5 => ?_)
  · skip
    obtain ⟨a, ha, rfl⟩ := per_of hP8 (tbn0 c5)
    have ha8 : a < 8 := by omega
    refine go_aload_n 0 (nx := 11) dX6_moves_10 rfl rfl rfl ?_
    refine go_gf (nx := 14) fg_X6_26 dX6_moves_11 (by omega) hX rfl rfl ?_
    refine go_gf (nx := 17) fg_X6_93 dX6_moves_14 (by omega) hN rfl rfl ?_
    refine go_iload_n 1 (nx := 18) dX6_moves_17 rfl rfl rfl ?_
    refine go_Si (nx := 21) [_, _] kc_X6_97 (s_at_in (by omega) hct (by omega) rfl ha8) dX6_moves_18 rfl rfl (Nat.le_of_ble_eq_true rfl) (Nat.le_of_ble_eq_true rfl) ⟨Nat.le_refl _, Nat.le_refl _⟩ rfl (fun rh2 h2 hqh2 => ?_)
    obtain ⟨rfl, rfl⟩ := hqh2
    rw [hC a ha8]
    refine go_istore_n (lv' := [_, _, _]) (nx := 22) dX6_moves_21 rfl (by decide) rfl rfl ?_
    refine go_aload_n 1 (nx := 23) dX6_moves_22 rfl rfl rfl ?_
    refine go_gf (nx := 26) fg_X6_26 dX6_moves_23 (by omega) hX rfl rfl ?_
    refine go_iload_n 2 (nx := 27) dX6_moves_26 rfl rfl rfl ?_
    refine go_iconst (v := nI 0) (nx := 28) dX6_moves_27 (by decide) rfl ?_
    refine go_Vv (nx := 31) [_, _] kc_X6_130 ⟨_, _, rfl⟩ (by omega) hN (s_setKnowers (w := 0) (by omega) ⟨hN, hkn, hct, hsi, hcr⟩ rfl ha8 rfl (by decide)) dX6_moves_28 rfl rfl (Nat.le_of_ble_eq_true rfl) (Nat.le_of_ble_eq_true rfl) ⟨Nat.le_refl _, Nat.le_refl _⟩ rfl (fun h3 hqh3 => ?_)
    obtain ⟨hR1, hFh3⟩ := hqh3
    have hNow := oNow_move hR1 hK hC hS hR
    have H := H.setNow hNow hFh3
    have hZ := hZ.tr (hFh3.wide (by omega) (by omega))
    refine go_iload_n 0 (nx := 32) dX6_moves_31 rfl rfl rfl ?_
    refine go_reti dX6_moves_32 ⟨_, rfl, rfl⟩ ?_
    rw [fMoves, nMoves, if_pos (tbn0 c5), if_pos (tbn0 c5), cl_nI (by omega)]
    exact ⟨rfl, H, hZ⟩
  · skip
    refine go_iconst (v := (-1)) (nx := 9) dX6_moves_8 (by decide) rfl ?_
    refine go_reti dX6_moves_9 ⟨_, rfl, rfl⟩ ?_
    rw [fMoves, nMoves, if_neg (by rw [tb0 c5]; decide), if_neg (by rw [tb0 c5]; decide)]
    exact ⟨rfl, H, hZ⟩
theorem x_anew {G : kG} {n t sz : Nat} {h : kH} {tx : Nat → Nat} {ν : mN} {i0 i1 : Option mN} {T : mT} {tr : Int64} (hn : 37 ≤ n) (H : oX G t (tx, sz, ν, i0, i1, T, tr) h) (W : wS (tx, sz, ν, i0, i1, T, tr)) : Spi G mX6_anew 3 [.ref (kb G + 0)] n h (fun v h' => v = nI ν.2.2.2.1 ∧ oX G t (tx, sz, nAnew T, i0, i1, T, tr) h' ∧ kFr 0 37 h h') := by
  obtain ⟨ht, hX, hTx, hRd, hNow, hI0, hI1, hFt, hTo, hDr⟩ := id H
  have hX : h 0 = .inr (6, [.ref (kb G + 1), .ref (kb G + 3), .ref (kb G + 6), .ref (kb G + 11), .ref (kb G + 17), .ref (kb G + 23), .ref (kb G + t), .ref (kb G + (65 - t)), .long tr]) := hX
  have hTx : oText G tx sz h := hTx
  have hNow : oNow G 6 ν h := hNow
  have hI0 : oImg G 11 i0 h := hI0
  have hI1 : oImg G 17 i1 h := hI1
  have hTo : oTown G t T h := hTo
  obtain ⟨hwT, hwN, hY, hw0, hw1, hsz, htx⟩ := id W
  have hwT : wT T := hwT
  have hwN : wN T.1 ν := hwN
  have hY : ν.2.2.2.1 ≤ 99 := hY
  have hsz : sz ≤ 400 := hsz
  have hP8 := hwT.1
  obtain ⟨kn, ct, si, cr, ⟨hN, hkn, hct, hsi, hcr⟩, hK, hC, hS, hR⟩ := id hNow
  obtain ⟨tk, tc, ⟨hT, htk, htc⟩, hTk, hTc⟩ := id hTo
  have hZ : kFr 0 37 h h := kFr.rf
  refine Spi.of (by decide) (Nat.le_of_ble_eq_true rfl) ?_
  refine go_aload_n 0 (nx := 1) dX6_anew_0 rfl rfl rfl ?_
  refine go_gf (nx := 4) fg_X6_26 dX6_anew_1 (by omega) hX rfl rfl ?_
  refine go_gf (nx := 7) fg_X6_134 dX6_anew_4 (by omega) hN rfl rfl ?_
  refine go_istore_n (lv' := [_, _]) (nx := 8) dX6_anew_7 rfl (by decide) rfl rfl ?_
  refine go_aload_n 1 (nx := 9) dX6_anew_8 rfl rfl rfl ?_
  refine go_gf (nx := 12) fg_X6_26 dX6_anew_9 (by omega) hX rfl rfl ?_
  refine go_aload_n 1 (nx := 13) dX6_anew_12 rfl rfl rfl ?_
  refine go_gf (nx := 16) fg_X6_50 dX6_anew_13 (by omega) hX rfl rfl ?_
  refine go_Vv (nx := 19) [_] kc_X6_57 ⟨_, _, rfl⟩ (by omega) hN (s_begin (by omega) (by omega) (by omega) ⟨hN, hkn, hct, hsi, hcr⟩ hTo) dX6_anew_16 rfl rfl (Nat.le_of_ble_eq_true rfl) (Nat.le_of_ble_eq_true rfl) ⟨Nat.le_refl _, Nat.le_refl _⟩ rfl (fun h1 hqh1 => ?_)
  obtain ⟨hNow, hFh1⟩ := hqh1
  obtain ⟨kn, ct, si, cr, ⟨hN, hkn, hct, hsi, hcr⟩, hK, hC, hS, hR⟩ := id hNow
  have H := H.setNow hNow hFh1
  have hX := (hFh1 0 (by omega)).trans hX
  have hT := (hFh1 (t) (by omega)).trans hT
  have htk := (hFh1 (t + 1) (by omega)).trans htk
  have htc := (hFh1 (t + 2) (by omega)).trans htc
  have hTo := hTo.fr hFh1 (by omega)
  have hZ := hZ.tr (hFh1.wide (by omega) (by omega))
  refine go_iload_n 0 (nx := 20) dX6_anew_19 rfl rfl rfl ?_
  refine go_reti dX6_anew_20 ⟨_, rfl, rfl⟩ ?_
  exact ⟨rfl, H, hZ⟩
theorem x_rules {G : kG} {n t sz : Nat} {h : kH} {tx : Nat → Nat} {ν : mN} {i0 i1 : Option mN} {T : mT} {tr : Int64} {x y : Int32} (hn : 37 ≤ n) (H : oX G t (tx, sz, ν, i0, i1, T, tr) h) (W : wS (tx, sz, ν, i0, i1, T, tr)) : Spi G mX6_rules 0 [.ref (kb G + 0), .int x, .int y] n h (fun v h' => v = fRules T x y ∧ oX G t (tx, sz, ν, i0, i1, tRules T x y, tr) h' ∧ kFr 0 37 h h') := by
  obtain ⟨ht, hX, hTx, hRd, hNow, hI0, hI1, hFt, hTo, hDr⟩ := id H
  have hX : h 0 = .inr (6, [.ref (kb G + 1), .ref (kb G + 3), .ref (kb G + 6), .ref (kb G + 11), .ref (kb G + 17), .ref (kb G + 23), .ref (kb G + t), .ref (kb G + (65 - t)), .long tr]) := hX
  have hTx : oText G tx sz h := hTx
  have hNow : oNow G 6 ν h := hNow
  have hI0 : oImg G 11 i0 h := hI0
  have hI1 : oImg G 17 i1 h := hI1
  have hTo : oTown G t T h := hTo
  obtain ⟨hwT, hwN, hY, hw0, hw1, hsz, htx⟩ := id W
  have hwT : wT T := hwT
  have hwN : wN T.1 ν := hwN
  have hY : ν.2.2.2.1 ≤ 99 := hY
  have hsz : sz ≤ 400 := hsz
  have hP8 := hwT.1
  obtain ⟨kn, ct, si, cr, ⟨hN, hkn, hct, hsi, hcr⟩, hK, hC, hS, hR⟩ := id hNow
  obtain ⟨tk, tc, ⟨hT, htk, htc⟩, hTk, hTc⟩ := id hTo
  have hZ : kFr 0 37 h h := kFr.rf
  refine Spi.of (by decide) (Nat.le_of_ble_eq_true rfl) ?_
  refine go_iload_n 1 (nx := 1) dX6_rules_0 rfl rfl rfl ?_
  refine go_iconst (v := nI 2) (nx := 2) dX6_rules_1 (by decide) rfl ?_
  refine go_icmp_ne 10 (nx := 5) dX6_rules_2 rfl rfl (fun c2 => ?_) (fun c2 => ?_)
  · skip
    refine go_iconst (v := nI 0) (nx := 11) dX6_rules_10 (by decide) rfl ?_
    refine go_istore_n (lv' := [_, _, _, _]) (nx := 12) dX6_rules_11 rfl (by decide) rfl rfl ?_
    refine go_iload_n 2 (nx := 13) dX6_rules_12 rfl rfl rfl ?_
    refine go_if_lt 30 (nx := 16) dX6_rules_13 rfl rfl (fun c13 => ?_) (fun c13 => ?_)
    · skip
      refine go_iconst (v := (-1)) (nx := 31) dX6_rules_30 (by decide) rfl ?_
      refine go_reti dX6_rules_31 ⟨_, rfl, rfl⟩ ?_
      have e2 : ¬ x = nI 2 := c2
      have e : rulB x y = false := by simp [rulB]; intro q; exact absurd q (Int32.not_le.mpr c13)
      rw [fRules, tRules, if_neg (by rw [e]; decide), if_neg (by rw [e]; decide)]
      exact ⟨rfl, H, hZ⟩
    · skip
      refine go_iload_n 2 (nx := 17) dX6_rules_16 rfl rfl rfl ?_
      refine go_iconst (v := nI 3) (nx := 18) dX6_rules_17 (by decide) rfl ?_
      refine go_icmp_gt 30 (nx := 21) dX6_rules_18 rfl rfl (fun c18 => ?_) (fun c18 => ?_)
      · skip
        refine go_iconst (v := (-1)) (nx := 31) dX6_rules_30 (by decide) rfl ?_
        refine go_reti dX6_rules_31 ⟨_, rfl, rfl⟩ ?_
        have e2 : ¬ x = nI 2 := c2
        have e : rulB x y = false := by simp [rulB]; intro _ q; exact absurd q (Int32.not_le.mpr c18)
        rw [fRules, tRules, if_neg (by rw [e]; decide), if_neg (by rw [e]; decide)]
        exact ⟨rfl, H, hZ⟩
      · skip
        refine go_iload_n 3 (nx := 22) dX6_rules_21 rfl rfl rfl ?_
        refine go_if_lt 30 (nx := 25) dX6_rules_22 rfl rfl (fun c22 => ?_) (fun c22 => ?_)
        · skip
          refine go_iconst (v := (-1)) (nx := 31) dX6_rules_30 (by decide) rfl ?_
          refine go_reti dX6_rules_31 ⟨_, rfl, rfl⟩ ?_
          have e2 : ¬ x = nI 2 := c2
          have e : rulB x y = false := by simp [rulB]; intro _ _ q; exact absurd q (Int32.not_le.mpr c22)
          rw [fRules, tRules, if_neg (by rw [e]; decide), if_neg (by rw [e]; decide)]
          exact ⟨rfl, H, hZ⟩
        · skip
          refine go_iload_n 3 (nx := 26) dX6_rules_25 rfl rfl rfl ?_
          refine go_iload_n 0 (nx := 27) dX6_rules_26 rfl rfl rfl ?_
          refine go_icmp_le 32 (nx := 30) dX6_rules_27 rfl rfl (fun c27 => ?_) (fun c27 => ?_)
          · skip
            refine go_aload_n 1 (nx := 33) dX6_rules_32 rfl rfl rfl ?_
            refine go_gf (nx := 36) fg_X6_50 dX6_rules_33 (by omega) hX rfl rfl ?_
            refine go_gf (nx := 39) fg_X6_111 dX6_rules_36 (by omega) hT rfl rfl ?_
            refine go_istore (lv' := [_, _, _, _, _]) (nx := 41) dX6_rules_39 (by decide) rfl rfl ?_
            refine go_aload_n 2 (nx := 42) dX6_rules_41 rfl rfl rfl ?_
            refine go_gf (nx := 45) fg_X6_50 dX6_rules_42 (by omega) hX rfl rfl ?_
            refine go_iload_n 3 (nx := 46) dX6_rules_45 rfl rfl rfl ?_
            refine go_pf (fs' := [_, _, _, _, _, _]) (nx := 49) (fp_X6_111 _) dX6_rules_46 (by omega) hT (Nat.le_of_ble_eq_true rfl) ⟨rfl, rfl⟩ rfl rfl (fun h1 eh1 fh1 => ?_)
            have hX := (fh1 (0) (by omega)).trans hX
            have htk := (fh1 (t + 1) (by omega)).trans htk
            have htc := (fh1 (t + 2) (by omega)).trans htc
            have hT := eh1
            refine go_iload_n 3 (nx := 50) dX6_rules_49 rfl rfl rfl ?_
            refine go_iconst (v := nI 2) (nx := 51) dX6_rules_50 (by decide) rfl ?_
            refine go_icmp_ne 62 (nx := 54) dX6_rules_51 rfl rfl (fun c51 => ?_) (fun c51 => False.elim (c2 c51))
            refine go_iload 0 (nx := 64) dX6_rules_62 rfl rfl ?_
            refine go_reti dX6_rules_64 ⟨_, rfl, rfl⟩ ?_
            have e2 : ¬ x = nI 2 := c2
            have e : rulB x y = true := by unfold rulB; rw [if_neg e2]; simp; exact ⟨⟨Int32.not_lt.mp c13, Int32.not_lt.mp c18⟩, Int32.not_lt.mp c22, c27⟩
            obtain ⟨a, ha, rfl⟩ := nI_of c13
            obtain ⟨b, hb, rfl⟩ := nI_of c22
            rw [fRules, tRules, if_pos e, if_pos e, cl_nI ha, cl_nI hb, if_neg e2]
            have fx : kFr t (t + 3) _ h1 := fun j hj => fh1 j (by omega)
            exact ⟨rfl, H.setTown (T := (T.1, T.2.1, T.2.2.1, T.2.2.2.1, a, T.2.2.2.2.2)) ⟨tk, tc, ⟨hT, htk, htc⟩, hTk, hTc⟩ fx, hZ.tr (fx.wide (by omega) (by omega))⟩
          · skip
            refine go_iconst (v := (-1)) (nx := 31) dX6_rules_30 (by decide) rfl ?_
            refine go_reti dX6_rules_31 ⟨_, rfl, rfl⟩ ?_
            have e2 : ¬ x = nI 2 := c2
            have e : rulB x y = false := by unfold rulB; rw [if_neg e2]; simp; intro _ _ _; exact Int32.not_le.mp c27
            rw [fRules, tRules, if_neg (by rw [e]; decide), if_neg (by rw [e]; decide)]
            exact ⟨rfl, H, hZ⟩
  · skip
    refine go_bipush (v := nI 7) (nx := 7) dX6_rules_5 (by decide) rfl ?_
    refine go_goto 11 dX6_rules_7 rfl ?_
    refine go_istore_n (lv' := [_, _, _, _]) (nx := 12) dX6_rules_11 rfl (by decide) rfl rfl ?_
    refine go_iload_n 2 (nx := 13) dX6_rules_12 rfl rfl rfl ?_
    refine go_if_lt 30 (nx := 16) dX6_rules_13 rfl rfl (fun c13 => ?_) (fun c13 => ?_)
    · skip
      refine go_iconst (v := (-1)) (nx := 31) dX6_rules_30 (by decide) rfl ?_
      refine go_reti dX6_rules_31 ⟨_, rfl, rfl⟩ ?_
      have e2 : x = nI 2 := c2
      have e : rulB x y = false := by simp [rulB]; intro q; exact absurd q (Int32.not_le.mpr c13)
      rw [fRules, tRules, if_neg (by rw [e]; decide), if_neg (by rw [e]; decide)]
      exact ⟨rfl, H, hZ⟩
    · skip
      refine go_iload_n 2 (nx := 17) dX6_rules_16 rfl rfl rfl ?_
      refine go_iconst (v := nI 3) (nx := 18) dX6_rules_17 (by decide) rfl ?_
      refine go_icmp_gt 30 (nx := 21) dX6_rules_18 rfl rfl (fun c18 => ?_) (fun c18 => ?_)
      · skip
        refine go_iconst (v := (-1)) (nx := 31) dX6_rules_30 (by decide) rfl ?_
        refine go_reti dX6_rules_31 ⟨_, rfl, rfl⟩ ?_
        have e2 : x = nI 2 := c2
        have e : rulB x y = false := by simp [rulB]; intro _ q; exact absurd q (Int32.not_le.mpr c18)
        rw [fRules, tRules, if_neg (by rw [e]; decide), if_neg (by rw [e]; decide)]
        exact ⟨rfl, H, hZ⟩
      · skip
        refine go_iload_n 3 (nx := 22) dX6_rules_21 rfl rfl rfl ?_
        refine go_if_lt 30 (nx := 25) dX6_rules_22 rfl rfl (fun c22 => ?_) (fun c22 => ?_)
        · skip
          refine go_iconst (v := (-1)) (nx := 31) dX6_rules_30 (by decide) rfl ?_
          refine go_reti dX6_rules_31 ⟨_, rfl, rfl⟩ ?_
          have e2 : x = nI 2 := c2
          have e : rulB x y = false := by simp [rulB]; intro _ _ q; exact absurd q (Int32.not_le.mpr c22)
          rw [fRules, tRules, if_neg (by rw [e]; decide), if_neg (by rw [e]; decide)]
          exact ⟨rfl, H, hZ⟩
        · skip
          refine go_iload_n 3 (nx := 26) dX6_rules_25 rfl rfl rfl ?_
          refine go_iload_n 0 (nx := 27) dX6_rules_26 rfl rfl rfl ?_
          refine go_icmp_le 32 (nx := 30) dX6_rules_27 rfl rfl (fun c27 => ?_) (fun c27 => ?_)
          · skip
            refine go_aload_n 1 (nx := 33) dX6_rules_32 rfl rfl rfl ?_
            refine go_gf (nx := 36) fg_X6_50 dX6_rules_33 (by omega) hX rfl rfl ?_
            refine go_gf (nx := 39) fg_X6_111 dX6_rules_36 (by omega) hT rfl rfl ?_
            refine go_istore (lv' := [_, _, _, _, _]) (nx := 41) dX6_rules_39 (by decide) rfl rfl ?_
            refine go_aload_n 2 (nx := 42) dX6_rules_41 rfl rfl rfl ?_
            refine go_gf (nx := 45) fg_X6_50 dX6_rules_42 (by omega) hX rfl rfl ?_
            refine go_iload_n 3 (nx := 46) dX6_rules_45 rfl rfl rfl ?_
            refine go_pf (fs' := [_, _, _, _, _, _]) (nx := 49) (fp_X6_111 _) dX6_rules_46 (by omega) hT (Nat.le_of_ble_eq_true rfl) ⟨rfl, rfl⟩ rfl rfl (fun h1 eh1 fh1 => ?_)
            have hX := (fh1 (0) (by omega)).trans hX
            have htk := (fh1 (t + 1) (by omega)).trans htk
            have htc := (fh1 (t + 2) (by omega)).trans htc
            have hT := eh1
            refine go_iload_n 3 (nx := 50) dX6_rules_49 rfl rfl rfl ?_
            refine go_iconst (v := nI 2) (nx := 51) dX6_rules_50 (by decide) rfl ?_
            refine go_icmp_ne 62 (nx := 54) dX6_rules_51 rfl rfl (fun c51 => False.elim (c51 c2)) (fun c51 => ?_)
            refine go_aload_n 2 (nx := 55) dX6_rules_54 rfl rfl rfl ?_
            refine go_gf (nx := 58) fg_X6_50 dX6_rules_55 (by omega) hX rfl rfl ?_
            refine go_iload_n 4 (nx := 59) dX6_rules_58 rfl rfl rfl ?_
            refine go_pf (fs' := [_, _, _, _, _, _]) (nx := 62) (fp_X6_114 _) dX6_rules_59 (by omega) hT (Nat.le_of_ble_eq_true rfl) ⟨rfl, rfl⟩ rfl rfl (fun h2 eh2 fh2 => ?_)
            have hX := (fh2 (0) (by omega)).trans hX
            have htk := (fh2 (t + 1) (by omega)).trans htk
            have htc := (fh2 (t + 2) (by omega)).trans htc
            have hT := eh2
            refine go_iload 0 (nx := 64) dX6_rules_62 rfl rfl ?_
            refine go_reti dX6_rules_64 ⟨_, rfl, rfl⟩ ?_
            have e2 : x = nI 2 := c2
            have e : rulB x y = true := by unfold rulB; rw [if_pos e2]; simp; exact ⟨⟨Int32.not_lt.mp c13, Int32.not_lt.mp c18⟩, Int32.not_lt.mp c22, c27⟩
            obtain ⟨a, ha, rfl⟩ := nI_of c13
            obtain ⟨b, hb, rfl⟩ := nI_of c22
            rw [fRules, tRules, if_pos e, if_pos e, cl_nI ha, cl_nI hb, if_pos e2]
            have fx : kFr t (t + 3) _ h2 := fun j hj => (fh2 j (by omega)).trans (fh1 j (by omega))
            exact ⟨rfl, H.setTown (T := (T.1, T.2.1, T.2.2.1, T.2.2.2.1, a, b)) ⟨tk, tc, ⟨hT, htk, htc⟩, hTk, hTc⟩ fx, hZ.tr (fx.wide (by omega) (by omega))⟩
          · skip
            refine go_iconst (v := (-1)) (nx := 31) dX6_rules_30 (by decide) rfl ?_
            refine go_reti dX6_rules_31 ⟨_, rfl, rfl⟩ ?_
            have e2 : x = nI 2 := c2
            have e : rulB x y = false := by unfold rulB; rw [if_pos e2]; simp; intro _ _ _; exact Int32.not_le.mp c27
            rw [fRules, tRules, if_neg (by rw [e]; decide), if_neg (by rw [e]; decide)]
            exact ⟨rfl, H, hZ⟩
