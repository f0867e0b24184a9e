/-! LeastKnown: its small methods, what it answers of NOW and of the town -/
def cl (x : Int32) : Nat := x.toNatClampNeg
theorem cl_nI {p : Nat} (h : p < 2 ^ 31) : cl (nI p) = p := nI_clamp h
theorem per_nI {T : mT} {p : Nat} (hP : T.1 ≤ 8) (h : p < T.1) : perB T (nI p) = true := by
  simp only [perB, Bool.and_eq_true, decide_eq_true_eq]
  exact ⟨nI_pos' (by omega), nI_lt h (by omega)⟩
theorem s_isPerson {G : kG} {n t sz : Nat} {h : kH} {tx : Nat → Nat} {ν : mN} {i0 i1 : Option mN} {T : mT} {tr : Int64} {x : Int32} (hn : 37 ≤ n) (H : oX G t (tx, sz, ν, i0, i1, T, tr) h) (W : wS (tx, sz, ν, i0, i1, T, tr)) : Spi G mX6_isPerson 0 [.ref (kb G + 0), .int x] n h (fun v h' => v = bI (perB T x) ∧ h' = h) := by
  obtain ⟨ht, hX, hTx, hRd, hNow, hI0, hI1, hFt, hTo, hDr⟩ := id H
  have hX : h 0 = .inr (6, [.ref (kb G + 1), .ref (kb G + 3), .ref (kb G + 6), .ref (kb G + 11), .ref (kb G + 17), .ref (kb G + 23), .ref (kb G + t), .ref (kb G + (65 - t)), .long tr]) := hX
  have hTx : oText G tx sz h := hTx
  have hNow : oNow G 6 ν h := hNow
  have hI0 : oImg G 11 i0 h := hI0
  have hI1 : oImg G 17 i1 h := hI1
  have hTo : oTown G t T h := hTo
  obtain ⟨hwT, hwN, hY, hw0, hw1, hsz, htx⟩ := id W
  have hwT : wT T := hwT
  have hwN : wN T.1 ν := hwN
  have hY : ν.2.2.2.1 ≤ 99 := hY
  have hsz : sz ≤ 400 := hsz
  have hP8 := hwT.1
  obtain ⟨kn, ct, si, cr, ⟨hN, hkn, hct, hsi, hcr⟩, hK, hC, hS, hR⟩ := id hNow
  obtain ⟨tk, tc, ⟨hT, htk, htc⟩, hTk, hTc⟩ := id hTo
  refine Spi.of (by decide) (Nat.le_of_ble_eq_true rfl) ?_
  refine go_iload_n 1 (nx := 1) dX6_isPerson_0 rfl rfl rfl ?_
  refine go_if_lt 19 (nx := 4) dX6_isPerson_1 rfl rfl (fun c1 => ?_) (fun c1 => ?_)
  · skip
    refine go_iconst (v := nI 0) (nx := 20) dX6_isPerson_19 (by decide) rfl ?_
    refine go_reti dX6_isPerson_20 ⟨_, rfl, rfl⟩ ?_
    refine ⟨?_, rfl⟩
    rw [show perB T x = false by simp [perB]; intro q; exact absurd q (Int32.not_le.mpr c1)]; rfl
  · skip
    refine go_iload_n 1 (nx := 5) dX6_isPerson_4 rfl rfl rfl ?_
    refine go_aload_n 0 (nx := 6) dX6_isPerson_5 rfl rfl rfl ?_
    refine go_gf (nx := 9) fg_X6_50 dX6_isPerson_6 (by omega) hX rfl rfl ?_
    refine go_gf (nx := 12) fg_X6_120 dX6_isPerson_9 (by omega) hT rfl rfl ?_
    refine go_icmp_ge 19 (nx := 15) dX6_isPerson_12 rfl rfl (fun c12 => ?_) (fun c12 => ?_)
    · skip
      refine go_iconst (v := nI 0) (nx := 20) dX6_isPerson_19 (by decide) rfl ?_
      refine go_reti dX6_isPerson_20 ⟨_, rfl, rfl⟩ ?_
      refine ⟨?_, rfl⟩
      rw [show perB T x = false by simp [perB]; intro q; exact c12]; rfl
    · skip
      refine go_iconst (v := nI 1) (nx := 16) dX6_isPerson_15 (by decide) rfl ?_
      refine go_goto 20 dX6_isPerson_16 rfl ?_
      refine go_reti dX6_isPerson_20 ⟨_, rfl, rfl⟩ ?_
      refine ⟨?_, rfl⟩
      rw [show perB T x = true by simp [perB]; exact ⟨Int32.not_lt.mp c1, Int32.not_le.mp c12⟩]; rfl
theorem s_isPair {G : kG} {n t sz : Nat} {h : kH} {tx : Nat → Nat} {ν : mN} {i0 i1 : Option mN} {T : mT} {tr : Int64} {x y : Int32} (hn : 37 ≤ n) (H : oX G t (tx, sz, ν, i0, i1, T, tr) h) (W : wS (tx, sz, ν, i0, i1, T, tr)) : Spi G mX6_isPair 1 [.ref (kb G + 0), .int x, .int y] n h (fun v h' => v = bI (pairB T x y) ∧ h' = h) := by
  obtain ⟨ht, hX, hTx, hRd, hNow, hI0, hI1, hFt, hTo, hDr⟩ := id H
  have hX : h 0 = .inr (6, [.ref (kb G + 1), .ref (kb G + 3), .ref (kb G + 6), .ref (kb G + 11), .ref (kb G + 17), .ref (kb G + 23), .ref (kb G + t), .ref (kb G + (65 - t)), .long tr]) := hX
  have hTx : oText G tx sz h := hTx
  have hNow : oNow G 6 ν h := hNow
  have hI0 : oImg G 11 i0 h := hI0
  have hI1 : oImg G 17 i1 h := hI1
  have hTo : oTown G t T h := hTo
  obtain ⟨hwT, hwN, hY, hw0, hw1, hsz, htx⟩ := id W
  have hwT : wT T := hwT
  have hwN : wN T.1 ν := hwN
  have hY : ν.2.2.2.1 ≤ 99 := hY
  have hsz : sz ≤ 400 := hsz
  have hP8 := hwT.1
  obtain ⟨kn, ct, si, cr, ⟨hN, hkn, hct, hsi, hcr⟩, hK, hC, hS, hR⟩ := id hNow
  obtain ⟨tk, tc, ⟨hT, htk, htc⟩, hTk, hTc⟩ := id hTo
  refine Spi.of (by decide) (Nat.le_of_ble_eq_true rfl) ?_
  refine go_aload_n 0 (nx := 1) dX6_isPair_0 rfl rfl rfl ?_
  refine go_iload_n 1 (nx := 2) dX6_isPair_1 rfl rfl rfl ?_
  refine go_Vi (nx := 5) [_] kc_X6_89 ⟨_, _, rfl⟩ (by omega) hX (s_isPerson hn H W) dX6_isPair_2 rfl rfl (Nat.le_of_ble_eq_true rfl) (Nat.le_of_ble_eq_true rfl) ⟨Nat.le_refl _, Nat.le_refl _⟩ rfl (fun rh1 h1 hqh1 => ?_)
  obtain ⟨rfl, rfl⟩ := hqh1
  refine go_if_eq 25 (nx := 8) dX6_isPair_5 rfl rfl (fun c5 => ?_) (fun c5 => ?_)
  · skip
    refine go_iconst (v := nI 0) (nx := 26) dX6_isPair_25 (by decide) rfl ?_
    refine go_reti dX6_isPair_26 ⟨_, rfl, rfl⟩ ?_
    refine ⟨?_, rfl⟩
    rw [show pairB T x y = false by simp [pairB, tb0 c5]]; rfl
  · skip
    refine go_aload_n 0 (nx := 9) dX6_isPair_8 rfl rfl rfl ?_
    refine go_iload_n 2 (nx := 10) dX6_isPair_9 rfl rfl rfl ?_
    refine go_Vi (nx := 13) [_] kc_X6_89 ⟨_, _, rfl⟩ (by omega) hX (s_isPerson hn H W) dX6_isPair_10 rfl rfl (Nat.le_of_ble_eq_true rfl) (Nat.le_of_ble_eq_true rfl) ⟨Nat.le_refl _, Nat.le_refl _⟩ rfl (fun rh2 h2 hqh2 => ?_)
    obtain ⟨rfl, rfl⟩ := hqh2
    refine go_if_eq 25 (nx := 16) dX6_isPair_13 rfl rfl (fun c13 => ?_) (fun c13 => ?_)
    · skip
      refine go_iconst (v := nI 0) (nx := 26) dX6_isPair_25 (by decide) rfl ?_
      refine go_reti dX6_isPair_26 ⟨_, rfl, rfl⟩ ?_
      refine ⟨?_, rfl⟩
      rw [show pairB T x y = false by simp [pairB, tb0 c13]]; rfl
    · skip
      refine go_iload_n 1 (nx := 17) dX6_isPair_16 rfl rfl rfl ?_
      refine go_iload_n 2 (nx := 18) dX6_isPair_17 rfl rfl rfl ?_
      refine go_icmp_eq 25 (nx := 21) dX6_isPair_18 rfl rfl (fun c18 => ?_) (fun c18 => ?_)
      · skip
        refine go_iconst (v := nI 0) (nx := 26) dX6_isPair_25 (by decide) rfl ?_
        refine go_reti dX6_isPair_26 ⟨_, rfl, rfl⟩ ?_
        refine ⟨?_, rfl⟩
        rw [show pairB T x y = false by simp [pairB, c18]]; rfl
      · skip
        refine go_iconst (v := nI 1) (nx := 22) dX6_isPair_21 (by decide) rfl ?_
        refine go_goto 26 dX6_isPair_22 rfl ?_
        refine go_reti dX6_isPair_26 ⟨_, rfl, rfl⟩ ?_
        refine ⟨?_, rfl⟩
        rw [show pairB T x y = true by simp [pairB, tbn0 c5, tbn0 c13, c18]]; rfl
theorem s_isChoice {G : kG} {n : Nat} {h : kH} {x : Int32} : Spi G mX6_isChoice 0 [.int x] n h (fun v h' => v = bI (choB x) ∧ h' = h) := by
  refine Spi.of (by decide) (Nat.le_of_ble_eq_true rfl) ?_
  refine go_iload_n 0 (nx := 1) dX6_isChoice_0 rfl rfl rfl ?_
  refine go_if_eq 9 (nx := 4) dX6_isChoice_1 rfl rfl (fun c1 => ?_) (fun c1 => ?_)
  · skip
    refine go_iconst (v := nI 1) (nx := 10) dX6_isChoice_9 (by decide) rfl ?_
    refine go_goto 14 dX6_isChoice_10 rfl ?_
    refine go_reti dX6_isChoice_14 ⟨_, rfl, rfl⟩ ?_
    refine ⟨?_, rfl⟩
    rw [show choB x = true by simp [choB, c1]]; rfl
  · skip
    refine go_iload_n 0 (nx := 5) dX6_isChoice_4 rfl rfl rfl ?_
    refine go_iconst (v := nI 1) (nx := 6) dX6_isChoice_5 (by decide) rfl ?_
    refine go_icmp_ne 13 (nx := 9) dX6_isChoice_6 rfl rfl (fun c6 => ?_) (fun c6 => ?_)
    · skip
      refine go_iconst (v := nI 0) (nx := 14) dX6_isChoice_13 (by decide) rfl ?_
      refine go_reti dX6_isChoice_14 ⟨_, rfl, rfl⟩ ?_
      refine ⟨?_, rfl⟩
      rw [show choB x = false by simp [choB, c1]; exact c6]; rfl
    · skip
      refine go_iconst (v := nI 1) (nx := 10) dX6_isChoice_9 (by decide) rfl ?_
      refine go_goto 14 dX6_isChoice_10 rfl ?_
      refine go_reti dX6_isChoice_14 ⟨_, rfl, rfl⟩ ?_
      refine ⟨?_, rfl⟩
      rw [show choB x = true by simp [choB]; exact Or.inr c6]; rfl
def fKnows (T : mT) (ν : mN) (x y : Int32) : Int32 := if pairB T x y = true then bI (ν.1 (cl x) (cl y)) else -1
def fSeen (T : mT) (ν : mN) (x y : Int32) : Int32 := if (pairB T x y && ν.1 (cl x) (cl y)) = true then ν.2.1 (8 * cl x + cl y) else -1000000
def fPerson (T : mT) (ν : mN) (x w : Int32) : Int32 := if perB T x = true then (if w = nI 0 then nI (cnt ν.1 (cl x)) else if w = nI 1 then nI (acq ν.1 (cl x)) else if w = nI 2 then hab (T.2.2.1 (cl x)) else if w = nI 3 then nI (ν.2.2.1 (cl x)) else -1) else -1
def fLaw (T : mT) (w : Int32) : Int32 := if w = nI 0 then nI T.2.2.2.2.1 else if w = nI 1 then nI T.2.2.2.2.2 else if w = nI 2 then nI T.2.2.2.1 else -1
def fChosen (T : mT) (ν : mN) : Int32 := if T.1 = 0 then -2 else nI (mChoose T ν.1 ν.2.2.1)
def fNow (ν : mN) (w : Int32) : Int32 := if w = nI 0 then nI ν.2.2.2.1 else if w = nI 1 then ν.2.2.2.2 else if w = nI 2 then nI (sm (cnt ν.1) 8) else -1
def fAsks (T : mT) (ν : mN) (x j : Int32) : Int32 := if (perB T x && (decide (0 ≤ j) && decide (j ≤ nI 8))) = true then nI (askS ν.1 (cl x) (cl j) T.1 T.1).2 else -1
def fCount (T : mT) (ν : mN) (sz : Nat) (w : Int32) : Int32 := if w = nI 0 then nI T.1 else if w = nI 1 then nI (sm (cnt ν.1) 8) else if w = nI 2 then nI (fb_ct (fun p => (T.2.2.1 p).isSome) T.1) else if w = nI 3 then nI sz else -1
theorem sw_out {x : Int32} {lo hi : Int} {k : Nat} (h : x.toInt < lo ∨ hi < x.toInt) (h1 : lo ≤ k) (h2 : (k : Int) ≤ hi) (hk : k < 2 ^ 31) : ¬ x = nI k := by
  intro e
  rw [e, nI_toInt hk] at h
  omega
theorem nI_k {a b : Nat} (h : a ≠ b) (ha : a < 2 ^ 31) (hb : b < 2 ^ 31) : ¬ nI a = nI b := fun e => h (keq e ha hb)
theorem x_knows {G : kG} {n t sz : Nat} {h : kH} {tx : Nat → Nat} {ν : mN} {i0 i1 : Option mN} {T : mT} {tr : Int64} {x y : Int32} (hn : 37 ≤ n) (H : oX G t (tx, sz, ν, i0, i1, T, tr) h) (W : wS (tx, sz, ν, i0, i1, T, tr)) : Spi G mX6_knows 2 [.ref (kb G + 0), .int x, .int y] n h (fun v h' => v = fKnows T ν x y ∧ h' = h) := by
  obtain ⟨ht, hX, hTx, hRd, hNow, hI0, hI1, hFt, hTo, hDr⟩ := id H
  have hX : h 0 = .inr (6, [.ref (kb G + 1), .ref (kb G + 3), .ref (kb G + 6), .ref (kb G + 11), .ref (kb G + 17), .ref (kb G + 23), .ref (kb G + t), .ref (kb G + (65 - t)), .long tr]) := hX
  have hTx : oText G tx sz h := hTx
  have hNow : oNow G 6 ν h := hNow
  have hI0 : oImg G 11 i0 h := hI0
  have hI1 : oImg G 17 i1 h := hI1
  have hTo : oTown G t T h := hTo
  obtain ⟨hwT, hwN, hY, hw0, hw1, hsz, htx⟩ := id W
  have hwT : wT T := hwT
  have hwN : wN T.1 ν := hwN
  have hY : ν.2.2.2.1 ≤ 99 := hY
  have hsz : sz ≤ 400 := hsz
  have hP8 := hwT.1
  obtain ⟨kn, ct, si, cr, ⟨hN, hkn, hct, hsi, hcr⟩, hK, hC, hS, hR⟩ := id hNow
  obtain ⟨tk, tc, ⟨hT, htk, htc⟩, hTk, hTc⟩ := id hTo
  refine Spi.of (by decide) (Nat.le_of_ble_eq_true rfl) ?_
  refine go_aload_n 0 (nx := 1) dX6_knows_0 rfl rfl rfl ?_
  refine go_iload_n 1 (nx := 2) dX6_knows_1 rfl rfl rfl ?_
  refine go_iload_n 2 (nx := 3) dX6_knows_2 rfl rfl rfl ?_
  refine go_Vi (nx := 6) [_, _] kc_X6_77 ⟨_, _, rfl⟩ (by omega) hX (s_isPair hn H W) dX6_knows_3 rfl rfl (Nat.le_of_ble_eq_true rfl) (Nat.le_of_ble_eq_true rfl) ⟨Nat.le_refl _, Nat.le_refl _⟩ rfl (fun rh1 h1 hqh1 => ?_)
  obtain ⟨rfl, rfl⟩ := hqh1
  refine go_if_ne 11 (nx := 9) dX6_knows_6 rfl rfl (fun c6 => ?_) (fun c6 => ?_)
  · skip
    obtain ⟨a, b, ha, hb, hab, rfl, rfl⟩ := pair_of hP8 (tbn0 c6)
    have ha8 : a < 8 := by omega
    have hb8 : b < 8 := by omega
    refine go_aload_n 0 (nx := 12) dX6_knows_11 rfl rfl rfl ?_
    refine go_gf (nx := 15) fg_X6_26 dX6_knows_12 (by omega) hX rfl rfl ?_
    refine go_iload_n 1 (nx := 16) dX6_knows_15 rfl rfl rfl ?_
    refine go_iload_n 2 (nx := 17) dX6_knows_16 rfl rfl rfl ?_
    refine go_Vi (nx := 20) [_, _] kc_X6_81 ⟨_, _, rfl⟩ (by omega) hN (s_isAware (by omega) hNow rfl ha8 rfl hb8) dX6_knows_17 rfl rfl (Nat.le_of_ble_eq_true rfl) (Nat.le_of_ble_eq_true rfl) ⟨Nat.le_refl _, Nat.le_refl _⟩ rfl (fun rh2 h2 hqh2 => ?_)
    obtain ⟨rfl, rfl⟩ := hqh2
    refine go_if_eq 27 (nx := 23) dX6_knows_20 rfl rfl (fun c20 => ?_) (fun c20 => ?_)
    · skip
      refine go_iconst (v := nI 0) (nx := 28) dX6_knows_27 (by decide) rfl ?_
      refine go_reti dX6_knows_28 ⟨_, rfl, rfl⟩ ?_
      refine ⟨?_, rfl⟩
      rw [fKnows, if_pos (tbn0 c6), cl_nI (by omega), cl_nI (by omega), tb0 c20]; rfl
    · skip
      refine go_iconst (v := nI 1) (nx := 24) dX6_knows_23 (by decide) rfl ?_
      refine go_goto 28 dX6_knows_24 rfl ?_
      refine go_reti dX6_knows_28 ⟨_, rfl, rfl⟩ ?_
      refine ⟨?_, rfl⟩
      rw [fKnows, if_pos (tbn0 c6), cl_nI (by omega), cl_nI (by omega), tbn0 c20]; rfl
  · skip
    refine go_iconst (v := (-1)) (nx := 10) dX6_knows_9 (by decide) rfl ?_
    refine go_reti dX6_knows_10 ⟨_, rfl, rfl⟩ ?_
    refine ⟨?_, rfl⟩
    rw [fKnows, if_neg (by rw [tb0 c6]; decide)]
theorem x_seen {G : kG} {n t sz : Nat} {h : kH} {tx : Nat → Nat} {ν : mN} {i0 i1 : Option mN} {T : mT} {tr : Int64} {x y : Int32} (hn : 37 ≤ n) (H : oX G t (tx, sz, ν, i0, i1, T, tr) h) (W : wS (tx, sz, ν, i0, i1, T, tr)) : Spi G mX6_seen 2 [.ref (kb G + 0), .int x, .int y] n h (fun v h' => v = fSeen T ν x y ∧ h' = h) := by
  obtain ⟨ht, hX, hTx, hRd, hNow, hI0, hI1, hFt, hTo, hDr⟩ := id H
  have hX : h 0 = .inr (6, [.ref (kb G + 1), .ref (kb G + 3), .ref (kb G + 6), .ref (kb G + 11), .ref (kb G + 17), .ref (kb G + 23), .ref (kb G + t), .ref (kb G + (65 - t)), .long tr]) := hX
  have hTx : oText G tx sz h := hTx
  have hNow : oNow G 6 ν h := hNow
  have hI0 : oImg G 11 i0 h := hI0
  have hI1 : oImg G 17 i1 h := hI1
  have hTo : oTown G t T h := hTo
  obtain ⟨hwT, hwN, hY, hw0, hw1, hsz, htx⟩ := id W
  have hwT : wT T := hwT
  have hwN : wN T.1 ν := hwN
  have hY : ν.2.2.2.1 ≤ 99 := hY
  have hsz : sz ≤ 400 := hsz
  have hP8 := hwT.1
  obtain ⟨kn, ct, si, cr, ⟨hN, hkn, hct, hsi, hcr⟩, hK, hC, hS, hR⟩ := id hNow
  obtain ⟨tk, tc, ⟨hT, htk, htc⟩, hTk, hTc⟩ := id hTo
  refine Spi.of (by decide) (Nat.le_of_ble_eq_true rfl) ?_
  refine go_aload_n 0 (nx := 1) dX6_seen_0 rfl rfl rfl ?_
  refine go_iload_n 1 (nx := 2) dX6_seen_1 rfl rfl rfl ?_
  refine go_iload_n 2 (nx := 3) dX6_seen_2 rfl rfl rfl ?_
  refine go_Vi (nx := 6) [_, _] kc_X6_77 ⟨_, _, rfl⟩ (by omega) hX (s_isPair hn H W) dX6_seen_3 rfl rfl (Nat.le_of_ble_eq_true rfl) (Nat.le_of_ble_eq_true rfl) ⟨Nat.le_refl _, Nat.le_refl _⟩ rfl (fun rh1 h1 hqh1 => ?_)
  obtain ⟨rfl, rfl⟩ := hqh1
  refine go_if_eq 21 (nx := 9) dX6_seen_6 rfl rfl (fun c6 => ?_) (fun c6 => ?_)
  · skip
    refine go_ldc (nx := 23) kl_X6_84 dX6_seen_21 rfl ?_
    refine go_reti dX6_seen_23 ⟨_, rfl, rfl⟩ ?_
    refine ⟨?_, rfl⟩
    rw [fSeen, if_neg (by rw [tb0 c6]; simp)]
  · skip
    obtain ⟨a, b, ha, hb, hab, rfl, rfl⟩ := pair_of hP8 (tbn0 c6)
    have ha8 : a < 8 := by omega
    have hb8 : b < 8 := by omega
    refine go_aload_n 0 (nx := 10) dX6_seen_9 rfl rfl rfl ?_
    refine go_gf (nx := 13) fg_X6_26 dX6_seen_10 (by omega) hX rfl rfl ?_
    refine go_iload_n 1 (nx := 14) dX6_seen_13 rfl rfl rfl ?_
    refine go_iload_n 2 (nx := 15) dX6_seen_14 rfl rfl rfl ?_
    refine go_Vi (nx := 18) [_, _] kc_X6_81 ⟨_, _, rfl⟩ (by omega) hN (s_isAware (by omega) hNow rfl ha8 rfl hb8) dX6_seen_15 rfl rfl (Nat.le_of_ble_eq_true rfl) (Nat.le_of_ble_eq_true rfl) ⟨Nat.le_refl _, Nat.le_refl _⟩ rfl (fun rh2 h2 hqh2 => ?_)
    obtain ⟨rfl, rfl⟩ := hqh2
    refine go_if_ne 24 (nx := 21) dX6_seen_18 rfl rfl (fun c18 => ?_) (fun c18 => ?_)
    · skip
      refine go_aload_n 0 (nx := 25) dX6_seen_24 rfl rfl rfl ?_
      refine go_gf (nx := 28) fg_X6_26 dX6_seen_25 (by omega) hX rfl rfl ?_
      refine go_iload_n 1 (nx := 29) dX6_seen_28 rfl rfl rfl ?_
      refine go_iload_n 2 (nx := 30) dX6_seen_29 rfl rfl rfl ?_
      refine go_Vi (nx := 33) [_, _] kc_X6_85 ⟨_, _, rfl⟩ (by omega) hN (s_sight (by omega) hNow rfl ha8 rfl hb8) dX6_seen_30 rfl rfl (Nat.le_of_ble_eq_true rfl) (Nat.le_of_ble_eq_true rfl) ⟨Nat.le_refl _, Nat.le_refl _⟩ rfl (fun rh3 h3 hqh3 => ?_)
      obtain ⟨rfl, rfl⟩ := hqh3
      refine go_reti dX6_seen_33 ⟨_, rfl, rfl⟩ ?_
      refine ⟨?_, rfl⟩
      rw [fSeen, cl_nI (by omega), cl_nI (by omega), if_pos (by rw [tbn0 c6, tbn0 c18]; rfl)]
    · skip
      refine go_ldc (nx := 23) kl_X6_84 dX6_seen_21 rfl ?_
      refine go_reti dX6_seen_23 ⟨_, rfl, rfl⟩ ?_
      refine ⟨?_, rfl⟩
      rw [fSeen, cl_nI (by omega), cl_nI (by omega), if_neg (by rw [tb0 c18]; simp)]
theorem x_person {G : kG} {n t sz : Nat} {h : kH} {tx : Nat → Nat} {ν : mN} {i0 i1 : Option mN} {T : mT} {tr : Int64} {x y : Int32} (hn : 37 ≤ n) (H : oX G t (tx, sz, ν, i0, i1, T, tr) h) (W : wS (tx, sz, ν, i0, i1, T, tr)) : Spi G mX6_person 3 [.ref (kb G + 0), .int x, .int y] n h (fun v h' => v = fPerson T ν x y ∧ h' = h) := by
  obtain ⟨ht, hX, hTx, hRd, hNow, hI0, hI1, hFt, hTo, hDr⟩ := id H
  have hX : h 0 = .inr (6, [.ref (kb G + 1), .ref (kb G + 3), .ref (kb G + 6), .ref (kb G + 11), .ref (kb G + 17), .ref (kb G + 23), .ref (kb G + t), .ref (kb G + (65 - t)), .long tr]) := hX
  have hTx : oText G tx sz h := hTx
  have hNow : oNow G 6 ν h := hNow
  have hI0 : oImg G 11 i0 h := hI0
  have hI1 : oImg G 17 i1 h := hI1
  have hTo : oTown G t T h := hTo
  obtain ⟨hwT, hwN, hY, hw0, hw1, hsz, htx⟩ := id W
  have hwT : wT T := hwT
  have hwN : wN T.1 ν := hwN
  have hY : ν.2.2.2.1 ≤ 99 := hY
  have hsz : sz ≤ 400 := hsz
  have hP8 := hwT.1
  obtain ⟨kn, ct, si, cr, ⟨hN, hkn, hct, hsi, hcr⟩, hK, hC, hS, hR⟩ := id hNow
  obtain ⟨tk, tc, ⟨hT, htk, htc⟩, hTk, hTc⟩ := id hTo
  refine Spi.of (by decide) (Nat.le_of_ble_eq_true rfl) ?_
  refine go_aload_n 0 (nx := 1) dX6_person_0 rfl rfl rfl ?_
  refine go_iload_n 1 (nx := 2) dX6_person_1 rfl rfl rfl ?_
  refine go_Vi (nx := 5) [_] kc_X6_89 ⟨_, _, rfl⟩ (by omega) hX (s_isPerson hn H W) dX6_person_2 rfl rfl (Nat.le_of_ble_eq_true rfl) (Nat.le_of_ble_eq_true rfl) ⟨Nat.le_refl _, Nat.le_refl _⟩ rfl (fun rh1 h1 hqh1 => ?_)
  obtain ⟨rfl, rfl⟩ := hqh1
  refine go_if_ne 10 (nx := 8) dX6_person_5 rfl rfl (fun c5 => ?_) (fun c5 => ?_)
  · skip
    obtain ⟨a, ha, rfl⟩ := per_of hP8 (tbn0 c5)
    have ha8 : a < 8 := by omega
    refine go_iload_n 2 (nx := 11) dX6_person_10 rfl rfl rfl ?_
    rcases sw_0_3 (y) with hs11 | hs11 | hs11 | hs11 | hs11
    · refine go_tableOut 85 dX6_person_11 hs11 rfl ?_
      refine go_iconst (v := (-1)) (nx := 86) dX6_person_85 (by decide) rfl ?_
      refine go_reti dX6_person_86 ⟨_, rfl, rfl⟩ ?_
      refine ⟨?_, rfl⟩
      rw [fPerson, if_pos (tbn0 c5), if_neg (sw_out hs11 (by decide) (by decide) (k := 0) (by decide)), if_neg (sw_out hs11 (by decide) (by decide) (k := 1) (by decide)), if_neg (sw_out hs11 (by decide) (by decide) (k := 2) (by decide)), if_neg (sw_out hs11 (by decide) (by decide) (k := 3) (by decide))]
    · refine go_tableIn 40 dX6_person_11 (by rw [hs11]; decide) (by rw [hs11]; decide) (off := 29) (by rw [hs11]; rfl) rfl ?_
      refine go_aload_n 0 (nx := 41) dX6_person_40 rfl rfl rfl ?_
      refine go_gf (nx := 44) fg_X6_26 dX6_person_41 (by omega) hX rfl rfl ?_
      refine go_gf (nx := 47) fg_X6_93 dX6_person_44 (by omega) hN rfl rfl ?_
      refine go_iload_n 1 (nx := 48) dX6_person_47 rfl rfl rfl ?_
      refine go_Si (nx := 51) [_, _] kc_X6_97 (s_at_in (by omega) hct (by omega) rfl ha8) dX6_person_48 rfl rfl (Nat.le_of_ble_eq_true rfl) (Nat.le_of_ble_eq_true rfl) ⟨Nat.le_refl _, Nat.le_refl _⟩ rfl (fun rh2 h2 hqh2 => ?_)
      obtain ⟨rfl, rfl⟩ := hqh2
      rw [hC a ha8]
      refine go_reti dX6_person_51 ⟨_, rfl, rfl⟩ ?_
      refine ⟨?_, rfl⟩
      rw [fPerson, if_pos (tbn0 c5), if_pos hs11, cl_nI (by omega)]
    · refine go_tableIn 52 dX6_person_11 (by rw [hs11]; decide) (by rw [hs11]; decide) (off := 41) (by rw [hs11]; rfl) rfl ?_
      refine go_aload_n 0 (nx := 53) dX6_person_52 rfl rfl rfl ?_
      refine go_gf (nx := 56) fg_X6_26 dX6_person_53 (by omega) hX rfl rfl ?_
      refine go_iload_n 1 (nx := 57) dX6_person_56 rfl rfl rfl ?_
      refine go_Vi (nx := 60) [_] kc_X6_101 ⟨_, _, rfl⟩ (by omega) hN (s_acq (by omega) hNow rfl ha8) dX6_person_57 rfl rfl (Nat.le_of_ble_eq_true rfl) (Nat.le_of_ble_eq_true rfl) ⟨Nat.le_refl _, Nat.le_refl _⟩ rfl (fun rh2 h2 hqh2 => ?_)
      obtain ⟨rfl, rfl⟩ := hqh2
      refine go_reti dX6_person_60 ⟨_, rfl, rfl⟩ ?_
      refine ⟨?_, rfl⟩
      rw [fPerson, if_pos (tbn0 c5), if_neg (by rw [hs11]; exact nI_k (by decide) (by decide) (by decide)), if_pos hs11, cl_nI (by omega)]
    · refine go_tableIn 61 dX6_person_11 (by rw [hs11]; decide) (by rw [hs11]; decide) (off := 50) (by rw [hs11]; rfl) rfl ?_
      refine go_aload_n 0 (nx := 62) dX6_person_61 rfl rfl rfl ?_
      refine go_gf (nx := 65) fg_X6_50 dX6_person_62 (by omega) hX rfl rfl ?_
      refine go_gf (nx := 68) fg_X6_105 dX6_person_65 (by omega) hT rfl rfl ?_
      refine go_iload_n 1 (nx := 69) dX6_person_68 rfl rfl rfl ?_
      refine go_Si (nx := 72) [_, _] kc_X6_97 (s_at_in (by omega) htc (by omega) rfl ha8) dX6_person_69 rfl rfl (Nat.le_of_ble_eq_true rfl) (Nat.le_of_ble_eq_true rfl) ⟨Nat.le_refl _, Nat.le_refl _⟩ rfl (fun rh2 h2 hqh2 => ?_)
      obtain ⟨rfl, rfl⟩ := hqh2
      rw [hTc a ha8]
      refine go_reti dX6_person_72 ⟨_, rfl, rfl⟩ ?_
      refine ⟨?_, rfl⟩
      rw [fPerson, if_pos (tbn0 c5), if_neg (by rw [hs11]; exact nI_k (by decide) (by decide) (by decide)), if_neg (by rw [hs11]; exact nI_k (by decide) (by decide) (by decide)), if_pos hs11, cl_nI (by omega)]
    · refine go_tableIn 73 dX6_person_11 (by rw [hs11]; decide) (by rw [hs11]; decide) (off := 62) (by rw [hs11]; rfl) rfl ?_
      refine go_aload_n 0 (nx := 74) dX6_person_73 rfl rfl rfl ?_
      refine go_gf (nx := 77) fg_X6_26 dX6_person_74 (by omega) hX rfl rfl ?_
      refine go_gf (nx := 80) fg_X6_108 dX6_person_77 (by omega) hN rfl rfl ?_
      refine go_iload_n 1 (nx := 81) dX6_person_80 rfl rfl rfl ?_
      refine go_Si (nx := 84) [_, _] kc_X6_97 (s_at_in (by omega) hcr (by omega) rfl ha8) dX6_person_81 rfl rfl (Nat.le_of_ble_eq_true rfl) (Nat.le_of_ble_eq_true rfl) ⟨Nat.le_refl _, Nat.le_refl _⟩ rfl (fun rh2 h2 hqh2 => ?_)
      obtain ⟨rfl, rfl⟩ := hqh2
      rw [hR a ha8]
      refine go_reti dX6_person_84 ⟨_, rfl, rfl⟩ ?_
      refine ⟨?_, rfl⟩
      rw [fPerson, if_pos (tbn0 c5), if_neg (by rw [hs11]; exact nI_k (by decide) (by decide) (by decide)), if_neg (by rw [hs11]; exact nI_k (by decide) (by decide) (by decide)), if_neg (by rw [hs11]; exact nI_k (by decide) (by decide) (by decide)), if_pos hs11, cl_nI (by omega)]
  · skip
    refine go_iconst (v := (-1)) (nx := 9) dX6_person_8 (by decide) rfl ?_
    refine go_reti dX6_person_9 ⟨_, rfl, rfl⟩ ?_
    refine ⟨?_, rfl⟩
    rw [fPerson, if_neg (by rw [tb0 c5]; decide)]
theorem x_law {G : kG} {n t sz : Nat} {h : kH} {tx : Nat → Nat} {ν : mN} {i0 i1 : Option mN} {T : mT} {tr : Int64} {x : Int32} (hn : 37 ≤ n) (H : oX G t (tx, sz, ν, i0, i1, T, tr) h) (W : wS (tx, sz, ν, i0, i1, T, tr)) : Spi G mX6_law 0 [.ref (kb G + 0), .int x] n h (fun v h' => v = fLaw T x ∧ h' = h) := by
  obtain ⟨ht, hX, hTx, hRd, hNow, hI0, hI1, hFt, hTo, hDr⟩ := id H
  have hX : h 0 = .inr (6, [.ref (kb G + 1), .ref (kb G + 3), .ref (kb G + 6), .ref (kb G + 11), .ref (kb G + 17), .ref (kb G + 23), .ref (kb G + t), .ref (kb G + (65 - t)), .long tr]) := hX
  have hTx : oText G tx sz h := hTx
  have hNow : oNow G 6 ν h := hNow
  have hI0 : oImg G 11 i0 h := hI0
  have hI1 : oImg G 17 i1 h := hI1
  have hTo : oTown G t T h := hTo
  obtain ⟨hwT, hwN, hY, hw0, hw1, hsz, htx⟩ := id W
  have hwT : wT T := hwT
  have hwN : wN T.1 ν := hwN
  have hY : ν.2.2.2.1 ≤ 99 := hY
  have hsz : sz ≤ 400 := hsz
  have hP8 := hwT.1
  obtain ⟨kn, ct, si, cr, ⟨hN, hkn, hct, hsi, hcr⟩, hK, hC, hS, hR⟩ := id hNow
  obtain ⟨tk, tc, ⟨hT, htk, htc⟩, hTk, hTc⟩ := id hTo
  refine Spi.of (by decide) (Nat.le_of_ble_eq_true rfl) ?_
  refine go_iload_n 1 (nx := 1) dX6_law_0 rfl rfl rfl ?_
  rcases sw_0_2 (x) with hs1 | hs1 | hs1 | hs1
  · refine go_tableOut 52 dX6_law_1 hs1 rfl ?_
    refine go_iconst (v := (-1)) (nx := 53) dX6_law_52 (by decide) rfl ?_
    refine go_reti dX6_law_53 ⟨_, rfl, rfl⟩ ?_
    refine ⟨?_, rfl⟩
    rw [fLaw, if_neg (sw_out hs1 (by decide) (by decide) (k := 0) (by decide)), if_neg (sw_out hs1 (by decide) (by decide) (k := 1) (by decide)), if_neg (sw_out hs1 (by decide) (by decide) (k := 2) (by decide))]
  · refine go_tableIn 28 dX6_law_1 (by rw [hs1]; decide) (by rw [hs1]; decide) (off := 27) (by rw [hs1]; rfl) rfl ?_
    refine go_aload_n 0 (nx := 29) dX6_law_28 rfl rfl rfl ?_
    refine go_gf (nx := 32) fg_X6_50 dX6_law_29 (by omega) hX rfl rfl ?_
    refine go_gf (nx := 35) fg_X6_111 dX6_law_32 (by omega) hT rfl rfl ?_
    refine go_reti dX6_law_35 ⟨_, rfl, rfl⟩ ?_
    refine ⟨?_, rfl⟩
    rw [fLaw, if_pos hs1]
  · refine go_tableIn 36 dX6_law_1 (by rw [hs1]; decide) (by rw [hs1]; decide) (off := 35) (by rw [hs1]; rfl) rfl ?_
    refine go_aload_n 0 (nx := 37) dX6_law_36 rfl rfl rfl ?_
    refine go_gf (nx := 40) fg_X6_50 dX6_law_37 (by omega) hX rfl rfl ?_
    refine go_gf (nx := 43) fg_X6_114 dX6_law_40 (by omega) hT rfl rfl ?_
    refine go_reti dX6_law_43 ⟨_, rfl, rfl⟩ ?_
    refine ⟨?_, rfl⟩
    rw [fLaw, if_neg (by rw [hs1]; exact nI_k (by decide) (by decide) (by decide)), if_pos hs1]
  · refine go_tableIn 44 dX6_law_1 (by rw [hs1]; decide) (by rw [hs1]; decide) (off := 43) (by rw [hs1]; rfl) rfl ?_
    refine go_aload_n 0 (nx := 45) dX6_law_44 rfl rfl rfl ?_
    refine go_gf (nx := 48) fg_X6_50 dX6_law_45 (by omega) hX rfl rfl ?_
    refine go_gf (nx := 51) fg_X6_117 dX6_law_48 (by omega) hT rfl rfl ?_
    refine go_reti dX6_law_51 ⟨_, rfl, rfl⟩ ?_
    refine ⟨?_, rfl⟩
    rw [fLaw, if_neg (by rw [hs1]; exact nI_k (by decide) (by decide) (by decide)), if_neg (by rw [hs1]; exact nI_k (by decide) (by decide) (by decide)), if_pos hs1]
theorem x_chosen {G : kG} {n t sz : Nat} {h : kH} {tx : Nat → Nat} {ν : mN} {i0 i1 : Option mN} {T : mT} {tr : Int64} (hn : 37 ≤ n) (H : oX G t (tx, sz, ν, i0, i1, T, tr) h) (W : wS (tx, sz, ν, i0, i1, T, tr)) : Spi G mX6_chosen 3 [.ref (kb G + 0)] n h (fun v h' => v = fChosen T ν ∧ h' = h) := by
  obtain ⟨ht, hX, hTx, hRd, hNow, hI0, hI1, hFt, hTo, hDr⟩ := id H
  have hX : h 0 = .inr (6, [.ref (kb G + 1), .ref (kb G + 3), .ref (kb G + 6), .ref (kb G + 11), .ref (kb G + 17), .ref (kb G + 23), .ref (kb G + t), .ref (kb G + (65 - t)), .long tr]) := hX
  have hTx : oText G tx sz h := hTx
  have hNow : oNow G 6 ν h := hNow
  have hI0 : oImg G 11 i0 h := hI0
  have hI1 : oImg G 17 i1 h := hI1
  have hTo : oTown G t T h := hTo
  obtain ⟨hwT, hwN, hY, hw0, hw1, hsz, htx⟩ := id W
  have hwT : wT T := hwT
  have hwN : wN T.1 ν := hwN
  have hY : ν.2.2.2.1 ≤ 99 := hY
  have hsz : sz ≤ 400 := hsz
  have hP8 := hwT.1
  obtain ⟨kn, ct, si, cr, ⟨hN, hkn, hct, hsi, hcr⟩, hK, hC, hS, hR⟩ := id hNow
  obtain ⟨tk, tc, ⟨hT, htk, htc⟩, hTk, hTc⟩ := id hTo
  refine Spi.of (by decide) (Nat.le_of_ble_eq_true rfl) ?_
  refine go_aload_n 0 (nx := 1) dX6_chosen_0 rfl rfl rfl ?_
  refine go_gf (nx := 4) fg_X6_50 dX6_chosen_1 (by omega) hX rfl rfl ?_
  refine go_gf (nx := 7) fg_X6_120 dX6_chosen_4 (by omega) hT rfl rfl ?_
  refine go_if_ne 15 (nx := 10) dX6_chosen_7 rfl rfl (fun c7 => ?_) (fun c7 => ?_)
  · skip
    have hP0 : ¬ T.1 = 0 := fun e => c7 (by rw [e]; rfl)
    refine go_aload_n 0 (nx := 16) dX6_chosen_15 rfl rfl rfl ?_
    refine go_gf (nx := 19) fg_X6_50 dX6_chosen_16 (by omega) hX rfl rfl ?_
    refine go_aload_n 0 (nx := 20) dX6_chosen_19 rfl rfl rfl ?_
    refine go_gf (nx := 23) fg_X6_26 dX6_chosen_20 (by omega) hX rfl rfl ?_
    refine go_Vi (nx := 26) [_] kc_X6_123 ⟨_, _, rfl⟩ (by omega) hT (s_choose (by omega) (by omega) hNow hTo hwT hwN.1 (by omega)) dX6_chosen_23 rfl rfl (Nat.le_of_ble_eq_true rfl) (Nat.le_of_ble_eq_true rfl) ⟨Nat.le_refl _, Nat.le_refl _⟩ rfl (fun rh1 h1 hqh1 => ?_)
    obtain ⟨rfl, rfl⟩ := hqh1
    refine go_reti dX6_chosen_26 ⟨_, rfl, rfl⟩ ?_
    refine ⟨?_, rfl⟩
    rw [fChosen, if_neg hP0]
  · skip
    refine go_bipush (v := (-2)) (nx := 12) dX6_chosen_10 (by decide) rfl ?_
    refine go_goto 26 dX6_chosen_12 rfl ?_
    refine go_reti dX6_chosen_26 ⟨_, rfl, rfl⟩ ?_
    refine ⟨?_, rfl⟩
    rw [fChosen, if_pos (keq (b := 0) c7 (by omega) (by decide))]
theorem x_now {G : kG} {n t sz : Nat} {h : kH} {tx : Nat → Nat} {ν : mN} {i0 i1 : Option mN} {T : mT} {tr : Int64} {x : Int32} (hn : 37 ≤ n) (H : oX G t (tx, sz, ν, i0, i1, T, tr) h) (W : wS (tx, sz, ν, i0, i1, T, tr)) : Spi G mX6_now 2 [.ref (kb G + 0), .int x] n h (fun v h' => v = fNow ν x ∧ h' = h) := by
  obtain ⟨ht, hX, hTx, hRd, hNow, hI0, hI1, hFt, hTo, hDr⟩ := id H
  have hX : h 0 = .inr (6, [.ref (kb G + 1), .ref (kb G + 3), .ref (kb G + 6), .ref (kb G + 11), .ref (kb G + 17), .ref (kb G + 23), .ref (kb G + t), .ref (kb G + (65 - t)), .long tr]) := hX
  have hTx : oText G tx sz h := hTx
  have hNow : oNow G 6 ν h := hNow
  have hI0 : oImg G 11 i0 h := hI0
  have hI1 : oImg G 17 i1 h := hI1
  have hTo : oTown G t T h := hTo
  obtain ⟨hwT, hwN, hY, hw0, hw1, hsz, htx⟩ := id W
  have hwT : wT T := hwT
  have hwN : wN T.1 ν := hwN
  have hY : ν.2.2.2.1 ≤ 99 := hY
  have hsz : sz ≤ 400 := hsz
  have hP8 := hwT.1
  obtain ⟨kn, ct, si, cr, ⟨hN, hkn, hct, hsi, hcr⟩, hK, hC, hS, hR⟩ := id hNow
  obtain ⟨tk, tc, ⟨hT, htk, htc⟩, hTk, hTc⟩ := id hTo
  refine Spi.of (by decide) (Nat.le_of_ble_eq_true rfl) ?_
  refine go_iload_n 1 (nx := 1) dX6_now_0 rfl rfl rfl ?_
  rcases sw_0_2 (x) with hs1 | hs1 | hs1 | hs1
  · refine go_tableOut 52 dX6_now_1 hs1 rfl ?_
    refine go_iconst (v := (-1)) (nx := 53) dX6_now_52 (by decide) rfl ?_
    refine go_reti dX6_now_53 ⟨_, rfl, rfl⟩ ?_
    refine ⟨?_, rfl⟩
    rw [fNow, if_neg (sw_out hs1 (by decide) (by decide) (k := 0) (by decide)), if_neg (sw_out hs1 (by decide) (by decide) (k := 1) (by decide)), if_neg (sw_out hs1 (by decide) (by decide) (k := 2) (by decide))]
  · refine go_tableIn 28 dX6_now_1 (by rw [hs1]; decide) (by rw [hs1]; decide) (off := 27) (by rw [hs1]; rfl) rfl ?_
    refine go_aload_n 0 (nx := 29) dX6_now_28 rfl rfl rfl ?_
    refine go_gf (nx := 32) fg_X6_26 dX6_now_29 (by omega) hX rfl rfl ?_
    refine go_gf (nx := 35) fg_X6_134 dX6_now_32 (by omega) hN rfl rfl ?_
    refine go_reti dX6_now_35 ⟨_, rfl, rfl⟩ ?_
    refine ⟨?_, rfl⟩
    rw [fNow, if_pos hs1]
  · refine go_tableIn 36 dX6_now_1 (by rw [hs1]; decide) (by rw [hs1]; decide) (off := 35) (by rw [hs1]; rfl) rfl ?_
    refine go_aload_n 0 (nx := 37) dX6_now_36 rfl rfl rfl ?_
    refine go_gf (nx := 40) fg_X6_26 dX6_now_37 (by omega) hX rfl rfl ?_
    refine go_gf (nx := 43) fg_X6_146 dX6_now_40 (by omega) hN rfl rfl ?_
    refine go_reti dX6_now_43 ⟨_, rfl, rfl⟩ ?_
    refine ⟨?_, rfl⟩
    rw [fNow, if_neg (by rw [hs1]; exact nI_k (by decide) (by decide) (by decide)), if_pos hs1]
  · refine go_tableIn 44 dX6_now_1 (by rw [hs1]; decide) (by rw [hs1]; decide) (off := 43) (by rw [hs1]; rfl) rfl ?_
    refine go_aload_n 0 (nx := 45) dX6_now_44 rfl rfl rfl ?_
    refine go_gf (nx := 48) fg_X6_26 dX6_now_45 (by omega) hX rfl rfl ?_
    refine go_Vi (nx := 51) [] kc_X6_149 ⟨_, _, rfl⟩ (by omega) hN (s_allCounts (by omega) hNow) dX6_now_48 rfl rfl (Nat.le_of_ble_eq_true rfl) (Nat.le_of_ble_eq_true rfl) ⟨Nat.le_refl _, Nat.le_refl _⟩ rfl (fun rh1 h1 hqh1 => ?_)
    obtain ⟨rfl, rfl⟩ := hqh1
    refine go_reti dX6_now_51 ⟨_, rfl, rfl⟩ ?_
    refine ⟨?_, rfl⟩
    rw [fNow, if_neg (by rw [hs1]; exact nI_k (by decide) (by decide) (by decide)), if_neg (by rw [hs1]; exact nI_k (by decide) (by decide) (by decide)), if_pos hs1]
theorem x_asks {G : kG} {n t sz : Nat} {h : kH} {tx : Nat → Nat} {ν : mN} {i0 i1 : Option mN} {T : mT} {tr : Int64} {x y : Int32} (hn : 37 ≤ n) (H : oX G t (tx, sz, ν, i0, i1, T, tr) h) (W : wS (tx, sz, ν, i0, i1, T, tr)) : Spi G mX6_asks 3 [.ref (kb G + 0), .int x, .int y] n h (fun v h' => v = fAsks T ν x y ∧ h' = h) := by
  obtain ⟨ht, hX, hTx, hRd, hNow, hI0, hI1, hFt, hTo, hDr⟩ := id H
  have hX : h 0 = .inr (6, [.ref (kb G + 1), .ref (kb G + 3), .ref (kb G + 6), .ref (kb G + 11), .ref (kb G + 17), .ref (kb G + 23), .ref (kb G + t), .ref (kb G + (65 - t)), .long tr]) := hX
  have hTx : oText G tx sz h := hTx
  have hNow : oNow G 6 ν h := hNow
  have hI0 : oImg G 11 i0 h := hI0
  have hI1 : oImg G 17 i1 h := hI1
  have hTo : oTown G t T h := hTo
  obtain ⟨hwT, hwN, hY, hw0, hw1, hsz, htx⟩ := id W
  have hwT : wT T := hwT
  have hwN : wN T.1 ν := hwN
  have hY : ν.2.2.2.1 ≤ 99 := hY
  have hsz : sz ≤ 400 := hsz
  have hP8 := hwT.1
  obtain ⟨kn, ct, si, cr, ⟨hN, hkn, hct, hsi, hcr⟩, hK, hC, hS, hR⟩ := id hNow
  obtain ⟨tk, tc, ⟨hT, htk, htc⟩, hTk, hTc⟩ := id hTo
  refine Spi.of (by decide) (Nat.le_of_ble_eq_true rfl) ?_
  refine go_aload_n 0 (nx := 1) dX6_asks_0 rfl rfl rfl ?_
  refine go_iload_n 1 (nx := 2) dX6_asks_1 rfl rfl rfl ?_
  refine go_Vi (nx := 5) [_] kc_X6_89 ⟨_, _, rfl⟩ (by omega) hX (s_isPerson hn H W) dX6_asks_2 rfl rfl (Nat.le_of_ble_eq_true rfl) (Nat.le_of_ble_eq_true rfl) ⟨Nat.le_refl _, Nat.le_refl _⟩ rfl (fun rh1 h1 hqh1 => ?_)
  obtain ⟨rfl, rfl⟩ := hqh1
  refine go_if_eq 18 (nx := 8) dX6_asks_5 rfl rfl (fun c5 => ?_) (fun c5 => ?_)
  · skip
    refine go_iconst (v := (-1)) (nx := 19) dX6_asks_18 (by decide) rfl ?_
    refine go_reti dX6_asks_19 ⟨_, rfl, rfl⟩ ?_
    refine ⟨?_, rfl⟩
    rw [fAsks, if_neg (by rw [tb0 c5]; simp)]
  · skip
    refine go_iload_n 2 (nx := 9) dX6_asks_8 rfl rfl rfl ?_
    refine go_if_lt 18 (nx := 12) dX6_asks_9 rfl rfl (fun c9 => ?_) (fun c9 => ?_)
    · skip
      refine go_iconst (v := (-1)) (nx := 19) dX6_asks_18 (by decide) rfl ?_
      refine go_reti dX6_asks_19 ⟨_, rfl, rfl⟩ ?_
      refine ⟨?_, rfl⟩
      rw [fAsks, if_neg (by simp; intro _ q; exact absurd q (Int32.not_le.mpr c9))]
    · skip
      refine go_iload_n 2 (nx := 13) dX6_asks_12 rfl rfl rfl ?_
      refine go_bipush (v := nI 8) (nx := 15) dX6_asks_13 (by decide) rfl ?_
      refine go_icmp_le 20 (nx := 18) dX6_asks_15 rfl rfl (fun c15 => ?_) (fun c15 => ?_)
      · skip
        obtain ⟨a, ha, rfl⟩ := per_of hP8 (tbn0 c5)
        obtain ⟨j, hj, rfl⟩ := nI_of c9
        have hj8 : j ≤ 8 := kle c15
        refine go_aload_n 0 (nx := 21) dX6_asks_20 rfl rfl rfl ?_
        refine go_gf (nx := 24) fg_X6_26 dX6_asks_21 (by omega) hX rfl rfl ?_
        refine go_iload_n 1 (nx := 25) dX6_asks_24 rfl rfl rfl ?_
        refine go_iload_n 2 (nx := 26) dX6_asks_25 rfl rfl rfl ?_
        refine go_aload_n 0 (nx := 27) dX6_asks_26 rfl rfl rfl ?_
        refine go_gf (nx := 30) fg_X6_50 dX6_asks_27 (by omega) hX rfl rfl ?_
        refine go_gf (nx := 33) fg_X6_120 dX6_asks_30 (by omega) hT rfl rfl ?_
        refine go_Vi (nx := 36) [_, _, _] kc_X6_178 ⟨_, _, rfl⟩ (by omega) hN (s_asks (by omega) hNow rfl ha rfl hj8 rfl hP8) dX6_asks_33 rfl rfl (Nat.le_of_ble_eq_true rfl) (Nat.le_of_ble_eq_true rfl) ⟨Nat.le_refl _, Nat.le_refl _⟩ rfl (fun rh2 h2 hqh2 => ?_)
        obtain ⟨rfl, rfl⟩ := hqh2
        refine go_reti dX6_asks_36 ⟨_, rfl, rfl⟩ ?_
        refine ⟨?_, rfl⟩
        rw [fAsks, if_pos (by rw [tbn0 c5]; simp; exact ⟨Int32.not_lt.mp c9, c15⟩), cl_nI (by omega), cl_nI (by omega)]
      · skip
        refine go_iconst (v := (-1)) (nx := 19) dX6_asks_18 (by decide) rfl ?_
        refine go_reti dX6_asks_19 ⟨_, rfl, rfl⟩ ?_
        refine ⟨?_, rfl⟩
        rw [fAsks, if_neg (by simp; intro _ _; exact Int32.not_le.mp c15)]
theorem x_count {G : kG} {n t sz : Nat} {h : kH} {tx : Nat → Nat} {ν : mN} {i0 i1 : Option mN} {T : mT} {tr : Int64} {x : Int32} (hn : 37 ≤ n) (H : oX G t (tx, sz, ν, i0, i1, T, tr) h) (W : wS (tx, sz, ν, i0, i1, T, tr)) : Spi G mX6_count 2 [.ref (kb G + 0), .int x] n h (fun v h' => v = fCount T ν sz x ∧ h' = h) := by
  obtain ⟨ht, hX, hTx, hRd, hNow, hI0, hI1, hFt, hTo, hDr⟩ := id H
  have hX : h 0 = .inr (6, [.ref (kb G + 1), .ref (kb G + 3), .ref (kb G + 6), .ref (kb G + 11), .ref (kb G + 17), .ref (kb G + 23), .ref (kb G + t), .ref (kb G + (65 - t)), .long tr]) := hX
  have hTx : oText G tx sz h := hTx
  have hNow : oNow G 6 ν h := hNow
  have hI0 : oImg G 11 i0 h := hI0
  have hI1 : oImg G 17 i1 h := hI1
  have hTo : oTown G t T h := hTo
  obtain ⟨hwT, hwN, hY, hw0, hw1, hsz, htx⟩ := id W
  have hwT : wT T := hwT
  have hwN : wN T.1 ν := hwN
  have hY : ν.2.2.2.1 ≤ 99 := hY
  have hsz : sz ≤ 400 := hsz
  have hP8 := hwT.1
  obtain ⟨kn, ct, si, cr, ⟨hN, hkn, hct, hsi, hcr⟩, hK, hC, hS, hR⟩ := id hNow
  obtain ⟨tk, tc, ⟨hT, htk, htc⟩, hTk, hTc⟩ := id hTo
  obtain ⟨hTx1, -⟩ := id hTx
  refine Spi.of (by decide) (Nat.le_of_ble_eq_true rfl) ?_
  refine go_iload_n 1 (nx := 1) dX6_count_0 rfl rfl rfl ?_
  rcases sw_0_3 (x) with hs1 | hs1 | hs1 | hs1 | hs1
  · refine go_tableOut 64 dX6_count_1 hs1 rfl ?_
    refine go_iconst (v := (-1)) (nx := 65) dX6_count_64 (by decide) rfl ?_
    refine go_reti dX6_count_65 ⟨_, rfl, rfl⟩ ?_
    refine ⟨?_, rfl⟩
    rw [fCount, if_neg (sw_out hs1 (by decide) (by decide) (k := 0) (by decide)), if_neg (sw_out hs1 (by decide) (by decide) (k := 1) (by decide)), if_neg (sw_out hs1 (by decide) (by decide) (k := 2) (by decide)), if_neg (sw_out hs1 (by decide) (by decide) (k := 3) (by decide))]
  · refine go_tableIn 32 dX6_count_1 (by rw [hs1]; decide) (by rw [hs1]; decide) (off := 31) (by rw [hs1]; rfl) rfl ?_
    refine go_aload_n 0 (nx := 33) dX6_count_32 rfl rfl rfl ?_
    refine go_gf (nx := 36) fg_X6_50 dX6_count_33 (by omega) hX rfl rfl ?_
    refine go_gf (nx := 39) fg_X6_120 dX6_count_36 (by omega) hT rfl rfl ?_
    refine go_reti dX6_count_39 ⟨_, rfl, rfl⟩ ?_
    refine ⟨?_, rfl⟩
    rw [fCount, if_pos hs1]
  · refine go_tableIn 40 dX6_count_1 (by rw [hs1]; decide) (by rw [hs1]; decide) (off := 39) (by rw [hs1]; rfl) rfl ?_
    refine go_aload_n 0 (nx := 41) dX6_count_40 rfl rfl rfl ?_
    refine go_gf (nx := 44) fg_X6_26 dX6_count_41 (by omega) hX rfl rfl ?_
    refine go_Vi (nx := 47) [] kc_X6_149 ⟨_, _, rfl⟩ (by omega) hN (s_allCounts (by omega) hNow) dX6_count_44 rfl rfl (Nat.le_of_ble_eq_true rfl) (Nat.le_of_ble_eq_true rfl) ⟨Nat.le_refl _, Nat.le_refl _⟩ rfl (fun rh1 h1 hqh1 => ?_)
    obtain ⟨rfl, rfl⟩ := hqh1
    refine go_reti dX6_count_47 ⟨_, rfl, rfl⟩ ?_
    refine ⟨?_, rfl⟩
    rw [fCount, if_neg (by rw [hs1]; exact nI_k (by decide) (by decide) (by decide)), if_pos hs1]
  · refine go_tableIn 48 dX6_count_1 (by rw [hs1]; decide) (by rw [hs1]; decide) (off := 47) (by rw [hs1]; rfl) rfl ?_
    refine go_aload_n 0 (nx := 49) dX6_count_48 rfl rfl rfl ?_
    refine go_gf (nx := 52) fg_X6_50 dX6_count_49 (by omega) hX rfl rfl ?_
    refine go_Vi (nx := 55) [] kc_X6_222 ⟨_, _, rfl⟩ (by omega) hT (s_habits (by omega) hTo hwT) dX6_count_52 rfl rfl (Nat.le_of_ble_eq_true rfl) (Nat.le_of_ble_eq_true rfl) ⟨Nat.le_refl _, Nat.le_refl _⟩ rfl (fun rh1 h1 hqh1 => ?_)
    obtain ⟨rfl, rfl⟩ := hqh1
    refine go_reti dX6_count_55 ⟨_, rfl, rfl⟩ ?_
    refine ⟨?_, rfl⟩
    rw [fCount, if_neg (by rw [hs1]; exact nI_k (by decide) (by decide) (by decide)), if_neg (by rw [hs1]; exact nI_k (by decide) (by decide) (by decide)), if_pos hs1]
  · refine go_tableIn 56 dX6_count_1 (by rw [hs1]; decide) (by rw [hs1]; decide) (off := 55) (by rw [hs1]; rfl) rfl ?_
    refine go_aload_n 0 (nx := 57) dX6_count_56 rfl rfl rfl ?_
    refine go_gf (nx := 60) fg_X6_10 dX6_count_57 (by omega) hX rfl rfl ?_
    refine go_gf (nx := 63) fg_X6_61 dX6_count_60 (by omega) hTx1 rfl rfl ?_
    refine go_reti dX6_count_63 ⟨_, rfl, rfl⟩ ?_
    refine ⟨?_, rfl⟩
    rw [fCount, if_neg (by rw [hs1]; exact nI_k (by decide) (by decide) (by decide)), if_neg (by rw [hs1]; exact nI_k (by decide) (by decide) (by decide)), if_neg (by rw [hs1]; exact nI_k (by decide) (by decide) (by decide)), if_pos hs1]
theorem x_trace {G : kG} {n t sz : Nat} {h : kH} {tx : Nat → Nat} {ν : mN} {i0 i1 : Option mN} {T : mT} {tr : Int64} (hn : 37 ≤ n) (H : oX G t (tx, sz, ν, i0, i1, T, tr) h) (W : wS (tx, sz, ν, i0, i1, T, tr)) : Spl G mX6_trace 0 [.ref (kb G + 0)] n h (fun v h' => v = tr ∧ h' = h) := by
  obtain ⟨ht, hX, hTx, hRd, hNow, hI0, hI1, hFt, hTo, hDr⟩ := id H
  have hX : h 0 = .inr (6, [.ref (kb G + 1), .ref (kb G + 3), .ref (kb G + 6), .ref (kb G + 11), .ref (kb G + 17), .ref (kb G + 23), .ref (kb G + t), .ref (kb G + (65 - t)), .long tr]) := hX
  have hTx : oText G tx sz h := hTx
  have hNow : oNow G 6 ν h := hNow
  have hI0 : oImg G 11 i0 h := hI0
  have hI1 : oImg G 17 i1 h := hI1
  have hTo : oTown G t T h := hTo
  obtain ⟨hwT, hwN, hY, hw0, hw1, hsz, htx⟩ := id W
  have hwT : wT T := hwT
  have hwN : wN T.1 ν := hwN
  have hY : ν.2.2.2.1 ≤ 99 := hY
  have hsz : sz ≤ 400 := hsz
  have hP8 := hwT.1
  obtain ⟨kn, ct, si, cr, ⟨hN, hkn, hct, hsi, hcr⟩, hK, hC, hS, hR⟩ := id hNow
  obtain ⟨tk, tc, ⟨hT, htk, htc⟩, hTk, hTc⟩ := id hTo
  refine Spl.of (by decide) (Nat.le_of_ble_eq_true rfl) ?_
  refine go_aload_n 0 (nx := 1) dX6_trace_0 rfl rfl rfl ?_
  refine go_gf (nx := 4) fg_X6_225 dX6_trace_1 (by omega) hX rfl rfl ?_
  refine go_retl dX6_trace_4 rfl ?_
  exact ⟨rfl, rfl⟩
