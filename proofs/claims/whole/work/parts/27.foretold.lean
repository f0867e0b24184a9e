/-! LeastKnown: parties; what is foretold -/
def ptB (K : mK) (w : Nat) : Bool := allN (fun a => allN (fun b => !(w.testBit a) || !(w.testBit b) || (a == b) || K a b) 8) 8
theorem ptB_iff {K : mK} {w : Nat} : ptB K w = true ↔ Pt8 K w := by
  unfold ptB Pt8
  rw [allN_iff]
  constructor
  · intro h a ha b hb h1 h2 h3
    have q := allN_iff.mp (h a ha) b hb
    rw [h1, h2] at q
    simp [h3] at q
    exact q
  · intro h a ha
    refine allN_iff.mpr fun b hb => ?_
    cases e1 : w.testBit a
    · rfl
    · cases e2 : w.testBit b
      · rfl
      · by_cases e3 : a = b
        · simp [e3]
        · simp [h a ha b hb e1 e2 e3]
theorem s_partyB {G : kG} {n q w : Nat} {h : kH} {ν : mN} {x : Int32} (hq : q + 5 ≤ n) (H : oNow G q ν h) (hx : x = nI w) (hw : w < 256) : Spi G mX2_isParty 1 [.ref (kb G + q), .int x] n h (fun v h' => v = bI (ptB ν.1 w) ∧ h' = h) := by
  refine (s_isParty hq H hx hw).mono fun v h' ⟨q, e⟩ => ⟨?_, e⟩
  rcases q with ⟨rfl, q⟩ | ⟨rfl, q⟩
  · rw [ptB_iff.mpr q]; rfl
  · rw [show ptB ν.1 w = false from Bool.eq_false_iff.mpr fun z => q (ptB_iff.mp z)]; rfl
def msk (P : Nat) (x : Int32) : Nat := x.toBitVec.toNat % 2 ^ P
theorem msk_lt {P : Nat} {x : Int32} (hP : P ≤ 8) : msk P x < 256 := Nat.lt_of_lt_of_le (Nat.mod_lt _ (Nat.pow_pos (by decide))) (Nat.pow_le_pow_right (by decide : 0 < 2) hP)
theorem msk_I {P : Nat} {x : Int32} (hP : P ≤ 8) : x &&& nI (allB P) = nI (msk P x) := pk_and x P (by
  rw [pk_tn (Nat.lt_trans (allB_lt hP) (by decide))]; rfl)
theorem x_party {G : kG} {n t sz : Nat} {h : kH} {tx : Nat → Nat} {ν : mN} {i0 i1 : Option mN} {T : mT} {tr : Int64} {x : Int32} (hn : 37 ≤ n) (H : oX G t (tx, sz, ν, i0, i1, T, tr) h) (W : wS (tx, sz, ν, i0, i1, T, tr)) : Spi G mX6_party 2 [.ref (kb G + 0), .int x] n h (fun v h' => v = bI (ptB ν.1 (msk T.1 x)) ∧ h' = h) := by
  obtain ⟨ht, hX, hTx, hRd, hNow, hI0, hI1, hFt, hTo, hDr⟩ := id H
  have hX : h 0 = .inr (6, [.ref (kb G + 1), .ref (kb G + 3), .ref (kb G + 6), .ref (kb G + 11), .ref (kb G + 17), .ref (kb G + 23), .ref (kb G + t), .ref (kb G + (65 - t)), .long tr]) := hX
  have hTx : oText G tx sz h := hTx
  have hNow : oNow G 6 ν h := hNow
  have hI0 : oImg G 11 i0 h := hI0
  have hI1 : oImg G 17 i1 h := hI1
  have hTo : oTown G t T h := hTo
  obtain ⟨hwT, hwN, hY, hw0, hw1, hsz, htx⟩ := id W
  have hwT : wT T := hwT
  have hwN : wN T.1 ν := hwN
  have hY : ν.2.2.2.1 ≤ 99 := hY
  have hsz : sz ≤ 400 := hsz
  have hP8 := hwT.1
  obtain ⟨kn, ct, si, cr, ⟨hN, hkn, hct, hsi, hcr⟩, hK, hC, hS, hR⟩ := id hNow
  obtain ⟨tk, tc, ⟨hT, htk, htc⟩, hTk, hTc⟩ := id hTo
  refine Spi.of (by decide) (Nat.le_of_ble_eq_true rfl) ?_
  refine go_aload_n 0 (nx := 1) dX6_party_0 rfl rfl rfl ?_
  refine go_gf (nx := 4) fg_X6_26 dX6_party_1 (by omega) hX rfl rfl ?_
  refine go_iload_n 1 (nx := 5) dX6_party_4 rfl rfl rfl ?_
  refine go_aload_n 0 (nx := 6) dX6_party_5 rfl rfl rfl ?_
  refine go_gf (nx := 9) fg_X6_50 dX6_party_6 (by omega) hX rfl rfl ?_
  refine go_Vi (nx := 12) [] kc_X6_182 ⟨_, _, rfl⟩ (by omega) hT (s_everyone (by omega) hTo hwT) dX6_party_9 rfl rfl (Nat.le_of_ble_eq_true rfl) (Nat.le_of_ble_eq_true rfl) ⟨Nat.le_refl _, Nat.le_refl _⟩ rfl (fun rh1 h1 hqh1 => ?_)
  obtain ⟨rfl, rfl⟩ := hqh1
  refine go_iand (nx := 13) dX6_party_12 rfl ?_
  rw [msk_I hP8]
  refine go_Vi (nx := 16) [_] kc_X6_185 ⟨_, _, rfl⟩ (by omega) hN (s_partyB (by omega) hNow rfl (msk_lt hP8)) dX6_party_13 rfl rfl (Nat.le_of_ble_eq_true rfl) (Nat.le_of_ble_eq_true rfl) ⟨Nat.le_refl _, Nat.le_refl _⟩ rfl (fun rh2 h2 hqh2 => ?_)
  obtain ⟨rfl, rfl⟩ := hqh2
  refine go_if_eq 23 (nx := 19) dX6_party_16 rfl rfl (fun c16 => ?_) (fun c16 => ?_)
  · skip
    refine go_iconst (v := nI 0) (nx := 24) dX6_party_23 (by decide) rfl ?_
    refine go_reti dX6_party_24 ⟨_, rfl, rfl⟩ ?_
    exact ⟨by rw [tb0 c16]; rfl, rfl⟩
  · skip
    refine go_iconst (v := nI 1) (nx := 20) dX6_party_19 (by decide) rfl ?_
    refine go_goto 24 dX6_party_20 rfl ?_
    refine go_reti dX6_party_24 ⟨_, rfl, rfl⟩ ?_
    exact ⟨by rw [tbn0 c16]; rfl, rfl⟩
def ptS (K : mK) : Nat → Nat × Nat × Nat
  | 0 => (0, 0, 1)
  | s + 1 => if popc s < 2 ∨ ptB K s = false then ptS K s else ((ptS K s).1 + 1, if (ptS K s).2.2 < popc s then s else (ptS K s).2.1, if (ptS K s).2.2 < popc s then popc s else (ptS K s).2.2)
theorem popc_le (w : Nat) : popc w ≤ 8 := by
  unfold popc
  have h0 := Bool.toNat_le (w.testBit 0)
  have h1 := Bool.toNat_le (w.testBit 1)
  have h2 := Bool.toNat_le (w.testBit 2)
  have h3 := Bool.toNat_le (w.testBit 3)
  have h4 := Bool.toNat_le (w.testBit 4)
  have h5 := Bool.toNat_le (w.testBit 5)
  have h6 := Bool.toNat_le (w.testBit 6)
  have h7 := Bool.toNat_le (w.testBit 7)
  omega
theorem ptS_le {K : mK} : ∀ s, (ptS K s).2.2 ≤ 8
  | 0 => by show 1 ≤ 8; decide
  | s + 1 => by
    have ih := ptS_le (K := K) s
    have hp := popc_le s
    simp only [ptS]
    split
    · exact ih
    · simp only []
      split <;> omega
def fParties (T : mT) (ν : mN) (x : Int32) : Int32 := if choB x = true then (if x = nI 0 then nI (ptS ν.1 (allB T.1 + 1)).1 else nI (ptS ν.1 (allB T.1 + 1)).2.1) else -1
theorem l_parties {G : kG} {n t sz : Nat} {h : kH} {tx : Nat → Nat} {ν : mN} {i0 i1 : Option mN} {T : mT} {tr : Int64} {x : Int32} (hn : 37 ≤ n) (H : oX G t (tx, sz, ν, i0, i1, T, tr) h) (W : wS (tx, sz, ν, i0, i1, T, tr)) (hx : choB x = true) : ∀ (d s : Nat), allB T.1 + 1 - s < d → s ≤ allB T.1 + 1 → Go G mX6_parties (2, 0, 0) 19 [(5, .int (nI s)), (4, .int (nI (ptS ν.1 s).2.2)), (3, .int (nI (ptS ν.1 s).2.1)), (2, .int (nI (ptS ν.1 s).1)), (0, .ref (kb G + 0)), (1, .int x)] [] (n, 0, 0) h (kQi mX6_parties n (fun v h' => v = fParties T ν x ∧ h' = h)) := by
  intro d
  obtain ⟨ht, hX, hTx, hRd, hNow, hI0, hI1, hFt, hTo, hDr⟩ := id H
  have hX : h 0 = .inr (6, [.ref (kb G + 1), .ref (kb G + 3), .ref (kb G + 6), .ref (kb G + 11), .ref (kb G + 17), .ref (kb G + 23), .ref (kb G + t), .ref (kb G + (65 - t)), .long tr]) := hX
  have hTx : oText G tx sz h := hTx
  have hNow : oNow G 6 ν h := hNow
  have hI0 : oImg G 11 i0 h := hI0
  have hI1 : oImg G 17 i1 h := hI1
  have hTo : oTown G t T h := hTo
  obtain ⟨hwT, hwN, hY, hw0, hw1, hsz, htx⟩ := id W
  have hwT : wT T := hwT
  have hwN : wN T.1 ν := hwN
  have hY : ν.2.2.2.1 ≤ 99 := hY
  have hsz : sz ≤ 400 := hsz
  have hP8 := hwT.1
  obtain ⟨kn, ct, si, cr, ⟨hN, hkn, hct, hsi, hcr⟩, hK, hC, hS, hR⟩ := id hNow
  obtain ⟨tk, tc, ⟨hT, htk, htc⟩, hTk, hTc⟩ := id hTo
  have hall := allB_lt hP8
  induction d with
  | zero => intro s hd; omega
  | succ d ih =>
    intro s hd hs
    have hle := ptS_le (K := ν.1) s
    generalize he : ptS ν.1 s = r at hle ⊢
    refine go_iload 0 (nx := 21) dX6_parties_19 rfl rfl ?_
    refine go_aload_n 4 (nx := 22) dX6_parties_21 rfl rfl rfl ?_
    refine go_gf (nx := 25) fg_X6_50 dX6_parties_22 (by omega) hX rfl rfl ?_
    refine go_Vi (nx := 28) [] kc_X6_182 ⟨_, _, rfl⟩ (by omega) hT (s_everyone (by omega) hTo hwT) dX6_parties_25 rfl rfl (Nat.le_of_ble_eq_true rfl) (Nat.le_of_ble_eq_true rfl) ⟨Nat.le_refl _, Nat.le_refl _⟩ rfl (fun rh1 h1 hqh1 => ?_)
    obtain ⟨rfl, rfl⟩ := hqh1
    refine go_icmp_gt 82 (nx := 31) dX6_parties_28 rfl rfl (fun c28 => ?_) (fun c28 => ?_)
    · skip
      refine go_iload_n 5 (nx := 83) dX6_parties_82 rfl rfl rfl ?_
      refine go_if_ne 90 (nx := 86) dX6_parties_83 rfl rfl (fun c83 => ?_) (fun c83 => ?_)
      · skip
        refine go_iload_n 2 (nx := 91) dX6_parties_90 rfl rfl rfl ?_
        refine go_reti dX6_parties_91 ⟨_, rfl, rfl⟩ ?_
        have e8 : s = allB T.1 + 1 := by have := klt c28; omega
        rw [fParties, if_pos hx, ← e8, he, if_neg (fun q => c83 (by rw [q]; rfl))]
        exact ⟨rfl, rfl⟩
      · skip
        refine go_iload_n 3 (nx := 87) dX6_parties_86 rfl rfl rfl ?_
        refine go_goto 91 dX6_parties_87 rfl ?_
        refine go_reti dX6_parties_91 ⟨_, rfl, rfl⟩ ?_
        have e8 : s = allB T.1 + 1 := by have := klt c28; omega
        rw [fParties, if_pos hx, ← e8, he, if_pos (show x = nI 0 from c83)]
        exact ⟨rfl, rfl⟩
    · skip
      have h8 := knlt c28
      refine go_iload 0 (nx := 33) dX6_parties_31 rfl rfl ?_
      refine go_Si (nx := 36) [_] kc_X6_188 (s_bitCount rfl (by omega)) dX6_parties_33 rfl rfl (Nat.le_of_ble_eq_true rfl) (Nat.le_of_ble_eq_true rfl) ⟨Nat.le_refl _, Nat.le_refl _⟩ rfl (fun rh2 h2 hqh2 => ?_)
      obtain ⟨rfl, rfl⟩ := hqh2
      refine go_istore (lv' := [_, _, _, _, _, _, _]) (nx := 38) dX6_parties_36 (by decide) rfl rfl ?_
      refine go_iload 0 (nx := 40) dX6_parties_38 rfl rfl ?_
      refine go_iconst (v := nI 2) (nx := 41) dX6_parties_40 (by decide) rfl ?_
      refine go_icmp_lt 76 (nx := 44) dX6_parties_41 rfl rfl (fun c41 => ?_) (fun c41 => ?_)
      · skip
        refine go_iinc 1 (v := nI (s + 1)) (lv' := [_, _, _, _, _, _, _]) (nx := 79) dX6_parties_76 rfl (nI_inc s) (by decide) rfl rfl ?_
        refine go_goto 19 dX6_parties_79 rfl ?_
        refine Go.sub [0, 2, 3, 4, 5, 6] rfl ?_
        have k := ih (s + 1) (by omega) (by omega)
        rw [show ptS ν.1 (s + 1) = r by simp only [ptS]; rw [if_pos (Or.inl (klt c41 (by have := popc_le s; omega) (by decide))), he]] at k
        exact k
      · skip
        refine go_aload_n 5 (nx := 45) dX6_parties_44 rfl rfl rfl ?_
        refine go_gf (nx := 48) fg_X6_26 dX6_parties_45 (by omega) hX rfl rfl ?_
        refine go_iload 1 (nx := 50) dX6_parties_48 rfl rfl ?_
        refine go_Vi (nx := 53) [_] kc_X6_185 ⟨_, _, rfl⟩ (by omega) hN (s_partyB (by omega) hNow rfl (by omega)) dX6_parties_50 rfl rfl (Nat.le_of_ble_eq_true rfl) (Nat.le_of_ble_eq_true rfl) ⟨Nat.le_refl _, Nat.le_refl _⟩ rfl (fun rh3 h3 hqh3 => ?_)
        obtain ⟨rfl, rfl⟩ := hqh3
        refine go_if_ne 59 (nx := 56) dX6_parties_53 rfl rfl (fun c53 => ?_) (fun c53 => ?_)
        · skip
          refine go_iinc 4 (v := nI (r.1 + 1)) (lv' := [_, _, _, _, _, _, _]) (nx := 62) dX6_parties_59 rfl (nI_inc _) (by decide) rfl rfl ?_
          refine go_iload 1 (nx := 64) dX6_parties_62 rfl rfl ?_
          refine go_iload 3 (nx := 66) dX6_parties_64 rfl rfl ?_
          refine go_icmp_le 76 (nx := 69) dX6_parties_66 rfl rfl (fun c66 => ?_) (fun c66 => ?_)
          · skip
            refine go_iinc 2 (v := nI (s + 1)) (lv' := [_, _, _, _, _, _, _]) (nx := 79) dX6_parties_76 rfl (nI_inc s) (by decide) rfl rfl ?_
            refine go_goto 19 dX6_parties_79 rfl ?_
            refine Go.sub [0, 3, 4, 1, 5, 6] rfl ?_
            have k := ih (s + 1) (by omega) (by omega)
            rw [show ptS ν.1 (s + 1) = (r.1 + 1, r.2.1, r.2.2) by
              simp only [ptS]
              rw [if_neg (by rw [tbn0 c53]; simp; exact knlt c41 (by have := popc_le s; omega) (by decide)), he, if_neg (by have := kle c66 (by have := popc_le s; omega) (by omega); omega), if_neg (by have := kle c66 (by have := popc_le s; omega) (by omega); omega)]] at k
            exact k
          · skip
            refine go_iload 1 (nx := 71) dX6_parties_69 rfl rfl ?_
            refine go_istore (lv' := [_, _, _, _, _, _, _]) (nx := 73) dX6_parties_71 (by decide) rfl rfl ?_
            refine go_iload 3 (nx := 75) dX6_parties_73 rfl rfl ?_
            refine go_istore_n (lv' := [_, _, _, _, _, _, _]) (nx := 76) dX6_parties_75 rfl (by decide) rfl rfl ?_
            refine go_iinc 4 (v := nI (s + 1)) (lv' := [_, _, _, _, _, _, _]) (nx := 79) dX6_parties_76 rfl (nI_inc s) (by decide) rfl rfl ?_
            refine go_goto 19 dX6_parties_79 rfl ?_
            refine Go.sub [0, 2, 1, 3, 5, 6] rfl ?_
            have k := ih (s + 1) (by omega) (by omega)
            rw [show ptS ν.1 (s + 1) = (r.1 + 1, s, popc s) by
              simp only [ptS]
              rw [if_neg (by rw [tbn0 c53]; simp; exact knlt c41 (by have := popc_le s; omega) (by decide)), he, if_pos (knle c66 (by have := popc_le s; omega) (by omega)), if_pos (knle c66 (by have := popc_le s; omega) (by omega))]] at k
            exact k
        · skip
          refine go_goto 76 dX6_parties_56 rfl ?_
          refine go_iinc 1 (v := nI (s + 1)) (lv' := [_, _, _, _, _, _, _]) (nx := 79) dX6_parties_76 rfl (nI_inc s) (by decide) rfl rfl ?_
          refine go_goto 19 dX6_parties_79 rfl ?_
          refine Go.sub [0, 2, 3, 4, 5, 6] rfl ?_
          have k := ih (s + 1) (by omega) (by omega)
          rw [show ptS ν.1 (s + 1) = r by simp only [ptS]; rw [if_pos (Or.inr (tb0 c53)), he]] at k
          exact k
theorem x_parties {G : kG} {n t sz : Nat} {h : kH} {tx : Nat → Nat} {ν : mN} {i0 i1 : Option mN} {T : mT} {tr : Int64} {x : Int32} (hn : 37 ≤ n) (H : oX G t (tx, sz, ν, i0, i1, T, tr) h) (W : wS (tx, sz, ν, i0, i1, T, tr)) : Spi G mX6_parties 2 [.ref (kb G + 0), .int x] n h (fun v h' => v = fParties T ν x ∧ h' = h) := by
  obtain ⟨ht, hX, hTx, hRd, hNow, hI0, hI1, hFt, hTo, hDr⟩ := id H
  have hX : h 0 = .inr (6, [.ref (kb G + 1), .ref (kb G + 3), .ref (kb G + 6), .ref (kb G + 11), .ref (kb G + 17), .ref (kb G + 23), .ref (kb G + t), .ref (kb G + (65 - t)), .long tr]) := hX
  have hTx : oText G tx sz h := hTx
  have hNow : oNow G 6 ν h := hNow
  have hI0 : oImg G 11 i0 h := hI0
  have hI1 : oImg G 17 i1 h := hI1
  have hTo : oTown G t T h := hTo
  obtain ⟨hwT, hwN, hY, hw0, hw1, hsz, htx⟩ := id W
  have hwT : wT T := hwT
  have hwN : wN T.1 ν := hwN
  have hY : ν.2.2.2.1 ≤ 99 := hY
  have hsz : sz ≤ 400 := hsz
  have hP8 := hwT.1
  obtain ⟨kn, ct, si, cr, ⟨hN, hkn, hct, hsi, hcr⟩, hK, hC, hS, hR⟩ := id hNow
  obtain ⟨tk, tc, ⟨hT, htk, htc⟩, hTk, hTc⟩ := id hTo
  refine Spi.of (by decide) (Nat.le_of_ble_eq_true rfl) ?_
  refine go_iload_n 1 (nx := 1) dX6_parties_0 rfl rfl rfl ?_
  refine go_Si (nx := 4) [_] kc_X6_161 s_isChoice dX6_parties_1 rfl rfl (Nat.le_of_ble_eq_true rfl) (Nat.le_of_ble_eq_true rfl) ⟨Nat.le_refl _, Nat.le_refl _⟩ rfl (fun rh1 h1 hqh1 => ?_)
  obtain ⟨rfl, rfl⟩ := hqh1
  refine go_if_ne 9 (nx := 7) dX6_parties_4 rfl rfl (fun c4 => ?_) (fun c4 => ?_)
  · skip
    refine go_iconst (v := nI 0) (nx := 10) dX6_parties_9 (by decide) rfl ?_
    refine go_istore_n (lv' := [_, _, _]) (nx := 11) dX6_parties_10 rfl (by decide) rfl rfl ?_
    refine go_iconst (v := nI 0) (nx := 12) dX6_parties_11 (by decide) rfl ?_
    refine go_istore_n (lv' := [_, _, _, _]) (nx := 13) dX6_parties_12 rfl (by decide) rfl rfl ?_
    refine go_iconst (v := nI 1) (nx := 14) dX6_parties_13 (by decide) rfl ?_
    refine go_istore (lv' := [_, _, _, _, _]) (nx := 16) dX6_parties_14 (by decide) rfl rfl ?_
    refine go_iconst (v := nI 0) (nx := 17) dX6_parties_16 (by decide) rfl ?_
    refine go_istore (lv' := [_, _, _, _, _, _]) (nx := 19) dX6_parties_17 (by decide) rfl rfl ?_
    refine Go.sub [0, 1, 2, 3, 4, 5] rfl ?_
    exact l_parties hn H W (tbn0 c4) (allB T.1 + 2) 0 (by omega) (by omega)
  · skip
    refine go_iconst (v := (-1)) (nx := 8) dX6_parties_7 (by decide) rfl ?_
    refine go_reti dX6_parties_8 ⟨_, rfl, rfl⟩ ?_
    rw [fParties, if_neg (by rw [tb0 c4]; decide)]
    exact ⟨rfl, rfl⟩
def inB (lo hi x : Int32) : Bool := decide (lo ≤ x) && decide (x ≤ hi)
def fReigns (T : mT) (ν : mN) (x : Int32) : Int32 := if inB 0 (nI 40) x = true then (if T.1 = 0 then -2 else nI (mWho T (mSp T (cl x) ν))) else -1
def fRing (T : mT) (ν : mN) : Int32 := if T.1 = 0 then -2 else rgF (mW T ν)
theorem x_reigns {G : kG} {n t sz : Nat} {h : kH} {tx : Nat → Nat} {ν : mN} {i0 i1 : Option mN} {T : mT} {tr : Int64} {x : Int32} (hn : 37 ≤ n) (H : oX G t (tx, sz, ν, i0, i1, T, tr) h) (W : wS (tx, sz, ν, i0, i1, T, tr)) : Spi G mX6_reigns 6 [.ref (kb G + 0), .int x] n h (fun v h' => v = fReigns T ν x ∧ oX G t (tx, sz, ν, i0, i1, T, tr) h' ∧ kFr 0 37 h h') := by
  obtain ⟨ht, hX, hTx, hRd, hNow, hI0, hI1, hFt, hTo, hDr⟩ := id H
  have hX : h 0 = .inr (6, [.ref (kb G + 1), .ref (kb G + 3), .ref (kb G + 6), .ref (kb G + 11), .ref (kb G + 17), .ref (kb G + 23), .ref (kb G + t), .ref (kb G + (65 - t)), .long tr]) := hX
  have hTx : oText G tx sz h := hTx
  have hNow : oNow G 6 ν h := hNow
  have hI0 : oImg G 11 i0 h := hI0
  have hI1 : oImg G 17 i1 h := hI1
  have hTo : oTown G t T h := hTo
  obtain ⟨hwT, hwN, hY, hw0, hw1, hsz, htx⟩ := id W
  have hwT : wT T := hwT
  have hwN : wN T.1 ν := hwN
  have hY : ν.2.2.2.1 ≤ 99 := hY
  have hsz : sz ≤ 400 := hsz
  have hP8 := hwT.1
  obtain ⟨kn, ct, si, cr, ⟨hN, hkn, hct, hsi, hcr⟩, hK, hC, hS, hR⟩ := id hNow
  obtain ⟨tk, tc, ⟨hT, htk, htc⟩, hTk, hTc⟩ := id hTo
  obtain ⟨⟨rw, fa, ru, HF⟩, HA⟩ := id hFt
  have HF : rFore G 23 rw fa ru h := HF
  have HA : aNow G (23 + 2) h := HA
  obtain ⟨hf, hrw, hru⟩ := id HF
  refine Spi.of (by decide) (Nat.le_of_ble_eq_true rfl) ?_
  refine go_iload_n 1 (nx := 1) dX6_reigns_0 rfl rfl rfl ?_
  refine go_if_lt 10 (nx := 4) dX6_reigns_1 rfl rfl (fun c1 => ?_) (fun c1 => ?_)
  · skip
    refine go_iconst (v := (-1)) (nx := 11) dX6_reigns_10 (by decide) rfl ?_
    refine go_reti dX6_reigns_11 ⟨_, rfl, rfl⟩ ?_
    rw [fReigns, if_neg (by simp [inB]; intro q; exact absurd q (Int32.not_le.mpr c1))]
    exact ⟨rfl, H, kFr.rf⟩
  · skip
    refine go_iload_n 1 (nx := 5) dX6_reigns_4 rfl rfl rfl ?_
    refine go_bipush (v := nI 40) (nx := 7) dX6_reigns_5 (by decide) rfl ?_
    refine go_icmp_le 12 (nx := 10) dX6_reigns_7 rfl rfl (fun c7 => ?_) (fun c7 => ?_)
    · skip
      obtain ⟨m, hm, rfl⟩ := nI_of c1
      have hm40 := kle c7
      refine go_aload_n 0 (nx := 13) dX6_reigns_12 rfl rfl rfl ?_
      refine go_gf (nx := 16) fg_X6_50 dX6_reigns_13 (by omega) hX rfl rfl ?_
      refine go_gf (nx := 19) fg_X6_120 dX6_reigns_16 (by omega) hT rfl rfl ?_
      refine go_if_ne 27 (nx := 22) dX6_reigns_19 rfl rfl (fun c19 => ?_) (fun c19 => ?_)
      · skip
        have z2 : ¬ T.1 = 0 := fun q => c19 (by rw [q]; rfl)
        refine go_aload_n 0 (nx := 28) dX6_reigns_27 rfl rfl rfl ?_
        refine go_gf (nx := 31) fg_X6_43 dX6_reigns_28 (by omega) hX rfl rfl ?_
        refine go_aload_n 0 (nx := 32) dX6_reigns_31 rfl rfl rfl ?_
        refine go_gf (nx := 35) fg_X6_50 dX6_reigns_32 (by omega) hX rfl rfl ?_
        refine go_aload_n 0 (nx := 36) dX6_reigns_35 rfl rfl rfl ?_
        refine go_gf (nx := 39) fg_X6_26 dX6_reigns_36 (by omega) hX rfl rfl ?_
        refine go_iload_n 1 (nx := 40) dX6_reigns_39 rfl rfl rfl ?_
        refine go_Vi (nx := 43) [_, _, _] kc_X6_153 ⟨_, _, rfl⟩ (by omega) hf (s_ahead (by omega) (by omega) (by omega) hwT hwN (by omega) (by omega) (by omega) rfl hm40 HF HA hNow hTo) dX6_reigns_40 rfl rfl (Nat.le_of_ble_eq_true rfl) (Nat.le_of_ble_eq_true rfl) ⟨Nat.le_refl _, Nat.le_refl _⟩ rfl (fun rh1 h1 hqh1 => ?_)
        obtain ⟨rfl, ⟨μ, hM⟩, hFh1⟩ := hqh1
        have H := H.setFt ⟨⟨rw, fa, ru, HF.fr hFh1 (by omega)⟩, aNow.of hM⟩ (hFh1.wide (by omega) (by omega))
        have hZ : kFr 0 37 _ h1 := hFh1.wide (by omega) (by omega)
        refine go_reti dX6_reigns_43 ⟨_, rfl, rfl⟩ ?_
        rw [fReigns, if_pos (by simp [inB]; exact ⟨Int32.not_lt.mp c1, c7⟩), if_neg z2, cl_nI (by omega)]
        exact ⟨rfl, H, hZ⟩
      · skip
        refine go_bipush (v := (-2)) (nx := 24) dX6_reigns_22 (by decide) rfl ?_
        refine go_goto 43 dX6_reigns_24 rfl ?_
        refine go_reti dX6_reigns_43 ⟨_, rfl, rfl⟩ ?_
        rw [fReigns, if_pos (by simp [inB]; exact ⟨Int32.not_lt.mp c1, c7⟩), if_pos (keq (b := 0) c19 (by omega) (by decide))]
        exact ⟨rfl, H, kFr.rf⟩
    · skip
      refine go_iconst (v := (-1)) (nx := 11) dX6_reigns_10 (by decide) rfl ?_
      refine go_reti dX6_reigns_11 ⟨_, rfl, rfl⟩ ?_
      rw [fReigns, if_neg (by simp [inB]; intro _; exact Int32.not_le.mp c7)]
      exact ⟨rfl, H, kFr.rf⟩
theorem x_ring {G : kG} {n t sz : Nat} {h : kH} {tx : Nat → Nat} {ν : mN} {i0 i1 : Option mN} {T : mT} {tr : Int64} (hn : 37 ≤ n) (H : oX G t (tx, sz, ν, i0, i1, T, tr) h) (W : wS (tx, sz, ν, i0, i1, T, tr)) : Spi G mX6_ring 6 [.ref (kb G + 0)] n h (fun v h' => v = fRing T ν ∧ oX G t (tx, sz, ν, i0, i1, T, tr) h' ∧ kFr 0 37 h h') := by
  obtain ⟨ht, hX, hTx, hRd, hNow, hI0, hI1, hFt, hTo, hDr⟩ := id H
  have hX : h 0 = .inr (6, [.ref (kb G + 1), .ref (kb G + 3), .ref (kb G + 6), .ref (kb G + 11), .ref (kb G + 17), .ref (kb G + 23), .ref (kb G + t), .ref (kb G + (65 - t)), .long tr]) := hX
  have hTx : oText G tx sz h := hTx
  have hNow : oNow G 6 ν h := hNow
  have hI0 : oImg G 11 i0 h := hI0
  have hI1 : oImg G 17 i1 h := hI1
  have hTo : oTown G t T h := hTo
  obtain ⟨hwT, hwN, hY, hw0, hw1, hsz, htx⟩ := id W
  have hwT : wT T := hwT
  have hwN : wN T.1 ν := hwN
  have hY : ν.2.2.2.1 ≤ 99 := hY
  have hsz : sz ≤ 400 := hsz
  have hP8 := hwT.1
  obtain ⟨kn, ct, si, cr, ⟨hN, hkn, hct, hsi, hcr⟩, hK, hC, hS, hR⟩ := id hNow
  obtain ⟨tk, tc, ⟨hT, htk, htc⟩, hTk, hTc⟩ := id hTo
  obtain ⟨⟨rw, fa, ru, HF⟩, HA⟩ := id hFt
  have HF : rFore G 23 rw fa ru h := HF
  have HA : aNow G (23 + 2) h := HA
  obtain ⟨hf, hrw, hru⟩ := id HF
  refine Spi.of (by decide) (Nat.le_of_ble_eq_true rfl) ?_
  refine go_aload_n 0 (nx := 1) dX6_ring_0 rfl rfl rfl ?_
  refine go_gf (nx := 4) fg_X6_50 dX6_ring_1 (by omega) hX rfl rfl ?_
  refine go_gf (nx := 7) fg_X6_120 dX6_ring_4 (by omega) hT rfl rfl ?_
  refine go_if_ne 15 (nx := 10) dX6_ring_7 rfl rfl (fun c7 => ?_) (fun c7 => ?_)
  · skip
    have z2 : ¬ T.1 = 0 := fun q => c7 (by rw [q]; rfl)
    refine go_aload_n 0 (nx := 16) dX6_ring_15 rfl rfl rfl ?_
    refine go_gf (nx := 19) fg_X6_43 dX6_ring_16 (by omega) hX rfl rfl ?_
    refine go_aload_n 0 (nx := 20) dX6_ring_19 rfl rfl rfl ?_
    refine go_gf (nx := 23) fg_X6_50 dX6_ring_20 (by omega) hX rfl rfl ?_
    refine go_aload_n 0 (nx := 24) dX6_ring_23 rfl rfl rfl ?_
    refine go_gf (nx := 27) fg_X6_26 dX6_ring_24 (by omega) hX rfl rfl ?_
    refine go_Vi (nx := 30) [_, _] kc_X6_157 ⟨_, _, rfl⟩ (by omega) hf (s_ring (by omega) (by omega) (by omega) hwT hwN (by omega) (by omega) (by omega) HF HA hNow hTo) dX6_ring_27 rfl rfl (Nat.le_of_ble_eq_true rfl) (Nat.le_of_ble_eq_true rfl) ⟨Nat.le_refl _, Nat.le_refl _⟩ rfl (fun rh1 h1 hqh1 => ?_)
    obtain ⟨rfl, hM, ⟨ru2, HF2⟩, hFh1⟩ := hqh1
    have H := H.setFt ⟨⟨rw, fa, ru2, HF2⟩, hM⟩ (hFh1.wide (by omega) (by omega))
    have hZ : kFr 0 37 _ h1 := hFh1.wide (by omega) (by omega)
    refine go_reti dX6_ring_30 ⟨_, rfl, rfl⟩ ?_
    rw [fRing, if_neg z2]
    exact ⟨rfl, H, hZ⟩
  · skip
    refine go_bipush (v := (-2)) (nx := 12) dX6_ring_10 (by decide) rfl ?_
    refine go_goto 30 dX6_ring_12 rfl ?_
    refine go_reti dX6_ring_30 ⟨_, rfl, rfl⟩ ?_
    rw [fRing, if_pos (keq (b := 0) c7 (by omega) (by decide))]
    exact ⟨rfl, H, kFr.rf⟩
theorem lt_of_ge3 {i : Int32} (h : ¬ i < nI 3) : nI 2 < i := by
  refine Int32.lt_iff_toInt_lt.mpr ?_
  have h1 := Int32.le_iff_toInt_le.mp (Int32.not_lt.mp h)
  rw [show (nI 3).toInt = 3 from rfl] at h1
  rw [show (nI 2).toInt = 2 from rfl]
  omega
theorem le_of_lt3 {i : Int32} (h : i < nI 3) : i ≤ nI 2 := by
  refine Int32.le_iff_toInt_le.mpr ?_
  have h1 := Int32.lt_iff_toInt_lt.mp h
  rw [show (nI 3).toInt = 3 from rfl] at h1
  rw [show (nI 2).toInt = 2 from rfl]
  omega
def fBrings (T : mT) (ν : mN) (x y i : Int32) : Int32 := if (perB T x && choB y && inB (-1) (nI 2) i) = true then (match mBr T ν.2.2.1 (cl x) (decide (y = nI 1)) ν.1 with | none => -9 | some L => if i < 0 then nI L.length else if i < nI L.length then nI (L.getD (cl i) 0) else -5) else -1
theorem x_brings {G : kG} {n t sz : Nat} {h : kH} {tx : Nat → Nat} {ν : mN} {i0 i1 : Option mN} {T : mT} {tr : Int64} {x y i : Int32} (hn : 37 ≤ n) (H : oX G t (tx, sz, ν, i0, i1, T, tr) h) (W : wS (tx, sz, ν, i0, i1, T, tr)) : Spi G mX6_brings 8 [.ref (kb G + 0), .int x, .int y, .int i] n h (fun v h' => v = fBrings T ν x y i ∧ oX G t (tx, sz, ν, i0, i1, T, tr) h' ∧ kFr 0 37 h h') := by
  obtain ⟨ht, hX, hTx, hRd, hNow, hI0, hI1, hFt, hTo, hDr⟩ := id H
  have hX : h 0 = .inr (6, [.ref (kb G + 1), .ref (kb G + 3), .ref (kb G + 6), .ref (kb G + 11), .ref (kb G + 17), .ref (kb G + 23), .ref (kb G + t), .ref (kb G + (65 - t)), .long tr]) := hX
  have hTx : oText G tx sz h := hTx
  have hNow : oNow G 6 ν h := hNow
  have hI0 : oImg G 11 i0 h := hI0
  have hI1 : oImg G 17 i1 h := hI1
  have hTo : oTown G t T h := hTo
  obtain ⟨hwT, hwN, hY, hw0, hw1, hsz, htx⟩ := id W
  have hwT : wT T := hwT
  have hwN : wN T.1 ν := hwN
  have hY : ν.2.2.2.1 ≤ 99 := hY
  have hsz : sz ≤ 400 := hsz
  have hP8 := hwT.1
  obtain ⟨kn, ct, si, cr, ⟨hN, hkn, hct, hsi, hcr⟩, hK, hC, hS, hR⟩ := id hNow
  obtain ⟨tk, tc, ⟨hT, htk, htc⟩, hTk, hTc⟩ := id hTo
  obtain ⟨⟨rw, fa, ru, HF⟩, HA⟩ := id hFt
  have HF : rFore G 23 rw fa ru h := HF
  have HA : aNow G (23 + 2) h := HA
  obtain ⟨hf, hrw, hru⟩ := id HF
  refine Spi.of (by decide) (Nat.le_of_ble_eq_true rfl) ?_
  refine Go.loc (lv' := [(0, _), (1, _), (2, _), (3, _)]) rfl ?_
  refine go_aload_n 0 (nx := 1) dX6_brings_0 rfl rfl rfl ?_
  refine go_iload_n 1 (nx := 2) dX6_brings_1 rfl rfl rfl ?_
  refine go_Vi (nx := 5) [_] kc_X6_89 ⟨_, _, rfl⟩ (by omega) hX (s_isPerson hn H W) dX6_brings_2 rfl rfl (Nat.le_of_ble_eq_true rfl) (Nat.le_of_ble_eq_true rfl) ⟨Nat.le_refl _, Nat.le_refl _⟩ rfl (fun rh1 h1 hqh1 => ?_)
  obtain ⟨rfl, rfl⟩ := hqh1
  refine go_if_eq 25 (nx := 8) dX6_brings_5 rfl rfl (fun c5 => ?_) (fun c5 => ?_)
  · skip
    refine go_iconst (v := (-1)) (nx := 26) dX6_brings_25 (by decide) rfl ?_
    refine go_reti dX6_brings_26 ⟨_, rfl, rfl⟩ ?_
    rw [fBrings, if_neg (by rw [tb0 c5]; simp)]
    exact ⟨rfl, H, kFr.rf⟩
  · skip
    refine go_iload_n 2 (nx := 9) dX6_brings_8 rfl rfl rfl ?_
    refine go_Si (nx := 12) [_] kc_X6_161 s_isChoice dX6_brings_9 rfl rfl (Nat.le_of_ble_eq_true rfl) (Nat.le_of_ble_eq_true rfl) ⟨Nat.le_refl _, Nat.le_refl _⟩ rfl (fun rh2 h2 hqh2 => ?_)
    obtain ⟨rfl, rfl⟩ := hqh2
    refine go_if_eq 25 (nx := 15) dX6_brings_12 rfl rfl (fun c12 => ?_) (fun c12 => ?_)
    · skip
      refine go_iconst (v := (-1)) (nx := 26) dX6_brings_25 (by decide) rfl ?_
      refine go_reti dX6_brings_26 ⟨_, rfl, rfl⟩ ?_
      rw [fBrings, if_neg (by rw [tb0 c12]; simp)]
      exact ⟨rfl, H, kFr.rf⟩
    · skip
      refine go_iload_n 3 (nx := 16) dX6_brings_15 rfl rfl rfl ?_
      refine go_iconst (v := (-1)) (nx := 17) dX6_brings_16 (by decide) rfl ?_
      refine go_icmp_lt 25 (nx := 20) dX6_brings_17 rfl rfl (fun c17 => ?_) (fun c17 => ?_)
      · skip
        refine go_iconst (v := (-1)) (nx := 26) dX6_brings_25 (by decide) rfl ?_
        refine go_reti dX6_brings_26 ⟨_, rfl, rfl⟩ ?_
        rw [fBrings, if_neg (by rw [show inB (-1) (nI 2) i = false by simp [inB]; intro q; exact absurd q (Int32.not_le.mpr c17)]; simp)]
        exact ⟨rfl, H, kFr.rf⟩
      · skip
        refine go_iload_n 3 (nx := 21) dX6_brings_20 rfl rfl rfl ?_
        refine go_iconst (v := nI 3) (nx := 22) dX6_brings_21 (by decide) rfl ?_
        refine go_icmp_lt 27 (nx := 25) dX6_brings_22 rfl rfl (fun c22 => ?_) (fun c22 => ?_)
        · skip
          obtain ⟨p, hp, rfl⟩ := per_of hP8 (tbn0 c5)
          have hib : inB (-1) (nI 2) i = true := by simp [inB]; exact ⟨Int32.not_lt.mp c17, le_of_lt3 c22⟩
          refine go_aload_n 0 (nx := 28) dX6_brings_27 rfl rfl rfl ?_
          refine go_gf (nx := 31) fg_X6_43 dX6_brings_28 (by omega) hX rfl rfl ?_
          refine go_aload_n 0 (nx := 32) dX6_brings_31 rfl rfl rfl ?_
          refine go_gf (nx := 35) fg_X6_50 dX6_brings_32 (by omega) hX rfl rfl ?_
          refine go_aload_n 0 (nx := 36) dX6_brings_35 rfl rfl rfl ?_
          refine go_gf (nx := 39) fg_X6_26 dX6_brings_36 (by omega) hX rfl rfl ?_
          refine go_iload_n 1 (nx := 40) dX6_brings_39 rfl rfl rfl ?_
          refine go_iload_n 2 (nx := 41) dX6_brings_40 rfl rfl rfl ?_
          refine go_iconst (v := nI 1) (nx := 42) dX6_brings_41 (by decide) rfl ?_
          refine go_icmp_ne 49 (nx := 45) dX6_brings_42 rfl rfl (fun c42 => ?_) (fun c42 => ?_)
          · skip
            refine go_iconst (v := nI 0) (nx := 50) dX6_brings_49 (by decide) rfl ?_
            refine go_Vi (nx := 53) [_, _, _, _] kc_X6_164 ⟨_, _, rfl⟩ (by omega) hf (s_few (wd := false) (by omega) (by omega) (by omega) hwT hp hwN.1 (by omega) (by omega) HF HA hNow hTo rfl rfl) dX6_brings_50 rfl rfl (Nat.le_of_ble_eq_true rfl) (Nat.le_of_ble_eq_true rfl) ⟨Nat.le_refl _, Nat.le_refl _⟩ rfl (fun rh3 h3 hqh3 => ?_)
            obtain ⟨rfl, hM, ⟨rw2, HF2, hL⟩, hFh3⟩ := hqh3
            have H := H.setFt ⟨⟨rw2, fa, ru, HF2⟩, hM⟩ (hFh3.wide (by omega) (by omega))
            have hZ : kFr 0 37 _ h3 := hFh3.wide (by omega) (by omega)
            have hX := (hFh3 0 (by omega)).trans hX
            obtain ⟨hf, hrw, hru⟩ := id HF2
            have eb : (perB T (nI p) && choB y && inB (-1) (nI 2) i) = true := by rw [tbn0 c5, tbn0 c12, hib]; rfl
            refine go_istore (lv' := [_, _, _, _, _]) (nx := 55) dX6_brings_53 (by decide) rfl rfl ?_
            refine go_iload 0 (nx := 57) dX6_brings_55 rfl rfl ?_
            refine go_if_ge 63 (nx := 60) dX6_brings_57 rfl rfl (fun c57 => ?_) (fun c57 => ?_)
            · skip
              refine go_iload_n 4 (nx := 64) dX6_brings_63 rfl rfl rfl ?_
              refine go_if_ge 70 (nx := 67) dX6_brings_64 rfl rfl (fun c64 => ?_) (fun c64 => ?_)
              · skip
                refine go_iload_n 4 (nx := 71) dX6_brings_70 rfl rfl rfl ?_
                refine go_iload 0 (nx := 73) dX6_brings_71 rfl rfl ?_
                refine go_icmp_ge 90 (nx := 76) dX6_brings_73 rfl rfl (fun c73 => ?_) (fun c73 => ?_)
                · skip
                  refine go_bipush (v := (-5)) (nx := 92) dX6_brings_90 (by decide) rfl ?_
                  refine go_reti dX6_brings_92 ⟨_, rfl, rfl⟩ ?_
                  rw [fBrings, if_pos eb, cl_nI (by omega), show decide (y = nI 1) = false from decide_eq_false c42]
                  cases e : mBr T ν.2.2.1 p false ν.1 with
                  | none => rw [e] at c57; exact absurd c57 (by decide)
                  | some L =>
                    obtain ⟨hL3, hLi⟩ := hL L e
                    refine ⟨?_, H, hZ⟩
                    have c73 : nI L.length ≤ i := by rw [e] at c73; exact c73
                    show -5 = (if i < 0 then nI L.length else if i < nI L.length then _ else -5)
                    rw [if_neg (Int32.not_lt.mpr c64), if_neg (Int32.not_lt.mpr c73)]
                · skip
                  refine go_aload_n 1 (nx := 77) dX6_brings_76 rfl rfl rfl ?_
                  refine go_gf (nx := 80) fg_X6_43 dX6_brings_77 (by omega) hX rfl rfl ?_
                  refine go_gf (nx := 83) fg_X6_168 dX6_brings_80 (by omega) hf rfl rfl ?_
                  refine go_iload_n 4 (nx := 84) dX6_brings_83 rfl rfl rfl ?_
                  refine go_Si (nx := 87) [_, _] kc_X6_97 (s_at (by omega) hrw (by omega)) dX6_brings_84 rfl rfl (Nat.le_of_ble_eq_true rfl) (Nat.le_of_ble_eq_true rfl) ⟨Nat.le_refl _, Nat.le_refl _⟩ rfl (fun rh4 h4 hqh4 => ?_)
                  obtain ⟨rfl, rfl⟩ := hqh4
                  refine go_goto 92 dX6_brings_87 rfl ?_
                  refine go_reti dX6_brings_92 ⟨_, rfl, rfl⟩ ?_
                  rw [fBrings, if_pos eb, cl_nI (by omega), show decide (y = nI 1) = false from decide_eq_false c42]
                  cases e : mBr T ν.2.2.1 p false ν.1 with
                  | none => rw [e] at c57; exact absurd c57 (by decide)
                  | some L =>
                    obtain ⟨hL3, hLi⟩ := hL L e
                    refine ⟨?_, H, hZ⟩
                    have c73 : ¬ nI L.length ≤ i := by rw [e] at c73; exact c73
                    obtain ⟨j, hj, rfl⟩ := nI_of (Int32.not_lt.mpr c64)
                    have hjl := knle c73
                    show _ = (if nI j < 0 then nI L.length else if nI j < nI L.length then nI (L.getD (cl (nI j)) 0) else -5)
                    rw [if_neg (nI_pos (by omega)), if_pos (nI_lt hjl (by omega)), cl_nI (by omega), atF_in (by omega) (by omega), hLi j hjl]
              · skip
                refine go_iload 0 (nx := 69) dX6_brings_67 rfl rfl ?_
                refine go_reti dX6_brings_69 ⟨_, rfl, rfl⟩ ?_
                rw [fBrings, if_pos eb, cl_nI (by omega), show decide (y = nI 1) = false from decide_eq_false c42]
                cases e : mBr T ν.2.2.1 p false ν.1 with
                | none => rw [e] at c57; exact absurd c57 (by decide)
                | some L =>
                  obtain ⟨hL3, hLi⟩ := hL L e
                  refine ⟨?_, H, hZ⟩
                  show nI L.length = (if i < 0 then nI L.length else _)
                  rw [if_pos (Int32.not_le.mp c64)]
            · skip
              refine go_bipush (v := (-9)) (nx := 62) dX6_brings_60 (by decide) rfl ?_
              refine go_reti dX6_brings_62 ⟨_, rfl, rfl⟩ ?_
              rw [fBrings, if_pos eb, cl_nI (by omega), show decide (y = nI 1) = false from decide_eq_false c42]
              cases e : mBr T ν.2.2.1 p false ν.1 with
              | none => exact ⟨rfl, H, hZ⟩
              | some L => rw [e] at c57; exact absurd (by exact nI_pos' (by have := (hL L e).1; omega)) c57
          · skip
            refine go_iconst (v := nI 1) (nx := 46) dX6_brings_45 (by decide) rfl ?_
            refine go_goto 50 dX6_brings_46 rfl ?_
            refine go_Vi (nx := 53) [_, _, _, _] kc_X6_164 ⟨_, _, rfl⟩ (by omega) hf (s_few (wd := true) (by omega) (by omega) (by omega) hwT hp hwN.1 (by omega) (by omega) HF HA hNow hTo rfl rfl) dX6_brings_50 rfl rfl (Nat.le_of_ble_eq_true rfl) (Nat.le_of_ble_eq_true rfl) ⟨Nat.le_refl _, Nat.le_refl _⟩ rfl (fun rh3 h3 hqh3 => ?_)
            obtain ⟨rfl, hM, ⟨rw2, HF2, hL⟩, hFh3⟩ := hqh3
            have H := H.setFt ⟨⟨rw2, fa, ru, HF2⟩, hM⟩ (hFh3.wide (by omega) (by omega))
            have hZ : kFr 0 37 _ h3 := hFh3.wide (by omega) (by omega)
            have hX := (hFh3 0 (by omega)).trans hX
            obtain ⟨hf, hrw, hru⟩ := id HF2
            have eb : (perB T (nI p) && choB y && inB (-1) (nI 2) i) = true := by rw [tbn0 c5, tbn0 c12, hib]; rfl
            refine go_istore (lv' := [_, _, _, _, _]) (nx := 55) dX6_brings_53 (by decide) rfl rfl ?_
            refine go_iload 0 (nx := 57) dX6_brings_55 rfl rfl ?_
            refine go_if_ge 63 (nx := 60) dX6_brings_57 rfl rfl (fun c57 => ?_) (fun c57 => ?_)
            · skip
              refine go_iload_n 4 (nx := 64) dX6_brings_63 rfl rfl rfl ?_
              refine go_if_ge 70 (nx := 67) dX6_brings_64 rfl rfl (fun c64 => ?_) (fun c64 => ?_)
              · skip
                refine go_iload_n 4 (nx := 71) dX6_brings_70 rfl rfl rfl ?_
                refine go_iload 0 (nx := 73) dX6_brings_71 rfl rfl ?_
                refine go_icmp_ge 90 (nx := 76) dX6_brings_73 rfl rfl (fun c73 => ?_) (fun c73 => ?_)
                · skip
                  refine go_bipush (v := (-5)) (nx := 92) dX6_brings_90 (by decide) rfl ?_
                  refine go_reti dX6_brings_92 ⟨_, rfl, rfl⟩ ?_
                  rw [fBrings, if_pos eb, cl_nI (by omega), show decide (y = nI 1) = true from decide_eq_true c42]
                  cases e : mBr T ν.2.2.1 p true ν.1 with
                  | none => rw [e] at c57; exact absurd c57 (by decide)
                  | some L =>
                    obtain ⟨hL3, hLi⟩ := hL L e
                    refine ⟨?_, H, hZ⟩
                    have c73 : nI L.length ≤ i := by rw [e] at c73; exact c73
                    show -5 = (if i < 0 then nI L.length else if i < nI L.length then _ else -5)
                    rw [if_neg (Int32.not_lt.mpr c64), if_neg (Int32.not_lt.mpr c73)]
                · skip
                  refine go_aload_n 1 (nx := 77) dX6_brings_76 rfl rfl rfl ?_
                  refine go_gf (nx := 80) fg_X6_43 dX6_brings_77 (by omega) hX rfl rfl ?_
                  refine go_gf (nx := 83) fg_X6_168 dX6_brings_80 (by omega) hf rfl rfl ?_
                  refine go_iload_n 4 (nx := 84) dX6_brings_83 rfl rfl rfl ?_
                  refine go_Si (nx := 87) [_, _] kc_X6_97 (s_at (by omega) hrw (by omega)) dX6_brings_84 rfl rfl (Nat.le_of_ble_eq_true rfl) (Nat.le_of_ble_eq_true rfl) ⟨Nat.le_refl _, Nat.le_refl _⟩ rfl (fun rh4 h4 hqh4 => ?_)
                  obtain ⟨rfl, rfl⟩ := hqh4
                  refine go_goto 92 dX6_brings_87 rfl ?_
                  refine go_reti dX6_brings_92 ⟨_, rfl, rfl⟩ ?_
                  rw [fBrings, if_pos eb, cl_nI (by omega), show decide (y = nI 1) = true from decide_eq_true c42]
                  cases e : mBr T ν.2.2.1 p true ν.1 with
                  | none => rw [e] at c57; exact absurd c57 (by decide)
                  | some L =>
                    obtain ⟨hL3, hLi⟩ := hL L e
                    refine ⟨?_, H, hZ⟩
                    have c73 : ¬ nI L.length ≤ i := by rw [e] at c73; exact c73
                    obtain ⟨j, hj, rfl⟩ := nI_of (Int32.not_lt.mpr c64)
                    have hjl := knle c73
                    show _ = (if nI j < 0 then nI L.length else if nI j < nI L.length then nI (L.getD (cl (nI j)) 0) else -5)
                    rw [if_neg (nI_pos (by omega)), if_pos (nI_lt hjl (by omega)), cl_nI (by omega), atF_in (by omega) (by omega), hLi j hjl]
              · skip
                refine go_iload 0 (nx := 69) dX6_brings_67 rfl rfl ?_
                refine go_reti dX6_brings_69 ⟨_, rfl, rfl⟩ ?_
                rw [fBrings, if_pos eb, cl_nI (by omega), show decide (y = nI 1) = true from decide_eq_true c42]
                cases e : mBr T ν.2.2.1 p true ν.1 with
                | none => rw [e] at c57; exact absurd c57 (by decide)
                | some L =>
                  obtain ⟨hL3, hLi⟩ := hL L e
                  refine ⟨?_, H, hZ⟩
                  show nI L.length = (if i < 0 then nI L.length else _)
                  rw [if_pos (Int32.not_le.mp c64)]
            · skip
              refine go_bipush (v := (-9)) (nx := 62) dX6_brings_60 (by decide) rfl ?_
              refine go_reti dX6_brings_62 ⟨_, rfl, rfl⟩ ?_
              rw [fBrings, if_pos eb, cl_nI (by omega), show decide (y = nI 1) = true from decide_eq_true c42]
              cases e : mBr T ν.2.2.1 p true ν.1 with
              | none => exact ⟨rfl, H, hZ⟩
              | some L => rw [e] at c57; exact absurd (by exact nI_pos' (by have := (hL L e).1; omega)) c57
        · skip
          refine go_iconst (v := (-1)) (nx := 26) dX6_brings_25 (by decide) rfl ?_
          refine go_reti dX6_brings_26 ⟨_, rfl, rfl⟩ ?_
          rw [fBrings, if_neg (by rw [show inB (-1) (nI 2) i = false by simp [inB]; intro _; exact lt_of_ge3 c22]; simp)]
          exact ⟨rfl, H, kFr.rf⟩
def fDays (T : mT) (ν : mN) (k f w a : Int32) : Int32 := if (inB (nI 1) (nI 3) k && perB T f && choB w && choB a) = true then (if a = nI 0 then actI (-9) (oc T ν.2.2.1 (cl f) (decide (w = nI 1)) (cl k) 0 ν.1).2 else nI (oc T ν.2.2.1 (cl f) (decide (w = nI 1)) (cl k) 0 ν.1).1) else -1
theorem x_days {G : kG} {n t sz : Nat} {h : kH} {tx : Nat → Nat} {ν : mN} {i0 i1 : Option mN} {T : mT} {tr : Int64} {x y z a : Int32} (hn : 37 ≤ n) (H : oX G t (tx, sz, ν, i0, i1, T, tr) h) (W : wS (tx, sz, ν, i0, i1, T, tr)) : Spi G mX6_days 8 [.ref (kb G + 0), .int x, .int y, .int z, .int a] n h (fun v h' => v = fDays T ν x y z a ∧ oX G t (tx, sz, ν, i0, i1, T, tr) h' ∧ kFr 0 37 h h') := by
  obtain ⟨ht, hX, hTx, hRd, hNow, hI0, hI1, hFt, hTo, hDr⟩ := id H
  have hX : h 0 = .inr (6, [.ref (kb G + 1), .ref (kb G + 3), .ref (kb G + 6), .ref (kb G + 11), .ref (kb G + 17), .ref (kb G + 23), .ref (kb G + t), .ref (kb G + (65 - t)), .long tr]) := hX
  have hTx : oText G tx sz h := hTx
  have hNow : oNow G 6 ν h := hNow
  have hI0 : oImg G 11 i0 h := hI0
  have hI1 : oImg G 17 i1 h := hI1
  have hTo : oTown G t T h := hTo
  obtain ⟨hwT, hwN, hY, hw0, hw1, hsz, htx⟩ := id W
  have hwT : wT T := hwT
  have hwN : wN T.1 ν := hwN
  have hY : ν.2.2.2.1 ≤ 99 := hY
  have hsz : sz ≤ 400 := hsz
  have hP8 := hwT.1
  obtain ⟨kn, ct, si, cr, ⟨hN, hkn, hct, hsi, hcr⟩, hK, hC, hS, hR⟩ := id hNow
  obtain ⟨tk, tc, ⟨hT, htk, htc⟩, hTk, hTc⟩ := id hTo
  obtain ⟨⟨rw, fa, ru, HF⟩, HA⟩ := id hFt
  have HF : rFore G 23 rw fa ru h := HF
  have HA : aNow G (23 + 2) h := HA
  obtain ⟨hf, hrw, hru⟩ := id HF
  refine Spi.of (by decide) (Nat.le_of_ble_eq_true rfl) ?_
  refine Go.loc (lv' := [(0, _), (1, _), (2, _), (3, _), (4, _)]) rfl ?_
  refine go_iload_n 1 (nx := 1) dX6_days_0 rfl rfl rfl ?_
  refine go_iconst (v := nI 1) (nx := 2) dX6_days_1 (by decide) rfl ?_
  refine go_icmp_lt 33 (nx := 5) dX6_days_2 rfl rfl (fun c2 => ?_) (fun c2 => ?_)
  · skip
    refine go_iconst (v := (-1)) (nx := 34) dX6_days_33 (by decide) rfl ?_
    refine go_reti dX6_days_34 ⟨_, rfl, rfl⟩ ?_
    rw [fDays, if_neg (by rw [show inB (nI 1) (nI 3) x = false by simp [inB]; intro q; exact absurd q (Int32.not_le.mpr c2)]; simp)]
    exact ⟨rfl, H, kFr.rf⟩
  · skip
    refine go_iload_n 1 (nx := 6) dX6_days_5 rfl rfl rfl ?_
    refine go_iconst (v := nI 3) (nx := 7) dX6_days_6 (by decide) rfl ?_
    refine go_icmp_gt 33 (nx := 10) dX6_days_7 rfl rfl (fun c7 => ?_) (fun c7 => ?_)
    · skip
      refine go_iconst (v := (-1)) (nx := 34) dX6_days_33 (by decide) rfl ?_
      refine go_reti dX6_days_34 ⟨_, rfl, rfl⟩ ?_
      rw [fDays, if_neg (by rw [show inB (nI 1) (nI 3) x = false by simp [inB]; intro _; exact c7]; simp)]
      exact ⟨rfl, H, kFr.rf⟩
    · skip
      refine go_aload_n 0 (nx := 11) dX6_days_10 rfl rfl rfl ?_
      refine go_iload_n 2 (nx := 12) dX6_days_11 rfl rfl rfl ?_
      refine go_Vi (nx := 15) [_] kc_X6_89 ⟨_, _, rfl⟩ (by omega) hX (s_isPerson hn H W) dX6_days_12 rfl rfl (Nat.le_of_ble_eq_true rfl) (Nat.le_of_ble_eq_true rfl) ⟨Nat.le_refl _, Nat.le_refl _⟩ rfl (fun rh1 h1 hqh1 => ?_)
      obtain ⟨rfl, rfl⟩ := hqh1
      refine go_if_eq 33 (nx := 18) dX6_days_15 rfl rfl (fun c15 => ?_) (fun c15 => ?_)
      · skip
        refine go_iconst (v := (-1)) (nx := 34) dX6_days_33 (by decide) rfl ?_
        refine go_reti dX6_days_34 ⟨_, rfl, rfl⟩ ?_
        rw [fDays, if_neg (by rw [tb0 c15]; simp)]
        exact ⟨rfl, H, kFr.rf⟩
      · skip
        refine go_iload_n 3 (nx := 19) dX6_days_18 rfl rfl rfl ?_
        refine go_Si (nx := 22) [_] kc_X6_161 s_isChoice dX6_days_19 rfl rfl (Nat.le_of_ble_eq_true rfl) (Nat.le_of_ble_eq_true rfl) ⟨Nat.le_refl _, Nat.le_refl _⟩ rfl (fun rh2 h2 hqh2 => ?_)
        obtain ⟨rfl, rfl⟩ := hqh2
        refine go_if_eq 33 (nx := 25) dX6_days_22 rfl rfl (fun c22 => ?_) (fun c22 => ?_)
        · skip
          refine go_iconst (v := (-1)) (nx := 34) dX6_days_33 (by decide) rfl ?_
          refine go_reti dX6_days_34 ⟨_, rfl, rfl⟩ ?_
          rw [fDays, if_neg (by rw [tb0 c22]; simp)]
          exact ⟨rfl, H, kFr.rf⟩
        · skip
          refine go_iload 4 (nx := 27) dX6_days_25 rfl rfl ?_
          refine go_Si (nx := 30) [_] kc_X6_161 s_isChoice dX6_days_27 rfl rfl (Nat.le_of_ble_eq_true rfl) (Nat.le_of_ble_eq_true rfl) ⟨Nat.le_refl _, Nat.le_refl _⟩ rfl (fun rh3 h3 hqh3 => ?_)
          obtain ⟨rfl, rfl⟩ := hqh3
          refine go_if_ne 35 (nx := 33) dX6_days_30 rfl rfl (fun c30 => ?_) (fun c30 => ?_)
          · skip
            obtain ⟨p, hp, rfl⟩ := per_of hP8 (tbn0 c15)
            obtain ⟨k, hk1, hkk, rfl⟩ := ge1_of c2
            have hk3 := knlt c7
            have hkb : inB (nI 1) (nI 3) (nI k) = true := by simp [inB]; exact ⟨nI_le hk1 (by omega), nI_le hk3 (by omega)⟩
            refine go_aload_n 0 (nx := 36) dX6_days_35 rfl rfl rfl ?_
            refine go_gf (nx := 39) fg_X6_43 dX6_days_36 (by omega) hX rfl rfl ?_
            refine go_aload_n 0 (nx := 40) dX6_days_39 rfl rfl rfl ?_
            refine go_gf (nx := 43) fg_X6_50 dX6_days_40 (by omega) hX rfl rfl ?_
            refine go_aload_n 0 (nx := 44) dX6_days_43 rfl rfl rfl ?_
            refine go_gf (nx := 47) fg_X6_26 dX6_days_44 (by omega) hX rfl rfl ?_
            refine go_iload_n 1 (nx := 48) dX6_days_47 rfl rfl rfl ?_
            refine go_iload_n 2 (nx := 49) dX6_days_48 rfl rfl rfl ?_
            refine go_iload_n 3 (nx := 50) dX6_days_49 rfl rfl rfl ?_
            refine go_iconst (v := nI 1) (nx := 51) dX6_days_50 (by decide) rfl ?_
            refine go_icmp_ne 58 (nx := 54) dX6_days_51 rfl rfl (fun c51 => ?_) (fun c51 => ?_)
            · skip
              refine go_iconst (v := nI 0) (nx := 59) dX6_days_58 (by decide) rfl ?_
              refine go_Vi (nx := 62) [_, _, _, _, _] kc_X6_171 ⟨_, _, rfl⟩ (by omega) hf (s_lastDays (wd := false) (by omega) (by omega) (by omega) hwT hp hwN.1 hk3 hk1 (by omega) (by omega) HF HA hNow hTo rfl rfl rfl) dX6_days_59 rfl rfl (Nat.le_of_ble_eq_true rfl) (Nat.le_of_ble_eq_true rfl) ⟨Nat.le_refl _, Nat.le_refl _⟩ rfl (fun rh4 h4 hqh4 => ?_)
              obtain ⟨rfl, hM, HF2, hFh4⟩ := hqh4
              have H := H.setFt ⟨⟨_, _, _, HF2⟩, hM⟩ (hFh4.wide (by omega) (by omega))
              have hZ : kFr 0 37 _ h4 := hFh4.wide (by omega) (by omega)
              have hX := (hFh4 0 (by omega)).trans hX
              obtain ⟨hf, hrw, hru⟩ := id HF2
              have eb : (inB (nI 1) (nI 3) (nI k) && perB T (nI p) && choB z && choB a) = true := by rw [hkb, tbn0 c15, tbn0 c22, tbn0 c30]; rfl
              refine go_istore (lv' := [_, _, _, _, _, _]) (nx := 64) dX6_days_62 (by decide) rfl rfl ?_
              refine go_iload 5 (nx := 66) dX6_days_64 rfl rfl ?_
              refine go_if_ne 79 (nx := 69) dX6_days_66 rfl rfl (fun c66 => ?_) (fun c66 => ?_)
              · skip
                refine go_iload 0 (nx := 81) dX6_days_79 rfl rfl ?_
                refine go_reti dX6_days_81 ⟨_, rfl, rfl⟩ ?_
                rw [fDays, if_pos eb, if_neg (fun q => c66 (by rw [q]; rfl)), cl_nI (by omega), cl_nI (by omega), show decide (z = nI 1) = false from decide_eq_false c51]
                exact ⟨rfl, H, hZ⟩
              · skip
                refine go_aload_n 1 (nx := 70) dX6_days_69 rfl rfl rfl ?_
                refine go_gf (nx := 73) fg_X6_43 dX6_days_70 (by omega) hX rfl rfl ?_
                refine go_gf (nx := 76) fg_X6_175 dX6_days_73 (by omega) hf rfl rfl ?_
                refine go_goto 81 dX6_days_76 rfl ?_
                refine go_reti dX6_days_81 ⟨_, rfl, rfl⟩ ?_
                rw [fDays, if_pos eb, if_pos (show a = nI 0 from c66), cl_nI (by omega), cl_nI (by omega), show decide (z = nI 1) = false from decide_eq_false c51]
                exact ⟨rfl, H, hZ⟩
            · skip
              refine go_iconst (v := nI 1) (nx := 55) dX6_days_54 (by decide) rfl ?_
              refine go_goto 59 dX6_days_55 rfl ?_
              refine go_Vi (nx := 62) [_, _, _, _, _] kc_X6_171 ⟨_, _, rfl⟩ (by omega) hf (s_lastDays (wd := true) (by omega) (by omega) (by omega) hwT hp hwN.1 hk3 hk1 (by omega) (by omega) HF HA hNow hTo rfl rfl rfl) dX6_days_59 rfl rfl (Nat.le_of_ble_eq_true rfl) (Nat.le_of_ble_eq_true rfl) ⟨Nat.le_refl _, Nat.le_refl _⟩ rfl (fun rh4 h4 hqh4 => ?_)
              obtain ⟨rfl, hM, HF2, hFh4⟩ := hqh4
              have H := H.setFt ⟨⟨_, _, _, HF2⟩, hM⟩ (hFh4.wide (by omega) (by omega))
              have hZ : kFr 0 37 _ h4 := hFh4.wide (by omega) (by omega)
              have hX := (hFh4 0 (by omega)).trans hX
              obtain ⟨hf, hrw, hru⟩ := id HF2
              have eb : (inB (nI 1) (nI 3) (nI k) && perB T (nI p) && choB z && choB a) = true := by rw [hkb, tbn0 c15, tbn0 c22, tbn0 c30]; rfl
              refine go_istore (lv' := [_, _, _, _, _, _]) (nx := 64) dX6_days_62 (by decide) rfl rfl ?_
              refine go_iload 5 (nx := 66) dX6_days_64 rfl rfl ?_
              refine go_if_ne 79 (nx := 69) dX6_days_66 rfl rfl (fun c66 => ?_) (fun c66 => ?_)
              · skip
                refine go_iload 0 (nx := 81) dX6_days_79 rfl rfl ?_
                refine go_reti dX6_days_81 ⟨_, rfl, rfl⟩ ?_
                rw [fDays, if_pos eb, if_neg (fun q => c66 (by rw [q]; rfl)), cl_nI (by omega), cl_nI (by omega), show decide (z = nI 1) = true from decide_eq_true c51]
                exact ⟨rfl, H, hZ⟩
              · skip
                refine go_aload_n 1 (nx := 70) dX6_days_69 rfl rfl rfl ?_
                refine go_gf (nx := 73) fg_X6_43 dX6_days_70 (by omega) hX rfl rfl ?_
                refine go_gf (nx := 76) fg_X6_175 dX6_days_73 (by omega) hf rfl rfl ?_
                refine go_goto 81 dX6_days_76 rfl ?_
                refine go_reti dX6_days_81 ⟨_, rfl, rfl⟩ ?_
                rw [fDays, if_pos eb, if_pos (show a = nI 0 from c66), cl_nI (by omega), cl_nI (by omega), show decide (z = nI 1) = true from decide_eq_true c51]
                exact ⟨rfl, H, hZ⟩
          · skip
            refine go_iconst (v := (-1)) (nx := 34) dX6_days_33 (by decide) rfl ?_
            refine go_reti dX6_days_34 ⟨_, rfl, rfl⟩ ?_
            rw [fDays, if_neg (by rw [tb0 c30]; simp)]
            exact ⟨rfl, H, kFr.rf⟩
