/-! LeastKnown: the text, years, kinds -/
theorem ge1_of {x : Int32} (h : ¬ x < nI 1) : ∃ m, 1 ≤ m ∧ m < 2 ^ 31 ∧ x = nI m := by
  have h1 : ¬ x < 0 := fun q => h (by
    have q2 := Int32.lt_iff_toInt_lt.mp q
    refine Int32.lt_iff_toInt_lt.mpr ?_
    rw [show (nI 1).toInt = 1 from rfl]
    rw [show (0 : Int32).toInt = 0 from rfl] at q2
    omega)
  obtain ⟨j, hj, rfl⟩ := nI_of h1
  exact ⟨j, knlt h, hj, rfl⟩
theorem nI_dec (r : Nat) : nI r + Int32.ofInt (-1) = nI r - 1 := by
  rw [Int32.sub_eq_add_neg]; rfl
def pushT (tx : Nat → Nat) (sz b : Nat) : Nat → Nat := fun j => if j = sz then b else tx j
def b8 (v : Int64) (r : Nat) : Nat := ((v >>> ((nI 8 * nI r).toInt64 &&& 63)).toInt32).toBitVec.toNat % 256
theorem b8_lt (v : Int64) (r : Nat) : b8 v r < 256 := Nat.mod_lt _ (by decide)
theorem b8_I (v : Int64) (r : Nat) : (v >>> ((nI 8 * nI r).toInt64 &&& 63)).toInt32 &&& nI 255 = nI (b8 v r) := pk_and _ 8 (by decide)
def tyL (v : Int64) : Nat → (Nat → Nat) → Nat → (Nat → Nat)
  | 0, tx, _ => tx
  | r + 1, tx, sz => tyL v r (pushT tx sz (b8 v r)) (sz + 1)
theorem s_addT {G : kG} {n sz b : Nat} {h : kH} {tx : Nat → Nat} {x : Int32} (hn : 37 ≤ n) (H : oText G tx sz h) (hs : sz < 400) (hx : x = nI b) : Spv G mX4_add 1 [.ref (kb G + 1), .int x] n h (fun h' => oText G (pushT tx sz b) (sz + 1) h' ∧ kFr 1 3 h h') := by
  subst hx
  obtain ⟨hX, hsz, a, hby, ha⟩ := H
  have hF : kFr 1 3 h h := kFr.rf
  refine Spv.of (by decide) (Nat.le_of_ble_eq_true rfl) ?_
  refine go_aload_n 0 (nx := 1) dX4_add_0 rfl rfl rfl ?_
  refine go_gf (nx := 4) fg_X4_15 dX4_add_1 (by omega) hX rfl rfl ?_
  refine go_sipush (v := nI 400) (nx := 7) dX4_add_4 (by decide) rfl ?_
  refine go_icmp_ge 32 (nx := 10) dX4_add_7 rfl rfl (fun c7 => False.elim (absurd (kle c7) (by omega))) (fun c7 => ?_)
  refine go_aload_n 0 (nx := 11) dX4_add_10 rfl rfl rfl ?_
  refine go_gf (nx := 14) fg_X4_9 dX4_add_11 (by omega) hX rfl rfl ?_
  refine go_aload_n 0 (nx := 15) dX4_add_14 rfl rfl rfl ?_
  refine go_gf (nx := 18) fg_X4_15 dX4_add_15 (by omega) hX rfl rfl ?_
  refine go_iload_n 1 (nx := 19) dX4_add_18 rfl rfl rfl ?_
  refine go_SNv (nx := 22) [_, _, _] kc_X4_19 (s_put (by omega) hby (by omega) rfl hs) dX4_add_19 rfl rfl (Nat.le_of_ble_eq_true rfl) (Nat.le_of_ble_eq_true rfl) ⟨Nat.le_refl _, Nat.le_refl _⟩ rfl (fun h1 hqh1 => ?_)
  obtain ⟨eh1, fh1⟩ := hqh1
  have hX := (fh1 (1) (by omega)).trans hX
  have hby := eh1
  have hF := hF.tr (fun j hj => fh1 j (by omega))
  refine go_aload_n 0 (nx := 23) dX4_add_22 rfl rfl rfl ?_
  refine go_dup (nx := 24) dX4_add_23 rfl rfl ?_
  refine go_gf (nx := 27) fg_X4_15 dX4_add_24 (by omega) hX rfl rfl ?_
  refine go_iconst (v := nI 1) (nx := 28) dX4_add_27 (by decide) rfl ?_
  refine go_iadd (nx := 29) dX4_add_28 rfl ?_
  rw [nI_add]
  refine go_pf (fs' := [_, _]) (nx := 32) (fp_X4_15 _) dX4_add_29 (by omega) hX (Nat.le_of_ble_eq_true rfl) ⟨rfl, rfl⟩ rfl rfl (fun h2 eh2 fh2 => ?_)
  have hby := (fh2 (2) (by omega)).trans hby
  have hX := eh2
  have hF := hF.tr (fun j hj => fh2 j (by omega))
  refine go_retv dX4_add_32 rfl ?_
  refine ⟨⟨hX, by omega, _, hby, fun j hj => ?_⟩, hF⟩
  by_cases e : j = sz
  · subst e; rw [pk_us]; simp [pushT]
  · rw [pk_un e, ha j (by omega)]; simp [pushT, e]
theorem l_type {G : kG} {n m : Nat} {h0 : kH} {v : Int64} (hn : 37 ≤ n) : ∀ (r : Nat) (tx : Nat → Nat) (sz : Nat) (h : kH) {t : Nat} {ν : mN} {i0 i1 : Option mN} {T : mT} {tr : Int64}, sz + r ≤ 400 → oX G t (tx, sz, ν, i0, i1, T, tr) h → kFr 0 37 h0 h → Go G mX6_type (2, 0, 0) 36 [(4, .int (nI r - 1)), (0, .ref (kb G + 0)), (1, .long v), (3, .int (nI m))] [] (n, 0, 0) h (kQi mX6_type n (fun u h' => u = nI (sz + r) ∧ oX G t (tyL v r tx sz, sz + r, ν, i0, i1, T, tr) h' ∧ kFr 0 37 h0 h')) := by
  intro r
  induction r with
  | zero =>
    intro tx sz h t ν i0 i1 T tr hs H hF
    obtain ⟨ht, hX, hTx, -⟩ := id H
    have hX : h 0 = .inr (6, [.ref (kb G + 1), .ref (kb G + 3), .ref (kb G + 6), .ref (kb G + 11), .ref (kb G + 17), .ref (kb G + 23), .ref (kb G + t), .ref (kb G + (65 - t)), .long tr]) := hX
    have hTx : oText G tx sz h := hTx
    obtain ⟨hT1, hsz, a, hby, ha⟩ := id hTx
    refine go_iload 0 (nx := 38) dX6_type_36 rfl rfl ?_
    refine go_if_lt 66 (nx := 41) dX6_type_38 rfl rfl (fun c38 => ?_) (fun c38 => False.elim (absurd (by decide) c38))
    refine go_aload_n 1 (nx := 67) dX6_type_66 rfl rfl rfl ?_
    refine go_gf (nx := 70) fg_X6_10 dX6_type_67 (by omega) hX rfl rfl ?_
    refine go_gf (nx := 73) fg_X6_61 dX6_type_70 (by omega) hT1 rfl rfl ?_
    refine go_reti dX6_type_73 ⟨_, rfl, rfl⟩ ?_
    exact ⟨rfl, H, hF⟩
  | succ r ih =>
    intro tx sz h t ν i0 i1 T tr hs H hF
    obtain ⟨ht, hX, hTx, -⟩ := id H
    have hX : h 0 = .inr (6, [.ref (kb G + 1), .ref (kb G + 3), .ref (kb G + 6), .ref (kb G + 11), .ref (kb G + 17), .ref (kb G + 23), .ref (kb G + t), .ref (kb G + (65 - t)), .long tr]) := hX
    have hTx : oText G tx sz h := hTx
    obtain ⟨hT1, hsz, a, hby, ha⟩ := id hTx
    rw [nI_pred]
    refine go_iload 0 (nx := 38) dX6_type_36 rfl rfl ?_
    refine go_if_lt 66 (nx := 41) dX6_type_38 rfl rfl (fun c38 => False.elim (absurd c38 (nI_pos (by omega)))) (fun c38 => ?_)
    refine go_aload_n 1 (nx := 42) dX6_type_41 rfl rfl rfl ?_
    refine go_gf (nx := 45) fg_X6_10 dX6_type_42 (by omega) hX rfl rfl ?_
    refine go_lload_n 2 (nx := 46) dX6_type_45 rfl rfl rfl ?_
    refine go_bipush (v := nI 8) (nx := 48) dX6_type_46 (by decide) rfl ?_
    refine go_iload 0 (nx := 50) dX6_type_48 rfl rfl ?_
    refine go_imul (nx := 51) dX6_type_50 rfl ?_
    refine go_lshr (nx := 52) dX6_type_51 rfl ?_
    refine go_l2i (nx := 53) dX6_type_52 rfl ?_
    refine go_sipush (v := nI 255) (nx := 56) dX6_type_53 (by decide) rfl ?_
    refine go_iand (nx := 57) dX6_type_56 rfl ?_
    rw [b8_I]
    refine go_Vv (nx := 60) [_] kc_X6_65 ⟨_, _, rfl⟩ (by omega) hT1 (s_addT hn hTx (by omega) rfl) dX6_type_57 rfl rfl (Nat.le_of_ble_eq_true rfl) (Nat.le_of_ble_eq_true rfl) ⟨Nat.le_refl _, Nat.le_refl _⟩ rfl (fun h1 hqh1 => ?_)
    obtain ⟨hTx, hFh1⟩ := hqh1
    have H := H.setText hTx hFh1
    have hF := hF.tr (hFh1.wide (by omega) (by omega))
    refine go_iinc 0 (v := nI r - 1) (lv' := [_, _, _, _]) (nx := 63) dX6_type_60 rfl (nI_dec r) (by decide) rfl rfl ?_
    refine go_goto 36 dX6_type_63 rfl ?_
    refine Go.sub [0, 1, 2, 3] rfl ?_
    rw [show sz + (r + 1) = sz + 1 + r by omega]
    exact ih (pushT tx sz (b8 v r)) (sz + 1) _ (by omega) H hF
def tyB (x : Int32) : Bool := decide (nI 1 ≤ x) && decide (x ≤ nI 8)
def fType (sz : Nat) (x : Int32) : Int32 := if tyB x = true then (if sz + cl x ≤ 400 then nI (sz + cl x) else -3) else -1
def sType (s : mS) (v : Int64) (x : Int32) : mS := if (tyB x && decide (s.2.1 + cl x ≤ 400)) = true then (tyL v (cl x) s.1 s.2.1, s.2.1 + cl x, s.2.2) else s
theorem x_type {G : kG} {n t sz : Nat} {h : kH} {tx : Nat → Nat} {ν : mN} {i0 i1 : Option mN} {T : mT} {tr : Int64} {v : Int64} {x : Int32} (hn : 37 ≤ n) (H : oX G t (tx, sz, ν, i0, i1, T, tr) h) (W : wS (tx, sz, ν, i0, i1, T, tr)) : Spi G mX6_type 2 [.ref (kb G + 0), .long v, .int x] n h (fun u h' => u = fType sz x ∧ oX G t (sType (tx, sz, ν, i0, i1, T, tr) v x) h' ∧ kFr 0 37 h h') := by
  obtain ⟨ht, hX, hTx, hRd, hNow, hI0, hI1, hFt, hTo, hDr⟩ := id H
  have hX : h 0 = .inr (6, [.ref (kb G + 1), .ref (kb G + 3), .ref (kb G + 6), .ref (kb G + 11), .ref (kb G + 17), .ref (kb G + 23), .ref (kb G + t), .ref (kb G + (65 - t)), .long tr]) := hX
  have hTx : oText G tx sz h := hTx
  have hNow : oNow G 6 ν h := hNow
  have hI0 : oImg G 11 i0 h := hI0
  have hI1 : oImg G 17 i1 h := hI1
  have hTo : oTown G t T h := hTo
  obtain ⟨hwT, hwN, hY, hw0, hw1, hsz, htx⟩ := id W
  have hwT : wT T := hwT
  have hwN : wN T.1 ν := hwN
  have hY : ν.2.2.2.1 ≤ 99 := hY
  have hsz : sz ≤ 400 := hsz
  have hP8 := hwT.1
  obtain ⟨kn, ct, si, cr, ⟨hN, hkn, hct, hsi, hcr⟩, hK, hC, hS, hR⟩ := id hNow
  obtain ⟨tk, tc, ⟨hT, htk, htc⟩, hTk, hTc⟩ := id hTo
  obtain ⟨hT1, -, a, hby, ha⟩ := id hTx
  refine Spi.of (by decide) (Nat.le_of_ble_eq_true rfl) ?_
  refine Go.loc (lv' := [(0, _), (1, _), (3, _)]) rfl ?_
  refine go_iload_n 2 (nx := 1) dX6_type_0 rfl rfl rfl ?_
  refine go_iconst (v := nI 1) (nx := 2) dX6_type_1 (by decide) rfl ?_
  refine go_icmp_lt 11 (nx := 5) dX6_type_2 rfl rfl (fun c2 => ?_) (fun c2 => ?_)
  · skip
    refine go_iconst (v := (-1)) (nx := 12) dX6_type_11 (by decide) rfl ?_
    refine go_reti dX6_type_12 ⟨_, rfl, rfl⟩ ?_
    have e : tyB x = false := by simp [tyB]; intro q; exact absurd q (Int32.not_le.mpr c2)
    rw [fType, sType, if_neg (by rw [e]; decide), if_neg (by rw [e]; simp)]
    exact ⟨rfl, H, kFr.rf⟩
  · skip
    refine go_iload_n 2 (nx := 6) dX6_type_5 rfl rfl rfl ?_
    refine go_bipush (v := nI 8) (nx := 8) dX6_type_6 (by decide) rfl ?_
    refine go_icmp_le 13 (nx := 11) dX6_type_8 rfl rfl (fun c8 => ?_) (fun c8 => ?_)
    · skip
      obtain ⟨m, hm1, hm, rfl⟩ := ge1_of c2
      have hm8 := kle c8
      have e : tyB (nI m) = true := by simp [tyB]; exact ⟨nI_le hm1 (by omega), c8⟩
      refine go_aload_n 0 (nx := 14) dX6_type_13 rfl rfl rfl ?_
      refine go_gf (nx := 17) fg_X6_10 dX6_type_14 (by omega) hX rfl rfl ?_
      refine go_gf (nx := 20) fg_X6_61 dX6_type_17 (by omega) hT1 rfl rfl ?_
      refine go_iload_n 2 (nx := 21) dX6_type_20 rfl rfl rfl ?_
      refine go_iadd (nx := 22) dX6_type_21 rfl ?_
      rw [nI_add]
      refine go_sipush (v := nI 400) (nx := 25) dX6_type_22 (by decide) rfl ?_
      refine go_icmp_le 31 (nx := 28) dX6_type_25 rfl rfl (fun c25 => ?_) (fun c25 => ?_)
      · skip
        refine go_iload_n 2 (nx := 32) dX6_type_31 rfl rfl rfl ?_
        refine go_iconst (v := nI 1) (nx := 33) dX6_type_32 (by decide) rfl ?_
        refine go_isub (nx := 34) dX6_type_33 rfl ?_
        refine go_istore (lv' := [_, _, _, _]) (nx := 36) dX6_type_34 (by decide) rfl rfl ?_
        refine Go.sub [0, 1, 2, 3] rfl ?_
        have z := kle c25 (by omega) (by decide)
        rw [fType, sType, if_pos e, cl_nI (by omega), if_pos z, if_pos (by rw [e]; simp; exact z)]
        exact l_type hn m tx sz h z H kFr.rf
      · skip
        refine go_bipush (v := (-3)) (nx := 30) dX6_type_28 (by decide) rfl ?_
        refine go_reti dX6_type_30 ⟨_, rfl, rfl⟩ ?_
        have z := knle c25 (by omega) (by decide)
        rw [fType, sType, if_pos e, cl_nI (by omega), if_neg (by omega), if_neg (by rw [e]; simp; exact z)]
        exact ⟨rfl, H, kFr.rf⟩
    · skip
      refine go_iconst (v := (-1)) (nx := 12) dX6_type_11 (by decide) rfl ?_
      refine go_reti dX6_type_12 ⟨_, rfl, rfl⟩ ?_
      have e : tyB x = false := by simp [tyB]; intro _; exact Int32.not_le.mp c8
      rw [fType, sType, if_neg (by rw [e]; decide), if_neg (by rw [e]; simp)]
      exact ⟨rfl, H, kFr.rf⟩
theorem x_clear {G : kG} {n t sz : Nat} {h : kH} {tx : Nat → Nat} {ν : mN} {i0 i1 : Option mN} {T : mT} {tr : Int64} (hn : 37 ≤ n) (H : oX G t (tx, sz, ν, i0, i1, T, tr) h) (W : wS (tx, sz, ν, i0, i1, T, tr)) : Spi G mX6_clear 0 [.ref (kb G + 0)] n h (fun v h' => v = nI sz ∧ oX G t (tx, 0, ν, i0, i1, T, tr) h' ∧ kFr 0 37 h h') := by
  obtain ⟨ht, hX, hTx, hRd, hNow, hI0, hI1, hFt, hTo, hDr⟩ := id H
  have hX : h 0 = .inr (6, [.ref (kb G + 1), .ref (kb G + 3), .ref (kb G + 6), .ref (kb G + 11), .ref (kb G + 17), .ref (kb G + 23), .ref (kb G + t), .ref (kb G + (65 - t)), .long tr]) := hX
  have hTx : oText G tx sz h := hTx
  have hNow : oNow G 6 ν h := hNow
  have hI0 : oImg G 11 i0 h := hI0
  have hI1 : oImg G 17 i1 h := hI1
  have hTo : oTown G t T h := hTo
  obtain ⟨hwT, hwN, hY, hw0, hw1, hsz, htx⟩ := id W
  have hwT : wT T := hwT
  have hwN : wN T.1 ν := hwN
  have hY : ν.2.2.2.1 ≤ 99 := hY
  have hsz : sz ≤ 400 := hsz
  have hP8 := hwT.1
  obtain ⟨kn, ct, si, cr, ⟨hN, hkn, hct, hsi, hcr⟩, hK, hC, hS, hR⟩ := id hNow
  obtain ⟨tk, tc, ⟨hT, htk, htc⟩, hTk, hTc⟩ := id hTo
  obtain ⟨hT1, -, a, hby, ha⟩ := id hTx
  refine Spi.of (by decide) (Nat.le_of_ble_eq_true rfl) ?_
  refine go_aload_n 0 (nx := 1) dX6_clear_0 rfl rfl rfl ?_
  refine go_gf (nx := 4) fg_X6_10 dX6_clear_1 (by omega) hX rfl rfl ?_
  refine go_gf (nx := 7) fg_X6_61 dX6_clear_4 (by omega) hT1 rfl rfl ?_
  refine go_istore_n (lv' := [_, _]) (nx := 8) dX6_clear_7 rfl (by decide) rfl rfl ?_
  refine go_aload_n 1 (nx := 9) dX6_clear_8 rfl rfl rfl ?_
  refine go_gf (nx := 12) fg_X6_10 dX6_clear_9 (by omega) hX rfl rfl ?_
  refine go_iconst (v := nI 0) (nx := 13) dX6_clear_12 (by decide) rfl ?_
  refine go_pf (fs' := [_, _]) (nx := 16) (fp_X6_61 _) dX6_clear_13 (by omega) hT1 (Nat.le_of_ble_eq_true rfl) ⟨rfl, rfl⟩ rfl rfl (fun h1 eh1 fh1 => ?_)
  have hX := (fh1 (0) (by omega)).trans hX
  have hby := (fh1 (2) (by omega)).trans hby
  have hT1 := eh1
  refine go_iload_n 0 (nx := 17) dX6_clear_16 rfl rfl rfl ?_
  refine go_reti dX6_clear_17 ⟨_, rfl, rfl⟩ ?_
  have fx : kFr 1 3 _ h1 := fun j hj => fh1 j (by omega)
  exact ⟨rfl, H.setText (sz := 0) ⟨hT1, by omega, a, hby, fun j hj => absurd hj (Nat.not_lt_zero j)⟩ fx, fx.wide (by omega) (by omega)⟩
def fGo (T : mT) (ν : mN) (x : Int32) : Int32 := if (decide (nI 1 ≤ x) && decide (x ≤ nI 99)) = true then (if ν.2.2.2.1 = 99 ∨ T.1 = 0 then -2 else (mSp T (min (cl x) (99 - ν.2.2.2.1)) ν).2.2.2.2) else -1
def nGo (T : mT) (ν : mN) (x : Int32) : mN := if (decide (nI 1 ≤ x) && decide (x ≤ nI 99)) = true then (if ν.2.2.2.1 = 99 ∨ T.1 = 0 then ν else mSp T (min (cl x) (99 - ν.2.2.2.1)) ν) else ν
theorem l_go {G : kG} {n t sz m : Nat} {h0 : kH} {tx : Nat → Nat} {ν : mN} {i0 i1 : Option mN} {T : mT} {tr : Int64} {x : Int32} (hn : 37 ≤ n) (hwT : wT T) (hwN : wN T.1 ν) (hP0 : 0 < T.1) (hm : m ≤ 99) : ∀ (d i : Nat) (h : kH), m - i < d → i ≤ m → oX G t (tx, sz, mSp T i ν, i0, i1, T, tr) h → kFr 0 37 h0 h → Go G mX6_go (5, 0, 0) 55 [(3, .int (nI i)), (2, .int (nI m)), (0, .ref (kb G + 0)), (1, .int x)] [] (n, 0, 0) h (kQi mX6_go n (fun v h' => v = (mSp T m ν).2.2.2.2 ∧ oX G t (tx, sz, mSp T m ν, i0, i1, T, tr) h' ∧ kFr 0 37 h0 h')) := by
  intro d
  induction d with
  | zero => intro i h hd; omega
  | succ d ih =>
    intro i h hd hi H hF
    obtain ⟨ht, hX, hTx, hRd, hNow, hI0, hI1, hFt, hTo, hDr⟩ := id H
    have hX : h 0 = .inr (6, [.ref (kb G + 1), .ref (kb G + 3), .ref (kb G + 6), .ref (kb G + 11), .ref (kb G + 17), .ref (kb G + 23), .ref (kb G + t), .ref (kb G + (65 - t)), .long tr]) := hX
    have hNow : oNow G 6 (mSp T i ν) h := hNow
    have hTo : oTown G t T h := hTo
    obtain ⟨kn, ct, si, cr, ⟨hN, hkn, hct, hsi, hcr⟩, hK, hC, hS, hR⟩ := id hNow
    obtain ⟨tk, tc, ⟨hT, htk, htc⟩, hTk, hTc⟩ := id hTo
    refine go_iload_n 0 (nx := 56) dX6_go_55 rfl rfl rfl ?_
    refine go_iload_n 1 (nx := 57) dX6_go_56 rfl rfl rfl ?_
    refine go_icmp_ge 78 (nx := 60) dX6_go_57 rfl rfl (fun c57 => ?_) (fun c57 => ?_)
    · skip
      refine go_aload_n 2 (nx := 79) dX6_go_78 rfl rfl rfl ?_
      refine go_gf (nx := 82) fg_X6_26 dX6_go_79 (by omega) hX rfl rfl ?_
      refine go_gf (nx := 85) fg_X6_146 dX6_go_82 (by omega) hN rfl rfl ?_
      refine go_reti dX6_go_85 ⟨_, rfl, rfl⟩ ?_
      have e8 : i = m := by have := kle c57; omega
      subst e8
      exact ⟨rfl, H, hF⟩
    · skip
      have h8 := knle c57
      refine go_aload_n 2 (nx := 61) dX6_go_60 rfl rfl rfl ?_
      refine go_gf (nx := 64) fg_X6_26 dX6_go_61 (by omega) hX rfl rfl ?_
      refine go_aload_n 2 (nx := 65) dX6_go_64 rfl rfl rfl ?_
      refine go_gf (nx := 68) fg_X6_50 dX6_go_65 (by omega) hX rfl rfl ?_
      refine go_Vi (nx := 71) [_] kc_X6_142 ⟨_, _, rfl⟩ (by omega) hN (s_spring (by omega) (by omega) (by omega) hwT (wN_sp hwT hwN hP0 i) hP0 hNow hTo) dX6_go_68 rfl rfl (Nat.le_of_ble_eq_true rfl) (Nat.le_of_ble_eq_true rfl) ⟨Nat.le_refl _, Nat.le_refl _⟩ rfl (fun rh1 h1 hqh1 => ?_)
      obtain ⟨-, hNow, hFh1⟩ := hqh1
      have H := H.setNow hNow hFh1
      have hF := hF.tr (hFh1.wide (by omega) (by omega))
      refine go_pop (nx := 72) dX6_go_71 rfl rfl ?_
      refine go_iinc 0 (v := nI (i + 1)) (lv' := [_, _, _, _]) (nx := 75) dX6_go_72 rfl (nI_inc i) (by decide) rfl rfl ?_
      refine go_goto 55 dX6_go_75 rfl ?_
      refine Go.sub [0, 1, 2, 3] rfl ?_
      exact ih (i + 1) _ (by omega) (by omega) H hF
theorem x_go {G : kG} {n t sz : Nat} {h : kH} {tx : Nat → Nat} {ν : mN} {i0 i1 : Option mN} {T : mT} {tr : Int64} {x : Int32} (hn : 37 ≤ n) (H : oX G t (tx, sz, ν, i0, i1, T, tr) h) (W : wS (tx, sz, ν, i0, i1, T, tr)) : Spi G mX6_go 5 [.ref (kb G + 0), .int x] n h (fun v h' => v = fGo T ν x ∧ oX G t (tx, sz, nGo T ν x, i0, i1, T, tr) h' ∧ kFr 0 37 h h') := by
  obtain ⟨ht, hX, hTx, hRd, hNow, hI0, hI1, hFt, hTo, hDr⟩ := id H
  have hX : h 0 = .inr (6, [.ref (kb G + 1), .ref (kb G + 3), .ref (kb G + 6), .ref (kb G + 11), .ref (kb G + 17), .ref (kb G + 23), .ref (kb G + t), .ref (kb G + (65 - t)), .long tr]) := hX
  have hTx : oText G tx sz h := hTx
  have hNow : oNow G 6 ν h := hNow
  have hI0 : oImg G 11 i0 h := hI0
  have hI1 : oImg G 17 i1 h := hI1
  have hTo : oTown G t T h := hTo
  obtain ⟨hwT, hwN, hY, hw0, hw1, hsz, htx⟩ := id W
  have hwT : wT T := hwT
  have hwN : wN T.1 ν := hwN
  have hY : ν.2.2.2.1 ≤ 99 := hY
  have hsz : sz ≤ 400 := hsz
  have hP8 := hwT.1
  obtain ⟨kn, ct, si, cr, ⟨hN, hkn, hct, hsi, hcr⟩, hK, hC, hS, hR⟩ := id hNow
  obtain ⟨tk, tc, ⟨hT, htk, htc⟩, hTk, hTc⟩ := id hTo
  refine Spi.of (by decide) (Nat.le_of_ble_eq_true rfl) ?_
  refine Go.loc (lv' := [(0, _), (1, _)]) rfl ?_
  refine go_iload_n 1 (nx := 1) dX6_go_0 rfl rfl rfl ?_
  refine go_iconst (v := nI 1) (nx := 2) dX6_go_1 (by decide) rfl ?_
  refine go_icmp_lt 11 (nx := 5) dX6_go_2 rfl rfl (fun c2 => ?_) (fun c2 => ?_)
  · skip
    refine go_iconst (v := (-1)) (nx := 12) dX6_go_11 (by decide) rfl ?_
    refine go_reti dX6_go_12 ⟨_, rfl, rfl⟩ ?_
    have e : (decide (nI 1 ≤ x) && decide (x ≤ nI 99)) = false := by simp; intro q; exact absurd q (Int32.not_le.mpr c2)
    rw [fGo, nGo, if_neg (by rw [e]; decide), if_neg (by rw [e]; decide)]
    exact ⟨rfl, H, kFr.rf⟩
  · skip
    refine go_iload_n 1 (nx := 6) dX6_go_5 rfl rfl rfl ?_
    refine go_bipush (v := nI 99) (nx := 8) dX6_go_6 (by decide) rfl ?_
    refine go_icmp_le 13 (nx := 11) dX6_go_8 rfl rfl (fun c8 => ?_) (fun c8 => ?_)
    · skip
      obtain ⟨m, hm1, hm, rfl⟩ := ge1_of c2
      have hm8 := kle c8
      have e : (decide (nI 1 ≤ nI m) && decide (nI m ≤ nI 99)) = true := by simp; exact ⟨nI_le hm1 (by omega), c8⟩
      refine go_aload_n 0 (nx := 14) dX6_go_13 rfl rfl rfl ?_
      refine go_gf (nx := 17) fg_X6_26 dX6_go_14 (by omega) hX rfl rfl ?_
      refine go_gf (nx := 20) fg_X6_134 dX6_go_17 (by omega) hN rfl rfl ?_
      refine go_bipush (v := nI 99) (nx := 22) dX6_go_20 (by decide) rfl ?_
      refine go_icmp_ge 35 (nx := 25) dX6_go_22 rfl rfl (fun c22 => ?_) (fun c22 => ?_)
      · skip
        refine go_bipush (v := (-2)) (nx := 37) dX6_go_35 (by decide) rfl ?_
        refine go_reti dX6_go_37 ⟨_, rfl, rfl⟩ ?_
        have z : ν.2.2.2.1 = 99 ∨ T.1 = 0 := Or.inl (by have := kle c22; omega)
        rw [fGo, nGo, if_pos e, if_pos e, if_pos z, if_pos z]
        exact ⟨rfl, H, kFr.rf⟩
      · skip
        refine go_aload_n 0 (nx := 26) dX6_go_25 rfl rfl rfl ?_
        refine go_gf (nx := 29) fg_X6_50 dX6_go_26 (by omega) hX rfl rfl ?_
        refine go_gf (nx := 32) fg_X6_120 dX6_go_29 (by omega) hT rfl rfl ?_
        refine go_if_ne 38 (nx := 35) dX6_go_32 rfl rfl (fun c32 => ?_) (fun c32 => ?_)
        · skip
          have z1 := knle c22
          have z2 : ¬ T.1 = 0 := fun q => c32 (by rw [q]; rfl)
          refine go_iload_n 1 (nx := 39) dX6_go_38 rfl rfl rfl ?_
          refine go_bipush (v := nI 99) (nx := 41) dX6_go_39 (by decide) rfl ?_
          refine go_aload_n 0 (nx := 42) dX6_go_41 rfl rfl rfl ?_
          refine go_gf (nx := 45) fg_X6_26 dX6_go_42 (by omega) hX rfl rfl ?_
          refine go_gf (nx := 48) fg_X6_134 dX6_go_45 (by omega) hN rfl rfl ?_
          refine go_isub (nx := 49) dX6_go_48 rfl ?_
          rw [pk_sub hY]
          refine go_mmin (nx := 52) kc_X6_137 dX6_go_49 (Nat.le_of_ble_eq_true rfl) ⟨Nat.le_refl _, Nat.le_refl _⟩ rfl ?_
          rw [show (if nI (99 - ν.2.2.2.1) < nI m then nI (99 - ν.2.2.2.1) else nI m) = nI (min m (99 - ν.2.2.2.1)) from by
            by_cases q : 99 - ν.2.2.2.1 < m
            · rw [if_pos (nI_lt q (by omega)), Nat.min_eq_right (by omega)]
            · rw [if_neg (nI_nlt (by omega) (by omega)), Nat.min_eq_left (by omega)]]
          refine go_istore_n (lv' := [_, _, _]) (nx := 53) dX6_go_52 rfl (by decide) rfl rfl ?_
          refine go_iconst (v := nI 0) (nx := 54) dX6_go_53 (by decide) rfl ?_
          refine go_istore_n (lv' := [_, _, _, _]) (nx := 55) dX6_go_54 rfl (by decide) rfl rfl ?_
          refine Go.sub [0, 1, 2, 3] rfl ?_
          rw [fGo, nGo, if_pos e, if_pos e, if_neg (by omega), if_neg (by omega), cl_nI (by omega)]
          exact l_go hn hwT hwN (by omega) (by omega) (min m (99 - ν.2.2.2.1) + 1) 0 h (by omega) (by omega) H kFr.rf
        · skip
          refine go_bipush (v := (-2)) (nx := 37) dX6_go_35 (by decide) rfl ?_
          refine go_reti dX6_go_37 ⟨_, rfl, rfl⟩ ?_
          have z : ν.2.2.2.1 = 99 ∨ T.1 = 0 := Or.inr (keq (b := 0) c32 (by omega) (by decide))
          rw [fGo, nGo, if_pos e, if_pos e, if_pos z, if_pos z]
          exact ⟨rfl, H, kFr.rf⟩
    · skip
      refine go_iconst (v := (-1)) (nx := 12) dX6_go_11 (by decide) rfl ?_
      refine go_reti dX6_go_12 ⟨_, rfl, rfl⟩ ?_
      have e : (decide (nI 1 ≤ x) && decide (x ≤ nI 99)) = false := by simp; intro _; exact Int32.not_le.mp c8
      rw [fGo, nGo, if_neg (by rw [e]; decide), if_neg (by rw [e]; decide)]
      exact ⟨rfl, H, kFr.rf⟩
