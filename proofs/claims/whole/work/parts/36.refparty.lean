/-! the reference: parties -/
theorem i_amt : ∀ a, a < 8 → ((nI a &&& 31).toBitVec.smod 32).toNat = a := by decide +kernel
theorem bt_one : ∀ i, i < 32 → (nI 1).toBitVec.getLsbD i = decide (i = 0) := by decide +kernel
theorem bt_bI : ∀ b : Bool, ∀ i, i < 32 → (bI b).toBitVec.getLsbD i = (b && decide (i = 0)) := by decide +kernel
theorem bI_nar (b : Bool) : narrow .boolean (.int (bI b)) = .int (bI b) := by cases b <;> rfl
def sbit (x : Int32) (a : Nat) : Bool := x.toBitVec.getLsbD a
theorem i_sget {x : Int32} {a : Nat} (ha : a < 8) : (x >>> (nI a &&& 31)) &&& nI 1 = bI (sbit x a) := by
  apply Int32.toBitVec_inj.mp
  rw [Int32.toBitVec_and, Int32.toBitVec_shiftRight]
  show (x.toBitVec.sshiftRight ((nI a &&& 31).toBitVec.smod 32).toNat) &&& (nI 1).toBitVec = _
  rw [i_amt a ha]
  apply BitVec.eq_of_getLsbD_eq
  intro i hi
  rw [BitVec.getLsbD_and, BitVec.getLsbD_sshiftRight, bt_one i hi, bt_bI _ i hi]
  by_cases e : i = 0
  · subst e
    have : a < 32 := by omega
    simp [this, sbit]
  · simp [e]
theorem msk_bit {P a : Nat} {x : Int32} : (msk P x).testBit a = (decide (a < P) && sbit x a) := by
  unfold msk sbit
  rw [Nat.testBit_mod_two_pow]
  rfl
def pq (K : mK) (x : Int32) (a b : Nat) : Bool := !(sbit x a) || !(sbit x b) || (a == b) || K a b
theorem pq_pt {K : mK} {P : Nat} {x : Int32} (hP : P ≤ 8) : allN (fun a => allN (pq K x a) P) P = ptB K (msk P x) := by
  rw [Bool.eq_iff_iff, ptB_iff, allN_iff]
  constructor
  · intro h a ha b hb h1 h2 h3
    rw [msk_bit] at h1 h2
    simp only [Bool.and_eq_true, decide_eq_true_eq] at h1 h2
    have q := allN_iff.mp (h a h1.1) b h2.1
    unfold pq at q
    rw [h1.2, h2.2] at q
    simp [h3] at q
    exact q
  · intro h a ha
    refine allN_iff.mpr fun b hb => ?_
    unfold pq
    cases e1 : sbit x a
    · rfl
    · cases e2 : sbit x b
      · rfl
      · by_cases e3 : a = b
        · simp [e3]
        · rw [h a (by omega) b (by omega) (by rw [msk_bit, e1]; simp [ha]) (by rw [msk_bit, e2]; simp [hb]) e3]
          simp
theorem l_misP2 {G : kG} {n sz : Nat} {h : kH} {ν : mN} {T : mT} {tr : Int64} {F : Nat → Int32} {x : Int32} {a : Nat} {out : Bool} (hn : 49 ≤ n) (HO : mO G F tr sz T h) (HS : oS G ν h) (hP : T.1 ≤ 8) (ha : a < T.1) (Q : Int32 → kH → Prop)
    (hk : Go G mX7_isParty (1, 0, 0) 4 [(3, .int (nI (a + 1))), (2, .int (bI (out && allN (pq ν.1 x a) T.1))), (0, .ref (kb G + 37)), (1, .int x)] [] (n, 0, 0) h (kQi mX7_isParty n Q)) : ∀ (d b : Nat), T.1 - b < d → b ≤ T.1 → Go G mX7_isParty (1, 0, 0) 15 [(4, .int (nI b)), (3, .int (nI a)), (2, .int (bI (out && allN (pq ν.1 x a) b))), (0, .ref (kb G + 37)), (1, .int x)] [] (n, 0, 0) h (kQi mX7_isParty n Q) := by
  intro d
  have hM : h 37 = .inr (7, [.int (F 0), .long tr, .ref (kb G + 38), .int (nI sz), .int (F 4), .int (F 5), .int (F 6), .int (F 7), .int (F 8), .ref (kb G + 39), .ref (kb G + 40), .int (nI T.1), .int (F 12), .int (nI T.2.2.2.1), .int (F 14), .int (nI T.2.2.2.2.1), .int (F 16), .int (nI T.2.2.2.2.2), .int (F 18), .int (F 19), .int (F 20), .ref (kb G + 41), .ref (kb G + 42), .ref (kb G + 43), .ref (kb G + 44), .ref (kb G + 45), .ref (kb G + 46), .ref (kb G + 47), .ref (kb G + 48)]) := HO
  induction d with
  | zero => intro b hd; omega
  | succ d ih =>
    intro b hd hb
    refine go_iload 0 (nx := 17) dX7_isParty_15 rfl rfl ?_
    refine go_aload_n 3 (nx := 18) dX7_isParty_17 rfl rfl rfl ?_
    refine go_gf (nx := 21) fg_X7_137 dX7_isParty_18 (by omega) hM rfl rfl ?_
    refine go_icmp_ge 73 (nx := 24) dX7_isParty_21 rfl rfl (fun c21 => ?_) (fun c21 => ?_)
    · skip
      refine go_iinc 1 (v := nI (a + 1)) (lv' := [_, _, _, _, _]) (nx := 76) dX7_isParty_73 rfl (nI_inc a) (by decide) rfl rfl ?_
      refine go_goto 4 dX7_isParty_76 rfl ?_
      have e8 : b = T.1 := by have := kle c21; omega
      subst e8
      refine Go.sub [0, 2, 3, 4] rfl ?_
      exact hk
    · skip
      have z1 := knle c21
      refine go_iload_n 2 (nx := 25) dX7_isParty_24 rfl rfl rfl ?_
      refine go_if_eq 65 (nx := 28) dX7_isParty_25 rfl rfl (fun c25 => ?_) (fun c25 => ?_)
      · skip
        refine go_iconst (v := nI 0) (nx := 66) dX7_isParty_65 (by decide) rfl ?_
        refine go_istore_n (lv' := [_, _, _, _, _]) (nx := 67) dX7_isParty_66 rfl (by decide) rfl rfl ?_
        refine go_iinc 1 (v := nI (b + 1)) (lv' := [_, _, _, _, _]) (nx := 70) dX7_isParty_67 rfl (nI_inc b) (by decide) rfl rfl ?_
        refine go_goto 15 dX7_isParty_70 rfl ?_
        refine Go.sub [0, 2, 1, 3, 4] rfl ?_
        have k := ih (b + 1) (by omega) (by omega)
        rw [show bI (out && allN (pq ν.1 x a) (b + 1)) = 0 by
          show bI (out && (allN (pq ν.1 x a) b && pq ν.1 x a b)) = _
          rw [← Bool.and_assoc, tb0 c25]; rfl] at k
        exact k
      · skip
        refine go_iload_n 4 (nx := 29) dX7_isParty_28 rfl rfl rfl ?_
        refine go_iload_n 1 (nx := 30) dX7_isParty_29 rfl rfl rfl ?_
        refine go_ishr (nx := 31) dX7_isParty_30 rfl ?_
        refine go_iconst (v := nI 1) (nx := 32) dX7_isParty_31 (by decide) rfl ?_
        refine go_iand (nx := 33) dX7_isParty_32 rfl ?_
        rw [i_sget (by omega)]
        refine go_if_eq 61 (nx := 36) dX7_isParty_33 rfl rfl (fun c33 => ?_) (fun c33 => ?_)
        · skip
          refine go_iconst (v := nI 1) (nx := 62) dX7_isParty_61 (by decide) rfl ?_
          refine go_goto 66 dX7_isParty_62 rfl ?_
          refine go_istore_n (lv' := [_, _, _, _, _]) (nx := 67) dX7_isParty_66 rfl (by decide) rfl rfl ?_
          refine go_iinc 1 (v := nI (b + 1)) (lv' := [_, _, _, _, _]) (nx := 70) dX7_isParty_67 rfl (nI_inc b) (by decide) rfl rfl ?_
          refine go_goto 15 dX7_isParty_70 rfl ?_
          refine Go.sub [0, 2, 1, 3, 4] rfl ?_
          have k := ih (b + 1) (by omega) (by omega)
          rw [show bI (out && allN (pq ν.1 x a) (b + 1)) = 1 by
            show bI (out && (allN (pq ν.1 x a) b && pq ν.1 x a b)) = _
            rw [← Bool.and_assoc, tbn0 c25, pq, tb0 c33]; rfl] at k
          exact k
        · skip
          refine go_iload_n 4 (nx := 37) dX7_isParty_36 rfl rfl rfl ?_
          refine go_iload 0 (nx := 39) dX7_isParty_37 rfl rfl ?_
          refine go_ishr (nx := 40) dX7_isParty_39 rfl ?_
          refine go_iconst (v := nI 1) (nx := 41) dX7_isParty_40 (by decide) rfl ?_
          refine go_iand (nx := 42) dX7_isParty_41 rfl ?_
          rw [i_sget (by omega)]
          refine go_if_eq 61 (nx := 45) dX7_isParty_42 rfl rfl (fun c42 => ?_) (fun c42 => ?_)
          · skip
            refine go_iconst (v := nI 1) (nx := 62) dX7_isParty_61 (by decide) rfl ?_
            refine go_goto 66 dX7_isParty_62 rfl ?_
            refine go_istore_n (lv' := [_, _, _, _, _]) (nx := 67) dX7_isParty_66 rfl (by decide) rfl rfl ?_
            refine go_iinc 1 (v := nI (b + 1)) (lv' := [_, _, _, _, _]) (nx := 70) dX7_isParty_67 rfl (nI_inc b) (by decide) rfl rfl ?_
            refine go_goto 15 dX7_isParty_70 rfl ?_
            refine Go.sub [0, 2, 1, 3, 4] rfl ?_
            have k := ih (b + 1) (by omega) (by omega)
            rw [show bI (out && allN (pq ν.1 x a) (b + 1)) = 1 by
              show bI (out && (allN (pq ν.1 x a) b && pq ν.1 x a b)) = _
              rw [← Bool.and_assoc, tbn0 c25, pq, tb0 c42, Bool.not_false, Bool.or_true]; rfl] at k
            exact k
          · skip
            refine go_iload_n 1 (nx := 46) dX7_isParty_45 rfl rfl rfl ?_
            refine go_iload 0 (nx := 48) dX7_isParty_46 rfl rfl ?_
            refine go_icmp_eq 61 (nx := 51) dX7_isParty_48 rfl rfl (fun c48 => ?_) (fun c48 => ?_)
            · skip
              refine go_iconst (v := nI 1) (nx := 62) dX7_isParty_61 (by decide) rfl ?_
              refine go_goto 66 dX7_isParty_62 rfl ?_
              refine go_istore_n (lv' := [_, _, _, _, _]) (nx := 67) dX7_isParty_66 rfl (by decide) rfl rfl ?_
              refine go_iinc 1 (v := nI (b + 1)) (lv' := [_, _, _, _, _]) (nx := 70) dX7_isParty_67 rfl (nI_inc b) (by decide) rfl rfl ?_
              refine go_goto 15 dX7_isParty_70 rfl ?_
              refine Go.sub [0, 2, 1, 3, 4] rfl ?_
              have k := ih (b + 1) (by omega) (by omega)
              rw [show bI (out && allN (pq ν.1 x a) (b + 1)) = 1 by
                show bI (out && (allN (pq ν.1 x a) b && pq ν.1 x a b)) = _
                rw [← Bool.and_assoc, tbn0 c25, pq, beq_iff_eq.mpr (keq c48 (by omega) (by omega)), Bool.or_true]; rfl] at k
              exact k
            · skip
              refine go_aload_n 3 (nx := 52) dX7_isParty_51 rfl rfl rfl ?_
              refine go_iload_n 1 (nx := 53) dX7_isParty_52 rfl rfl rfl ?_
              refine go_iload 0 (nx := 55) dX7_isParty_53 rfl rfl ?_
              refine go_Vi (nx := 58) [_, _] kc_X7_154 ⟨_, _, rfl⟩ (by omega) hM (m_isKnown hn HO HS rfl (by omega) rfl (by omega)) dX7_isParty_55 rfl rfl (Nat.le_of_ble_eq_true rfl) (Nat.le_of_ble_eq_true rfl) ⟨Nat.le_refl _, Nat.le_refl _⟩ rfl (fun rh1 h1 hqh1 => ?_)
              obtain ⟨rfl, rfl⟩ := hqh1
              refine go_if_eq 65 (nx := 61) dX7_isParty_58 rfl rfl (fun c58 => ?_) (fun c58 => ?_)
              · skip
                refine go_iconst (v := nI 0) (nx := 66) dX7_isParty_65 (by decide) rfl ?_
                refine go_istore_n (lv' := [_, _, _, _, _]) (nx := 67) dX7_isParty_66 rfl (by decide) rfl rfl ?_
                refine go_iinc 1 (v := nI (b + 1)) (lv' := [_, _, _, _, _]) (nx := 70) dX7_isParty_67 rfl (nI_inc b) (by decide) rfl rfl ?_
                refine go_goto 15 dX7_isParty_70 rfl ?_
                refine Go.sub [0, 2, 1, 3, 4] rfl ?_
                have k := ih (b + 1) (by omega) (by omega)
                rw [show bI (out && allN (pq ν.1 x a) (b + 1)) = 0 by
                  show bI (out && (allN (pq ν.1 x a) b && pq ν.1 x a b)) = _
                  rw [← Bool.and_assoc, pq, tbn0 c33, tbn0 c42, beq_eq_false_iff_ne.mpr (fun z => c48 (by rw [z])), tb0 c58]; simp; rfl] at k
                exact k
              · skip
                refine go_iconst (v := nI 1) (nx := 62) dX7_isParty_61 (by decide) rfl ?_
                refine go_goto 66 dX7_isParty_62 rfl ?_
                refine go_istore_n (lv' := [_, _, _, _, _]) (nx := 67) dX7_isParty_66 rfl (by decide) rfl rfl ?_
                refine go_iinc 1 (v := nI (b + 1)) (lv' := [_, _, _, _, _]) (nx := 70) dX7_isParty_67 rfl (nI_inc b) (by decide) rfl rfl ?_
                refine go_goto 15 dX7_isParty_70 rfl ?_
                refine Go.sub [0, 2, 1, 3, 4] rfl ?_
                have k := ih (b + 1) (by omega) (by omega)
                rw [show bI (out && allN (pq ν.1 x a) (b + 1)) = 1 by
                  show bI (out && (allN (pq ν.1 x a) b && pq ν.1 x a b)) = _
                  rw [← Bool.and_assoc, tbn0 c25, pq, tbn0 c58, Bool.or_true]; rfl] at k
                exact k
theorem l_misP1 {G : kG} {n sz : Nat} {h : kH} {ν : mN} {T : mT} {tr : Int64} {F : Nat → Int32} {x : Int32} (hn : 49 ≤ n) (HO : mO G F tr sz T h) (HS : oS G ν h) (hP : T.1 ≤ 8) : ∀ (d a : Nat), T.1 - a < d → a ≤ T.1 → Go G mX7_isParty (1, 0, 0) 4 [(3, .int (nI a)), (2, .int (bI (allN (fun a => allN (pq ν.1 x a) T.1) a))), (0, .ref (kb G + 37)), (1, .int x)] [] (n, 0, 0) h (kQi mX7_isParty n (fun v h' => v = bI (ptB ν.1 (msk T.1 x)) ∧ h' = h)) := by
  intro d
  have hM : h 37 = .inr (7, [.int (F 0), .long tr, .ref (kb G + 38), .int (nI sz), .int (F 4), .int (F 5), .int (F 6), .int (F 7), .int (F 8), .ref (kb G + 39), .ref (kb G + 40), .int (nI T.1), .int (F 12), .int (nI T.2.2.2.1), .int (F 14), .int (nI T.2.2.2.2.1), .int (F 16), .int (nI T.2.2.2.2.2), .int (F 18), .int (F 19), .int (F 20), .ref (kb G + 41), .ref (kb G + 42), .ref (kb G + 43), .ref (kb G + 44), .ref (kb G + 45), .ref (kb G + 46), .ref (kb G + 47), .ref (kb G + 48)]) := HO
  induction d with
  | zero => intro a hd; omega
  | succ d ih =>
    intro a hd ha
    refine go_iload_n 0 (nx := 5) dX7_isParty_4 rfl rfl rfl ?_
    refine go_aload_n 2 (nx := 6) dX7_isParty_5 rfl rfl rfl ?_
    refine go_gf (nx := 9) fg_X7_137 dX7_isParty_6 (by omega) hM rfl rfl ?_
    refine go_icmp_ge 79 (nx := 12) dX7_isParty_9 rfl rfl (fun c9 => ?_) (fun c9 => ?_)
    · skip
      refine go_iload_n 1 (nx := 80) dX7_isParty_79 rfl rfl rfl ?_
      refine go_reti dX7_isParty_80 ⟨_, rfl, bI_nar _⟩ ?_
      have e8 : a = T.1 := by have := kle c9; omega
      subst e8
      exact ⟨by rw [pq_pt hP], rfl⟩
    · skip
      refine go_iconst (v := nI 0) (nx := 13) dX7_isParty_12 (by decide) rfl ?_
      refine go_istore (lv' := [_, _, _, _, _]) (nx := 15) dX7_isParty_13 (by decide) rfl rfl ?_
      refine Go.sub [0, 1, 2, 3, 4] rfl ?_
      have z1 := knle c9
      have k := l_misP2 (x := x) (out := allN (fun a => allN (pq ν.1 x a) T.1) a) hn HO HS hP z1 _ (ih (a + 1) (by omega) (by omega)) (T.1 + 1) 0 (by omega) (by omega)
      rw [show (allN (fun a => allN (pq ν.1 x a) T.1) a && allN (pq ν.1 x a) 0) = allN (fun a => allN (pq ν.1 x a) T.1) a from Bool.and_true _] at k
      exact k
theorem m_isParty {G : kG} {n sz : Nat} {h : kH} {ν : mN} {T : mT} {tr : Int64} {F : Nat → Int32} {x : Int32} (hn : 49 ≤ n) (HO : mO G F tr sz T h) (HS : oS G ν h) (hP : T.1 ≤ 8) : Spi G mX7_isParty 1 [.ref (kb G + 37), .int x] n h (fun v h' => v = bI (ptB ν.1 (msk T.1 x)) ∧ h' = h) := by
  refine Spi.of (by decide) (Nat.le_of_ble_eq_true rfl) ?_
  refine Go.loc (lv' := [(0, _), (1, _)]) rfl ?_
  refine go_iconst (v := nI 1) (nx := 1) dX7_isParty_0 (by decide) rfl ?_
  refine go_istore_n (lv' := [_, _, _]) (nx := 2) dX7_isParty_1 rfl (by decide) rfl rfl ?_
  refine go_iconst (v := nI 0) (nx := 3) dX7_isParty_2 (by decide) rfl ?_
  refine go_istore_n (lv' := [_, _, _, _]) (nx := 4) dX7_isParty_3 rfl (by decide) rfl rfl ?_
  refine Go.sub [0, 1, 2, 3] rfl ?_
  exact l_misP1 hn HO HS hP (T.1 + 1) 0 (by omega) (by omega)
theorem m_party {G : kG} {n sz : Nat} {h : kH} {tx : Nat → Nat} {ν : mN} {i0 i1 : Option mN} {T : mT} {tr : Int64} {x : Int32} (hn : 49 ≤ n) (H : oM G (tx, sz, ν, i0, i1, T, tr) h) (W : wS (tx, sz, ν, i0, i1, T, tr)) : Spi G mX7_party 2 [.ref (kb G + 37), .int x] n h (fun v h' => v = bI (ptB ν.1 (msk T.1 x)) ∧ oM G (tx, sz, ν, i0, i1, T, tr) h' ∧ kFr 37 49 h h') := by
  obtain ⟨hwT, hwN, hY, hw0, hw1, hsz, htx⟩ := id W
  have hwT : wT T := hwT
  have hwN : wN T.1 ν := hwN
  have hY : ν.2.2.2.1 ≤ 99 := hY
  have hsz : sz ≤ 400 := hsz
  have hP := hwT.1
  obtain ⟨⟨F, HO⟩, -⟩ := id H
  have hM : h 37 = .inr (7, [.int (F 0), .long tr, .ref (kb G + 38), .int (nI sz), .int (F 4), .int (F 5), .int (F 6), .int (F 7), .int (F 8), .ref (kb G + 39), .ref (kb G + 40), .int (nI T.1), .int (F 12), .int (nI T.2.2.2.1), .int (F 14), .int (nI T.2.2.2.2.1), .int (F 16), .int (nI T.2.2.2.2.2), .int (F 18), .int (F 19), .int (F 20), .ref (kb G + 41), .ref (kb G + 42), .ref (kb G + 43), .ref (kb G + 44), .ref (kb G + 45), .ref (kb G + 46), .ref (kb G + 47), .ref (kb G + 48)]) := HO
  refine Spi.of (by decide) (Nat.le_of_ble_eq_true rfl) ?_
  refine Go.loc (lv' := [(0, _), (1, _)]) rfl ?_
  refine go_aload_n 0 (nx := 1) dX7_party_0 rfl rfl rfl ?_
  refine go_iconst (v := nI 0) (nx := 2) dX7_party_1 (by decide) rfl ?_
  refine go_pf (fs' := [_, _, _, _, _, _, _, _, _, _, _, _, _, _, _, _, _, _, _, _, _, _, _, _, _, _, _, _, _]) (nx := 5) (fp_X7_51 _) dX7_party_2 (by omega) hM (Nat.le_of_ble_eq_true rfl) ⟨rfl, rfl⟩ rfl rfl (fun h1 eh1 fh1 => ?_)
  have hM := eh1
  have hZ : kFr 37 49 h h1 := fun j hj => fh1 j (by omega)
  have H := H.setO (F := upd F 0 (nI 0)) (tr := tr) hM (fun j hj => fh1 j (by omega))
  have H : oM G (tx, sz, ν, i0, i1, T, tr) h1 := H
  obtain ⟨⟨F5, HO⟩, HTm, HKt, HH, HS, HSp, HKe, HRi, HPa, HAh, HDo⟩ := id H
  have HO : mO G F5 tr sz T h1 := HO
  have HTm : oTm G tx sz h1 := HTm
  have HKt : oKt G T h1 := HKt
  have HH : oHab G T h1 := HH
  have HS : oS G ν h1 := HS
  have HKe : oKe G i0 i1 h1 := HKe
  have hM : h1 37 = .inr (7, [.int (F5 0), .long tr, .ref (kb G + 38), .int (nI sz), .int (F5 4), .int (F5 5), .int (F5 6), .int (F5 7), .int (F5 8), .ref (kb G + 39), .ref (kb G + 40), .int (nI T.1), .int (F5 12), .int (nI T.2.2.2.1), .int (F5 14), .int (nI T.2.2.2.2.1), .int (F5 16), .int (nI T.2.2.2.2.2), .int (F5 18), .int (F5 19), .int (F5 20), .ref (kb G + 41), .ref (kb G + 42), .ref (kb G + 43), .ref (kb G + 44), .ref (kb G + 45), .ref (kb G + 46), .ref (kb G + 47), .ref (kb G + 48)]) := HO
  obtain ⟨sa, hs, hs1, hs2, hs3, hs4, hs5⟩ := id HS
  refine go_aload_n 0 (nx := 6) dX7_party_5 rfl rfl rfl ?_
  refine go_iload_n 1 (nx := 7) dX7_party_6 rfl rfl rfl ?_
  refine go_Vi (nx := 10) [_] kc_X7_217 ⟨_, _, rfl⟩ (by omega) hM (m_isParty hn HO HS hP) dX7_party_7 rfl rfl (Nat.le_of_ble_eq_true rfl) (Nat.le_of_ble_eq_true rfl) ⟨Nat.le_refl _, Nat.le_refl _⟩ rfl (fun rh2 h2 hqh2 => ?_)
  obtain ⟨rfl, rfl⟩ := hqh2
  refine go_if_eq 17 (nx := 13) dX7_party_10 rfl rfl (fun c10 => ?_) (fun c10 => ?_)
  · skip
    refine go_iconst (v := nI 0) (nx := 18) dX7_party_17 (by decide) rfl ?_
    refine go_reti dX7_party_18 ⟨_, rfl, rfl⟩ ?_
    exact ⟨by rw [tb0 c10]; rfl, H, hZ⟩
  · skip
    refine go_iconst (v := nI 1) (nx := 14) dX7_party_13 (by decide) rfl ?_
    refine go_goto 18 dX7_party_14 rfl ?_
    refine go_reti dX7_party_18 ⟨_, rfl, rfl⟩ ?_
    exact ⟨by rw [tbn0 c10]; rfl, H, hZ⟩
theorem i_pow : ∀ P, P ≤ 8 → nI 1 <<< (nI P &&& 31) = nI (allB P + 1) := by decide +kernel
theorem msk_nI {P s : Nat} (hP : P ≤ 8) (hs : s < allB P + 1) : msk P (nI s) = s := by
  have h0 := allB_lt hP
  have h1 : allB P + 1 = 2 ^ P := Nat.sub_add_cancel (Nat.pow_pos (by decide))
  unfold msk
  rw [pk_tn (by omega)]
  exact Nat.mod_eq_of_lt (by omega)
theorem ptS_b {K : mK} : ∀ s, ((ptS K s).2.1 = 0 ∧ (ptS K s).2.2 = 1) ∨ ((ptS K s).2.2 = popc (ptS K s).2.1 ∧ (ptS K s).2.1 < s)
  | 0 => Or.inl ⟨rfl, rfl⟩
  | s + 1 => by
    have ih := ptS_b (K := K) s
    simp only [ptS]
    split
    · omega
    · simp only []
      split
      · exact Or.inr ⟨rfl, Nat.lt_succ_self s⟩
      · omega
theorem l_mparties {G : kG} {n sz : Nat} {tx : Nat → Nat} {ν : mN} {i0 i1 : Option mN} {T : mT} {tr : Int64} {h0 h : kH} {x : Int32} (hn : 49 ≤ n) (hP : T.1 ≤ 8) (H : oM G (tx, sz, ν, i0, i1, T, tr) h) (hZ : kFr 37 49 h0 h) (hx : choB x = true) : ∀ (d s : Nat), allB T.1 + 1 - s < d → s ≤ allB T.1 + 1 → Go G mX7_parties (2, 0, 0) 23 [(4, .int (nI s)), (3, .int (nI (ptS ν.1 s).2.1)), (2, .int (nI (ptS ν.1 s).1)), (0, .ref (kb G + 37)), (1, .int x)] [] (n, 0, 0) h (kQi mX7_parties n (fun v h' => v = fParties T ν x ∧ oM G (tx, sz, ν, i0, i1, T, tr) h' ∧ kFr 37 49 h0 h')) := by
  intro d
  have hall := allB_lt hP
  obtain ⟨⟨F, HO⟩, -, -, -, HS, -⟩ := id H
  have HO : mO G F tr sz T h := HO
  have hM : h 37 = .inr (7, [.int (F 0), .long tr, .ref (kb G + 38), .int (nI sz), .int (F 4), .int (F 5), .int (F 6), .int (F 7), .int (F 8), .ref (kb G + 39), .ref (kb G + 40), .int (nI T.1), .int (F 12), .int (nI T.2.2.2.1), .int (F 14), .int (nI T.2.2.2.2.1), .int (F 16), .int (nI T.2.2.2.2.2), .int (F 18), .int (F 19), .int (F 20), .ref (kb G + 41), .ref (kb G + 42), .ref (kb G + 43), .ref (kb G + 44), .ref (kb G + 45), .ref (kb G + 46), .ref (kb G + 47), .ref (kb G + 48)]) := HO
  induction d with
  | zero => intro s hd; omega
  | succ d ih =>
    intro s hd hs
    have hle := ptS_b (K := ν.1) s
    generalize he : ptS ν.1 s = r at hle ⊢
    have hr : r.2.1 < 256 := by omega
    refine go_iload 0 (nx := 25) dX7_parties_23 rfl rfl ?_
    refine go_iconst (v := nI 1) (nx := 26) dX7_parties_25 (by decide) rfl ?_
    refine go_aload_n 3 (nx := 27) dX7_parties_26 rfl rfl rfl ?_
    refine go_gf (nx := 30) fg_X7_137 dX7_parties_27 (by omega) hM rfl rfl ?_
    refine go_ishl (nx := 31) dX7_parties_30 rfl ?_
    rw [i_pow _ hP]
    refine go_icmp_ge 80 (nx := 34) dX7_parties_31 rfl rfl (fun c31 => ?_) (fun c31 => ?_)
    · skip
      refine go_iload_n 4 (nx := 81) dX7_parties_80 rfl rfl rfl ?_
      refine go_if_ne 88 (nx := 84) dX7_parties_81 rfl rfl (fun c81 => ?_) (fun c81 => ?_)
      · skip
        refine go_iload_n 1 (nx := 89) dX7_parties_88 rfl rfl rfl ?_
        refine go_reti dX7_parties_89 ⟨_, rfl, rfl⟩ ?_
        have e8 : s = allB T.1 + 1 := by have := kle c31; omega
        rw [fParties, if_pos hx, ← e8, he, if_neg (fun q => c81 (by rw [q]; rfl))]
        exact ⟨rfl, H, hZ⟩
      · skip
        refine go_iload_n 2 (nx := 85) dX7_parties_84 rfl rfl rfl ?_
        refine go_goto 89 dX7_parties_85 rfl ?_
        refine go_reti dX7_parties_89 ⟨_, rfl, rfl⟩ ?_
        have e8 : s = allB T.1 + 1 := by have := kle c31; omega
        rw [fParties, if_pos hx, ← e8, he, if_pos (show x = nI 0 from c81)]
        exact ⟨rfl, H, hZ⟩
    · skip
      have h8 := knle c31
      refine go_iload 0 (nx := 36) dX7_parties_34 rfl rfl ?_
      refine go_Si (nx := 39) [_] kc_X7_161 (m_ones rfl (by omega)) dX7_parties_36 rfl rfl (Nat.le_of_ble_eq_true rfl) (Nat.le_of_ble_eq_true rfl) ⟨Nat.le_refl _, Nat.le_refl _⟩ rfl (fun rh1 h1 hqh1 => ?_)
      obtain ⟨rfl, rfl⟩ := hqh1
      refine go_iconst (v := nI 1) (nx := 40) dX7_parties_39 (by decide) rfl ?_
      refine go_icmp_le 74 (nx := 43) dX7_parties_40 rfl rfl (fun c40 => ?_) (fun c40 => ?_)
      · skip
        refine go_iinc 0 (v := nI (s + 1)) (lv' := [_, _, _, _, _]) (nx := 77) dX7_parties_74 rfl (nI_inc s) (by decide) rfl rfl ?_
        refine go_goto 23 dX7_parties_77 rfl ?_
        refine Go.sub [0, 1, 2, 3, 4] rfl ?_
        have k := ih (s + 1) (by omega) (by omega)
        rw [show ptS ν.1 (s + 1) = r by simp only [ptS]; rw [if_pos (Or.inl (by have := kle c40 (by have := popc_le s; omega) (by decide); omega)), he]] at k
        exact k
      · skip
        refine go_aload_n 3 (nx := 44) dX7_parties_43 rfl rfl rfl ?_
        refine go_iload 0 (nx := 46) dX7_parties_44 rfl rfl ?_
        refine go_Vi (nx := 49) [_] kc_X7_217 ⟨_, _, rfl⟩ (by omega) hM (m_isParty hn HO HS hP) dX7_parties_46 rfl rfl (Nat.le_of_ble_eq_true rfl) (Nat.le_of_ble_eq_true rfl) ⟨Nat.le_refl _, Nat.le_refl _⟩ rfl (fun rh2 h2 hqh2 => ?_)
        obtain ⟨rfl, rfl⟩ := hqh2
        rw [msk_nI hP h8]
        refine go_if_eq 74 (nx := 52) dX7_parties_49 rfl rfl (fun c49 => ?_) (fun c49 => ?_)
        · skip
          refine go_iinc 0 (v := nI (s + 1)) (lv' := [_, _, _, _, _]) (nx := 77) dX7_parties_74 rfl (nI_inc s) (by decide) rfl rfl ?_
          refine go_goto 23 dX7_parties_77 rfl ?_
          refine Go.sub [0, 1, 2, 3, 4] rfl ?_
          have k := ih (s + 1) (by omega) (by omega)
          rw [show ptS ν.1 (s + 1) = r by simp only [ptS]; rw [if_pos (Or.inr (tb0 c49)), he]] at k
          exact k
        · skip
          refine go_iinc 2 (v := nI (r.1 + 1)) (lv' := [_, _, _, _, _]) (nx := 55) dX7_parties_52 rfl (nI_inc _) (by decide) rfl rfl ?_
          refine go_iload 1 (nx := 57) dX7_parties_55 rfl rfl ?_
          refine go_Si (nx := 60) [_] kc_X7_161 (m_ones rfl (by omega)) dX7_parties_57 rfl rfl (Nat.le_of_ble_eq_true rfl) (Nat.le_of_ble_eq_true rfl) ⟨Nat.le_refl _, Nat.le_refl _⟩ rfl (fun rh3 h3 hqh3 => ?_)
          obtain ⟨rfl, rfl⟩ := hqh3
          refine go_iload_n 2 (nx := 61) dX7_parties_60 rfl rfl rfl ?_
          refine go_Si (nx := 64) [_] kc_X7_161 (m_ones rfl hr) dX7_parties_61 rfl rfl (Nat.le_of_ble_eq_true rfl) (Nat.le_of_ble_eq_true rfl) ⟨Nat.le_refl _, Nat.le_refl _⟩ rfl (fun rh4 h4 hqh4 => ?_)
          obtain ⟨rfl, rfl⟩ := hqh4
          refine go_icmp_le 72 (nx := 67) dX7_parties_64 rfl rfl (fun c64 => ?_) (fun c64 => ?_)
          · skip
            refine go_iload_n 2 (nx := 73) dX7_parties_72 rfl rfl rfl ?_
            refine go_istore_n (lv' := [_, _, _, _, _]) (nx := 74) dX7_parties_73 rfl (by decide) rfl rfl ?_
            refine go_iinc 2 (v := nI (s + 1)) (lv' := [_, _, _, _, _]) (nx := 77) dX7_parties_74 rfl (nI_inc s) (by decide) rfl rfl ?_
            refine go_goto 23 dX7_parties_77 rfl ?_
            refine Go.sub [0, 1, 2, 3, 4] rfl ?_
            have z2 := knle c40 (by have := popc_le s; omega) (by decide)
            have zz := kle c64 (by have := popc_le s; omega) (by have := popc_le r.2.1; omega)
            have zq : r.2.2 < popc s ↔ popc r.2.1 < popc s := by
              rcases hle with q | q
              · rw [q.1, q.2, show popc 0 = 0 from rfl]; omega
              · rw [q.1]
            have k := ih (s + 1) (by omega) (by omega)
            rw [show ptS ν.1 (s + 1) = (r.1 + 1, r.2.1, r.2.2) by
              simp only [ptS]
              rw [if_neg (by rw [tbn0 c49]; simp; exact z2), he, if_neg (by have := zq.mp; omega), if_neg (by have := zq.mp; omega)]] at k
            exact k
          · skip
            refine go_iload 1 (nx := 69) dX7_parties_67 rfl rfl ?_
            refine go_goto 73 dX7_parties_69 rfl ?_
            refine go_istore_n (lv' := [_, _, _, _, _]) (nx := 74) dX7_parties_73 rfl (by decide) rfl rfl ?_
            refine go_iinc 2 (v := nI (s + 1)) (lv' := [_, _, _, _, _]) (nx := 77) dX7_parties_74 rfl (nI_inc s) (by decide) rfl rfl ?_
            refine go_goto 23 dX7_parties_77 rfl ?_
            refine Go.sub [0, 1, 2, 3, 4] rfl ?_
            have z2 := knle c40 (by have := popc_le s; omega) (by decide)
            have zz := knle c64 (by have := popc_le s; omega) (by have := popc_le r.2.1; omega)
            have zq : r.2.2 < popc s ↔ popc r.2.1 < popc s := by
              rcases hle with q | q
              · rw [q.1, q.2, show popc 0 = 0 from rfl]; omega
              · rw [q.1]
            have k := ih (s + 1) (by omega) (by omega)
            rw [show ptS ν.1 (s + 1) = (r.1 + 1, s, popc s) by
              simp only [ptS]
              rw [if_neg (by rw [tbn0 c49]; simp; exact z2), he, if_pos (zq.mpr zz), if_pos (zq.mpr zz)]] at k
            exact k
theorem m_parties {G : kG} {n sz : Nat} {h : kH} {tx : Nat → Nat} {ν : mN} {i0 i1 : Option mN} {T : mT} {tr : Int64} {x : Int32} (hn : 49 ≤ n) (H : oM G (tx, sz, ν, i0, i1, T, tr) h) (W : wS (tx, sz, ν, i0, i1, T, tr)) : Spi G mX7_parties 2 [.ref (kb G + 37), .int x] n h (fun v h' => v = fParties T ν x ∧ oM G (tx, sz, ν, i0, i1, T, tr) h' ∧ kFr 37 49 h h') := by
  obtain ⟨hwT, hwN, hY, hw0, hw1, hsz, htx⟩ := id W
  have hwT : wT T := hwT
  have hwN : wN T.1 ν := hwN
  have hY : ν.2.2.2.1 ≤ 99 := hY
  have hsz : sz ≤ 400 := hsz
  have hP := hwT.1
  obtain ⟨⟨F, HO⟩, -⟩ := id H
  have hM : h 37 = .inr (7, [.int (F 0), .long tr, .ref (kb G + 38), .int (nI sz), .int (F 4), .int (F 5), .int (F 6), .int (F 7), .int (F 8), .ref (kb G + 39), .ref (kb G + 40), .int (nI T.1), .int (F 12), .int (nI T.2.2.2.1), .int (F 14), .int (nI T.2.2.2.2.1), .int (F 16), .int (nI T.2.2.2.2.2), .int (F 18), .int (F 19), .int (F 20), .ref (kb G + 41), .ref (kb G + 42), .ref (kb G + 43), .ref (kb G + 44), .ref (kb G + 45), .ref (kb G + 46), .ref (kb G + 47), .ref (kb G + 48)]) := HO
  refine Spi.of (by decide) (Nat.le_of_ble_eq_true rfl) ?_
  refine Go.loc (lv' := [(0, _), (1, _)]) rfl ?_
  refine go_aload_n 0 (nx := 1) dX7_parties_0 rfl rfl rfl ?_
  refine go_iconst (v := nI 0) (nx := 2) dX7_parties_1 (by decide) rfl ?_
  refine go_pf (fs' := [_, _, _, _, _, _, _, _, _, _, _, _, _, _, _, _, _, _, _, _, _, _, _, _, _, _, _, _, _]) (nx := 5) (fp_X7_51 _) dX7_parties_2 (by omega) hM (Nat.le_of_ble_eq_true rfl) ⟨rfl, rfl⟩ rfl rfl (fun h1 eh1 fh1 => ?_)
  have hM := eh1
  have hZ : kFr 37 49 h h1 := fun j hj => fh1 j (by omega)
  have H := H.setO (F := upd F 0 (nI 0)) (tr := tr) hM (fun j hj => fh1 j (by omega))
  have H : oM G (tx, sz, ν, i0, i1, T, tr) h1 := H
  obtain ⟨⟨F5, HO⟩, HTm, HKt, HH, HS, HSp, HKe, HRi, HPa, HAh, HDo⟩ := id H
  have HO : mO G F5 tr sz T h1 := HO
  have HTm : oTm G tx sz h1 := HTm
  have HKt : oKt G T h1 := HKt
  have HH : oHab G T h1 := HH
  have HS : oS G ν h1 := HS
  have HKe : oKe G i0 i1 h1 := HKe
  have hM : h1 37 = .inr (7, [.int (F5 0), .long tr, .ref (kb G + 38), .int (nI sz), .int (F5 4), .int (F5 5), .int (F5 6), .int (F5 7), .int (F5 8), .ref (kb G + 39), .ref (kb G + 40), .int (nI T.1), .int (F5 12), .int (nI T.2.2.2.1), .int (F5 14), .int (nI T.2.2.2.2.1), .int (F5 16), .int (nI T.2.2.2.2.2), .int (F5 18), .int (F5 19), .int (F5 20), .ref (kb G + 41), .ref (kb G + 42), .ref (kb G + 43), .ref (kb G + 44), .ref (kb G + 45), .ref (kb G + 46), .ref (kb G + 47), .ref (kb G + 48)]) := HO
  obtain ⟨sa, hs, hs1, hs2, hs3, hs4, hs5⟩ := id HS
  refine go_iload_n 1 (nx := 6) dX7_parties_5 rfl rfl rfl ?_
  refine go_iconst (v := nI 0) (nx := 7) dX7_parties_6 (by decide) rfl ?_
  refine go_iconst (v := nI 1) (nx := 8) dX7_parties_7 (by decide) rfl ?_
  refine go_Si (nx := 11) [_, _, _] kc_X7_54 s_in dX7_parties_8 rfl rfl (Nat.le_of_ble_eq_true rfl) (Nat.le_of_ble_eq_true rfl) ⟨Nat.le_refl _, Nat.le_refl _⟩ rfl (fun rh2 h2 hqh2 => ?_)
  obtain ⟨rfl, rfl⟩ := hqh2
  refine go_if_ne 16 (nx := 14) dX7_parties_11 rfl rfl (fun c11 => ?_) (fun c11 => ?_)
  · skip
    refine go_iconst (v := nI 0) (nx := 17) dX7_parties_16 (by decide) rfl ?_
    refine go_istore_n (lv' := [_, _, _]) (nx := 18) dX7_parties_17 rfl (by decide) rfl rfl ?_
    refine go_iconst (v := nI 0) (nx := 19) dX7_parties_18 (by decide) rfl ?_
    refine go_istore_n (lv' := [_, _, _, _]) (nx := 20) dX7_parties_19 rfl (by decide) rfl rfl ?_
    refine go_iconst (v := nI 0) (nx := 21) dX7_parties_20 (by decide) rfl ?_
    refine go_istore (lv' := [_, _, _, _, _]) (nx := 23) dX7_parties_21 (by decide) rfl rfl ?_
    refine Go.sub [0, 1, 2, 3, 4] rfl ?_
    have hc : choB x = true := by rw [← in01]; exact tbn0 c11
    exact l_mparties hn hP H hZ hc (allB T.1 + 2) 0 (by omega) (by omega)
  · skip
    refine go_iconst (v := (-1)) (nx := 15) dX7_parties_14 (by decide) rfl ?_
    refine go_reti dX7_parties_15 ⟨_, rfl, rfl⟩ ?_
    have hc : choB x = false := by rw [← in01]; exact tb0 c11
    rw [fParties, if_neg (by rw [hc]; decide)]
    exact ⟨rfl, H, hZ⟩
