/-! THE REFERENCE: its cells. It stands at 37; text 38, knowsTold 39, habits 40, s 41, spare 42, kept 43, isKept 44, ring 45, pair 46, ahead 47, does 48 -/
def mO (G : kG) (F : Nat → Int32) (tr : Int64) (sz : Nat) (T : mT) (h : kH) : Prop := h 37 = .inr (7, [.int (F 0), .long tr, .ref (kb G + 38), .int (nI sz), .int (F 4), .int (F 5), .int (F 6), .int (F 7), .int (F 8), .ref (kb G + 39), .ref (kb G + 40), .int (nI T.1), .int (F 12), .int (nI T.2.2.2.1), .int (F 14), .int (nI T.2.2.2.2.1), .int (F 16), .int (nI T.2.2.2.2.2), .int (F 18), .int (F 19), .int (F 20), .ref (kb G + 41), .ref (kb G + 42), .ref (kb G + 43), .ref (kb G + 44), .ref (kb G + 45), .ref (kb G + 46), .ref (kb G + 47), .ref (kb G + 48)])
def sIs (a : Nat → Int32) (ν : mN) : Prop := (∀ p, p < 8 → a p = nI (row ν.1 p)) ∧ (∀ j, j < 64 → a (8 + j) = ν.2.1 j) ∧ a 72 = nI ν.2.2.2.1 ∧ (∀ p, p < 8 → a (73 + p) = nI (ν.2.2.1 p)) ∧ a 81 = ν.2.2.2.2
def oS (G : kG) (ν : mN) (h : kH) : Prop := ∃ a : Nat → Int32, h 41 = .inl (G.2.1, 82, .inl a) ∧ sIs a ν
def oHab (G : kG) (T : mT) (h : kH) : Prop := ∃ a : Nat → Int32, h 40 = .inl (G.2.1, 16, .inl a) ∧ ∀ p, p < 8 → a p = hab (T.2.2.1 p)
theorem row_lt (K : mK) (b : Nat) : row K b < 256 := bits_lt _
theorem row_set {K : mK} {a b : Nat} (hb : b < 8) : row (kSet K a b) a = row K a ||| 2 ^ b := by
  rw [row, row, bits_set _ hb]
  exact bits_ext fun i _ => by simp [kSet]
theorem row_ne {K : mK} {a b c : Nat} (h : c ≠ a) : row (kSet K a b) c = row K c := bits_ext fun i _ => by simp [kSet, h]
theorem row_bit (K : mK) (a : Nat) {b : Nat} (hb : b < 8) : (row K a).testBit b = K a b := bits_test _ hb
theorem ct_tail {f : Nat → Bool} {P : Nat} : ∀ {m : Nat}, P ≤ m → (∀ a, P ≤ a → f a = false) → fb_ct f m = fb_ct f P
  | 0, hP, _ => by rw [show P = 0 by omega]
  | m + 1, hP, h => by
    by_cases e : P = m + 1
    · rw [e]
    · show fb_ct f m + (if f m = true then 1 else 0) = _
      rw [h m (by omega), ct_tail (by omega) h]
      rfl
theorem cnt_P {P : Nat} {K : mK} (hP : P ≤ 8) (hK : wK P K) (p : Nat) : fb_ct (fun a => K a p) P = cnt K p := by
  rw [cnt, cntB_ct, ct_tail hP]
  intro a ha
  cases e : K a p
  · rfl
  · exact absurd (hK a p e).1 (by omega)
theorem s_in {G : kG} {n : Nat} {h : kH} {x a b : Int32} : Spi G mX7_in 0 [.int x, .int a, .int b] n h (fun v h' => v = bI (inB a b x) ∧ h' = h) := by
  refine Spi.of (by decide) (Nat.le_of_ble_eq_true rfl) ?_
  refine go_iload_n 0 (nx := 1) dX7_in_0 rfl rfl rfl ?_
  refine go_iload_n 1 (nx := 2) dX7_in_1 rfl rfl rfl ?_
  refine go_icmp_lt 14 (nx := 5) dX7_in_2 rfl rfl (fun c2 => ?_) (fun c2 => ?_)
  · skip
    refine go_iconst (v := nI 0) (nx := 15) dX7_in_14 (by decide) rfl ?_
    refine go_reti dX7_in_15 ⟨_, rfl, rfl⟩ ?_
    refine ⟨?_, rfl⟩
    rw [show inB a b x = false by simp [inB]; intro q; exact absurd q (Int32.not_le.mpr c2)]; rfl
  · skip
    refine go_iload_n 0 (nx := 6) dX7_in_5 rfl rfl rfl ?_
    refine go_iload_n 2 (nx := 7) dX7_in_6 rfl rfl rfl ?_
    refine go_icmp_gt 14 (nx := 10) dX7_in_7 rfl rfl (fun c7 => ?_) (fun c7 => ?_)
    · skip
      refine go_iconst (v := nI 0) (nx := 15) dX7_in_14 (by decide) rfl ?_
      refine go_reti dX7_in_15 ⟨_, rfl, rfl⟩ ?_
      refine ⟨?_, rfl⟩
      rw [show inB a b x = false by simp [inB]; intro _; exact c7]; rfl
    · skip
      refine go_iconst (v := nI 1) (nx := 11) dX7_in_10 (by decide) rfl ?_
      refine go_goto 15 dX7_in_11 rfl ?_
      refine go_reti dX7_in_15 ⟨_, rfl, rfl⟩ ?_
      refine ⟨?_, rfl⟩
      rw [show inB a b x = true by simp [inB]; exact ⟨Int32.not_lt.mp c2, Int32.not_lt.mp c7⟩]; rfl
theorem per_in {T : mT} {x : Int32} (hP : T.1 ≤ 8) : inB (nI 0) (nI T.1 - nI 1) x = perB T x := by
  unfold inB perB
  rw [show (nI 0 : Int32) = 0 from rfl]
  congr 1
  rw [Bool.eq_iff_iff]
  simp only [decide_eq_true_eq]
  rw [Int32.le_iff_toInt_le, Int32.lt_iff_toInt_lt, nI_toInt (by omega), pk_sub_toInt (by omega) (by decide)]
  omega
theorem m_isPerson {G : kG} {n sz : Nat} {h : kH} {T : mT} {tr : Int64} {F : Nat → Int32} {x : Int32} (hn : 49 ≤ n) (HO : mO G F tr sz T h) (hP : T.1 ≤ 8) : Spi G mX7_isPerson 1 [.ref (kb G + 37), .int x] n h (fun v h' => v = bI (perB T x) ∧ h' = h) := by
  have hM : h 37 = .inr (7, [.int (F 0), .long tr, .ref (kb G + 38), .int (nI sz), .int (F 4), .int (F 5), .int (F 6), .int (F 7), .int (F 8), .ref (kb G + 39), .ref (kb G + 40), .int (nI T.1), .int (F 12), .int (nI T.2.2.2.1), .int (F 14), .int (nI T.2.2.2.2.1), .int (F 16), .int (nI T.2.2.2.2.2), .int (F 18), .int (F 19), .int (F 20), .ref (kb G + 41), .ref (kb G + 42), .ref (kb G + 43), .ref (kb G + 44), .ref (kb G + 45), .ref (kb G + 46), .ref (kb G + 47), .ref (kb G + 48)]) := HO
  refine Spi.of (by decide) (Nat.le_of_ble_eq_true rfl) ?_
  refine go_iload_n 1 (nx := 1) dX7_isPerson_0 rfl rfl rfl ?_
  refine go_iconst (v := nI 0) (nx := 2) dX7_isPerson_1 (by decide) rfl ?_
  refine go_aload_n 0 (nx := 3) dX7_isPerson_2 rfl rfl rfl ?_
  refine go_gf (nx := 6) fg_X7_137 dX7_isPerson_3 (by omega) hM rfl rfl ?_
  refine go_iconst (v := nI 1) (nx := 7) dX7_isPerson_6 (by decide) rfl ?_
  refine go_isub (nx := 8) dX7_isPerson_7 rfl ?_
  refine go_Si (nx := 11) [_, _, _] kc_X7_54 s_in dX7_isPerson_8 rfl rfl (Nat.le_of_ble_eq_true rfl) (Nat.le_of_ble_eq_true rfl) ⟨Nat.le_refl _, Nat.le_refl _⟩ rfl (fun rh1 h1 hqh1 => ?_)
  obtain ⟨rfl, rfl⟩ := hqh1
  refine go_reti dX7_isPerson_11 ⟨_, rfl, nar_bI _⟩ ?_
  exact ⟨by rw [per_in hP], rfl⟩
theorem m_areTwo {G : kG} {n sz : Nat} {h : kH} {T : mT} {tr : Int64} {F : Nat → Int32} {x y : Int32} (hn : 49 ≤ n) (HO : mO G F tr sz T h) (hP : T.1 ≤ 8) : Spi G mX7_areTwo 2 [.ref (kb G + 37), .int x, .int y] n h (fun v h' => v = bI (pairB T x y) ∧ h' = h) := by
  have hM : h 37 = .inr (7, [.int (F 0), .long tr, .ref (kb G + 38), .int (nI sz), .int (F 4), .int (F 5), .int (F 6), .int (F 7), .int (F 8), .ref (kb G + 39), .ref (kb G + 40), .int (nI T.1), .int (F 12), .int (nI T.2.2.2.1), .int (F 14), .int (nI T.2.2.2.2.1), .int (F 16), .int (nI T.2.2.2.2.2), .int (F 18), .int (F 19), .int (F 20), .ref (kb G + 41), .ref (kb G + 42), .ref (kb G + 43), .ref (kb G + 44), .ref (kb G + 45), .ref (kb G + 46), .ref (kb G + 47), .ref (kb G + 48)]) := HO
  refine Spi.of (by decide) (Nat.le_of_ble_eq_true rfl) ?_
  refine go_aload_n 0 (nx := 1) dX7_areTwo_0 rfl rfl rfl ?_
  refine go_iload_n 1 (nx := 2) dX7_areTwo_1 rfl rfl rfl ?_
  refine go_Vi (nx := 5) [_] kc_X7_146 ⟨_, _, rfl⟩ (by omega) hM (m_isPerson hn HO hP) dX7_areTwo_2 rfl rfl (Nat.le_of_ble_eq_true rfl) (Nat.le_of_ble_eq_true rfl) ⟨Nat.le_refl _, Nat.le_refl _⟩ rfl (fun rh1 h1 hqh1 => ?_)
  obtain ⟨rfl, rfl⟩ := hqh1
  refine go_if_eq 25 (nx := 8) dX7_areTwo_5 rfl rfl (fun c5 => ?_) (fun c5 => ?_)
  · skip
    refine go_iconst (v := nI 0) (nx := 26) dX7_areTwo_25 (by decide) rfl ?_
    refine go_reti dX7_areTwo_26 ⟨_, rfl, rfl⟩ ?_
    refine ⟨?_, rfl⟩
    rw [show pairB T x y = false by simp [pairB, tb0 c5]]; rfl
  · skip
    refine go_aload_n 0 (nx := 9) dX7_areTwo_8 rfl rfl rfl ?_
    refine go_iload_n 2 (nx := 10) dX7_areTwo_9 rfl rfl rfl ?_
    refine go_Vi (nx := 13) [_] kc_X7_146 ⟨_, _, rfl⟩ (by omega) hM (m_isPerson hn HO hP) dX7_areTwo_10 rfl rfl (Nat.le_of_ble_eq_true rfl) (Nat.le_of_ble_eq_true rfl) ⟨Nat.le_refl _, Nat.le_refl _⟩ rfl (fun rh2 h2 hqh2 => ?_)
    obtain ⟨rfl, rfl⟩ := hqh2
    refine go_if_eq 25 (nx := 16) dX7_areTwo_13 rfl rfl (fun c13 => ?_) (fun c13 => ?_)
    · skip
      refine go_iconst (v := nI 0) (nx := 26) dX7_areTwo_25 (by decide) rfl ?_
      refine go_reti dX7_areTwo_26 ⟨_, rfl, rfl⟩ ?_
      refine ⟨?_, rfl⟩
      rw [show pairB T x y = false by simp [pairB, tb0 c13]]; rfl
    · skip
      refine go_iload_n 1 (nx := 17) dX7_areTwo_16 rfl rfl rfl ?_
      refine go_iload_n 2 (nx := 18) dX7_areTwo_17 rfl rfl rfl ?_
      refine go_icmp_eq 25 (nx := 21) dX7_areTwo_18 rfl rfl (fun c18 => ?_) (fun c18 => ?_)
      · skip
        refine go_iconst (v := nI 0) (nx := 26) dX7_areTwo_25 (by decide) rfl ?_
        refine go_reti dX7_areTwo_26 ⟨_, rfl, rfl⟩ ?_
        refine ⟨?_, rfl⟩
        rw [show pairB T x y = false by simp [pairB, c18]]; rfl
      · skip
        refine go_iconst (v := nI 1) (nx := 22) dX7_areTwo_21 (by decide) rfl ?_
        refine go_goto 26 dX7_areTwo_22 rfl ?_
        refine go_reti dX7_areTwo_26 ⟨_, rfl, rfl⟩ ?_
        refine ⟨?_, rfl⟩
        rw [show pairB T x y = true by simp [pairB, tbn0 c5, tbn0 c13, c18]]; rfl
theorem m_isKnown {G : kG} {n sz : Nat} {h : kH} {ν : mN} {T : mT} {tr : Int64} {F : Nat → Int32} {a b : Nat} {x y : Int32} (hn : 49 ≤ n) (HO : mO G F tr sz T h) (HS : oS G ν h) (hx : x = nI a) (ha : a < 8) (hy : y = nI b) (hb : b < 8) : Spi G mX7_isKnown 0 [.ref (kb G + 37), .int x, .int y] n h (fun v h' => v = bI (ν.1 a b) ∧ h' = h) := by
  subst hx hy
  have hM : h 37 = .inr (7, [.int (F 0), .long tr, .ref (kb G + 38), .int (nI sz), .int (F 4), .int (F 5), .int (F 6), .int (F 7), .int (F 8), .ref (kb G + 39), .ref (kb G + 40), .int (nI T.1), .int (F 12), .int (nI T.2.2.2.1), .int (F 14), .int (nI T.2.2.2.2.1), .int (F 16), .int (nI T.2.2.2.2.2), .int (F 18), .int (F 19), .int (F 20), .ref (kb G + 41), .ref (kb G + 42), .ref (kb G + 43), .ref (kb G + 44), .ref (kb G + 45), .ref (kb G + 46), .ref (kb G + 47), .ref (kb G + 48)]) := HO
  obtain ⟨sa, hs, hs1, hs2, hs3, hs4, hs5⟩ := HS
  refine Spi.of (by decide) (Nat.le_of_ble_eq_true rfl) ?_
  refine go_aload_n 0 (nx := 1) dX7_isKnown_0 rfl rfl rfl ?_
  refine go_gf (nx := 4) fg_X7_19 dX7_isKnown_1 (by omega) hM rfl rfl ?_
  refine go_iload_n 1 (nx := 5) dX7_isKnown_4 rfl rfl rfl ?_
  refine go_ial (a) (nx := 6) dX7_isKnown_5 (by omega) hs rfl (by omega) (by omega) rfl ?_
  rw [hs1 a ha]
  refine go_iload_n 2 (nx := 7) dX7_isKnown_6 rfl rfl rfl ?_
  refine go_ishr (nx := 8) dX7_isKnown_7 rfl ?_
  refine go_iconst (v := nI 1) (nx := 9) dX7_isKnown_8 (by decide) rfl ?_
  refine go_iand (nx := 10) dX7_isKnown_9 rfl ?_
  rw [i_get _ (row_lt _ _) b hb, row_bit _ _ hb]
  refine go_iconst (v := nI 1) (nx := 11) dX7_isKnown_10 (by decide) rfl ?_
  refine go_icmp_ne 18 (nx := 14) dX7_isKnown_11 rfl rfl (fun c11 => ?_) (fun c11 => ?_)
  · skip
    refine go_iconst (v := nI 0) (nx := 19) dX7_isKnown_18 (by decide) rfl ?_
    refine go_reti dX7_isKnown_19 ⟨_, rfl, rfl⟩ ?_
    exact ⟨by rw [tbn1 c11]; rfl, rfl⟩
  · skip
    refine go_iconst (v := nI 1) (nx := 15) dX7_isKnown_14 (by decide) rfl ?_
    refine go_goto 19 dX7_isKnown_15 rfl ?_
    refine go_reti dX7_isKnown_19 ⟨_, rfl, rfl⟩ ?_
    exact ⟨by rw [tb1 c11]; rfl, rfl⟩
theorem l_mcount {G : kG} {n sz : Nat} {h : kH} {ν : mN} {T : mT} {tr : Int64} {F : Nat → Int32} {p : Nat} (hn : 49 ≤ n) (HO : mO G F tr sz T h) (HS : oS G ν h) (hP : T.1 ≤ 8) (hv : wK T.1 ν.1) (hp : p < 8) : ∀ (d a : Nat), T.1 - a < d → a ≤ T.1 → Go G mX7_countOf (0, 0, 0) 4 [(3, .int (nI a)), (2, .int (nI (fb_ct (fun a => ν.1 a p) a))), (0, .ref (kb G + 37)), (1, .int (nI p))] [] (n, 0, 0) h (kQi mX7_countOf n (fun v h' => v = nI (cnt ν.1 p) ∧ h' = h)) := by
  intro d
  have hM : h 37 = .inr (7, [.int (F 0), .long tr, .ref (kb G + 38), .int (nI sz), .int (F 4), .int (F 5), .int (F 6), .int (F 7), .int (F 8), .ref (kb G + 39), .ref (kb G + 40), .int (nI T.1), .int (F 12), .int (nI T.2.2.2.1), .int (F 14), .int (nI T.2.2.2.2.1), .int (F 16), .int (nI T.2.2.2.2.2), .int (F 18), .int (F 19), .int (F 20), .ref (kb G + 41), .ref (kb G + 42), .ref (kb G + 43), .ref (kb G + 44), .ref (kb G + 45), .ref (kb G + 46), .ref (kb G + 47), .ref (kb G + 48)]) := HO
  obtain ⟨sa, hs, hs1, hs2, hs3, hs4, hs5⟩ := HS
  induction d with
  | zero => intro a hd; omega
  | succ d ih =>
    intro a hd ha
    refine go_iload_n 0 (nx := 5) dX7_countOf_4 rfl rfl rfl ?_
    refine go_aload_n 2 (nx := 6) dX7_countOf_5 rfl rfl rfl ?_
    refine go_gf (nx := 9) fg_X7_137 dX7_countOf_6 (by omega) hM rfl rfl ?_
    refine go_icmp_ge 31 (nx := 12) dX7_countOf_9 rfl rfl (fun c9 => ?_) (fun c9 => ?_)
    · skip
      refine go_iload_n 1 (nx := 32) dX7_countOf_31 rfl rfl rfl ?_
      refine go_reti dX7_countOf_32 ⟨_, rfl, rfl⟩ ?_
      have e8 : a = T.1 := by have := kle c9; omega
      subst e8
      exact ⟨by rw [cnt_P hP hv], rfl⟩
    · skip
      have h8 := knle c9
      refine go_iload_n 1 (nx := 13) dX7_countOf_12 rfl rfl rfl ?_
      refine go_aload_n 2 (nx := 14) dX7_countOf_13 rfl rfl rfl ?_
      refine go_gf (nx := 17) fg_X7_19 dX7_countOf_14 (by omega) hM rfl rfl ?_
      refine go_iload_n 0 (nx := 18) dX7_countOf_17 rfl rfl rfl ?_
      refine go_ial (a) (nx := 19) dX7_countOf_18 (by omega) hs rfl (by have := knle c9; omega) (by omega) rfl ?_
      rw [hs1 a (by omega)]
      refine go_iload_n 3 (nx := 20) dX7_countOf_19 rfl rfl rfl ?_
      refine go_ishr (nx := 21) dX7_countOf_20 rfl ?_
      refine go_iconst (v := nI 1) (nx := 22) dX7_countOf_21 (by decide) rfl ?_
      refine go_iand (nx := 23) dX7_countOf_22 rfl ?_
      rw [i_get _ (row_lt _ _) p hp, row_bit _ _ hp]
      refine go_iadd (nx := 24) dX7_countOf_23 rfl ?_
      rw [show nI (fb_ct (fun a => ν.1 a p) a) + bI (ν.1 a p) = nI (fb_ct (fun a => ν.1 a p) (a + 1)) from by
        show _ = nI (_ + (if ν.1 a p = true then 1 else 0))
        rw [← nI_add]
        cases ν.1 a p <;> rfl]
      refine go_istore_n (lv' := [_, _, _, _]) (nx := 25) dX7_countOf_24 rfl (by decide) rfl rfl ?_
      refine go_iinc 1 (v := nI (a + 1)) (lv' := [_, _, _, _]) (nx := 28) dX7_countOf_25 rfl (nI_inc a) (by decide) rfl rfl ?_
      refine go_goto 4 dX7_countOf_28 rfl ?_
      refine Go.sub [0, 1, 2, 3] rfl ?_
      exact ih (a + 1) (by omega) (by omega)
theorem m_countOf {G : kG} {n sz : Nat} {h : kH} {ν : mN} {T : mT} {tr : Int64} {F : Nat → Int32} {p : Nat} {x : Int32} (hn : 49 ≤ n) (HO : mO G F tr sz T h) (HS : oS G ν h) (hP : T.1 ≤ 8) (hv : wK T.1 ν.1) (hx : x = nI p) (hp : p < 8) : Spi G mX7_countOf 0 [.ref (kb G + 37), .int x] n h (fun v h' => v = nI (cnt ν.1 p) ∧ h' = h) := by
  subst hx
  refine Spi.of (by decide) (Nat.le_of_ble_eq_true rfl) ?_
  refine go_iconst (v := nI 0) (nx := 1) dX7_countOf_0 (by decide) rfl ?_
  refine go_istore_n (lv' := [_, _, _]) (nx := 2) dX7_countOf_1 rfl (by decide) rfl rfl ?_
  refine go_iconst (v := nI 0) (nx := 3) dX7_countOf_2 (by decide) rfl ?_
  refine go_istore_n (lv' := [_, _, _, _]) (nx := 4) dX7_countOf_3 rfl (by decide) rfl rfl ?_
  refine Go.sub [0, 1, 2, 3] rfl ?_
  exact l_mcount hn HO HS hP hv hp (T.1 + 1) 0 (by omega) (by omega)
theorem l_ones {G : kG} {n w : Nat} {h : kH} (hw : w < 256) : ∀ (d k : Nat), 8 - k < d → k ≤ 8 → Go G mX7_ones (0, 0, 0) 4 [(2, .int (nI k)), (1, .int (nI (fb_ct w.testBit k))), (0, .int (nI w))] [] (n, 0, 0) h (kQi mX7_ones n (fun v h' => v = nI (popc w) ∧ h' = h)) := by
  intro d
  induction d with
  | zero => intro k hd; omega
  | succ d ih =>
    intro k hd hk
    refine go_iload_n 0 (nx := 5) dX7_ones_4 rfl rfl rfl ?_
    refine go_bipush (v := nI 8) (nx := 7) dX7_ones_5 (by decide) rfl ?_
    refine go_icmp_ge 24 (nx := 10) dX7_ones_7 rfl rfl (fun c7 => ?_) (fun c7 => ?_)
    · skip
      refine go_iload_n 1 (nx := 25) dX7_ones_24 rfl rfl rfl ?_
      refine go_reti dX7_ones_25 ⟨_, rfl, rfl⟩ ?_
      have e8 : k = 8 := by have := kle c7; omega
      subst e8
      exact ⟨by rw [← cntB_ct]; rfl, rfl⟩
    · skip
      have h8 := knle c7
      refine go_iload_n 1 (nx := 11) dX7_ones_10 rfl rfl rfl ?_
      refine go_iload_n 2 (nx := 12) dX7_ones_11 rfl rfl rfl ?_
      refine go_iload_n 0 (nx := 13) dX7_ones_12 rfl rfl rfl ?_
      refine go_ishr (nx := 14) dX7_ones_13 rfl ?_
      refine go_iconst (v := nI 1) (nx := 15) dX7_ones_14 (by decide) rfl ?_
      refine go_iand (nx := 16) dX7_ones_15 rfl ?_
      rw [i_get _ hw k h8]
      refine go_iadd (nx := 17) dX7_ones_16 rfl ?_
      rw [show nI (fb_ct w.testBit k) + bI (w.testBit k) = nI (fb_ct w.testBit (k + 1)) from by
        show _ = nI (_ + (if w.testBit k = true then 1 else 0))
        rw [← nI_add]
        cases w.testBit k <;> rfl]
      refine go_istore_n (lv' := [_, _, _]) (nx := 18) dX7_ones_17 rfl (by decide) rfl rfl ?_
      refine go_iinc 1 (v := nI (k + 1)) (lv' := [_, _, _]) (nx := 21) dX7_ones_18 rfl (nI_inc k) (by decide) rfl rfl ?_
      refine go_goto 4 dX7_ones_21 rfl ?_
      refine Go.sub [0, 1, 2] rfl ?_
      exact ih (k + 1) (by omega) (by omega)
theorem m_ones {G : kG} {n w : Nat} {h : kH} {x : Int32} (hx : x = nI w) (hw : w < 256) : Spi G mX7_ones 0 [.int x] n h (fun v h' => v = nI (popc w) ∧ h' = h) := by
  subst hx
  refine Spi.of (by decide) (Nat.le_of_ble_eq_true rfl) ?_
  refine go_iconst (v := nI 0) (nx := 1) dX7_ones_0 (by decide) rfl ?_
  refine go_istore_n (lv' := [_, _]) (nx := 2) dX7_ones_1 rfl (by decide) rfl rfl ?_
  refine go_iconst (v := nI 0) (nx := 3) dX7_ones_2 (by decide) rfl ?_
  refine go_istore_n (lv' := [_, _, _]) (nx := 4) dX7_ones_3 rfl (by decide) rfl rfl ?_
  refine Go.sub [0, 1, 2] rfl ?_
  exact l_ones hw 9 0 (by omega) (by omega)
theorem lf_step {k : Nat → Nat} {sel : Nat → Bool} {p : Nat} : lf k sel (p + 1) = (match lf k sel p with | none => if sel p then some p else none | some b => if sel p && decide (k p < k b) then some p else some b) := rfl
theorem l_mleast {G : kG} {n sz : Nat} {h : kH} {ν : mN} {T : mT} {tr : Int64} {F : Nat → Int32} {w : Nat} (hn : 49 ≤ n) (HO : mO G F tr sz T h) (HS : oS G ν h) (hP : T.1 ≤ 8) (hv : wK T.1 ν.1) (hw : w < 256) : ∀ (d p : Nat) (oo : Option Nat), T.1 - p < d → p ≤ T.1 → oo = lf (cnt ν.1) w.testBit p → Go G mX7_leastOf (1, 0, 0) 5 [(3, .int (nI p)), (2, .int (hab oo)), (0, .ref (kb G + 37)), (1, .int (nI w))] [] (n, 0, 0) h (kQi mX7_leastOf n (fun v h' => v = hab (lf (cnt ν.1) w.testBit T.1) ∧ h' = h)) := by
  intro d
  have hM : h 37 = .inr (7, [.int (F 0), .long tr, .ref (kb G + 38), .int (nI sz), .int (F 4), .int (F 5), .int (F 6), .int (F 7), .int (F 8), .ref (kb G + 39), .ref (kb G + 40), .int (nI T.1), .int (F 12), .int (nI T.2.2.2.1), .int (F 14), .int (nI T.2.2.2.2.1), .int (F 16), .int (nI T.2.2.2.2.2), .int (F 18), .int (F 19), .int (F 20), .ref (kb G + 41), .ref (kb G + 42), .ref (kb G + 43), .ref (kb G + 44), .ref (kb G + 45), .ref (kb G + 46), .ref (kb G + 47), .ref (kb G + 48)]) := HO
  induction d with
  | zero => intro p oo hd; omega
  | succ d ih =>
    intro p oo hd hp ho
    have hob : ∀ b, oo = some b → b < 8 := fun b e => by rw [ho] at e; have := (lf_lt e).1; omega
    refine go_iload_n 0 (nx := 6) dX7_leastOf_5 rfl rfl rfl ?_
    refine go_aload_n 2 (nx := 7) dX7_leastOf_6 rfl rfl rfl ?_
    refine go_gf (nx := 10) fg_X7_137 dX7_leastOf_7 (by omega) hM rfl rfl ?_
    refine go_icmp_ge 65 (nx := 13) dX7_leastOf_10 rfl rfl (fun c10 => ?_) (fun c10 => ?_)
    · skip
      refine go_iload_n 1 (nx := 66) dX7_leastOf_65 rfl rfl rfl ?_
      refine go_reti dX7_leastOf_66 ⟨_, rfl, rfl⟩ ?_
      have e8 : p = T.1 := by have := kle c10; omega
      subst e8
      exact ⟨by rw [ho], rfl⟩
    · skip
      have h8 := knle c10
      refine go_iload_n 3 (nx := 14) dX7_leastOf_13 rfl rfl rfl ?_
      refine go_iload_n 0 (nx := 15) dX7_leastOf_14 rfl rfl rfl ?_
      refine go_ishr (nx := 16) dX7_leastOf_15 rfl ?_
      refine go_iconst (v := nI 1) (nx := 17) dX7_leastOf_16 (by decide) rfl ?_
      refine go_iand (nx := 18) dX7_leastOf_17 rfl ?_
      rw [i_get _ hw p (by omega)]
      refine go_iconst (v := nI 1) (nx := 19) dX7_leastOf_18 (by decide) rfl ?_
      refine go_icmp_ne 26 (nx := 22) dX7_leastOf_19 rfl rfl (fun c19 => ?_) (fun c19 => ?_)
      · skip
        refine go_iconst (v := nI 0) (nx := 27) dX7_leastOf_26 (by decide) rfl ?_
        refine go_istore (lv' := [_, _, _, _, _]) (nx := 29) dX7_leastOf_27 (by decide) rfl rfl ?_
        refine go_iload 0 (nx := 31) dX7_leastOf_29 rfl rfl ?_
        refine go_if_eq 57 (nx := 34) dX7_leastOf_31 rfl rfl (fun c31 => ?_) (fun c31 => False.elim (absurd rfl c31))
        refine go_iload_n 2 (nx := 58) dX7_leastOf_57 rfl rfl rfl ?_
        refine go_istore_n (lv' := [_, _, _, _, _]) (nx := 59) dX7_leastOf_58 rfl (by decide) rfl rfl ?_
        refine go_iinc 2 (v := nI (p + 1)) (lv' := [_, _, _, _, _]) (nx := 62) dX7_leastOf_59 rfl (nI_inc p) (by decide) rfl rfl ?_
        refine go_goto 5 dX7_leastOf_62 rfl ?_
        refine Go.sub [0, 1, 3, 4] rfl ?_
        have hbit : w.testBit p = false := tbn1 c19
        refine ih (p + 1) (oo) (by omega) (by omega) ?_
        rw [lf_step, ← ho]
        cases oo <;> simp [hbit]
      · skip
        refine go_iconst (v := nI 1) (nx := 23) dX7_leastOf_22 (by decide) rfl ?_
        refine go_goto 27 dX7_leastOf_23 rfl ?_
        refine go_istore (lv' := [_, _, _, _, _]) (nx := 29) dX7_leastOf_27 (by decide) rfl rfl ?_
        refine go_iload 0 (nx := 31) dX7_leastOf_29 rfl rfl ?_
        refine go_if_eq 57 (nx := 34) dX7_leastOf_31 rfl rfl (fun c31 => False.elim (absurd c31 (by decide))) (fun c31 => ?_)
        refine go_iload_n 2 (nx := 35) dX7_leastOf_34 rfl rfl rfl ?_
        refine go_bipush (v := (-9)) (nx := 37) dX7_leastOf_35 (by decide) rfl ?_
        refine go_icmp_eq 53 (nx := 40) dX7_leastOf_37 rfl rfl (fun c37 => ?_) (fun c37 => ?_)
        · skip
          refine go_iload_n 1 (nx := 54) dX7_leastOf_53 rfl rfl rfl ?_
          refine go_goto 58 dX7_leastOf_54 rfl ?_
          refine go_istore_n (lv' := [_, _, _, _, _]) (nx := 59) dX7_leastOf_58 rfl (by decide) rfl rfl ?_
          refine go_iinc 2 (v := nI (p + 1)) (lv' := [_, _, _, _, _]) (nx := 62) dX7_leastOf_59 rfl (nI_inc p) (by decide) rfl rfl ?_
          refine go_goto 5 dX7_leastOf_62 rfl ?_
          refine Go.sub [0, 1, 3, 4] rfl ?_
          have hbit : w.testBit p = true := tb1 c19
          refine ih (p + 1) (some p) (by omega) (by omega) ?_
          rw [lf_step, ← ho, (hab_none hob).mp c37]
          simp [hbit]
        · skip
          obtain ⟨b, eb⟩ : ∃ b, oo = some b := by
            cases e : oo with
            | none => rw [e] at c37; exact absurd rfl c37
            | some b => exact ⟨b, rfl⟩
          have hb8 := hob b eb
          rw [eb, show hab (some b) = nI b from rfl]
          refine go_aload_n 3 (nx := 41) dX7_leastOf_40 rfl rfl rfl ?_
          refine go_iload_n 1 (nx := 42) dX7_leastOf_41 rfl rfl rfl ?_
          refine go_Vi (nx := 45) [_] kc_X7_158 ⟨_, _, rfl⟩ (by omega) hM (m_countOf hn HO HS hP hv rfl (by omega)) dX7_leastOf_42 rfl rfl (Nat.le_of_ble_eq_true rfl) (Nat.le_of_ble_eq_true rfl) ⟨Nat.le_refl _, Nat.le_refl _⟩ rfl (fun rh1 h1 hqh1 => ?_)
          obtain ⟨rfl, rfl⟩ := hqh1
          refine go_aload_n 3 (nx := 46) dX7_leastOf_45 rfl rfl rfl ?_
          refine go_iload_n 2 (nx := 47) dX7_leastOf_46 rfl rfl rfl ?_
          refine go_Vi (nx := 50) [_] kc_X7_158 ⟨_, _, rfl⟩ (by omega) hM (m_countOf hn HO HS hP hv rfl hb8) dX7_leastOf_47 rfl rfl (Nat.le_of_ble_eq_true rfl) (Nat.le_of_ble_eq_true rfl) ⟨Nat.le_refl _, Nat.le_refl _⟩ rfl (fun rh2 h2 hqh2 => ?_)
          obtain ⟨rfl, rfl⟩ := hqh2
          refine go_icmp_ge 57 (nx := 53) dX7_leastOf_50 rfl rfl (fun c50 => ?_) (fun c50 => ?_)
          · skip
            refine go_iload_n 2 (nx := 58) dX7_leastOf_57 rfl rfl rfl ?_
            refine go_istore_n (lv' := [_, _, _, _, _]) (nx := 59) dX7_leastOf_58 rfl (by decide) rfl rfl ?_
            refine go_iinc 2 (v := nI (p + 1)) (lv' := [_, _, _, _, _]) (nx := 62) dX7_leastOf_59 rfl (nI_inc p) (by decide) rfl rfl ?_
            refine go_goto 5 dX7_leastOf_62 rfl ?_
            refine Go.sub [0, 1, 3, 4] rfl ?_
            have hbit : w.testBit p = true := tb1 c19
            refine ih (p + 1) (some b) (by omega) (by omega) ?_
            rw [lf_step, ← ho, eb]
            have z := kle c50 (by have := cnt_lt hv b hb8; omega) (by have := cnt_lt hv p (by omega); omega)
            simp [hbit]
            omega
          · skip
            refine go_iload_n 1 (nx := 54) dX7_leastOf_53 rfl rfl rfl ?_
            refine go_goto 58 dX7_leastOf_54 rfl ?_
            refine go_istore_n (lv' := [_, _, _, _, _]) (nx := 59) dX7_leastOf_58 rfl (by decide) rfl rfl ?_
            refine go_iinc 2 (v := nI (p + 1)) (lv' := [_, _, _, _, _]) (nx := 62) dX7_leastOf_59 rfl (nI_inc p) (by decide) rfl rfl ?_
            refine go_goto 5 dX7_leastOf_62 rfl ?_
            refine Go.sub [0, 1, 3, 4] rfl ?_
            have hbit : w.testBit p = true := tb1 c19
            refine ih (p + 1) (some p) (by omega) (by omega) ?_
            rw [lf_step, ← ho, eb]
            have z := knle c50 (by have := cnt_lt hv b hb8; omega) (by have := cnt_lt hv p (by omega); omega)
            simp [hbit, z]
