/-! the reference: the last days, what they rest on -/
theorem m_whoOf {G : kG} {n sz : Nat} {h : kH} {T : mT} {tr : Int64} {F : Nat → Int32} {x y : Int32} {a b : Nat} (hn : 49 ≤ n) (HO : mO G F tr sz T h) (hP : T.1 ≤ 8) (hP0 : 0 < T.1) (hx : x = nI a) (ha : a < 8) (hy : y = nI b) (hb : b < 8) : Spi G mX7_whoOf 0 [.ref (kb G + 37), .int x, .int y] n h (fun v h' => v = nI ((a + b) % T.1) ∧ h' = h) := by
  subst hx
  subst hy
  have hM : h 37 = .inr (7, [.int (F 0), .long tr, .ref (kb G + 38), .int (nI sz), .int (F 4), .int (F 5), .int (F 6), .int (F 7), .int (F 8), .ref (kb G + 39), .ref (kb G + 40), .int (nI T.1), .int (F 12), .int (nI T.2.2.2.1), .int (F 14), .int (nI T.2.2.2.2.1), .int (F 16), .int (nI T.2.2.2.2.2), .int (F 18), .int (F 19), .int (F 20), .ref (kb G + 41), .ref (kb G + 42), .ref (kb G + 43), .ref (kb G + 44), .ref (kb G + 45), .ref (kb G + 46), .ref (kb G + 47), .ref (kb G + 48)]) := HO
  refine Spi.of (by decide) (Nat.le_of_ble_eq_true rfl) ?_
  refine go_iload_n 1 (nx := 1) dX7_whoOf_0 rfl rfl rfl ?_
  refine go_iload_n 2 (nx := 2) dX7_whoOf_1 rfl rfl rfl ?_
  refine go_iadd (nx := 3) dX7_whoOf_2 rfl ?_
  rw [nI_add]
  refine go_aload_n 0 (nx := 4) dX7_whoOf_3 rfl rfl rfl ?_
  refine go_gf (nx := 7) fg_X7_137 dX7_whoOf_4 (by omega) hM rfl rfl ?_
  refine go_irem (nx := 8) dX7_whoOf_7 (nI_k (b := 0) (by omega) (by omega) (by decide)) rfl ?_
  refine go_reti dX7_whoOf_8 ⟨_, rfl, rfl⟩ ?_
  exact ⟨pk_rem (by omega) hP0 (by omega), rfl⟩
theorem l_asideOfT {G : kG} {n sz : Nat} {T : mT} {tr : Int64} {F : Nat → Int32} {h0 : kH} {day : Nat} {sa a0 : Nat → Int32} (hn : 49 ≤ n) (hd3 : day < 3) : ∀ (d k : Nat) (h : kH) (ah : Nat → Int32), 8 - k < d → k ≤ 8 → mO G F tr sz T h → h 41 = .inl (G.2.1, 82, .inl sa) → h 47 = .inl (G.2.1, 24, .inl ah) → (∀ j, j < k → ah (8 * day + j) = sa j) → (∀ j, (j < 8 * day ∨ 8 * day + 8 ≤ j) → ah j = a0 j) → kFr 47 48 h0 h → Go G mX7_asideOf (0, 0, 0) 2 [(3, .int (nI k)), (0, .ref (kb G + 37)), (1, .int (nI day)), (2, .int (nI 1))] [] (n, 0, 0) h (kQv mX7_asideOf n (fun h' => (∃ a : Nat → Int32, h' 47 = .inl (G.2.1, 24, .inl a) ∧ (∀ j, j < 8 → a (8 * day + j) = sa j) ∧ (∀ j, (j < 8 * day ∨ 8 * day + 8 ≤ j) → a j = a0 j)) ∧ kFr 47 48 h0 h')) := by
  intro d
  induction d with
  | zero => intro k h ah hd; omega
  | succ d ih =>
    intro k h ah hd hk HO hs hah hj hj2 hF
    have hM : h 37 = .inr (7, [.int (F 0), .long tr, .ref (kb G + 38), .int (nI sz), .int (F 4), .int (F 5), .int (F 6), .int (F 7), .int (F 8), .ref (kb G + 39), .ref (kb G + 40), .int (nI T.1), .int (F 12), .int (nI T.2.2.2.1), .int (F 14), .int (nI T.2.2.2.2.1), .int (F 16), .int (nI T.2.2.2.2.2), .int (F 18), .int (F 19), .int (F 20), .ref (kb G + 41), .ref (kb G + 42), .ref (kb G + 43), .ref (kb G + 44), .ref (kb G + 45), .ref (kb G + 46), .ref (kb G + 47), .ref (kb G + 48)]) := HO
    refine go_iload_n 0 (nx := 3) dX7_asideOf_2 rfl rfl rfl ?_
    refine go_bipush (v := nI 8) (nx := 5) dX7_asideOf_3 (by decide) rfl ?_
    refine go_icmp_ge 55 (nx := 8) dX7_asideOf_5 rfl rfl (fun c5 => ?_) (fun c5 => ?_)
    · skip
      refine go_retv dX7_asideOf_55 rfl ?_
      have e8 : k = 8 := by have := kle c5; omega
      subst e8
      exact ⟨⟨ah, hah, hj, hj2⟩, hF⟩
    · skip
      refine go_iload_n 3 (nx := 9) dX7_asideOf_8 rfl rfl rfl ?_
      refine go_if_eq 32 (nx := 12) dX7_asideOf_9 rfl rfl (fun c9 => False.elim (absurd c9 (by decide))) (fun c9 => ?_)
      refine go_aload_n 1 (nx := 13) dX7_asideOf_12 rfl rfl rfl ?_
      refine go_gf (nx := 16) fg_X7_38 dX7_asideOf_13 (by omega) hM rfl rfl ?_
      refine go_bipush (v := nI 8) (nx := 18) dX7_asideOf_16 (by decide) rfl ?_
      refine go_iload_n 2 (nx := 19) dX7_asideOf_18 rfl rfl rfl ?_
      refine go_imul (nx := 20) dX7_asideOf_19 rfl ?_
      refine go_iload_n 0 (nx := 21) dX7_asideOf_20 rfl rfl rfl ?_
      refine go_iadd (nx := 22) dX7_asideOf_21 rfl ?_
      refine go_aload_n 1 (nx := 23) dX7_asideOf_22 rfl rfl rfl ?_
      refine go_gf (nx := 26) fg_X7_19 dX7_asideOf_23 (by omega) hM rfl rfl ?_
      refine go_iload_n 0 (nx := 27) dX7_asideOf_26 rfl rfl rfl ?_
      refine go_ial (k) (nx := 28) dX7_asideOf_27 (by omega) hs rfl (by have := knle c5; omega) (by omega) rfl ?_
      refine go_ias (8 * day + k) (nx := 29) dX7_asideOf_28 (by omega) hah (by rw [pk_mul, nI_add]) (by have := knle c5; omega) (by omega) rfl (fun h1 eh1 fh1 => ?_)
      have hM := (fh1 (37) (by omega)).trans hM
      have hs := (fh1 (41) (by omega)).trans hs
      have hah := eh1
      have hF := hF.tr (fun j hj => fh1 j (by omega))
      refine go_goto 49 dX7_asideOf_29 rfl ?_
      refine go_iinc 0 (v := nI (k + 1)) (lv' := [_, _, _, _]) (nx := 52) dX7_asideOf_49 rfl (nI_inc k) (by decide) rfl rfl ?_
      refine go_goto 2 dX7_asideOf_52 rfl ?_
      refine Go.sub [0, 1, 2, 3] rfl ?_
      have h8 := knle c5
      refine ih (k + 1) _ _ (by omega) (by omega) hM hs hah (fun j hj3 => ?_) (fun j hj3 => ?_) hF
      · by_cases e : j = k
        · subst e; rw [pk_us]
        · rw [pk_un (by omega)]; exact hj j (by omega)
      · rw [pk_un (by omega)]; exact hj2 j hj3
theorem m_asideOfT {G : kG} {n sz : Nat} {h : kH} {ν : mN} {T : mT} {tr : Int64} {F : Nat → Int32} {x y : Int32} {day : Nat} {ah : Nat → Int32} (hn : 49 ≤ n) (HO : mO G F tr sz T h) (HS : oS G ν h) (hah : h 47 = .inl (G.2.1, 24, .inl ah)) (hx : x = nI day) (hd3 : day < 3) (hy : y = nI 1) : Spv G mX7_asideOf 0 [.ref (kb G + 37), .int x, .int y] n h (fun h' => (∃ a : Nat → Int32, h' 47 = .inl (G.2.1, 24, .inl a) ∧ (∀ j, j < 8 → a (8 * day + j) = nI (row ν.1 j)) ∧ (∀ j, j < 8 * day → a j = ah j)) ∧ kFr 47 48 h h') := by
  subst hx
  subst hy
  obtain ⟨sa, hs, ha⟩ := HS
  suffices Hs : Spv G mX7_asideOf 0 [.ref (kb G + 37), .int (nI day), .int (nI 1)] n h (fun h' => (∃ a : Nat → Int32, h' 47 = .inl (G.2.1, 24, .inl a) ∧ (∀ j, j < 8 → a (8 * day + j) = sa j) ∧ (∀ j, (j < 8 * day ∨ 8 * day + 8 ≤ j) → a j = ah j)) ∧ kFr 47 48 h h') by
    exact Hs.mono fun h' ⟨⟨b, q1, q2, q3⟩, q4⟩ => ⟨⟨b, q1, fun j hj => (q2 j hj).trans (ha.1 j hj), fun j hj => q3 j (Or.inl hj)⟩, q4⟩
  refine Spv.of (by decide) (Nat.le_of_ble_eq_true rfl) ?_
  refine go_iconst (v := nI 0) (nx := 1) dX7_asideOf_0 (by decide) rfl ?_
  refine go_istore_n (lv' := [_, _, _, _]) (nx := 2) dX7_asideOf_1 rfl (by decide) rfl rfl ?_
  refine Go.sub [0, 1, 2, 3] rfl ?_
  exact l_asideOfT hn hd3 9 0 h _ (by omega) (by omega) HO hs hah (fun j hj => absurd hj (Nat.not_lt_zero j)) (fun _ _ => rfl) kFr.rf
theorem l_asideOfF {G : kG} {n sz : Nat} {T : mT} {tr : Int64} {F : Nat → Int32} {h0 : kH} {day : Nat} {ah a0 : Nat → Int32} (hn : 49 ≤ n) (hd3 : day < 3) : ∀ (d k : Nat) (h : kH) (sa : Nat → Int32), 8 - k < d → k ≤ 8 → mO G F tr sz T h → h 41 = .inl (G.2.1, 82, .inl sa) → h 47 = .inl (G.2.1, 24, .inl ah) → (∀ j, j < k → sa j = ah (8 * day + j)) → (∀ j, 8 ≤ j → sa j = a0 j) → kFr 41 42 h0 h → Go G mX7_asideOf (0, 0, 0) 2 [(3, .int (nI k)), (0, .ref (kb G + 37)), (1, .int (nI day)), (2, .int (nI 0))] [] (n, 0, 0) h (kQv mX7_asideOf n (fun h' => (∃ a : Nat → Int32, h' 41 = .inl (G.2.1, 82, .inl a) ∧ (∀ j, j < 8 → a j = ah (8 * day + j)) ∧ (∀ j, 8 ≤ j → a j = a0 j)) ∧ kFr 41 42 h0 h')) := by
  intro d
  induction d with
  | zero => intro k h sa hd; omega
  | succ d ih =>
    intro k h sa hd hk HO hs hah hj hj2 hF
    have hM : h 37 = .inr (7, [.int (F 0), .long tr, .ref (kb G + 38), .int (nI sz), .int (F 4), .int (F 5), .int (F 6), .int (F 7), .int (F 8), .ref (kb G + 39), .ref (kb G + 40), .int (nI T.1), .int (F 12), .int (nI T.2.2.2.1), .int (F 14), .int (nI T.2.2.2.2.1), .int (F 16), .int (nI T.2.2.2.2.2), .int (F 18), .int (F 19), .int (F 20), .ref (kb G + 41), .ref (kb G + 42), .ref (kb G + 43), .ref (kb G + 44), .ref (kb G + 45), .ref (kb G + 46), .ref (kb G + 47), .ref (kb G + 48)]) := HO
    refine go_iload_n 0 (nx := 3) dX7_asideOf_2 rfl rfl rfl ?_
    refine go_bipush (v := nI 8) (nx := 5) dX7_asideOf_3 (by decide) rfl ?_
    refine go_icmp_ge 55 (nx := 8) dX7_asideOf_5 rfl rfl (fun c5 => ?_) (fun c5 => ?_)
    · skip
      refine go_retv dX7_asideOf_55 rfl ?_
      have e8 : k = 8 := by have := kle c5; omega
      subst e8
      exact ⟨⟨sa, hs, hj, hj2⟩, hF⟩
    · skip
      refine go_iload_n 3 (nx := 9) dX7_asideOf_8 rfl rfl rfl ?_
      refine go_if_eq 32 (nx := 12) dX7_asideOf_9 rfl rfl (fun c9 => ?_) (fun c9 => False.elim (absurd rfl c9))
      refine go_aload_n 1 (nx := 33) dX7_asideOf_32 rfl rfl rfl ?_
      refine go_gf (nx := 36) fg_X7_19 dX7_asideOf_33 (by omega) hM rfl rfl ?_
      refine go_iload_n 0 (nx := 37) dX7_asideOf_36 rfl rfl rfl ?_
      refine go_aload_n 1 (nx := 38) dX7_asideOf_37 rfl rfl rfl ?_
      refine go_gf (nx := 41) fg_X7_38 dX7_asideOf_38 (by omega) hM rfl rfl ?_
      refine go_bipush (v := nI 8) (nx := 43) dX7_asideOf_41 (by decide) rfl ?_
      refine go_iload_n 2 (nx := 44) dX7_asideOf_43 rfl rfl rfl ?_
      refine go_imul (nx := 45) dX7_asideOf_44 rfl ?_
      refine go_iload_n 0 (nx := 46) dX7_asideOf_45 rfl rfl rfl ?_
      refine go_iadd (nx := 47) dX7_asideOf_46 rfl ?_
      refine go_ial (8 * day + k) (nx := 48) dX7_asideOf_47 (by omega) hah (by rw [pk_mul, nI_add]) (by have := knle c5; omega) (by omega) rfl ?_
      refine go_ias (k) (nx := 49) dX7_asideOf_48 (by omega) hs rfl (by have := knle c5; omega) (by omega) rfl (fun h1 eh1 fh1 => ?_)
      have hM := (fh1 (37) (by omega)).trans hM
      have hah := (fh1 (47) (by omega)).trans hah
      have hs := eh1
      have hF := hF.tr (fun j hj => fh1 j (by omega))
      refine go_iinc 0 (v := nI (k + 1)) (lv' := [_, _, _, _]) (nx := 52) dX7_asideOf_49 rfl (nI_inc k) (by decide) rfl rfl ?_
      refine go_goto 2 dX7_asideOf_52 rfl ?_
      refine Go.sub [0, 1, 2, 3] rfl ?_
      have h8 := knle c5
      refine ih (k + 1) _ _ (by omega) (by omega) hM hs hah (fun j hj3 => ?_) (fun j hj3 => ?_) hF
      · by_cases e : j = k
        · subst e; rw [pk_us]
        · rw [pk_un (by omega)]; exact hj j (by omega)
      · rw [pk_un (by omega)]; exact hj2 j hj3
theorem m_asideOfF {G : kG} {n sz : Nat} {h : kH} {ν : mN} {T : mT} {tr : Int64} {F : Nat → Int32} {x y : Int32} {day : Nat} {ah : Nat → Int32} {K : mK} (hn : 49 ≤ n) (HO : mO G F tr sz T h) (HS : oS G (K, ν.2) h) (hah : h 47 = .inl (G.2.1, 24, .inl ah)) (hK : ∀ j, j < 8 → ah (8 * day + j) = nI (row ν.1 j)) (hx : x = nI day) (hd3 : day < 3) (hy : y = nI 0) : Spv G mX7_asideOf 0 [.ref (kb G + 37), .int x, .int y] n h (fun h' => oS G ν h' ∧ kFr 41 42 h h') := by
  subst hx
  subst hy
  obtain ⟨sa, hs, ha⟩ := HS
  suffices Hs : Spv G mX7_asideOf 0 [.ref (kb G + 37), .int (nI day), .int (nI 0)] n h (fun h' => (∃ a : Nat → Int32, h' 41 = .inl (G.2.1, 82, .inl a) ∧ (∀ j, j < 8 → a j = ah (8 * day + j)) ∧ (∀ j, 8 ≤ j → a j = sa j)) ∧ kFr 41 42 h h') by
    exact Hs.mono fun h' ⟨⟨b, q1, q2, q3⟩, q4⟩ => ⟨⟨b, q1, fun p hp => (q2 p hp).trans (hK p hp), fun j hj => (q3 (8 + j) (by omega)).trans (ha.2.1 j hj), (q3 72 (by omega)).trans ha.2.2.1, fun p hp => (q3 (73 + p) (by omega)).trans (ha.2.2.2.1 p hp), (q3 81 (by omega)).trans ha.2.2.2.2⟩, q4⟩
  refine Spv.of (by decide) (Nat.le_of_ble_eq_true rfl) ?_
  refine go_iconst (v := nI 0) (nx := 1) dX7_asideOf_0 (by decide) rfl ?_
  refine go_istore_n (lv' := [_, _, _, _]) (nx := 2) dX7_asideOf_1 rfl (by decide) rfl rfl ?_
  refine Go.sub [0, 1, 2, 3] rfl ?_
  exact l_asideOfF hn hd3 9 0 h _ (by omega) (by omega) HO hs hah (fun j hj => absurd hj (Nat.not_lt_zero j)) (fun _ _ => rfl) kFr.rf
theorem row_meet1 {K : mK} {w o : Nat} (ho : o < 8) : row (kSet K w o) w = row K w ||| 2 ^ o := row_set ho
theorem m_acts {G : kG} {n sz : Nat} {h : kH} {ν : mN} {T : mT} {tr : Int64} {F : Nat → Int32} {x y z : Int32} {a b c : Nat} (hn : 49 ≤ n) (HO : mO G F tr sz T h) (HS : oS G ν h) (hP : T.1 ≤ 8) (hx : x = nI a) (ha : a < T.1) (hy : y = nI b) (hb : b < 8) (hz : z = nI c) (hc : c < T.1) : Spi G mX7_acts 1 [.ref (kb G + 37), .int x, .int y, .int z] n h (fun v h' => v = bI (decide (c ≠ (a + b) % T.1)) ∧ (c = (a + b) % T.1 → h' = h) ∧ (c ≠ (a + b) % T.1 → oS G (meetK ν.1 ((a + b) % T.1) c, ν.2) h') ∧ kFr 41 42 h h') := by
  subst hx
  subst hy
  subst hz
  have hM : h 37 = .inr (7, [.int (F 0), .long tr, .ref (kb G + 38), .int (nI sz), .int (F 4), .int (F 5), .int (F 6), .int (F 7), .int (F 8), .ref (kb G + 39), .ref (kb G + 40), .int (nI T.1), .int (F 12), .int (nI T.2.2.2.1), .int (F 14), .int (nI T.2.2.2.2.1), .int (F 16), .int (nI T.2.2.2.2.2), .int (F 18), .int (F 19), .int (F 20), .ref (kb G + 41), .ref (kb G + 42), .ref (kb G + 43), .ref (kb G + 44), .ref (kb G + 45), .ref (kb G + 46), .ref (kb G + 47), .ref (kb G + 48)]) := HO
  obtain ⟨sa, hs, hs1, hs2, hs3, hs4, hs5⟩ := HS
  have hwl : (a + b) % T.1 < T.1 := Nat.mod_lt _ (by omega)
  obtain ⟨w, ew⟩ : ∃ w, w = (a + b) % T.1 := ⟨_, rfl⟩
  rw [← ew] at hwl
  have hw8 : w < 8 := by omega
  have hc8 : c < 8 := by omega
  suffices Hs : Spi G mX7_acts 1 [.ref (kb G + 37), .int (nI a), .int (nI b), .int (nI c)] n h (fun v h' => v = bI (decide (c ≠ w)) ∧ (c = w → h' = h) ∧ (c ≠ w → oS G (meetK ν.1 w c, ν.2) h') ∧ kFr 41 42 h h') by
    rw [ew] at Hs; exact Hs
  refine Spi.of (by decide) (Nat.le_of_ble_eq_true rfl) ?_
  refine go_aload_n 0 (nx := 1) dX7_acts_0 rfl rfl rfl ?_
  refine go_iload_n 1 (nx := 2) dX7_acts_1 rfl rfl rfl ?_
  refine go_iload_n 2 (nx := 3) dX7_acts_2 rfl rfl rfl ?_
  refine go_Vi (nx := 6) [_, _] kc_X7_197 ⟨_, _, rfl⟩ (by omega) hM (m_whoOf hn HO hP (by omega) rfl (by omega) rfl hb) dX7_acts_3 rfl rfl (Nat.le_of_ble_eq_true rfl) (Nat.le_of_ble_eq_true rfl) ⟨Nat.le_refl _, Nat.le_refl _⟩ rfl (fun rh1 h1 hqh1 => ?_)
  obtain ⟨rfl, rfl⟩ := hqh1
  rw [← ew]
  refine go_istore (lv' := [_, _, _, _, _]) (nx := 8) dX7_acts_6 (by decide) rfl rfl ?_
  refine go_iload_n 4 (nx := 9) dX7_acts_8 rfl rfl rfl ?_
  refine go_iload 0 (nx := 11) dX7_acts_9 rfl rfl ?_
  refine go_icmp_ne 16 (nx := 14) dX7_acts_11 rfl rfl (fun c11 => ?_) (fun c11 => ?_)
  · skip
    refine go_iload_n 4 (nx := 17) dX7_acts_16 rfl rfl rfl ?_
    refine go_if_lt 46 (nx := 20) dX7_acts_17 rfl rfl (fun c17 => False.elim (absurd c17 (fun z => Nat.not_lt_zero c (klt (b := 0) z (by omega) (by decide))))) (fun c17 => ?_)
    refine go_aload_n 1 (nx := 21) dX7_acts_20 rfl rfl rfl ?_
    refine go_gf (nx := 24) fg_X7_19 dX7_acts_21 (by omega) hM rfl rfl ?_
    refine go_iload 0 (nx := 26) dX7_acts_24 rfl rfl ?_
    refine go_dup2_11 (nx := 27) dX7_acts_26 rfl rfl rfl ?_
    refine go_ial (w) (nx := 28) dX7_acts_27 (by omega) hs rfl (by omega) (by omega) rfl ?_
    rw [hs1 w hw8]
    refine go_iconst (v := nI 1) (nx := 29) dX7_acts_28 (by decide) rfl ?_
    refine go_iload_n 4 (nx := 30) dX7_acts_29 rfl rfl rfl ?_
    refine go_ishl (nx := 31) dX7_acts_30 rfl ?_
    refine go_ior (nx := 32) dX7_acts_31 rfl ?_
    rw [i_set _ (row_lt _ _) c hc8]
    refine go_ias (w) (nx := 33) dX7_acts_32 (by omega) hs rfl (by omega) (by omega) rfl (fun h2 eh2 fh2 => ?_)
    have hM := (fh2 (37) (by omega)).trans hM
    have hs := eh2
    refine go_aload_n 1 (nx := 34) dX7_acts_33 rfl rfl rfl ?_
    refine go_gf (nx := 37) fg_X7_19 dX7_acts_34 (by omega) hM rfl rfl ?_
    refine go_iload_n 4 (nx := 38) dX7_acts_37 rfl rfl rfl ?_
    refine go_dup2_11 (nx := 39) dX7_acts_38 rfl rfl rfl ?_
    refine go_ial (c) (nx := 40) dX7_acts_39 (by omega) hs rfl (by omega) (by omega) rfl ?_
    rw [pk_un (show c ≠ w from fun q => c11 (by rw [q])), hs1 c hc8]
    refine go_iconst (v := nI 1) (nx := 41) dX7_acts_40 (by decide) rfl ?_
    refine go_iload 0 (nx := 43) dX7_acts_41 rfl rfl ?_
    refine go_ishl (nx := 44) dX7_acts_43 rfl ?_
    refine go_ior (nx := 45) dX7_acts_44 rfl ?_
    rw [i_set _ (row_lt _ _) w hw8]
    refine go_ias (c) (nx := 46) dX7_acts_45 (by omega) hs rfl (by omega) (by omega) rfl (fun h3 eh3 fh3 => ?_)
    have hM := (fh3 (37) (by omega)).trans hM
    have hs := eh3
    refine go_iconst (v := nI 1) (nx := 47) dX7_acts_46 (by decide) rfl ?_
    refine go_reti dX7_acts_47 ⟨_, rfl, rfl⟩ ?_
    have e : c ≠ w := fun q => c11 (by rw [q])
    refine ⟨by rw [decide_eq_true e]; rfl, fun q => absurd q e, fun _ => ⟨_, hs, fun p hp => ?_, fun j hj => ?_, ?_, fun p hp => ?_, ?_⟩, fun j hj => ?_⟩
    · show _ = nI (row (kSet (kSet ν.1 c w) w c) p)
      by_cases e1 : p = c
      · subst e1; rw [pk_us, row_ne e, row_set hw8]
      · rw [pk_un e1]
        by_cases e2 : p = w
        · subst e2; rw [pk_us, row_set hc8, row_ne e1]
        · rw [pk_un e2, row_ne e2, row_ne e1]; exact hs1 p hp
    · rw [pk_un (by omega), pk_un (by omega)]; exact hs2 j hj
    · rw [pk_un (by omega), pk_un (by omega)]; exact hs3
    · rw [pk_un (by omega), pk_un (by omega)]; exact hs4 p hp
    · rw [pk_un (by omega), pk_un (by omega)]; exact hs5
    · exact (fh3 j (by omega)).trans (fh2 j (by omega))
  · skip
    refine go_iconst (v := nI 0) (nx := 15) dX7_acts_14 (by decide) rfl ?_
    refine go_reti dX7_acts_15 ⟨_, rfl, rfl⟩ ?_
    have e : c = w := keq c11 (by omega) (by omega)
    exact ⟨by rw [decide_eq_false (fun q => q e)]; rfl, fun _ => rfl, fun q => absurd e q, kFr.rf⟩
