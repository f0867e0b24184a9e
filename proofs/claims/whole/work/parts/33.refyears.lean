/-! the reference: years, the text, what is put aside, images -/
theorem sIs.ext {a b : Nat → Int32} {ν : mN} (h : ∀ k, k < 82 → b k = a k) (H : sIs a ν) : sIs b ν :=
  ⟨fun p hp => (h p (by omega)).trans (H.1 p hp), fun j hj => (h (8 + j) (by omega)).trans (H.2.1 j hj), (h 72 (by omega)).trans H.2.2.1, fun p hp => (h (73 + p) (by omega)).trans (H.2.2.2.1 p hp), (h 81 (by omega)).trans H.2.2.2.2⟩
def oSp (G : kG) (ν : mN) (h : kH) : Prop := ∃ a : Nat → Int32, h 42 = .inl (G.2.1, 82, .inl a) ∧ sIs a ν
theorem oSp.fr {G : kG} {ν : mN} {lo hi : Nat} {h h' : kH} (H : oSp G ν h) (hF : kFr lo hi h h') (hd : 42 < lo ∨ hi ≤ 42) : oSp G ν h' := by
  obtain ⟨a, H, H2⟩ := H
  exact ⟨a, (hF 42 hd).trans H, H2⟩
theorem l_asideT {G : kG} {n sz : Nat} {tx : Nat → Nat} {ν : mN} {i0 i1 : Option mN} {T : mT} {tr : Int64} {F : Nat → Int32} {h0 : kH} {a : Nat → Int32} (hn : 49 ≤ n) : ∀ (d k : Nat) (h : kH) (b : Nat → Int32), 82 - k < d → k ≤ 82 → mO G F tr sz T h → h 41 = .inl (G.2.1, 82, .inl a) → h 42 = .inl (G.2.1, 82, .inl b) → (∀ j, j < k → b j = a j) → kFr 42 43 h0 h → Go G mX7_aside (0, 0, 0) 2 [(2, .int (nI k)), (0, .ref (kb G + 37)), (1, .int (nI 1))] [] (n, 0, 0) h (kQv mX7_aside n (fun h' => (∃ b : Nat → Int32, h' 42 = .inl (G.2.1, 82, .inl b) ∧ ∀ j, j < 82 → b j = a j) ∧ kFr 42 43 h0 h')) := by
  intro d
  induction d with
  | zero => intro k h b hd; omega
  | succ d ih =>
    intro k h b hd hk HO hs hsp hj hF
    have hM : h 37 = .inr (7, [.int (F 0), .long tr, .ref (kb G + 38), .int (nI sz), .int (F 4), .int (F 5), .int (F 6), .int (F 7), .int (F 8), .ref (kb G + 39), .ref (kb G + 40), .int (nI T.1), .int (F 12), .int (nI T.2.2.2.1), .int (F 14), .int (nI T.2.2.2.2.1), .int (F 16), .int (nI T.2.2.2.2.2), .int (F 18), .int (F 19), .int (F 20), .ref (kb G + 41), .ref (kb G + 42), .ref (kb G + 43), .ref (kb G + 44), .ref (kb G + 45), .ref (kb G + 46), .ref (kb G + 47), .ref (kb G + 48)]) := HO
    refine go_iload_n 0 (nx := 3) dX7_aside_2 rfl rfl rfl ?_
    refine go_bipush (v := nI 82) (nx := 5) dX7_aside_3 (by decide) rfl ?_
    refine go_icmp_ge 45 (nx := 8) dX7_aside_5 rfl rfl (fun c5 => ?_) (fun c5 => ?_)
    · skip
      refine go_retv dX7_aside_45 rfl ?_
      have e8 : k = 82 := by have := kle c5; omega
      subst e8
      exact ⟨⟨b, hsp, hj⟩, hF⟩
    · skip
      refine go_iload_n 2 (nx := 9) dX7_aside_8 rfl rfl rfl ?_
      refine go_if_eq 27 (nx := 12) dX7_aside_9 rfl rfl (fun c9 => False.elim (absurd c9 (by decide))) (fun c9 => ?_)
      refine go_aload_n 1 (nx := 13) dX7_aside_12 rfl rfl rfl ?_
      refine go_gf (nx := 16) fg_X7_22 dX7_aside_13 (by omega) hM rfl rfl ?_
      refine go_iload_n 0 (nx := 17) dX7_aside_16 rfl rfl rfl ?_
      refine go_aload_n 1 (nx := 18) dX7_aside_17 rfl rfl rfl ?_
      refine go_gf (nx := 21) fg_X7_19 dX7_aside_18 (by omega) hM rfl rfl ?_
      refine go_iload_n 0 (nx := 22) dX7_aside_21 rfl rfl rfl ?_
      refine go_ial (k) (nx := 23) dX7_aside_22 (by omega) hs rfl (knle c5) (by omega) rfl ?_
      refine go_ias (k) (nx := 24) dX7_aside_23 (by omega) hsp rfl (knle c5) (by omega) rfl (fun h1 eh1 fh1 => ?_)
      have hM := (fh1 (37) (by omega)).trans hM
      have hs := (fh1 (41) (by omega)).trans hs
      have hsp := eh1
      have hF := hF.tr (fun j hj => fh1 j (by omega))
      refine go_goto 39 dX7_aside_24 rfl ?_
      refine go_iinc 0 (v := nI (k + 1)) (lv' := [_, _, _]) (nx := 42) dX7_aside_39 rfl (nI_inc k) (by decide) rfl rfl ?_
      refine go_goto 2 dX7_aside_42 rfl ?_
      refine Go.sub [0, 1, 2] rfl ?_
      have h8 := knle c5
      refine ih (k + 1) _ _ (by omega) (by omega) hM hs hsp (fun j hj2 => ?_) hF
      by_cases e : j = k
      · subst e; rw [pk_us]
      · rw [pk_un e]; exact hj j (by omega)
theorem m_asideT {G : kG} {n sz : Nat} {h : kH} {tx : Nat → Nat} {ν : mN} {i0 i1 : Option mN} {T : mT} {tr : Int64} {F : Nat → Int32} {x : Int32} (hn : 49 ≤ n) (HO : mO G F tr sz T h) (HS : oS G ν h) (HX : xArr G 42 82 h) (hx : x = nI 1) : Spv G mX7_aside 0 [.ref (kb G + 37), .int x] n h (fun h' => oSp G ν h' ∧ kFr 42 43 h h') := by
  subst hx
  obtain ⟨a, hs, ha⟩ := HS
  obtain ⟨b, hsp⟩ := HX
  suffices Hs : Spv G mX7_aside 0 [.ref (kb G + 37), .int (nI 1)] n h (fun h' => (∃ b : Nat → Int32, h' 42 = .inl (G.2.1, 82, .inl b) ∧ ∀ j, j < 82 → b j = a j) ∧ kFr 42 43 h h') by
    exact Hs.mono fun h' ⟨⟨b, q1, q2⟩, q3⟩ => ⟨⟨b, q1, sIs.ext q2 ha⟩, q3⟩
  refine Spv.of (by decide) (Nat.le_of_ble_eq_true rfl) ?_
  refine go_iconst (v := nI 0) (nx := 1) dX7_aside_0 (by decide) rfl ?_
  refine go_istore_n (lv' := [_, _, _]) (nx := 2) dX7_aside_1 rfl (by decide) rfl rfl ?_
  refine Go.sub [0, 1, 2] rfl ?_
  exact l_asideT (tx := tx) (ν := ν) (i0 := i0) (i1 := i1) hn 83 0 h b (by omega) (by omega) HO hs hsp (fun j hj => absurd hj (Nat.not_lt_zero j)) kFr.rf
theorem l_asideF {G : kG} {n sz : Nat} {tx : Nat → Nat} {ν : mN} {i0 i1 : Option mN} {T : mT} {tr : Int64} {F : Nat → Int32} {h0 : kH} {a : Nat → Int32} (hn : 49 ≤ n) : ∀ (d k : Nat) (h : kH) (b : Nat → Int32), 82 - k < d → k ≤ 82 → mO G F tr sz T h → h 42 = .inl (G.2.1, 82, .inl a) → h 41 = .inl (G.2.1, 82, .inl b) → (∀ j, j < k → b j = a j) → kFr 41 42 h0 h → Go G mX7_aside (0, 0, 0) 2 [(2, .int (nI k)), (0, .ref (kb G + 37)), (1, .int (nI 0))] [] (n, 0, 0) h (kQv mX7_aside n (fun h' => (∃ b : Nat → Int32, h' 41 = .inl (G.2.1, 82, .inl b) ∧ ∀ j, j < 82 → b j = a j) ∧ kFr 41 42 h0 h')) := by
  intro d
  induction d with
  | zero => intro k h b hd; omega
  | succ d ih =>
    intro k h b hd hk HO hsp hs hj hF
    have hM : h 37 = .inr (7, [.int (F 0), .long tr, .ref (kb G + 38), .int (nI sz), .int (F 4), .int (F 5), .int (F 6), .int (F 7), .int (F 8), .ref (kb G + 39), .ref (kb G + 40), .int (nI T.1), .int (F 12), .int (nI T.2.2.2.1), .int (F 14), .int (nI T.2.2.2.2.1), .int (F 16), .int (nI T.2.2.2.2.2), .int (F 18), .int (F 19), .int (F 20), .ref (kb G + 41), .ref (kb G + 42), .ref (kb G + 43), .ref (kb G + 44), .ref (kb G + 45), .ref (kb G + 46), .ref (kb G + 47), .ref (kb G + 48)]) := HO
    refine go_iload_n 0 (nx := 3) dX7_aside_2 rfl rfl rfl ?_
    refine go_bipush (v := nI 82) (nx := 5) dX7_aside_3 (by decide) rfl ?_
    refine go_icmp_ge 45 (nx := 8) dX7_aside_5 rfl rfl (fun c5 => ?_) (fun c5 => ?_)
    · skip
      refine go_retv dX7_aside_45 rfl ?_
      have e8 : k = 82 := by have := kle c5; omega
      subst e8
      exact ⟨⟨b, hs, hj⟩, hF⟩
    · skip
      refine go_iload_n 2 (nx := 9) dX7_aside_8 rfl rfl rfl ?_
      refine go_if_eq 27 (nx := 12) dX7_aside_9 rfl rfl (fun c9 => ?_) (fun c9 => False.elim (absurd rfl c9))
      refine go_aload_n 1 (nx := 28) dX7_aside_27 rfl rfl rfl ?_
      refine go_gf (nx := 31) fg_X7_19 dX7_aside_28 (by omega) hM rfl rfl ?_
      refine go_iload_n 0 (nx := 32) dX7_aside_31 rfl rfl rfl ?_
      refine go_aload_n 1 (nx := 33) dX7_aside_32 rfl rfl rfl ?_
      refine go_gf (nx := 36) fg_X7_22 dX7_aside_33 (by omega) hM rfl rfl ?_
      refine go_iload_n 0 (nx := 37) dX7_aside_36 rfl rfl rfl ?_
      refine go_ial (k) (nx := 38) dX7_aside_37 (by omega) hsp rfl (knle c5) (by omega) rfl ?_
      refine go_ias (k) (nx := 39) dX7_aside_38 (by omega) hs rfl (knle c5) (by omega) rfl (fun h1 eh1 fh1 => ?_)
      have hM := (fh1 (37) (by omega)).trans hM
      have hsp := (fh1 (42) (by omega)).trans hsp
      have hs := eh1
      have hF := hF.tr (fun j hj => fh1 j (by omega))
      refine go_iinc 0 (v := nI (k + 1)) (lv' := [_, _, _]) (nx := 42) dX7_aside_39 rfl (nI_inc k) (by decide) rfl rfl ?_
      refine go_goto 2 dX7_aside_42 rfl ?_
      refine Go.sub [0, 1, 2] rfl ?_
      have h8 := knle c5
      refine ih (k + 1) _ _ (by omega) (by omega) hM hsp hs (fun j hj2 => ?_) hF
      by_cases e : j = k
      · subst e; rw [pk_us]
      · rw [pk_un e]; exact hj j (by omega)
theorem m_asideF {G : kG} {n sz : Nat} {h : kH} {tx : Nat → Nat} {ν : mN} {i0 i1 : Option mN} {T : mT} {tr : Int64} {F : Nat → Int32} {x : Int32} (hn : 49 ≤ n) (HO : mO G F tr sz T h) (HS : oSp G ν h) (HX : xArr G 41 82 h) (hx : x = nI 0) : Spv G mX7_aside 0 [.ref (kb G + 37), .int x] n h (fun h' => oS G ν h' ∧ kFr 41 42 h h') := by
  subst hx
  obtain ⟨a, hsp, ha⟩ := HS
  obtain ⟨b, hs⟩ := HX
  suffices Hs : Spv G mX7_aside 0 [.ref (kb G + 37), .int (nI 0)] n h (fun h' => (∃ b : Nat → Int32, h' 41 = .inl (G.2.1, 82, .inl b) ∧ ∀ j, j < 82 → b j = a j) ∧ kFr 41 42 h h') by
    exact Hs.mono fun h' ⟨⟨b, q1, q2⟩, q3⟩ => ⟨⟨b, q1, sIs.ext q2 ha⟩, q3⟩
  refine Spv.of (by decide) (Nat.le_of_ble_eq_true rfl) ?_
  refine go_iconst (v := nI 0) (nx := 1) dX7_aside_0 (by decide) rfl ?_
  refine go_istore_n (lv' := [_, _, _]) (nx := 2) dX7_aside_1 rfl (by decide) rfl rfl ?_
  refine Go.sub [0, 1, 2] rfl ?_
  exact l_asideF (tx := tx) (ν := ν) (i0 := i0) (i1 := i1) hn 83 0 h b (by omega) (by omega) HO hsp hs (fun j hj => absurd hj (Nat.not_lt_zero j)) kFr.rf
theorem mSpring_y {T : mT} {ν : mN} : (mSpring T ν).2.2.2.1 = ν.2.2.2.1 + 1 := by
  unfold mSpring
  simp only []
  have h1 : (mCalls T T.1 ν).2.2 = ν.2.2 := mCalls_C _
  have h2 : (mHonour (mWho T ν) T.1 (mCalls T T.1 ν)).2.2 = (mCalls T T.1 ν).2.2 := mHonour_C _
  have h3 : (mCrown T.1 (mWho T ν) (mCalls T T.1 ν)).2.2.2.1 = ν.2.2.2.1 := by
    show (mHonour (mWho T ν) T.1 (mCalls T T.1 ν)).2.2.2.1 = _
    rw [h2, h1]
  split
  · exact congrArg (· + 1) h3
  · exact congrArg (· + 1) h3
theorem mSp_y {T : mT} {ν : mN} : ∀ k, (mSp T k ν).2.2.2.1 = ν.2.2.2.1 + k
  | 0 => rfl
  | k + 1 => by
    show (mSpring T (mSp T k ν)).2.2.2.1 = _
    rw [mSpring_y, mSp_y k]; omega
theorem l_mgo {G : kG} {n sz : Nat} {tx : Nat → Nat} {ν : mN} {i0 i1 : Option mN} {T : mT} {tr : Int64} {m : Nat} {h0 : kH} (hn : 49 ≤ n) (hwT : wT T) (hwN : wN T.1 ν) (hP0 : 0 < T.1) (hY : ν.2.2.2.1 ≤ 99) (hm : m ≤ 99) : ∀ (d i : Nat) (h : kH), m - i < d → i ≤ min m (99 - ν.2.2.2.1) → oM G (tx, sz, mSp T i ν, i0, i1, T, tr) h → kFr 37 49 h0 h → Go G mX7_go (4, 0, 0) 41 [(2, .int (nI i)), (0, .ref (kb G + 37)), (1, .int (nI m))] [] (n, 0, 0) h (kQi mX7_go n (fun v h' => v = (mSp T (min m (99 - ν.2.2.2.1)) ν).2.2.2.2 ∧ oM G (tx, sz, mSp T (min m (99 - ν.2.2.2.1)) ν, i0, i1, T, tr) h' ∧ kFr 37 49 h0 h')) := by
  intro d
  induction d with
  | zero => intro i h hd; omega
  | succ d ih =>
    intro i h hd hi H hZ
    obtain ⟨⟨F, HO⟩, -, -, HH, HS, -⟩ := id H
    have hM : h 37 = .inr (7, [.int (F 0), .long tr, .ref (kb G + 38), .int (nI sz), .int (F 4), .int (F 5), .int (F 6), .int (F 7), .int (F 8), .ref (kb G + 39), .ref (kb G + 40), .int (nI T.1), .int (F 12), .int (nI T.2.2.2.1), .int (F 14), .int (nI T.2.2.2.2.1), .int (F 16), .int (nI T.2.2.2.2.2), .int (F 18), .int (F 19), .int (F 20), .ref (kb G + 41), .ref (kb G + 42), .ref (kb G + 43), .ref (kb G + 44), .ref (kb G + 45), .ref (kb G + 46), .ref (kb G + 47), .ref (kb G + 48)]) := HO
    obtain ⟨sa, hs, hs1, hs2, hs3, hs4, hs5⟩ := id HS
    have hys : (mSp T i ν).2.2.2.1 = ν.2.2.2.1 + i := mSp_y i
    have hs3 : sa 72 = nI (ν.2.2.2.1 + i) := hs3.trans (congrArg nI hys)
    refine go_iload_n 0 (nx := 42) dX7_go_41 rfl rfl rfl ?_
    refine go_iload_n 2 (nx := 43) dX7_go_42 rfl rfl rfl ?_
    refine go_icmp_ge 69 (nx := 46) dX7_go_43 rfl rfl (fun c43 => ?_) (fun c43 => ?_)
    · skip
      refine go_aload_n 1 (nx := 70) dX7_go_69 rfl rfl rfl ?_
      refine go_gf (nx := 73) fg_X7_19 dX7_go_70 (by omega) hM rfl rfl ?_
      refine go_bipush (v := nI 81) (nx := 75) dX7_go_73 (by decide) rfl ?_
      refine go_ial (81) (nx := 76) dX7_go_75 (by omega) hs rfl (by omega) (by omega) rfl ?_
      refine go_reti dX7_go_76 ⟨_, rfl, rfl⟩ ?_
      have e8 : i = min m (99 - ν.2.2.2.1) := by have := kle c43; omega
      rw [← e8, hs5]
      exact ⟨rfl, H, hZ⟩
    · skip
      refine go_aload_n 1 (nx := 47) dX7_go_46 rfl rfl rfl ?_
      refine go_gf (nx := 50) fg_X7_19 dX7_go_47 (by omega) hM rfl rfl ?_
      refine go_bipush (v := nI 72) (nx := 52) dX7_go_50 (by decide) rfl ?_
      refine go_ial (72) (nx := 53) dX7_go_52 (by omega) hs rfl (by omega) (by omega) rfl ?_
      rw [hs3]
      refine go_bipush (v := nI 99) (nx := 55) dX7_go_53 (by decide) rfl ?_
      refine go_icmp_ge 69 (nx := 58) dX7_go_55 rfl rfl (fun c55 => ?_) (fun c55 => ?_)
      · skip
        refine go_aload_n 1 (nx := 70) dX7_go_69 rfl rfl rfl ?_
        refine go_gf (nx := 73) fg_X7_19 dX7_go_70 (by omega) hM rfl rfl ?_
        refine go_bipush (v := nI 81) (nx := 75) dX7_go_73 (by decide) rfl ?_
        refine go_ial (81) (nx := 76) dX7_go_75 (by omega) hs rfl (by omega) (by omega) rfl ?_
        refine go_reti dX7_go_76 ⟨_, rfl, rfl⟩ ?_
        have e8 : i = min m (99 - ν.2.2.2.1) := by have := kle c55; omega
        rw [← e8, hs5]
        exact ⟨rfl, H, hZ⟩
      · skip
        have z1 := knle c43
        have z2 := knle c55
        refine go_aload_n 1 (nx := 59) dX7_go_58 rfl rfl rfl ?_
        refine go_Vi (nx := 62) [] kc_X7_174 ⟨_, _, rfl⟩ (by omega) hM (m_springs hn HO HH HS hwT (wN_sp hwT hwN hP0 i) hP0 (by rw [hys]; omega)) dX7_go_59 rfl rfl (Nat.le_of_ble_eq_true rfl) (Nat.le_of_ble_eq_true rfl) ⟨Nat.le_refl _, Nat.le_refl _⟩ rfl (fun rh1 h1 hqh1 => ?_)
        obtain ⟨-, HS, hFh1⟩ := hqh1
        have H := H.setS HS hFh1
        have hZ := hZ.tr (hFh1.wide (by omega) (by omega))
        refine go_pop (nx := 63) dX7_go_62 rfl rfl ?_
        refine go_iinc 0 (v := nI (i + 1)) (lv' := [_, _, _]) (nx := 66) dX7_go_63 rfl (nI_inc i) (by decide) rfl rfl ?_
        refine go_goto 41 dX7_go_66 rfl ?_
        refine Go.sub [0, 1, 2] rfl ?_
        exact ih (i + 1) _ (by omega) (by omega) H hZ
theorem m_go {G : kG} {n sz : Nat} {h : kH} {tx : Nat → Nat} {ν : mN} {i0 i1 : Option mN} {T : mT} {tr : Int64} {x : Int32} (hn : 49 ≤ n) (H : oM G (tx, sz, ν, i0, i1, T, tr) h) (W : wS (tx, sz, ν, i0, i1, T, tr)) : Spi G mX7_go 4 [.ref (kb G + 37), .int x] n h (fun v h' => v = fGo T ν x ∧ oM G (tx, sz, nGo T ν x, i0, i1, T, tr) h' ∧ kFr 37 49 h h') := by
  obtain ⟨hwT, hwN, hY, hw0, hw1, hsz, htx⟩ := id W
  have hwT : wT T := hwT
  have hwN : wN T.1 ν := hwN
  have hY : ν.2.2.2.1 ≤ 99 := hY
  have hsz : sz ≤ 400 := hsz
  have hP := hwT.1
  obtain ⟨⟨F, HO⟩, -⟩ := id H
  have hM : h 37 = .inr (7, [.int (F 0), .long tr, .ref (kb G + 38), .int (nI sz), .int (F 4), .int (F 5), .int (F 6), .int (F 7), .int (F 8), .ref (kb G + 39), .ref (kb G + 40), .int (nI T.1), .int (F 12), .int (nI T.2.2.2.1), .int (F 14), .int (nI T.2.2.2.2.1), .int (F 16), .int (nI T.2.2.2.2.2), .int (F 18), .int (F 19), .int (F 20), .ref (kb G + 41), .ref (kb G + 42), .ref (kb G + 43), .ref (kb G + 44), .ref (kb G + 45), .ref (kb G + 46), .ref (kb G + 47), .ref (kb G + 48)]) := HO
  refine Spi.of (by decide) (Nat.le_of_ble_eq_true rfl) ?_
  refine Go.loc (lv' := [(0, _), (1, _)]) rfl ?_
  refine go_aload_n 0 (nx := 1) dX7_go_0 rfl rfl rfl ?_
  refine go_iconst (v := nI 0) (nx := 2) dX7_go_1 (by decide) rfl ?_
  refine go_pf (fs' := [_, _, _, _, _, _, _, _, _, _, _, _, _, _, _, _, _, _, _, _, _, _, _, _, _, _, _, _, _]) (nx := 5) (fp_X7_51 _) dX7_go_2 (by omega) hM (Nat.le_of_ble_eq_true rfl) ⟨rfl, rfl⟩ rfl rfl (fun h1 eh1 fh1 => ?_)
  have hM := eh1
  have hZ : kFr 37 49 h h1 := fun j hj => fh1 j (by omega)
  have H := H.setO (F := upd F 0 (nI 0)) (tr := tr) hM (fun j hj => fh1 j (by omega))
  have H : oM G (tx, sz, ν, i0, i1, T, tr) h1 := H
  obtain ⟨⟨F5, HO⟩, HTm, HKt, HH, HS, HSp, HKe, HRi, HPa, HAh, HDo⟩ := id H
  have HO : mO G F5 tr sz T h1 := HO
  have HTm : oTm G tx sz h1 := HTm
  have HKt : oKt G T h1 := HKt
  have HH : oHab G T h1 := HH
  have HS : oS G ν h1 := HS
  have HKe : oKe G i0 i1 h1 := HKe
  have hM : h1 37 = .inr (7, [.int (F5 0), .long tr, .ref (kb G + 38), .int (nI sz), .int (F5 4), .int (F5 5), .int (F5 6), .int (F5 7), .int (F5 8), .ref (kb G + 39), .ref (kb G + 40), .int (nI T.1), .int (F5 12), .int (nI T.2.2.2.1), .int (F5 14), .int (nI T.2.2.2.2.1), .int (F5 16), .int (nI T.2.2.2.2.2), .int (F5 18), .int (F5 19), .int (F5 20), .ref (kb G + 41), .ref (kb G + 42), .ref (kb G + 43), .ref (kb G + 44), .ref (kb G + 45), .ref (kb G + 46), .ref (kb G + 47), .ref (kb G + 48)]) := HO
  obtain ⟨sa, hs, hs1, hs2, hs3, hs4, hs5⟩ := id HS
  refine go_iload_n 1 (nx := 6) dX7_go_5 rfl rfl rfl ?_
  refine go_iconst (v := nI 1) (nx := 7) dX7_go_6 (by decide) rfl ?_
  refine go_bipush (v := nI 99) (nx := 9) dX7_go_7 (by decide) rfl ?_
  refine go_Si (nx := 12) [_, _, _] kc_X7_54 s_in dX7_go_9 rfl rfl (Nat.le_of_ble_eq_true rfl) (Nat.le_of_ble_eq_true rfl) ⟨Nat.le_refl _, Nat.le_refl _⟩ rfl (fun rh2 h2 hqh2 => ?_)
  obtain ⟨rfl, rfl⟩ := hqh2
  refine go_if_ne 17 (nx := 15) dX7_go_12 rfl rfl (fun c12 => ?_) (fun c12 => ?_)
  · skip
    have e := tbn0 c12
    simp only [inB] at e
    obtain ⟨m, hm1, hm, rfl⟩ := ge1_of (x := x) (by simp only [Bool.and_eq_true, decide_eq_true_eq] at e; exact Int32.not_lt.mpr e.1)
    have hm8 : m ≤ 99 := by simp only [Bool.and_eq_true, decide_eq_true_eq] at e; exact kle e.2
    refine go_aload_n 0 (nx := 18) dX7_go_17 rfl rfl rfl ?_
    refine go_gf (nx := 21) fg_X7_19 dX7_go_18 (by omega) hM rfl rfl ?_
    refine go_bipush (v := nI 72) (nx := 23) dX7_go_21 (by decide) rfl ?_
    refine go_ial (72) (nx := 24) dX7_go_23 (by omega) hs rfl (by omega) (by omega) rfl ?_
    rw [hs3]
    refine go_bipush (v := nI 99) (nx := 26) dX7_go_24 (by decide) rfl ?_
    refine go_icmp_eq 36 (nx := 29) dX7_go_26 rfl rfl (fun c26 => ?_) (fun c26 => ?_)
    · skip
      refine go_bipush (v := (-2)) (nx := 38) dX7_go_36 (by decide) rfl ?_
      refine go_reti dX7_go_38 ⟨_, rfl, rfl⟩ ?_
      have z : ν.2.2.2.1 = 99 ∨ T.1 = 0 := Or.inl (keq c26 (by omega) (by decide))
      rw [fGo, nGo, if_pos e, if_pos e, if_pos z, if_pos z]
      exact ⟨rfl, H, hZ⟩
    · skip
      refine go_aload_n 0 (nx := 30) dX7_go_29 rfl rfl rfl ?_
      refine go_gf (nx := 33) fg_X7_137 dX7_go_30 (by omega) hM rfl rfl ?_
      refine go_if_ne 39 (nx := 36) dX7_go_33 rfl rfl (fun c33 => ?_) (fun c33 => ?_)
      · skip
        have z1 : ¬ ν.2.2.2.1 = 99 := fun q => c26 (by rw [q])
        have z2 : ¬ T.1 = 0 := fun q => c33 (by rw [q]; rfl)
        refine go_iconst (v := nI 0) (nx := 40) dX7_go_39 (by decide) rfl ?_
        refine go_istore_n (lv' := [_, _, _]) (nx := 41) dX7_go_40 rfl (by decide) rfl rfl ?_
        refine Go.sub [0, 1, 2] rfl ?_
        rw [fGo, nGo, if_pos e, if_pos e, if_neg (by omega), if_neg (by omega), cl_nI (by omega)]
        exact l_mgo hn hwT hwN (by omega) hY hm8 (m + 1) 0 _ (by omega) (by omega) H hZ
      · skip
        refine go_bipush (v := (-2)) (nx := 38) dX7_go_36 (by decide) rfl ?_
        refine go_reti dX7_go_38 ⟨_, rfl, rfl⟩ ?_
        have z : ν.2.2.2.1 = 99 ∨ T.1 = 0 := Or.inr (keq (b := 0) c33 (by omega) (by decide))
        rw [fGo, nGo, if_pos e, if_pos e, if_pos z, if_pos z]
        exact ⟨rfl, H, hZ⟩
  · skip
    refine go_iconst (v := (-1)) (nx := 16) dX7_go_15 (by decide) rfl ?_
    refine go_reti dX7_go_16 ⟨_, rfl, rfl⟩ ?_
    have e := tb0 c12
    simp only [inB] at e
    rw [fGo, nGo, if_neg (by rw [e]; decide), if_neg (by rw [e]; decide)]
    exact ⟨rfl, H, hZ⟩
theorem oM.setZ {G : kG} {s : mS} {h h' : kH} {F : Nat → Int32} (H : oM G s h) (hO : mO G F s.2.2.2.2.2.2 0 s.2.2.2.2.2.1 h') (hF : kFr 37 38 h h') : oM G (s.1, 0, s.2.2) h' := by
  obtain ⟨-, ⟨a, q2, q2'⟩, q3, q4, q5, q6, q7, q8, q9, q10, q11⟩ := H
  exact ⟨⟨F, hO⟩, ⟨a, (hF 38 (by omega)).trans q2, fun j hj => absurd hj (Nat.not_lt_zero j)⟩, q3.fr hF (by omega), q4.fr hF (by omega), q5.fr hF (by omega), q6.fr hF (by omega), q7.fr hF (by omega), q8.fr hF (by omega), q9.fr hF (by omega), q10.fr hF (by omega), q11.fr hF (by omega)⟩
theorem m_clear {G : kG} {n sz : Nat} {h : kH} {tx : Nat → Nat} {ν : mN} {i0 i1 : Option mN} {T : mT} {tr : Int64} (hn : 49 ≤ n) (H : oM G (tx, sz, ν, i0, i1, T, tr) h) (W : wS (tx, sz, ν, i0, i1, T, tr)) : Spi G mX7_clear 0 [.ref (kb G + 37)] n h (fun v h' => v = nI sz ∧ oM G (tx, 0, ν, i0, i1, T, tr) h' ∧ kFr 37 49 h h') := by
  obtain ⟨hwT, hwN, hY, hw0, hw1, hsz, htx⟩ := id W
  have hwT : wT T := hwT
  have hwN : wN T.1 ν := hwN
  have hY : ν.2.2.2.1 ≤ 99 := hY
  have hsz : sz ≤ 400 := hsz
  have hP := hwT.1
  obtain ⟨⟨F, HO⟩, -⟩ := id H
  have hM : h 37 = .inr (7, [.int (F 0), .long tr, .ref (kb G + 38), .int (nI sz), .int (F 4), .int (F 5), .int (F 6), .int (F 7), .int (F 8), .ref (kb G + 39), .ref (kb G + 40), .int (nI T.1), .int (F 12), .int (nI T.2.2.2.1), .int (F 14), .int (nI T.2.2.2.2.1), .int (F 16), .int (nI T.2.2.2.2.2), .int (F 18), .int (F 19), .int (F 20), .ref (kb G + 41), .ref (kb G + 42), .ref (kb G + 43), .ref (kb G + 44), .ref (kb G + 45), .ref (kb G + 46), .ref (kb G + 47), .ref (kb G + 48)]) := HO
  refine Spi.of (by decide) (Nat.le_of_ble_eq_true rfl) ?_
  refine Go.loc (lv' := [(0, _)]) rfl ?_
  refine go_aload_n 0 (nx := 1) dX7_clear_0 rfl rfl rfl ?_
  refine go_iconst (v := nI 0) (nx := 2) dX7_clear_1 (by decide) rfl ?_
  refine go_pf (fs' := [_, _, _, _, _, _, _, _, _, _, _, _, _, _, _, _, _, _, _, _, _, _, _, _, _, _, _, _, _]) (nx := 5) (fp_X7_51 _) dX7_clear_2 (by omega) hM (Nat.le_of_ble_eq_true rfl) ⟨rfl, rfl⟩ rfl rfl (fun h1 eh1 fh1 => ?_)
  have hM := eh1
  have hZ : kFr 37 49 h h1 := fun j hj => fh1 j (by omega)
  have H := H.setO (F := upd F 0 (nI 0)) (tr := tr) hM (fun j hj => fh1 j (by omega))
  have H : oM G (tx, sz, ν, i0, i1, T, tr) h1 := H
  obtain ⟨⟨F5, HO⟩, HTm, HKt, HH, HS, HSp, HKe, HRi, HPa, HAh, HDo⟩ := id H
  have HO : mO G F5 tr sz T h1 := HO
  have HTm : oTm G tx sz h1 := HTm
  have HKt : oKt G T h1 := HKt
  have HH : oHab G T h1 := HH
  have HS : oS G ν h1 := HS
  have HKe : oKe G i0 i1 h1 := HKe
  have hM : h1 37 = .inr (7, [.int (F5 0), .long tr, .ref (kb G + 38), .int (nI sz), .int (F5 4), .int (F5 5), .int (F5 6), .int (F5 7), .int (F5 8), .ref (kb G + 39), .ref (kb G + 40), .int (nI T.1), .int (F5 12), .int (nI T.2.2.2.1), .int (F5 14), .int (nI T.2.2.2.2.1), .int (F5 16), .int (nI T.2.2.2.2.2), .int (F5 18), .int (F5 19), .int (F5 20), .ref (kb G + 41), .ref (kb G + 42), .ref (kb G + 43), .ref (kb G + 44), .ref (kb G + 45), .ref (kb G + 46), .ref (kb G + 47), .ref (kb G + 48)]) := HO
  obtain ⟨sa, hs, hs1, hs2, hs3, hs4, hs5⟩ := id HS
  refine go_aload_n 0 (nx := 6) dX7_clear_5 rfl rfl rfl ?_
  refine go_gf (nx := 9) fg_X7_58 dX7_clear_6 (by omega) hM rfl rfl ?_
  refine go_istore_n (lv' := [_, _]) (nx := 10) dX7_clear_9 rfl (by decide) rfl rfl ?_
  refine go_aload_n 1 (nx := 11) dX7_clear_10 rfl rfl rfl ?_
  refine go_iconst (v := nI 0) (nx := 12) dX7_clear_11 (by decide) rfl ?_
  refine go_pf (fs' := [_, _, _, _, _, _, _, _, _, _, _, _, _, _, _, _, _, _, _, _, _, _, _, _, _, _, _, _, _]) (nx := 15) (fp_X7_58 _) dX7_clear_12 (by omega) hM (Nat.le_of_ble_eq_true rfl) ⟨rfl, rfl⟩ rfl rfl (fun h2 eh2 fh2 => ?_)
  have hs := (fh2 (41) (by omega)).trans hs
  have hM := eh2
  refine go_iload_n 0 (nx := 16) dX7_clear_15 rfl rfl rfl ?_
  refine go_reti dX7_clear_16 ⟨_, rfl, rfl⟩ ?_
  have fx : kFr 37 38 _ h2 := fun j hj => fh2 j (by omega)
  exact ⟨rfl, H.setZ (F := F5) hM fx, hZ.tr (fx.wide (by omega) (by omega))⟩
theorem nI_dec1 {P a : Nat} (h : a < P - 1) : nI (P - 1 - a) + Int32.ofInt (-1) = nI (P - 1 - (a + 1)) := by
  rw [show P - 1 - a = (P - 1 - (a + 1)) + 1 by omega, nI_dec, nI_pred]
theorem l_masks {G : kG} {n sz : Nat} {tx : Nat → Nat} {ν : mN} {i0 i1 : Option mN} {T : mT} {tr : Int64} {h0 h : kH} {p j : Nat} (hn : 49 ≤ n) (hP : T.1 ≤ 8) (hp : p < T.1) (hj : j ≤ 8) (H : oM G (tx, sz, ν, i0, i1, T, tr) h) (hZ : kFr 37 49 h0 h) : ∀ (d q : Nat), T.1 - q < d → q ≤ T.1 → Go G mX7_asks (2, 0, 0) 41 [(6, .int (nI q)), (5, .int (nI (askS ν.1 p j T.1 q).2)), (4, .int (nI (T.1 - 1 - (askS ν.1 p j T.1 q).2))), (3, .int (nI (askS ν.1 p j T.1 q).1)), (0, .ref (kb G + 37)), (1, .int (nI p)), (2, .int (nI j))] [] (n, 0, 0) h (kQi mX7_asks n (fun v h' => v = nI (askS ν.1 p j T.1 T.1).2 ∧ oM G (tx, sz, ν, i0, i1, T, tr) h' ∧ kFr 37 49 h0 h')) := by
  intro d
  obtain ⟨⟨F, HO⟩, -, -, -, HS, -⟩ := id H
  have hM : h 37 = .inr (7, [.int (F 0), .long tr, .ref (kb G + 38), .int (nI sz), .int (F 4), .int (F 5), .int (F 6), .int (F 7), .int (F 8), .ref (kb G + 39), .ref (kb G + 40), .int (nI T.1), .int (F 12), .int (nI T.2.2.2.1), .int (F 14), .int (nI T.2.2.2.2.1), .int (F 16), .int (nI T.2.2.2.2.2), .int (F 18), .int (F 19), .int (F 20), .ref (kb G + 41), .ref (kb G + 42), .ref (kb G + 43), .ref (kb G + 44), .ref (kb G + 45), .ref (kb G + 46), .ref (kb G + 47), .ref (kb G + 48)]) := HO
  have hM : h 37 = _ := hM
  obtain ⟨sa, hs, hs1, hs2, hs3, hs4, hs5⟩ := id HS
  induction d with
  | zero => intro q hd; omega
  | succ d ih =>
    intro q hd hq
    have hb := askS_b (K := ν.1) (p := p) (j := j) (P := T.1) q
    generalize he : askS ν.1 p j T.1 q = r at hb ⊢
    have hr1 : r.2 ≤ T.1 - 1 := by split at hb <;> omega
    refine go_iload 0 (nx := 43) dX7_asks_41 rfl rfl ?_
    refine go_aload_n 4 (nx := 44) dX7_asks_43 rfl rfl rfl ?_
    refine go_gf (nx := 47) fg_X7_137 dX7_asks_44 (by omega) hM rfl rfl ?_
    refine go_icmp_ge 95 (nx := 50) dX7_asks_47 rfl rfl (fun c47 => ?_) (fun c47 => ?_)
    · skip
      refine go_iload 1 (nx := 97) dX7_asks_95 rfl rfl ?_
      refine go_reti dX7_asks_97 ⟨_, rfl, rfl⟩ ?_
      have e8 : q = T.1 := by have := kle c47; omega
      subst e8
      rw [he]
      exact ⟨rfl, H, hZ⟩
    · skip
      have h8 := knle c47
      refine go_iload 0 (nx := 52) dX7_asks_50 rfl rfl ?_
      refine go_iload_n 5 (nx := 53) dX7_asks_52 rfl rfl rfl ?_
      refine go_icmp_eq 89 (nx := 56) dX7_asks_53 rfl rfl (fun c53 => ?_) (fun c53 => ?_)
      · skip
        refine go_iinc 0 (v := nI (q + 1)) (lv' := [_, _, _, _, _, _, _]) (nx := 92) dX7_asks_89 rfl (nI_inc q) (by decide) rfl rfl ?_
        refine go_goto 41 dX7_asks_92 rfl ?_
        refine Go.sub [0, 1, 2, 3, 4, 5, 6] rfl ?_
        have k := ih (q + 1) (by omega) (by omega)
        rw [show askS ν.1 p j T.1 (q + 1) = r by simp only [askS]; rw [he, if_neg (fun z => z.1 (keq c53 (by omega) (by omega)))]] at k
        exact k
      · skip
        refine go_iload_n 3 (nx := 57) dX7_asks_56 rfl rfl rfl ?_
        refine go_iload_n 6 (nx := 58) dX7_asks_57 rfl rfl rfl ?_
        refine go_icmp_ge 89 (nx := 61) dX7_asks_58 rfl rfl (fun c58 => ?_) (fun c58 => ?_)
        · skip
          refine go_iinc 0 (v := nI (q + 1)) (lv' := [_, _, _, _, _, _, _]) (nx := 92) dX7_asks_89 rfl (nI_inc q) (by decide) rfl rfl ?_
          refine go_goto 41 dX7_asks_92 rfl ?_
          refine Go.sub [0, 1, 2, 3, 4, 5, 6] rfl ?_
          have k := ih (q + 1) (by omega) (by omega)
          rw [show askS ν.1 p j T.1 (q + 1) = r by simp only [askS]; rw [he, if_neg (fun z => by have := kle c58 (by omega) (by omega); omega)]] at k
          exact k
        · skip
          refine go_iload_n 3 (nx := 62) dX7_asks_61 rfl rfl rfl ?_
          refine go_iload 2 (nx := 64) dX7_asks_62 rfl rfl ?_
          refine go_iadd (nx := 65) dX7_asks_64 rfl ?_
          rw [nI_add]
          refine go_iload_n 6 (nx := 66) dX7_asks_65 rfl rfl rfl ?_
          refine go_icmp_lt 89 (nx := 69) dX7_asks_66 rfl rfl (fun c66 => ?_) (fun c66 => ?_)
          · skip
            refine go_iinc 0 (v := nI (q + 1)) (lv' := [_, _, _, _, _, _, _]) (nx := 92) dX7_asks_89 rfl (nI_inc q) (by decide) rfl rfl ?_
            refine go_goto 41 dX7_asks_92 rfl ?_
            refine Go.sub [0, 1, 2, 3, 4, 5, 6] rfl ?_
            have k := ih (q + 1) (by omega) (by omega)
            rw [show askS ν.1 p j T.1 (q + 1) = r by simp only [askS]; rw [he, if_neg (fun z => by have := klt c66 (by omega) (by omega); omega)]] at k
            exact k
          · skip
            refine go_iload_n 3 (nx := 70) dX7_asks_69 rfl rfl rfl ?_
            refine go_aload_n 4 (nx := 71) dX7_asks_70 rfl rfl rfl ?_
            refine go_gf (nx := 74) fg_X7_19 dX7_asks_71 (by omega) hM rfl rfl ?_
            refine go_iload 0 (nx := 76) dX7_asks_74 rfl rfl ?_
            refine go_ial (q) (nx := 77) dX7_asks_76 (by omega) hs rfl (by omega) (by omega) rfl ?_
            rw [hs1 q (by omega)]
            refine go_iload_n 5 (nx := 78) dX7_asks_77 rfl rfl rfl ?_
            refine go_ishr (nx := 79) dX7_asks_78 rfl ?_
            refine go_iconst (v := nI 1) (nx := 80) dX7_asks_79 (by decide) rfl ?_
            refine go_iand (nx := 81) dX7_asks_80 rfl ?_
            rw [i_get _ (row_lt _ _) p (by omega), row_bit _ _ (by omega), show bI (ν.1 q p) = nI (ν.1 q p).toNat by cases ν.1 q p <;> rfl]
            refine go_iadd (nx := 82) dX7_asks_81 rfl ?_
            rw [nI_add]
            refine go_istore_n (lv' := [_, _, _, _, _, _, _]) (nx := 83) dX7_asks_82 rfl (by decide) rfl rfl ?_
            have hqp : q ≠ p := fun z => c53 (by rw [z])
            have hr2 : r.2 < T.1 - 1 := by split at hb <;> omega
            refine go_iinc 3 (v := nI (T.1 - 1 - (r.2 + 1))) (lv' := [_, _, _, _, _, _, _]) (nx := 86) dX7_asks_83 rfl (nI_dec1 hr2) (by decide) rfl rfl ?_
            refine go_iinc 3 (v := nI (r.2 + 1)) (lv' := [_, _, _, _, _, _, _]) (nx := 89) dX7_asks_86 rfl (nI_inc _) (by decide) rfl rfl ?_
            refine go_iinc 3 (v := nI (q + 1)) (lv' := [_, _, _, _, _, _, _]) (nx := 92) dX7_asks_89 rfl (nI_inc q) (by decide) rfl rfl ?_
            refine go_goto 41 dX7_asks_92 rfl ?_
            refine Go.sub [0, 1, 2, 3, 4, 5, 6] rfl ?_
            have z1 := knle c58 (by omega) (by omega)
            have z2 := knlt c66 (by omega) (by omega)
            have k := ih (q + 1) (by omega) (by omega)
            rw [show askS ν.1 p j T.1 (q + 1) = (r.1 + (ν.1 q p).toNat, r.2 + 1) by
              simp only [askS]
              rw [he, if_pos ⟨fun z => c53 (by rw [z]), z1, z2⟩]] at k
            exact k
theorem m_asks {G : kG} {n sz : Nat} {h : kH} {tx : Nat → Nat} {ν : mN} {i0 i1 : Option mN} {T : mT} {tr : Int64} {x y : Int32} (hn : 49 ≤ n) (H : oM G (tx, sz, ν, i0, i1, T, tr) h) (W : wS (tx, sz, ν, i0, i1, T, tr)) : Spi G mX7_asks 2 [.ref (kb G + 37), .int x, .int y] n h (fun v h' => v = fAsks T ν x y ∧ oM G (tx, sz, ν, i0, i1, T, tr) h' ∧ kFr 37 49 h h') := by
  obtain ⟨hwT, hwN, hY, hw0, hw1, hsz, htx⟩ := id W
  have hwT : wT T := hwT
  have hwN : wN T.1 ν := hwN
  have hY : ν.2.2.2.1 ≤ 99 := hY
  have hsz : sz ≤ 400 := hsz
  have hP := hwT.1
  obtain ⟨⟨F, HO⟩, -⟩ := id H
  have hM : h 37 = .inr (7, [.int (F 0), .long tr, .ref (kb G + 38), .int (nI sz), .int (F 4), .int (F 5), .int (F 6), .int (F 7), .int (F 8), .ref (kb G + 39), .ref (kb G + 40), .int (nI T.1), .int (F 12), .int (nI T.2.2.2.1), .int (F 14), .int (nI T.2.2.2.2.1), .int (F 16), .int (nI T.2.2.2.2.2), .int (F 18), .int (F 19), .int (F 20), .ref (kb G + 41), .ref (kb G + 42), .ref (kb G + 43), .ref (kb G + 44), .ref (kb G + 45), .ref (kb G + 46), .ref (kb G + 47), .ref (kb G + 48)]) := HO
  refine Spi.of (by decide) (Nat.le_of_ble_eq_true rfl) ?_
  refine Go.loc (lv' := [(0, _), (1, _), (2, _)]) rfl ?_
  refine go_aload_n 0 (nx := 1) dX7_asks_0 rfl rfl rfl ?_
  refine go_iconst (v := nI 0) (nx := 2) dX7_asks_1 (by decide) rfl ?_
  refine go_pf (fs' := [_, _, _, _, _, _, _, _, _, _, _, _, _, _, _, _, _, _, _, _, _, _, _, _, _, _, _, _, _]) (nx := 5) (fp_X7_51 _) dX7_asks_2 (by omega) hM (Nat.le_of_ble_eq_true rfl) ⟨rfl, rfl⟩ rfl rfl (fun h1 eh1 fh1 => ?_)
  have hM := eh1
  have hZ : kFr 37 49 h h1 := fun j hj => fh1 j (by omega)
  have H := H.setO (F := upd F 0 (nI 0)) (tr := tr) hM (fun j hj => fh1 j (by omega))
  have H : oM G (tx, sz, ν, i0, i1, T, tr) h1 := H
  obtain ⟨⟨F5, HO⟩, HTm, HKt, HH, HS, HSp, HKe, HRi, HPa, HAh, HDo⟩ := id H
  have HO : mO G F5 tr sz T h1 := HO
  have HTm : oTm G tx sz h1 := HTm
  have HKt : oKt G T h1 := HKt
  have HH : oHab G T h1 := HH
  have HS : oS G ν h1 := HS
  have HKe : oKe G i0 i1 h1 := HKe
  have hM : h1 37 = .inr (7, [.int (F5 0), .long tr, .ref (kb G + 38), .int (nI sz), .int (F5 4), .int (F5 5), .int (F5 6), .int (F5 7), .int (F5 8), .ref (kb G + 39), .ref (kb G + 40), .int (nI T.1), .int (F5 12), .int (nI T.2.2.2.1), .int (F5 14), .int (nI T.2.2.2.2.1), .int (F5 16), .int (nI T.2.2.2.2.2), .int (F5 18), .int (F5 19), .int (F5 20), .ref (kb G + 41), .ref (kb G + 42), .ref (kb G + 43), .ref (kb G + 44), .ref (kb G + 45), .ref (kb G + 46), .ref (kb G + 47), .ref (kb G + 48)]) := HO
  obtain ⟨sa, hs, hs1, hs2, hs3, hs4, hs5⟩ := id HS
  refine go_aload_n 0 (nx := 6) dX7_asks_5 rfl rfl rfl ?_
  refine go_iload_n 1 (nx := 7) dX7_asks_6 rfl rfl rfl ?_
  refine go_Vi (nx := 10) [_] kc_X7_146 ⟨_, _, rfl⟩ (by omega) hM (m_isPerson hn HO hP) dX7_asks_7 rfl rfl (Nat.le_of_ble_eq_true rfl) (Nat.le_of_ble_eq_true rfl) ⟨Nat.le_refl _, Nat.le_refl _⟩ rfl (fun rh2 h2 hqh2 => ?_)
  obtain ⟨rfl, rfl⟩ := hqh2
  refine go_if_eq 23 (nx := 13) dX7_asks_10 rfl rfl (fun c10 => ?_) (fun c10 => ?_)
  · skip
    refine go_iconst (v := (-1)) (nx := 24) dX7_asks_23 (by decide) rfl ?_
    refine go_reti dX7_asks_24 ⟨_, rfl, rfl⟩ ?_
    refine ⟨?_, H, hZ⟩
    rw [fAsks, if_neg (by rw [tb0 c10]; simp)]
  · skip
    refine go_iload_n 2 (nx := 14) dX7_asks_13 rfl rfl rfl ?_
    refine go_iconst (v := nI 0) (nx := 15) dX7_asks_14 (by decide) rfl ?_
    refine go_bipush (v := nI 8) (nx := 17) dX7_asks_15 (by decide) rfl ?_
    refine go_Si (nx := 20) [_, _, _] kc_X7_54 s_in dX7_asks_17 rfl rfl (Nat.le_of_ble_eq_true rfl) (Nat.le_of_ble_eq_true rfl) ⟨Nat.le_refl _, Nat.le_refl _⟩ rfl (fun rh3 h3 hqh3 => ?_)
    obtain ⟨rfl, rfl⟩ := hqh3
    refine go_if_ne 25 (nx := 23) dX7_asks_20 rfl rfl (fun c20 => ?_) (fun c20 => ?_)
    · skip
      have e := tbn0 c20
      simp only [inB] at e
      obtain ⟨a, ha, rfl⟩ := per_of hP (tbn0 c10)
      obtain ⟨j, hj, rfl⟩ := nI_of (x := y) (by simp only [Bool.and_eq_true, decide_eq_true_eq] at e; exact Int32.not_lt.mpr e.1)
      have hj8 : j ≤ 8 := by simp only [Bool.and_eq_true, decide_eq_true_eq] at e; exact kle e.2
      refine go_iconst (v := nI 0) (nx := 26) dX7_asks_25 (by decide) rfl ?_
      refine go_istore_n (lv' := [_, _, _, _]) (nx := 27) dX7_asks_26 rfl (by decide) rfl rfl ?_
      refine go_aload_n 1 (nx := 28) dX7_asks_27 rfl rfl rfl ?_
      refine go_gf (nx := 31) fg_X7_137 dX7_asks_28 (by omega) hM rfl rfl ?_
      refine go_iconst (v := nI 1) (nx := 32) dX7_asks_31 (by decide) rfl ?_
      refine go_isub (nx := 33) dX7_asks_32 rfl ?_
      rw [pk_sub (by omega)]
      refine go_istore (lv' := [_, _, _, _, _]) (nx := 35) dX7_asks_33 (by decide) rfl rfl ?_
      refine go_iconst (v := nI 0) (nx := 36) dX7_asks_35 (by decide) rfl ?_
      refine go_istore (lv' := [_, _, _, _, _, _]) (nx := 38) dX7_asks_36 (by decide) rfl rfl ?_
      refine go_iconst (v := nI 0) (nx := 39) dX7_asks_38 (by decide) rfl ?_
      refine go_istore (lv' := [_, _, _, _, _, _, _]) (nx := 41) dX7_asks_39 (by decide) rfl rfl ?_
      refine Go.sub [0, 1, 2, 3, 4, 5, 6] rfl ?_
      rw [fAsks, if_pos (by rw [tbn0 c10, show (0 : Int32) = nI 0 from rfl, e]; rfl), cl_nI (by omega), cl_nI (by omega)]
      exact l_masks hn hP ha hj8 H hZ (T.1 + 1) 0 (by omega) (by omega)
    · skip
      refine go_iconst (v := (-1)) (nx := 24) dX7_asks_23 (by decide) rfl ?_
      refine go_reti dX7_asks_24 ⟨_, rfl, rfl⟩ ?_
      refine ⟨?_, H, hZ⟩
      have e := tb0 c20
      simp only [inB] at e
      rw [fAsks, if_neg (by rw [show (0 : Int32) = nI 0 from rfl, e]; simp)]
