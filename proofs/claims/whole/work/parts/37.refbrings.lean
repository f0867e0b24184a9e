/-! the reference: whom to bring together -/
def nxP (P fr : Nat) : Option Nat := ffo (fun v => if vpB P v = true then some v else none) (68 - fr) fr
theorem vp_lt {P v : Nat} (hP : P ≤ 8) (h : vpB P v = true) : v < 68 ∧ v < 10 * P ∧ v / 10 < v % 10 ∧ v % 10 < P := by
  simp only [vpB, Bool.and_eq_true, decide_eq_true_eq] at h
  omega
theorem nxP_hit {P v : Nat} (h6 : v < 68) (h : vpB P v = true) : nxP P v = some v := by
  unfold nxP
  rw [show 68 - v = (68 - (v + 1)) + 1 by omega]
  exact ffo_some (by rw [if_pos h])
theorem nxP_skip {P v : Nat} (h : vpB P v = false) : nxP P v = nxP P (v + 1) := by
  unfold nxP
  rcases Nat.lt_or_ge v 68 with h6 | h6
  · rw [show 68 - v = (68 - (v + 1)) + 1 by omega]
    exact ffo_none (by rw [if_neg (by rw [h]; decide)])
  · rw [show 68 - v = 0 by omega, show 68 - (v + 1) = 0 by omega]
    rfl
theorem nxP_end {P v : Nat} (h : 68 ≤ v) : nxP P v = none := by
  unfold nxP
  rw [show 68 - v = 0 by omega]
  rfl
theorem nxP_big {P : Nat} (hP : P ≤ 8) : ∀ d v, 68 - v < d → 10 * P ≤ v → nxP P v = none := by
  intro d
  induction d with
  | zero => intro v hd; omega
  | succ d ih =>
    intro v hd hv
    rcases Nat.lt_or_ge v 68 with h6 | h6
    · rw [nxP_skip (by cases e : vpB P v with | false => rfl | true => have := vp_lt hP e; omega)]
      exact ih (v + 1) (by omega) (by omega)
    · exact nxP_end h6
theorem brg_nx {T : mT} {C : Nat → Nat} {p l : Nat} {wd : Bool} {K : mK} : ∀ d fr, 68 - fr < d → (nxP T.1 fr = none ∧ brg T C p wd (l + 1) fr K = none) ∨ ∃ v, nxP T.1 fr = some v ∧ fr ≤ v ∧ v < 68 ∧ vpB T.1 v = true ∧ brg T C p wd (l + 1) fr K = (match brg T C p wd l (v + 1) (meetK K (v / 10) (v % 10)) with | some L => some (v :: L) | none => brg T C p wd (l + 1) (v + 1) K) := by
  intro d
  induction d with
  | zero => intro fr hd; omega
  | succ d ih =>
    intro fr hd
    rcases Nat.lt_or_ge fr 68 with h6 | h6
    · cases e : vpB T.1 fr with
      | true =>
        refine Or.inr ⟨fr, nxP_hit h6 e, Nat.le_refl _, h6, e, ?_⟩
        cases e2 : brg T C p wd l (fr + 1) (meetK K (fr / 10) (fr % 10)) with
        | some L =>
          simp only [brg]
          rw [show 68 - fr = (68 - (fr + 1)) + 1 by omega]
          exact ffo_some (by rw [if_pos e, e2]; rfl)
        | none =>
          simp only [brg]
          rw [show 68 - fr = (68 - (fr + 1)) + 1 by omega]
          exact ffo_none (by rw [if_pos e, e2]; rfl)
      | false =>
        have hb : brg T C p wd (l + 1) fr K = brg T C p wd (l + 1) (fr + 1) K := by
          simp only [brg]
          rw [show 68 - fr = (68 - (fr + 1)) + 1 by omega]
          exact ffo_none (by rw [if_neg (by rw [e]; decide)])
        rw [nxP_skip e, hb]
        rcases ih (fr + 1) (by omega) with q | ⟨v, q1, q2, q3⟩
        · exact Or.inl q
        · exact Or.inr ⟨v, q1, by omega, q3⟩
    · refine Or.inl ⟨nxP_end h6, ?_⟩
      simp only [brg]
      rw [show 68 - fr = 0 by omega]
      rfl
theorem l_nextP {G : kG} {n sz : Nat} {h : kH} {T : mT} {tr : Int64} {F : Nat → Int32} {x : Int32} {fr : Nat} (hn : 49 ≤ n) (HO : mO G F tr sz T h) (hP : T.1 ≤ 8) : ∀ (d v : Nat), 10 * T.1 - v < d → v ≤ 81 → nxP T.1 fr = nxP T.1 v → Go G mX7_nextPair (0, 0, 0) 4 [(2, .int (nI v)), (0, .ref (kb G + 37)), (1, .int x)] [] (n, 0, 0) h (kQi mX7_nextPair n (fun u h' => u = actI (-1) (nxP T.1 fr) ∧ h' = h)) := by
  intro d
  have hM : h 37 = .inr (7, [.int (F 0), .long tr, .ref (kb G + 38), .int (nI sz), .int (F 4), .int (F 5), .int (F 6), .int (F 7), .int (F 8), .ref (kb G + 39), .ref (kb G + 40), .int (nI T.1), .int (F 12), .int (nI T.2.2.2.1), .int (F 14), .int (nI T.2.2.2.2.1), .int (F 16), .int (nI T.2.2.2.2.2), .int (F 18), .int (F 19), .int (F 20), .ref (kb G + 41), .ref (kb G + 42), .ref (kb G + 43), .ref (kb G + 44), .ref (kb G + 45), .ref (kb G + 46), .ref (kb G + 47), .ref (kb G + 48)]) := HO
  induction d with
  | zero => intro v hd; omega
  | succ d ih =>
    intro v hd hv hq
    refine go_iload_n 0 (nx := 5) dX7_nextPair_4 rfl rfl rfl ?_
    refine go_bipush (v := nI 10) (nx := 7) dX7_nextPair_5 (by decide) rfl ?_
    refine go_aload_n 1 (nx := 8) dX7_nextPair_7 rfl rfl rfl ?_
    refine go_gf (nx := 11) fg_X7_137 dX7_nextPair_8 (by omega) hM rfl rfl ?_
    refine go_imul (nx := 12) dX7_nextPair_11 rfl ?_
    rw [pk_mul]
    refine go_icmp_ge 45 (nx := 15) dX7_nextPair_12 rfl rfl (fun c12 => ?_) (fun c12 => ?_)
    · skip
      refine go_iconst (v := (-1)) (nx := 46) dX7_nextPair_45 (by decide) rfl ?_
      refine go_reti dX7_nextPair_46 ⟨_, rfl, rfl⟩ ?_
      exact ⟨by rw [hq, nxP_big hP 69 v (by omega) (kle c12 (by omega) (by omega))]; rfl, rfl⟩
    · skip
      have z9 := knle c12 (by omega) (by omega)
      refine go_iload_n 0 (nx := 16) dX7_nextPair_15 rfl rfl rfl ?_
      refine go_bipush (v := nI 10) (nx := 18) dX7_nextPair_16 (by decide) rfl ?_
      refine go_idiv (nx := 19) dX7_nextPair_18 (by decide) rfl ?_
      rw [pk_div (by omega) (by decide) (by decide)]
      refine go_iload_n 0 (nx := 20) dX7_nextPair_19 rfl rfl rfl ?_
      refine go_bipush (v := nI 10) (nx := 22) dX7_nextPair_20 (by decide) rfl ?_
      refine go_irem (nx := 23) dX7_nextPair_22 (by decide) rfl ?_
      rw [pk_rem (by omega) (by decide) (by decide)]
      refine go_icmp_ge 39 (nx := 26) dX7_nextPair_23 rfl rfl (fun c23 => ?_) (fun c23 => ?_)
      · skip
        refine go_iinc 0 (v := nI (v + 1)) (lv' := [_, _, _]) (nx := 42) dX7_nextPair_39 rfl (nI_inc v) (by decide) rfl rfl ?_
        refine go_goto 4 dX7_nextPair_42 rfl ?_
        refine Go.sub [0, 1, 2] rfl ?_
        exact ih (v + 1) (by omega) (by omega) (hq.trans (nxP_skip (by simp [vpB]; have z1 := kle c23 (by omega) (by omega); omega)))
      · skip
        refine go_iload_n 0 (nx := 27) dX7_nextPair_26 rfl rfl rfl ?_
        refine go_bipush (v := nI 10) (nx := 29) dX7_nextPair_27 (by decide) rfl ?_
        refine go_irem (nx := 30) dX7_nextPair_29 (by decide) rfl ?_
        rw [pk_rem (by omega) (by decide) (by decide)]
        refine go_aload_n 1 (nx := 31) dX7_nextPair_30 rfl rfl rfl ?_
        refine go_gf (nx := 34) fg_X7_137 dX7_nextPair_31 (by omega) hM rfl rfl ?_
        refine go_icmp_ge 39 (nx := 37) dX7_nextPair_34 rfl rfl (fun c34 => ?_) (fun c34 => ?_)
        · skip
          refine go_iinc 0 (v := nI (v + 1)) (lv' := [_, _, _]) (nx := 42) dX7_nextPair_39 rfl (nI_inc v) (by decide) rfl rfl ?_
          refine go_goto 4 dX7_nextPair_42 rfl ?_
          refine Go.sub [0, 1, 2] rfl ?_
          exact ih (v + 1) (by omega) (by omega) (hq.trans (nxP_skip (by simp [vpB]; have z1 := kle c34 (by omega) (by omega); omega)))
        · skip
          refine go_iload_n 0 (nx := 38) dX7_nextPair_37 rfl rfl rfl ?_
          refine go_reti dX7_nextPair_38 ⟨_, rfl, rfl⟩ ?_
          have z1 := knle c23 (by omega) (by omega)
          have z2 := knle c34 (by omega) (by omega)
          have e : vpB T.1 v = true := by simp [vpB]; omega
          exact ⟨by rw [hq, nxP_hit (vp_lt hP e).1 e]; rfl, rfl⟩
theorem m_nextPair {G : kG} {n sz : Nat} {h : kH} {ν : mN} {T : mT} {tr : Int64} {F : Nat → Int32} {x : Int32} {a : Nat} (hn : 49 ≤ n) (HO : mO G F tr sz T h) (hP : T.1 ≤ 8) (hx : x = nI a) (ha : a ≤ 80) : Spi G mX7_nextPair 0 [.ref (kb G + 37), .int x] n h (fun u h' => u = actI (-1) (nxP T.1 (a + 1)) ∧ h' = h) := by
  subst hx
  refine Spi.of (by decide) (Nat.le_of_ble_eq_true rfl) ?_
  refine go_iload_n 1 (nx := 1) dX7_nextPair_0 rfl rfl rfl ?_
  refine go_iconst (v := nI 1) (nx := 2) dX7_nextPair_1 (by decide) rfl ?_
  refine go_iadd (nx := 3) dX7_nextPair_2 rfl ?_
  rw [nI_add]
  refine go_istore_n (lv' := [_, _, _]) (nx := 4) dX7_nextPair_3 rfl (by decide) rfl rfl ?_
  refine Go.sub [0, 1, 2] rfl ?_
  exact l_nextP hn HO hP 82 (a + 1) (by omega) (by omega) rfl
def mMt (ν : mN) (v : Nat) : mN := mLearn (mLearn ν (v / 10) (v % 10)) (v % 10) (v / 10)
theorem mMt_K {ν : mN} {v : Nat} : (mMt ν v).1 = meetK ν.1 (v / 10) (v % 10) := by
  show kSet (kSet ν.1 (v / 10) (v % 10)) (v % 10) (v / 10) = kSet (kSet ν.1 (v % 10) (v / 10)) (v / 10) (v % 10)
  funext x y
  unfold kSet
  rw [Bool.or_assoc, Bool.or_assoc, Bool.or_comm (x == v / 10 && y == v % 10)]
theorem mMt_C {ν : mN} {v : Nat} : (mMt ν v).2.2 = ν.2.2 := rfl
theorem wN_mt {P v : Nat} {ν : mN} (h : wN P ν) (hv : vpB P v = true) : wN P (mMt ν v) := by
  simp only [vpB, Bool.and_eq_true, decide_eq_true_eq] at hv
  exact wN_learn (wN_learn h (by omega) (by omega) (by omega)) (by omega) (by omega) (by omega)
theorem m_meets {G : kG} {n sz : Nat} {h : kH} {ν : mN} {T : mT} {tr : Int64} {F : Nat → Int32} {x : Int32} {v : Nat} (hn : 49 ≤ n) (HO : mO G F tr sz T h) (HS : oS G ν h) (hP : T.1 ≤ 8) (hx : x = nI v) (hv : vpB T.1 v = true) : Spv G mX7_meets 2 [.ref (kb G + 37), .int x] n h (fun h' => oS G (mMt ν v) h' ∧ kFr 41 42 h h') := by
  subst hx
  have h0 := vp_lt hP hv
  have hM : h 37 = .inr (7, [.int (F 0), .long tr, .ref (kb G + 38), .int (nI sz), .int (F 4), .int (F 5), .int (F 6), .int (F 7), .int (F 8), .ref (kb G + 39), .ref (kb G + 40), .int (nI T.1), .int (F 12), .int (nI T.2.2.2.1), .int (F 14), .int (nI T.2.2.2.2.1), .int (F 16), .int (nI T.2.2.2.2.2), .int (F 18), .int (F 19), .int (F 20), .ref (kb G + 41), .ref (kb G + 42), .ref (kb G + 43), .ref (kb G + 44), .ref (kb G + 45), .ref (kb G + 46), .ref (kb G + 47), .ref (kb G + 48)]) := HO
  refine Spv.of (by decide) (Nat.le_of_ble_eq_true rfl) ?_
  refine go_aload_n 0 (nx := 1) dX7_meets_0 rfl rfl rfl ?_
  refine go_iload_n 1 (nx := 2) dX7_meets_1 rfl rfl rfl ?_
  refine go_bipush (v := nI 10) (nx := 4) dX7_meets_2 (by decide) rfl ?_
  refine go_idiv (nx := 5) dX7_meets_4 (by decide) rfl ?_
  rw [pk_div (by omega) (by decide) (by decide)]
  refine go_iload_n 1 (nx := 6) dX7_meets_5 rfl rfl rfl ?_
  refine go_bipush (v := nI 10) (nx := 8) dX7_meets_6 (by decide) rfl ?_
  refine go_irem (nx := 9) dX7_meets_8 (by decide) rfl ?_
  rw [pk_rem (by omega) (by decide) (by decide)]
  refine go_Vi (nx := 12) [_, _] kc_X7_171 ⟨_, _, rfl⟩ (by omega) hM (m_learns hn HO HS rfl (by omega) rfl (by omega)) dX7_meets_9 rfl rfl (Nat.le_of_ble_eq_true rfl) (Nat.le_of_ble_eq_true rfl) ⟨Nat.le_refl _, Nat.le_refl _⟩ rfl (fun rh1 h1 hqh1 => ?_)
  obtain ⟨-, HS, hFh1⟩ := hqh1
  have HO := HO.fr hFh1 (by omega)
  have hM : h1 37 = .inr (7, [.int (F 0), .long tr, .ref (kb G + 38), .int (nI sz), .int (F 4), .int (F 5), .int (F 6), .int (F 7), .int (F 8), .ref (kb G + 39), .ref (kb G + 40), .int (nI T.1), .int (F 12), .int (nI T.2.2.2.1), .int (F 14), .int (nI T.2.2.2.2.1), .int (F 16), .int (nI T.2.2.2.2.2), .int (F 18), .int (F 19), .int (F 20), .ref (kb G + 41), .ref (kb G + 42), .ref (kb G + 43), .ref (kb G + 44), .ref (kb G + 45), .ref (kb G + 46), .ref (kb G + 47), .ref (kb G + 48)]) := HO
  refine go_pop (nx := 13) dX7_meets_12 rfl rfl ?_
  refine go_aload_n 0 (nx := 14) dX7_meets_13 rfl rfl rfl ?_
  refine go_iload_n 1 (nx := 15) dX7_meets_14 rfl rfl rfl ?_
  refine go_bipush (v := nI 10) (nx := 17) dX7_meets_15 (by decide) rfl ?_
  refine go_irem (nx := 18) dX7_meets_17 (by decide) rfl ?_
  rw [pk_rem (by omega) (by decide) (by decide)]
  refine go_iload_n 1 (nx := 19) dX7_meets_18 rfl rfl rfl ?_
  refine go_bipush (v := nI 10) (nx := 21) dX7_meets_19 (by decide) rfl ?_
  refine go_idiv (nx := 22) dX7_meets_21 (by decide) rfl ?_
  rw [pk_div (by omega) (by decide) (by decide)]
  refine go_Vi (nx := 25) [_, _] kc_X7_171 ⟨_, _, rfl⟩ (by omega) hM (m_learns hn HO HS rfl (by omega) rfl (by omega)) dX7_meets_22 rfl rfl (Nat.le_of_ble_eq_true rfl) (Nat.le_of_ble_eq_true rfl) ⟨Nat.le_refl _, Nat.le_refl _⟩ rfl (fun rh2 h2 hqh2 => ?_)
  obtain ⟨-, HS, hFh2⟩ := hqh2
  have HO := HO.fr hFh2 (by omega)
  have hM : h2 37 = .inr (7, [.int (F 0), .long tr, .ref (kb G + 38), .int (nI sz), .int (F 4), .int (F 5), .int (F 6), .int (F 7), .int (F 8), .ref (kb G + 39), .ref (kb G + 40), .int (nI T.1), .int (F 12), .int (nI T.2.2.2.1), .int (F 14), .int (nI T.2.2.2.2.1), .int (F 16), .int (nI T.2.2.2.2.2), .int (F 18), .int (F 19), .int (F 20), .ref (kb G + 41), .ref (kb G + 42), .ref (kb G + 43), .ref (kb G + 44), .ref (kb G + 45), .ref (kb G + 46), .ref (kb G + 47), .ref (kb G + 48)]) := HO
  refine go_pop (nx := 26) dX7_meets_25 rfl rfl ?_
  refine go_retv dX7_meets_26 rfl ?_
  exact ⟨HS, hFh1.tr hFh2⟩
theorem m_isSo {G : kG} {n sz : Nat} {h : kH} {ν : mN} {T : mT} {tr : Int64} {F : Nat → Int32} {x y : Int32} {p : Nat} {wd : Bool} (hn : 49 ≤ n) (HO : mO G F tr sz T h) (HS : oS G ν h) (hw : wT T) (hv : wN T.1 ν) (hY : ν.2.2.2.1 ≤ 99) (hx : x = nI p) (hp : p < T.1) (hy : y = bI wd) : Spi G mX7_isSo 3 [.ref (kb G + 37), .int x, .int y] n h (fun u h' => u = bI ((mChoose T ν.1 ν.2.2.1 == p) == wd) ∧ h' = h) := by
  subst hx
  subst hy
  have hP := hw.1
  have hc := mChoose_lt (K := ν.1) (C := ν.2.2.1) (show 0 < T.1 by omega)
  have hM : h 37 = .inr (7, [.int (F 0), .long tr, .ref (kb G + 38), .int (nI sz), .int (F 4), .int (F 5), .int (F 6), .int (F 7), .int (F 8), .ref (kb G + 39), .ref (kb G + 40), .int (nI T.1), .int (F 12), .int (nI T.2.2.2.1), .int (F 14), .int (nI T.2.2.2.2.1), .int (F 16), .int (nI T.2.2.2.2.2), .int (F 18), .int (F 19), .int (F 20), .ref (kb G + 41), .ref (kb G + 42), .ref (kb G + 43), .ref (kb G + 44), .ref (kb G + 45), .ref (kb G + 46), .ref (kb G + 47), .ref (kb G + 48)]) := HO
  refine Spi.of (by decide) (Nat.le_of_ble_eq_true rfl) ?_
  refine go_aload_n 0 (nx := 1) dX7_isSo_0 rfl rfl rfl ?_
  refine go_Vi (nx := 4) [] kc_X7_167 ⟨_, _, rfl⟩ (by omega) hM (m_chosenNow hn HO HS hw hv (by omega) (by omega)) dX7_isSo_1 rfl rfl (Nat.le_of_ble_eq_true rfl) (Nat.le_of_ble_eq_true rfl) ⟨Nat.le_refl _, Nat.le_refl _⟩ rfl (fun rh1 h1 hqh1 => ?_)
  obtain ⟨rfl, rfl⟩ := hqh1
  refine go_iload_n 1 (nx := 5) dX7_isSo_4 rfl rfl rfl ?_
  refine go_icmp_ne 12 (nx := 8) dX7_isSo_5 rfl rfl (fun c5 => ?_) (fun c5 => ?_)
  · skip
    refine go_iconst (v := nI 0) (nx := 13) dX7_isSo_12 (by decide) rfl ?_
    refine go_iload_n 2 (nx := 14) dX7_isSo_13 rfl rfl rfl ?_
    refine go_icmp_ne 21 (nx := 17) dX7_isSo_14 rfl rfl (fun c14 => ?_) (fun c14 => ?_)
    · skip
      refine go_iconst (v := nI 0) (nx := 22) dX7_isSo_21 (by decide) rfl ?_
      refine go_reti dX7_isSo_22 ⟨_, rfl, rfl⟩ ?_
      have e : (mChoose T ν.1 ν.2.2.1 == p) = false := beq_eq_false_iff_ne.mpr (fun z => c5 (congrArg nI z))
      refine ⟨?_, rfl⟩
      rw [e]
      cases wd <;> first | rfl | exact absurd (by decide) c14 | exact absurd c14 (by decide)
    · skip
      refine go_iconst (v := nI 1) (nx := 18) dX7_isSo_17 (by decide) rfl ?_
      refine go_goto 22 dX7_isSo_18 rfl ?_
      refine go_reti dX7_isSo_22 ⟨_, rfl, rfl⟩ ?_
      have e : (mChoose T ν.1 ν.2.2.1 == p) = false := beq_eq_false_iff_ne.mpr (fun z => c5 (congrArg nI z))
      refine ⟨?_, rfl⟩
      rw [e]
      cases wd <;> first | rfl | exact absurd (by decide) c14 | exact absurd c14 (by decide)
  · skip
    refine go_iconst (v := nI 1) (nx := 9) dX7_isSo_8 (by decide) rfl ?_
    refine go_goto 13 dX7_isSo_9 rfl ?_
    refine go_iload_n 2 (nx := 14) dX7_isSo_13 rfl rfl rfl ?_
    refine go_icmp_ne 21 (nx := 17) dX7_isSo_14 rfl rfl (fun c14 => ?_) (fun c14 => ?_)
    · skip
      refine go_iconst (v := nI 0) (nx := 22) dX7_isSo_21 (by decide) rfl ?_
      refine go_reti dX7_isSo_22 ⟨_, rfl, rfl⟩ ?_
      have e : (mChoose T ν.1 ν.2.2.1 == p) = true := beq_iff_eq.mpr (keq c5 (by omega) (by omega))
      refine ⟨?_, rfl⟩
      rw [e]
      cases wd <;> first | rfl | exact absurd (by decide) c14 | exact absurd c14 (by decide)
    · skip
      refine go_iconst (v := nI 1) (nx := 18) dX7_isSo_17 (by decide) rfl ?_
      refine go_goto 22 dX7_isSo_18 rfl ?_
      refine go_reti dX7_isSo_22 ⟨_, rfl, rfl⟩ ?_
      have e : (mChoose T ν.1 ν.2.2.1 == p) = true := beq_iff_eq.mpr (keq c5 (by omega) (by omega))
      refine ⟨?_, rfl⟩
      rw [e]
      cases wd <;> first | rfl | exact absurd (by decide) c14 | exact absurd c14 (by decide)
