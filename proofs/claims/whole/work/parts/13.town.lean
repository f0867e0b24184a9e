/-! LeastKnown$Town, and what of NOW needs no town -/
def hab : Option Nat → Int32
  | none => -9
  | some b => nI b
def rTown (G : kG) (t : Nat) (kn ca : Nat → Int32) (pe fo lw ju : Int32) (h : kH) : Prop := h t = .inr (5, [.ref (kb G + (t + 1)), .ref (kb G + (t + 2)), .int pe, .int fo, .int lw, .int ju]) ∧ h (t + 1) = .inl (G.2.1, 8, .inl kn) ∧ h (t + 2) = .inl (G.2.1, 8, .inl ca)
def oTown (G : kG) (t : Nat) (T : mT) (h : kH) : Prop := ∃ kn ca : Nat → Int32, rTown G t kn ca (nI T.1) (nI T.2.2.2.1) (nI T.2.2.2.2.1) (nI T.2.2.2.2.2) h ∧ (∀ b, b < 8 → kn b = nI (col T.2.1 b)) ∧ (∀ p, p < 8 → ca p = hab (T.2.2.1 p))
theorem rTown.fr {G : kG} {t lo hi : Nat} {kn ca : Nat → Int32} {pe fo lw ju : Int32} {h h' : kH} (H : rTown G t kn ca pe fo lw ju h) (hF : kFr lo hi h h') (hd : t + 3 ≤ lo ∨ hi ≤ t) : rTown G t kn ca pe fo lw ju h' :=
  ⟨(hF t (by omega)).trans H.1, (hF (t + 1) (by omega)).trans H.2.1, (hF (t + 2) (by omega)).trans H.2.2⟩
theorem oTown.fr {G : kG} {t lo hi : Nat} {T : mT} {h h' : kH} (H : oTown G t T h) (hF : kFr lo hi h h') (hd : t + 3 ≤ lo ∨ hi ≤ t) : oTown G t T h' := by
  obtain ⟨kn, ca, H, H2⟩ := H
  exact ⟨kn, ca, H.fr hF hd, H2⟩
/-- what a town promises -/
def wT (T : mT) : Prop := T.1 ≤ 8 ∧ (∀ a b, T.2.1 a b = true → a < T.1 ∧ b < T.1 ∧ a ≠ b) ∧ (∀ p b, T.2.2.1 p = some b → p < T.1 ∧ b < T.1 ∧ b ≠ p) ∧ T.2.2.2.1 ≤ 9 ∧ T.2.2.2.2.1 ≤ 3 ∧ T.2.2.2.2.2 ≤ 7
/-- who knows whom among P people -/
def wK (P : Nat) (K : mK) : Prop := ∀ a b, K a b = true → a < P ∧ b < P ∧ a ≠ b
def wN (P : Nat) (ν : mN) : Prop := wK P ν.1 ∧ (∀ p, P ≤ p → ν.2.2.1 p = 0) ∧ (∀ p, ν.2.2.1 p ≤ ν.2.2.2.1) ∧ (∀ j, ν.2.1 j = -1 ∨ ∃ s, s ≤ ν.2.2.2.1 ∧ ν.2.1 j = nI s) ∧ (ν.2.2.2.2 = -9 ∨ ∃ p, p < P ∧ ν.2.2.2.2 = nI p)
theorem cntB_lt : ∀ b0 b1 b2 b3 b4 b5 b6 b7 : Bool, (b0 && b1 && b2 && b3 && b4 && b5 && b6 && b7) = false → b0.toNat + b1.toNat + b2.toNat + b3.toNat + b4.toNat + b5.toNat + b6.toNat + b7.toNat < 8 := by decide +kernel
theorem cnt_lt {P : Nat} {K : mK} (hK : wK P K) (b : Nat) (hb : b < 8) : cnt K b < 8 := by
  have hbb : K b b = false := by
    cases e : K b b
    · rfl
    · exact absurd rfl (hK b b e).2.2
  refine cntB_lt _ _ _ _ _ _ _ _ ?_
  rcases (show b = 0 ∨ b = 1 ∨ b = 2 ∨ b = 3 ∨ b = 4 ∨ b = 5 ∨ b = 6 ∨ b = 7 by omega) with rfl | rfl | rfl | rfl | rfl | rfl | rfl | rfl <;> simp [hbb]
def lfm (k : Nat → Nat) : Option Nat → Nat
  | none => 8
  | some b => k b
theorem lf_succ {k : Nat → Nat} {sel : Nat → Bool} {p : Nat} (hk : k p < 8) : lf k sel (p + 1) = if sel p && decide (k p < lfm k (lf k sel p)) then some p else lf k sel p := by
  show (match lf k sel p with | none => if sel p then some p else none | some b => if sel p && decide (k p < k b) then some p else some b) = _
  cases e : lf k sel p with
  | none => simp [lfm, hk]
  | some b => rfl
theorem lf_lt {k : Nat → Nat} {sel : Nat → Bool} : ∀ {p b : Nat}, lf k sel p = some b → b < p ∧ sel b = true
  | 0, b, h => by cases h
  | p + 1, b, h => by
    have ih := @lf_lt k sel p
    simp only [lf] at h
    split at h
    · split at h
      · rename_i hs
        cases h
        exact ⟨Nat.lt_succ_self _, hs⟩
      · cases h
    · rename_i b' e
      split at h
      · rename_i hs
        cases h
        simp only [Bool.and_eq_true] at hs
        exact ⟨Nat.lt_succ_self _, hs.1⟩
      · cases h
        exact ⟨Nat.lt_succ_of_lt (ih e).1, (ih e).2⟩
theorem lfm_le {k : Nat → Nat} {sel : Nat → Bool} {p : Nat} (hp : p ≤ 8) (hk : ∀ p, p < 8 → k p < 8) : lfm k (lf k sel p) ≤ 8 := by
  cases e : lf k sel p with
  | none => exact Nat.le_refl _
  | some b => exact Nat.le_of_lt (hk b (Nat.lt_of_lt_of_le (lf_lt e).1 hp))
theorem l_leastOf {G : kG} {n i w : Nat} {h : kH} {c : Nat → Int32} {k : Nat → Nat} (hi : i < n) (hc : h i = .inl (G.2.1, 8, .inl c)) (hk : ∀ p, p < 8 → c p = nI (k p)) (hk8 : ∀ p, p < 8 → k p < 8) (hw : w < 256) : ∀ (d p : Nat) (o : Option Nat), 8 - p < d → p ≤ 8 → o = lf k w.testBit p → Go G mX5_leastOf (1, 0, 0) 8 [(4, .int (nI p)), (3, .int (nI (lfm k o))), (2, .int (nI (o.getD 0))), (0, .ref (kb G + i)), (1, .int (nI w))] [] (n, 0, 0) h (kQi mX5_leastOf n (fun v h' => v = nI ((lf k w.testBit 8).getD 0) ∧ h' = h)) := by
  intro d
  induction d with
  | zero => intro p o hd; omega
  | succ d ih =>
    intro p o hd hp ho
    refine go_iload 0 (nx := 10) dX5_leastOf_8 rfl rfl ?_
    refine go_bipush (v := nI 8) (nx := 12) dX5_leastOf_10 (by decide) rfl ?_
    refine go_icmp_ge 51 (nx := 15) dX5_leastOf_12 rfl rfl (fun c12 => ?_) (fun c12 => ?_)
    · skip
      refine go_iload_n 2 (nx := 52) dX5_leastOf_51 rfl rfl rfl ?_
      refine go_reti dX5_leastOf_52 ⟨_, rfl, rfl⟩ ?_
      have e8 : p = 8 := by have := kle c12; omega
      subst e8
      subst ho
      exact ⟨rfl, rfl⟩
    · skip
      refine go_aload_n 3 (nx := 16) dX5_leastOf_15 rfl rfl rfl ?_
      refine go_iload 0 (nx := 18) dX5_leastOf_16 rfl rfl ?_
      refine go_SNi (nx := 21) [_, _] kc_X5_38 (s_at_in (by omega) hc (by omega) rfl (knle c12)) dX5_leastOf_18 rfl rfl (Nat.le_of_ble_eq_true rfl) (Nat.le_of_ble_eq_true rfl) ⟨Nat.le_refl _, Nat.le_refl _⟩ rfl (fun rh1 h1 hqh1 => ?_)
      obtain ⟨rfl, rfl⟩ := hqh1
      refine go_istore (lv' := [_, _, _, _, _, _]) (nx := 23) dX5_leastOf_21 (by decide) rfl rfl ?_
      rw [hk p (knle c12)]
      refine go_iload_n 5 (nx := 24) dX5_leastOf_23 rfl rfl rfl ?_
      refine go_iload 1 (nx := 26) dX5_leastOf_24 rfl rfl ?_
      refine go_ishr (nx := 27) dX5_leastOf_26 rfl ?_
      refine go_iconst (v := nI 1) (nx := 28) dX5_leastOf_27 (by decide) rfl ?_
      refine go_iand (nx := 29) dX5_leastOf_28 rfl ?_
      rw [i_get w hw p (knle c12)]
      refine go_iconst (v := nI 1) (nx := 30) dX5_leastOf_29 (by decide) rfl ?_
      refine go_icmp_ne 45 (nx := 33) dX5_leastOf_30 rfl rfl (fun c30 => ?_) (fun c30 => ?_)
      · skip
        refine go_iinc 1 (v := nI (p + 1)) (lv' := [_, _, _, _, _, _]) (nx := 48) dX5_leastOf_45 rfl (nI_inc p) (by decide) rfl rfl ?_
        refine go_goto 8 dX5_leastOf_48 rfl ?_
        refine Go.sub [0, 2, 3, 4, 5] rfl ?_
        have h8 := knle c12
        have hs := lf_succ (k := k) (sel := w.testBit) (hk8 p h8)
        rw [if_neg (by rw [tbn1 c30]; simp), ← ho] at hs
        exact ih (p + 1) (o) (by omega) (by omega) (by rw [hs])
      · skip
        refine go_iload 0 (nx := 35) dX5_leastOf_33 rfl rfl ?_
        refine go_iload_n 2 (nx := 36) dX5_leastOf_35 rfl rfl rfl ?_
        refine go_icmp_ge 45 (nx := 39) dX5_leastOf_36 rfl rfl (fun c36 => ?_) (fun c36 => ?_)
        · skip
          refine go_iinc 1 (v := nI (p + 1)) (lv' := [_, _, _, _, _, _]) (nx := 48) dX5_leastOf_45 rfl (nI_inc p) (by decide) rfl rfl ?_
          refine go_goto 8 dX5_leastOf_48 rfl ?_
          refine Go.sub [0, 2, 3, 4, 5] rfl ?_
          have h8 := knle c12
          have hs := lf_succ (k := k) (sel := w.testBit) (hk8 p h8)
          rw [if_neg (by have := kle c36 (by have := lfm_le (sel := w.testBit) hp hk8; rw [← ho] at this; omega) (by have := hk8 p h8; omega); rw [← ho]; simp; omega), ← ho] at hs
          exact ih (p + 1) (o) (by omega) (by omega) (by rw [hs])
        · skip
          refine go_iload 0 (nx := 41) dX5_leastOf_39 rfl rfl ?_
          refine go_istore_n (lv' := [_, _, _, _, _, _]) (nx := 42) dX5_leastOf_41 rfl (by decide) rfl rfl ?_
          refine go_iload 2 (nx := 44) dX5_leastOf_42 rfl rfl ?_
          refine go_istore_n (lv' := [_, _, _, _, _, _]) (nx := 45) dX5_leastOf_44 rfl (by decide) rfl rfl ?_
          refine go_iinc 3 (v := nI (p + 1)) (lv' := [_, _, _, _, _, _]) (nx := 48) dX5_leastOf_45 rfl (nI_inc p) (by decide) rfl rfl ?_
          refine go_goto 8 dX5_leastOf_48 rfl ?_
          refine Go.sub [0, 2, 1, 4, 5] rfl ?_
          have h8 := knle c12
          have hs := lf_succ (k := k) (sel := w.testBit) (hk8 p h8)
          rw [if_pos (by have := knle c36 (by have := lfm_le (sel := w.testBit) hp hk8; rw [← ho] at this; omega) (by have := hk8 p h8; omega); rw [← ho, tb1 c30]; simp; omega)] at hs
          exact ih (p + 1) (some p) (by omega) (by omega) (by rw [hs])
theorem s_leastOf {G : kG} {n i w : Nat} {h : kH} {c : Nat → Int32} {k : Nat → Nat} {x : Int32} (hi : i < n) (hc : h i = .inl (G.2.1, 8, .inl c)) (hk : ∀ p, p < 8 → c p = nI (k p)) (hk8 : ∀ p, p < 8 → k p < 8) (hx : x = nI w) (hw : w < 256) : Spi G mX5_leastOf 1 [.ref (kb G + i), .int x] n h (fun v h' => v = nI ((lf k w.testBit 8).getD 0) ∧ h' = h) := by
  subst hx
  refine Spi.of (by decide) (Nat.le_of_ble_eq_true rfl) ?_
  refine go_iconst (v := nI 0) (nx := 1) dX5_leastOf_0 (by decide) rfl ?_
  refine go_istore_n (lv' := [_, _, _]) (nx := 2) dX5_leastOf_1 rfl (by decide) rfl rfl ?_
  refine go_bipush (v := nI 8) (nx := 4) dX5_leastOf_2 (by decide) rfl ?_
  refine go_istore_n (lv' := [_, _, _, _]) (nx := 5) dX5_leastOf_4 rfl (by decide) rfl rfl ?_
  refine go_iconst (v := nI 0) (nx := 6) dX5_leastOf_5 (by decide) rfl ?_
  refine go_istore (lv' := [_, _, _, _, _]) (nx := 8) dX5_leastOf_6 (by decide) rfl rfl ?_
  refine Go.sub [0, 1, 2, 3, 4] rfl ?_
  exact l_leastOf hi hc hk hk8 hw 9 0 none (by omega) (by omega) rfl
theorem lf_ext {k : Nat → Nat} {s1 s2 : Nat → Bool} : ∀ {m : Nat}, (∀ p, p < m → s1 p = s2 p) → lf k s1 m = lf k s2 m
  | 0, _ => rfl
  | m + 1, h => by simp only [lf]; rw [lf_ext (fun p hp => h p (by omega)), h m (by omega)]
theorem lf_tail {k : Nat → Nat} {s : Nat → Bool} {P : Nat} : ∀ {m : Nat}, P ≤ m → (∀ p, P ≤ p → p < m → s p = false) → lf k s m = lf k s P
  | 0, hP, _ => by rw [show P = 0 by omega]
  | m + 1, hP, h => by
    by_cases e : P = m + 1
    · rw [e]
    · have ih := lf_tail (k := k) (s := s) (P := P) (m := m) (by omega) (fun p h1 h2 => h p h1 (by omega))
      simp only [lf]
      rw [h m (by omega) (by omega), ih]
      cases lf k s P <;> rfl
theorem lf_none {k : Nat → Nat} {s : Nat → Bool} : ∀ {m : Nat}, lf k s m = none ↔ ∀ p, p < m → s p = false
  | 0 => ⟨fun _ p hp => absurd hp (Nat.not_lt_zero p), fun _ => rfl⟩
  | m + 1 => by
    have ih := lf_none (k := k) (s := s) (m := m)
    constructor
    · intro h p hp
      simp only [lf] at h
      split at h
      · rename_i e
        split at h
        · cases h
        · rename_i hs
          by_cases ep : p = m
          · rw [ep]; exact Bool.eq_false_iff.mpr hs
          · exact ih.mp e p (by omega)
      · split at h <;> cases h
    · intro h
      simp only [lf]
      rw [ih.mpr (fun p hp => h p (by omega)), h m (by omega)]
      rfl
def allB (P : Nat) : Nat := 2 ^ P - 1
theorem allB_lt {P : Nat} (hP : P ≤ 8) : allB P < 256 := by
  have : ∀ P, P ≤ 8 → allB P < 256 := by decide
  exact this P hP
theorem allB_bit {P p : Nat} (hP : P ≤ 8) (hp : p < 8) : (allB P).testBit p = decide (p < P) := by
  have : ∀ P, P ≤ 8 → ∀ p, p < 8 → (allB P).testBit p = decide (p < P) := by decide +kernel
  exact this P hP p hp
theorem allB_I {P : Nat} (hP : P ≤ 8) : (nI 1 <<< (nI P &&& 31)) - nI 1 = nI (allB P) := by
  have : ∀ P, P ≤ 8 → (nI 1 <<< (nI P &&& 31)) - nI 1 = nI (allB P) := by decide +kernel
  exact this P hP
theorem nI_and (a b : Nat) : nI a &&& nI b = nI (a &&& b) := by
  apply Int32.toBitVec_inj.mp
  simp [nI, Int32.toBitVec_and, Int32.toBitVec_ofNat', BitVec.ofNat_and]
theorem nI_xor (a b : Nat) : nI a ^^^ nI b = nI (a ^^^ b) := by
  apply Int32.toBitVec_inj.mp
  simp [nI, Int32.toBitVec_xor, Int32.toBitVec_ofNat', BitVec.ofNat_xor]
/-- a set less those of another one -/
theorem i_less {w r : Nat} (hw : w < 256) (hr : r < 256) : nI w &&& (nI r ^^^ (-1)) = nI (bitsOf fun p => w.testBit p && !r.testBit p) := by
  rw [show (-1 : Int32) = nI 4294967295 by decide, nI_xor, nI_and]
  congr 1
  apply Nat.eq_of_testBit_eq
  intro i
  rw [Nat.testBit_and, Nat.testBit_xor, show (4294967295 : Nat) = 2 ^ 32 - 1 by decide, Nat.testBit_two_pow_sub_one]
  by_cases hi : i < 8
  · rw [bits_test _ hi]
    simp [show i < 32 by omega]
  · rw [Nat.testBit_lt_two_pow (Nat.lt_of_lt_of_le hw (Nat.pow_le_pow_right (by decide : 0 < 2) (by omega : 8 ≤ i))), Nat.testBit_lt_two_pow (Nat.lt_of_lt_of_le (bits_lt _) (Nat.pow_le_pow_right (by decide : 0 < 2) (by omega : 8 ≤ i)))]
    rfl
theorem bits_zero {f : Nat → Bool} : bitsOf f = 0 ↔ ∀ i, i < 8 → f i = false := by
  constructor
  · intro h i hi
    rw [← bits_test f hi, h]
    exact Nat.zero_testBit i
  · intro h
    rw [bits_ext (g := fun _ => false) h]
    rfl
theorem sw_eq {x : Int32} (k : Nat) (hk : k < 2 ^ 31) (h : x.toInt = k) : x = nI k := Int32.toInt_inj.mp (by rw [h, nI_toInt hk])
theorem sw_1_3 (x : Int32) : (x.toInt < 1 ∨ 3 < x.toInt) ∨ x = nI 1 ∨ x = nI 2 ∨ x = nI 3 := by
  rcases (show (x.toInt < 1 ∨ 3 < x.toInt) ∨ x.toInt = (1 : Nat) ∨ x.toInt = (2 : Nat) ∨ x.toInt = (3 : Nat) by omega) with h | h | h | h
  · exact Or.inl h
  · exact Or.inr (Or.inl (sw_eq 1 (by decide) h))
  · exact Or.inr (Or.inr (Or.inl (sw_eq 2 (by decide) h)))
  · exact Or.inr (Or.inr (Or.inr ((sw_eq 3 (by decide) h))))
theorem sw_0_3 (x : Int32) : (x.toInt < 0 ∨ 3 < x.toInt) ∨ x = nI 0 ∨ x = nI 1 ∨ x = nI 2 ∨ x = nI 3 := by
  rcases (show (x.toInt < 0 ∨ 3 < x.toInt) ∨ x.toInt = (0 : Nat) ∨ x.toInt = (1 : Nat) ∨ x.toInt = (2 : Nat) ∨ x.toInt = (3 : Nat) by omega) with h | h | h | h | h
  · exact Or.inl h
  · exact Or.inr (Or.inl (sw_eq 0 (by decide) h))
  · exact Or.inr (Or.inr (Or.inl (sw_eq 1 (by decide) h)))
  · exact Or.inr (Or.inr (Or.inr (Or.inl (sw_eq 2 (by decide) h))))
  · exact Or.inr (Or.inr (Or.inr (Or.inr ((sw_eq 3 (by decide) h)))))
theorem sw_0_2 (x : Int32) : (x.toInt < 0 ∨ 2 < x.toInt) ∨ x = nI 0 ∨ x = nI 1 ∨ x = nI 2 := by
  rcases (show (x.toInt < 0 ∨ 2 < x.toInt) ∨ x.toInt = (0 : Nat) ∨ x.toInt = (1 : Nat) ∨ x.toInt = (2 : Nat) by omega) with h | h | h | h
  · exact Or.inl h
  · exact Or.inr (Or.inl (sw_eq 0 (by decide) h))
  · exact Or.inr (Or.inr (Or.inl (sw_eq 1 (by decide) h)))
  · exact Or.inr (Or.inr (Or.inr ((sw_eq 2 (by decide) h))))
theorem sw_0_5 (x : Int32) : (x.toInt < 0 ∨ 5 < x.toInt) ∨ x = nI 0 ∨ x = nI 1 ∨ x = nI 2 ∨ x = nI 3 ∨ x = nI 4 ∨ x = nI 5 := by
  rcases (show (x.toInt < 0 ∨ 5 < x.toInt) ∨ x.toInt = (0 : Nat) ∨ x.toInt = (1 : Nat) ∨ x.toInt = (2 : Nat) ∨ x.toInt = (3 : Nat) ∨ x.toInt = (4 : Nat) ∨ x.toInt = (5 : Nat) by omega) with h | h | h | h | h | h | h
  · exact Or.inl h
  · exact Or.inr (Or.inl (sw_eq 0 (by decide) h))
  · exact Or.inr (Or.inr (Or.inl (sw_eq 1 (by decide) h)))
  · exact Or.inr (Or.inr (Or.inr (Or.inl (sw_eq 2 (by decide) h))))
  · exact Or.inr (Or.inr (Or.inr (Or.inr (Or.inl (sw_eq 3 (by decide) h)))))
  · exact Or.inr (Or.inr (Or.inr (Or.inr (Or.inr (Or.inl (sw_eq 4 (by decide) h))))))
  · exact Or.inr (Or.inr (Or.inr (Or.inr (Or.inr (Or.inr ((sw_eq 5 (by decide) h)))))))
theorem sw_0_26 (x : Int32) : (x.toInt < 0 ∨ 26 < x.toInt) ∨ x = nI 0 ∨ x = nI 1 ∨ x = nI 2 ∨ x = nI 3 ∨ x = nI 4 ∨ x = nI 5 ∨ x = nI 6 ∨ x = nI 7 ∨ x = nI 8 ∨ x = nI 9 ∨ x = nI 10 ∨ x = nI 11 ∨ x = nI 12 ∨ x = nI 13 ∨ x = nI 14 ∨ x = nI 15 ∨ x = nI 16 ∨ x = nI 17 ∨ x = nI 18 ∨ x = nI 19 ∨ x = nI 20 ∨ x = nI 21 ∨ x = nI 22 ∨ x = nI 23 ∨ x = nI 24 ∨ x = nI 25 ∨ x = nI 26 := by
  rcases (show (x.toInt < 0 ∨ 26 < x.toInt) ∨ x.toInt = (0 : Nat) ∨ x.toInt = (1 : Nat) ∨ x.toInt = (2 : Nat) ∨ x.toInt = (3 : Nat) ∨ x.toInt = (4 : Nat) ∨ x.toInt = (5 : Nat) ∨ x.toInt = (6 : Nat) ∨ x.toInt = (7 : Nat) ∨ x.toInt = (8 : Nat) ∨ x.toInt = (9 : Nat) ∨ x.toInt = (10 : Nat) ∨ x.toInt = (11 : Nat) ∨ x.toInt = (12 : Nat) ∨ x.toInt = (13 : Nat) ∨ x.toInt = (14 : Nat) ∨ x.toInt = (15 : Nat) ∨ x.toInt = (16 : Nat) ∨ x.toInt = (17 : Nat) ∨ x.toInt = (18 : Nat) ∨ x.toInt = (19 : Nat) ∨ x.toInt = (20 : Nat) ∨ x.toInt = (21 : Nat) ∨ x.toInt = (22 : Nat) ∨ x.toInt = (23 : Nat) ∨ x.toInt = (24 : Nat) ∨ x.toInt = (25 : Nat) ∨ x.toInt = (26 : Nat) by omega) with h | h | h | h | h | h | h | h | h | h | h | h | h | h | h | h | h | h | h | h | h | h | h | h | h | h | h | h
  · exact Or.inl h
  · exact Or.inr (Or.inl (sw_eq 0 (by decide) h))
  · exact Or.inr (Or.inr (Or.inl (sw_eq 1 (by decide) h)))
  · exact Or.inr (Or.inr (Or.inr (Or.inl (sw_eq 2 (by decide) h))))
  · exact Or.inr (Or.inr (Or.inr (Or.inr (Or.inl (sw_eq 3 (by decide) h)))))
  · exact Or.inr (Or.inr (Or.inr (Or.inr (Or.inr (Or.inl (sw_eq 4 (by decide) h))))))
  · exact Or.inr (Or.inr (Or.inr (Or.inr (Or.inr (Or.inr (Or.inl (sw_eq 5 (by decide) h)))))))
  · exact Or.inr (Or.inr (Or.inr (Or.inr (Or.inr (Or.inr (Or.inr (Or.inl (sw_eq 6 (by decide) h))))))))
  · exact Or.inr (Or.inr (Or.inr (Or.inr (Or.inr (Or.inr (Or.inr (Or.inr (Or.inl (sw_eq 7 (by decide) h)))))))))
  · exact Or.inr (Or.inr (Or.inr (Or.inr (Or.inr (Or.inr (Or.inr (Or.inr (Or.inr (Or.inl (sw_eq 8 (by decide) h))))))))))
  · exact Or.inr (Or.inr (Or.inr (Or.inr (Or.inr (Or.inr (Or.inr (Or.inr (Or.inr (Or.inr (Or.inl (sw_eq 9 (by decide) h)))))))))))
  · exact Or.inr (Or.inr (Or.inr (Or.inr (Or.inr (Or.inr (Or.inr (Or.inr (Or.inr (Or.inr (Or.inr (Or.inl (sw_eq 10 (by decide) h))))))))))))
  · exact Or.inr (Or.inr (Or.inr (Or.inr (Or.inr (Or.inr (Or.inr (Or.inr (Or.inr (Or.inr (Or.inr (Or.inr (Or.inl (sw_eq 11 (by decide) h)))))))))))))
  · exact Or.inr (Or.inr (Or.inr (Or.inr (Or.inr (Or.inr (Or.inr (Or.inr (Or.inr (Or.inr (Or.inr (Or.inr (Or.inr (Or.inl (sw_eq 12 (by decide) h))))))))))))))
  · exact Or.inr (Or.inr (Or.inr (Or.inr (Or.inr (Or.inr (Or.inr (Or.inr (Or.inr (Or.inr (Or.inr (Or.inr (Or.inr (Or.inr (Or.inl (sw_eq 13 (by decide) h)))))))))))))))
  · exact Or.inr (Or.inr (Or.inr (Or.inr (Or.inr (Or.inr (Or.inr (Or.inr (Or.inr (Or.inr (Or.inr (Or.inr (Or.inr (Or.inr (Or.inr (Or.inl (sw_eq 14 (by decide) h))))))))))))))))
  · exact Or.inr (Or.inr (Or.inr (Or.inr (Or.inr (Or.inr (Or.inr (Or.inr (Or.inr (Or.inr (Or.inr (Or.inr (Or.inr (Or.inr (Or.inr (Or.inr (Or.inl (sw_eq 15 (by decide) h)))))))))))))))))
  · exact Or.inr (Or.inr (Or.inr (Or.inr (Or.inr (Or.inr (Or.inr (Or.inr (Or.inr (Or.inr (Or.inr (Or.inr (Or.inr (Or.inr (Or.inr (Or.inr (Or.inr (Or.inl (sw_eq 16 (by decide) h))))))))))))))))))
  · exact Or.inr (Or.inr (Or.inr (Or.inr (Or.inr (Or.inr (Or.inr (Or.inr (Or.inr (Or.inr (Or.inr (Or.inr (Or.inr (Or.inr (Or.inr (Or.inr (Or.inr (Or.inr (Or.inl (sw_eq 17 (by decide) h)))))))))))))))))))
  · exact Or.inr (Or.inr (Or.inr (Or.inr (Or.inr (Or.inr (Or.inr (Or.inr (Or.inr (Or.inr (Or.inr (Or.inr (Or.inr (Or.inr (Or.inr (Or.inr (Or.inr (Or.inr (Or.inr (Or.inl (sw_eq 18 (by decide) h))))))))))))))))))))
  · exact Or.inr (Or.inr (Or.inr (Or.inr (Or.inr (Or.inr (Or.inr (Or.inr (Or.inr (Or.inr (Or.inr (Or.inr (Or.inr (Or.inr (Or.inr (Or.inr (Or.inr (Or.inr (Or.inr (Or.inr (Or.inl (sw_eq 19 (by decide) h)))))))))))))))))))))
  · exact Or.inr (Or.inr (Or.inr (Or.inr (Or.inr (Or.inr (Or.inr (Or.inr (Or.inr (Or.inr (Or.inr (Or.inr (Or.inr (Or.inr (Or.inr (Or.inr (Or.inr (Or.inr (Or.inr (Or.inr (Or.inr (Or.inl (sw_eq 20 (by decide) h))))))))))))))))))))))
  · exact Or.inr (Or.inr (Or.inr (Or.inr (Or.inr (Or.inr (Or.inr (Or.inr (Or.inr (Or.inr (Or.inr (Or.inr (Or.inr (Or.inr (Or.inr (Or.inr (Or.inr (Or.inr (Or.inr (Or.inr (Or.inr (Or.inr (Or.inl (sw_eq 21 (by decide) h)))))))))))))))))))))))
  · exact Or.inr (Or.inr (Or.inr (Or.inr (Or.inr (Or.inr (Or.inr (Or.inr (Or.inr (Or.inr (Or.inr (Or.inr (Or.inr (Or.inr (Or.inr (Or.inr (Or.inr (Or.inr (Or.inr (Or.inr (Or.inr (Or.inr (Or.inr (Or.inl (sw_eq 22 (by decide) h))))))))))))))))))))))))
  · exact Or.inr (Or.inr (Or.inr (Or.inr (Or.inr (Or.inr (Or.inr (Or.inr (Or.inr (Or.inr (Or.inr (Or.inr (Or.inr (Or.inr (Or.inr (Or.inr (Or.inr (Or.inr (Or.inr (Or.inr (Or.inr (Or.inr (Or.inr (Or.inr (Or.inl (sw_eq 23 (by decide) h)))))))))))))))))))))))))
  · exact Or.inr (Or.inr (Or.inr (Or.inr (Or.inr (Or.inr (Or.inr (Or.inr (Or.inr (Or.inr (Or.inr (Or.inr (Or.inr (Or.inr (Or.inr (Or.inr (Or.inr (Or.inr (Or.inr (Or.inr (Or.inr (Or.inr (Or.inr (Or.inr (Or.inr (Or.inl (sw_eq 24 (by decide) h))))))))))))))))))))))))))
  · exact Or.inr (Or.inr (Or.inr (Or.inr (Or.inr (Or.inr (Or.inr (Or.inr (Or.inr (Or.inr (Or.inr (Or.inr (Or.inr (Or.inr (Or.inr (Or.inr (Or.inr (Or.inr (Or.inr (Or.inr (Or.inr (Or.inr (Or.inr (Or.inr (Or.inr (Or.inr (Or.inl (sw_eq 25 (by decide) h)))))))))))))))))))))))))))
  · exact Or.inr (Or.inr (Or.inr (Or.inr (Or.inr (Or.inr (Or.inr (Or.inr (Or.inr (Or.inr (Or.inr (Or.inr (Or.inr (Or.inr (Or.inr (Or.inr (Or.inr (Or.inr (Or.inr (Or.inr (Or.inr (Or.inr (Or.inr (Or.inr (Or.inr (Or.inr (Or.inr ((sw_eq 26 (by decide) h))))))))))))))))))))))))))))
theorem s_everyone {G : kG} {n t : Nat} {h : kH} {T : mT} (ht : t + 3 ≤ n) (H : oTown G t T h) (hw : wT T) : Spi G mX5_everyone 0 [.ref (kb G + t)] n h (fun v h' => v = nI (allB T.1) ∧ h' = h) := by
  obtain ⟨tk, tc, ⟨hT, htk, htc⟩, hTk, hTc⟩ := H
  refine Spi.of (by decide) (Nat.le_of_ble_eq_true rfl) ?_
  refine go_iconst (v := nI 1) (nx := 1) dX5_everyone_0 (by decide) rfl ?_
  refine go_aload_n 0 (nx := 2) dX5_everyone_1 rfl rfl rfl ?_
  refine go_gf (nx := 5) fg_X5_25 dX5_everyone_2 (by omega) hT rfl rfl ?_
  refine go_ishl (nx := 6) dX5_everyone_5 rfl ?_
  refine go_iconst (v := nI 1) (nx := 7) dX5_everyone_6 (by decide) rfl ?_
  refine go_isub (nx := 8) dX5_everyone_7 rfl ?_
  refine go_reti dX5_everyone_8 ⟨_, rfl, rfl⟩ ?_
  exact ⟨allB_I hw.1, rfl⟩
theorem ff_at {s : Nat → Bool} {p : Nat} : ∀ {m : Nat}, p < m → ff s p = none → s p = true → ff s m = some p
  | 0, h, _, _ => absurd h (Nat.not_lt_zero p)
  | m + 1, h, ho, hs => by
    simp only [ff]
    by_cases e : p = m
    · subst e
      rw [ho, if_pos hs]
    · rw [ff_at (by omega) ho hs]
theorem l_firstWith {G : kG} {n t i le : Nat} {h : kH} {c : Nat → Int32} {k : Nat → Nat} {T : mT} {tk tc : Nat → Int32} (ht : t + 3 ≤ n) (hw : wT T) (H : rTown G t tk tc (nI T.1) (nI T.2.2.2.1) (nI T.2.2.2.2.1) (nI T.2.2.2.2.2) h) (hi : i < n) (hc : h i = .inl (G.2.1, 8, .inl c)) (hk : ∀ p, p < 8 → c p = nI (k p)) (hk8 : ∀ p, p < 8 → k p < 8) : ∀ (d p : Nat), T.1 - p < d → p ≤ T.1 → ff (fun p => k p == T.2.2.2.2.2) p = none → Go G mX5_firstWith (1, 0, 0) 2 [(3, .int (nI p)), (0, .ref (kb G + t)), (1, .ref (kb G + i)), (2, .int (nI le))] [] (n, 0, 0) h (kQi mX5_firstWith n (fun v h' => v = nI ((ff (fun p => k p == T.2.2.2.2.2) T.1).getD le) ∧ h' = h)) := by
  intro d
  obtain ⟨hT, htk, htc⟩ := H
  have hP := hw.1
  have hj := hw.2.2.2.2.2
  induction d with
  | zero => intro p hd; omega
  | succ d ih =>
    intro p hd hp ho
    refine go_iload_n 0 (nx := 3) dX5_firstWith_2 rfl rfl rfl ?_
    refine go_aload_n 1 (nx := 4) dX5_firstWith_3 rfl rfl rfl ?_
    refine go_gf (nx := 7) fg_X5_25 dX5_firstWith_4 (by omega) hT rfl rfl ?_
    refine go_icmp_ge 30 (nx := 10) dX5_firstWith_7 rfl rfl (fun c7 => ?_) (fun c7 => ?_)
    · skip
      refine go_iload_n 3 (nx := 31) dX5_firstWith_30 rfl rfl rfl ?_
      refine go_reti dX5_firstWith_31 ⟨_, rfl, rfl⟩ ?_
      have e8 : p = T.1 := by have := kle c7; omega
      subst e8
      rw [ho]
      exact ⟨rfl, rfl⟩
    · skip
      refine go_aload_n 2 (nx := 11) dX5_firstWith_10 rfl rfl rfl ?_
      refine go_iload_n 0 (nx := 12) dX5_firstWith_11 rfl rfl rfl ?_
      refine go_SNi (nx := 15) [_, _] kc_X5_38 (s_at_in (by omega) hc (by omega) rfl (by have := knle c7; omega)) dX5_firstWith_12 rfl rfl (Nat.le_of_ble_eq_true rfl) (Nat.le_of_ble_eq_true rfl) ⟨Nat.le_refl _, Nat.le_refl _⟩ rfl (fun rh1 h1 hqh1 => ?_)
      obtain ⟨rfl, rfl⟩ := hqh1
      have h8 := knle c7
      rw [hk p (by omega)]
      refine go_aload_n 1 (nx := 16) dX5_firstWith_15 rfl rfl rfl ?_
      refine go_gf (nx := 19) fg_X5_35 dX5_firstWith_16 (by omega) hT rfl rfl ?_
      refine go_icmp_ne 24 (nx := 22) dX5_firstWith_19 rfl rfl (fun c19 => ?_) (fun c19 => ?_)
      · skip
        refine go_iinc 0 (v := nI (p + 1)) (lv' := [_, _, _, _]) (nx := 27) dX5_firstWith_24 rfl (nI_inc p) (by decide) rfl rfl ?_
        refine go_goto 2 dX5_firstWith_27 rfl ?_
        refine Go.sub [0, 1, 2, 3] rfl ?_
        exact ih (p + 1) (by omega) (by omega) (by simp only [ff, ho]; rw [if_neg]; have := hk8 p (by omega); simp; intro e; exact c19 (by rw [e]))
      · skip
        refine go_iload_n 0 (nx := 23) dX5_firstWith_22 rfl rfl rfl ?_
        refine go_reti dX5_firstWith_23 ⟨_, rfl, rfl⟩ ?_
        refine ⟨?_, rfl⟩
        have e : (k p == T.2.2.2.2.2) = true := by have := hk8 p (by omega); simp; exact keq c19
        rw [ff_at h8 ho e]
        rfl
theorem s_firstWith {G : kG} {n t i le : Nat} {h : kH} {c : Nat → Int32} {k : Nat → Nat} {T : mT} {x : Int32} (ht : t + 3 ≤ n) (hw : wT T) (H : oTown G t T h) (hi : i < n) (hc : h i = .inl (G.2.1, 8, .inl c)) (hk : ∀ p, p < 8 → c p = nI (k p)) (hk8 : ∀ p, p < 8 → k p < 8) (hx : x = nI le) : Spi G mX5_firstWith 1 [.ref (kb G + t), .ref (kb G + i), .int x] n h (fun v h' => v = nI ((ff (fun p => k p == T.2.2.2.2.2) T.1).getD le) ∧ h' = h) := by
  subst hx
  obtain ⟨tk, tc, H, -⟩ := H
  refine Spi.of (by decide) (Nat.le_of_ble_eq_true rfl) ?_
  refine go_iconst (v := nI 0) (nx := 1) dX5_firstWith_0 (by decide) rfl ?_
  refine go_istore_n (lv' := [_, _, _, _]) (nx := 2) dX5_firstWith_1 rfl (by decide) rfl rfl ?_
  refine Go.sub [0, 1, 2, 3] rfl ?_
  exact l_firstWith ht hw H hi hc hk hk8 (T.1 + 1) 0 (by omega) (by omega) rfl
