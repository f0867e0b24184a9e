/-! LeastKnown$Reader: an item -/
def endR (s : Nat → Nat) (fF fL : Bool) : Nat ⊕ (Nat × mT) → Nat ⊕ RD
  | .inl j => .inl j
  | .inr (c2, T2) => if s c2 = 10 then .inr (c2 + 1, T2, fF, fL) else .inl c2
def endB (s : Nat → Nat) : Nat ⊕ RD → Nat ⊕ RD
  | .inl j => .inl j
  | .inr τ => if s τ.1 = 10 then .inr (τ.1 + 1, τ.2) else .inl τ.1
def itQ (G : kG) (t : Nat) (tx : Nat → Nat) (sz : Nat) (fa : Int32) (X : Nat ⊕ RD) (h' : kH) : Prop := match X with
  | .inl j => (∃ c2 fF fL, rdS G tx sz c2 (nI (tpl tx sz j)) fF fL h') ∧ aTown G t h'
  | .inr τ => rdS G tx sz τ.1 fa τ.2.2.1 τ.2.2.2 h' ∧ oTown G t τ.2.1 h'
def rdX (s : Nat → Nat) (c : Nat) (T : mT) : Nat ⊕ (Nat × mT) := if s c = 0 then .inr (c + 1, T.1 + 1, T.2) else if s c = 4 then rdF s (c + 1) T else if s c = 5 then rdL s (c + 1) T else rdP s (s c) (c + 1) T
theorem rItem_of {s : Nat → Nat} {c : Nat} {T : mT} {fF fL : Bool} (h : rMay (c, T, fF, fL) (s c) = true) : rItem s (c, T, fF, fL) = endR s (decide (s c = 4) || fF) (decide (s c = 5) || fL) (rdX s c T) := by
  have h0 : rItem s (c, T, fF, fL) = endB s (rBody s (c, T, fF, fL)) := by
    unfold rItem
    rw [if_pos h]
    rfl
  rw [h0]
  unfold rBody rdX
  show endB s ((if s c = 0 then _ else _)) = _
  by_cases e0 : s c = 0
  · rw [if_pos e0, if_pos e0, decide_eq_false (by omega), decide_eq_false (by omega)]
    rfl
  · rw [if_neg e0, if_neg e0]
    by_cases e4 : s c = 4
    · rw [if_pos e4, if_pos e4, decide_eq_true e4, decide_eq_false (by omega)]
      unfold rdF
      show endB s ((if rN (s (c + 1)) 9 = true then _ else _)) = _
      by_cases e : rN (s (c + 1)) 9 = true
      · rw [if_pos e, if_pos e]; rfl
      · rw [if_neg e, if_neg e]; rfl
    · rw [if_neg e4, if_neg e4]
      by_cases e5 : s c = 5
      · rw [if_pos e5, if_pos e5, decide_eq_true e5, decide_eq_false (by omega)]
        unfold rdL
        show endB s ((if 6 ≤ s (c + 1) ∧ s (c + 1) ≤ 9 then _ else _)) = _
        by_cases e : 6 ≤ s (c + 1) ∧ s (c + 1) ≤ 9
        · rw [if_pos e, if_pos e]
          by_cases e8 : s (c + 1) = 8
          · rw [if_pos e8, if_pos e8]
            show endB s ((if rN (s (c + 2)) 7 = true then _ else _)) = endR s _ _ (if rN (s (c + 2)) 7 = true then _ else _)
            by_cases e7 : rN (s (c + 2)) 7 = true
            · rw [if_pos e7, if_pos e7]; rfl
            · rw [if_neg e7, if_neg e7]; rfl
          · rw [if_neg e8, if_neg e8]; rfl
        · rw [if_neg e, if_neg e]; rfl
      · rw [if_neg e5, if_neg e5, decide_eq_false e4, decide_eq_false e5]
        unfold rdP
        show endB s ((if rA T (s c) (s (c + 1)) = true then _ else _)) = _
        by_cases eA : rA T (s c) (s (c + 1)) = true
        · rw [if_pos eA, if_pos eA]
          show endB s ((if rB T (s (c + 1)) (s (c + 2)) = true then _ else _)) = endR s _ _ (if rB T (s (c + 1)) (s (c + 2)) = true then _ else _)
          by_cases eB : rB T (s (c + 1)) (s (c + 2)) = true
          · rw [if_pos eB, if_pos eB]; rfl
          · rw [if_neg eB, if_neg eB]; rfl
        · rw [if_neg eA, if_neg eA]; rfl
theorem l_item80 {G : kG} {n sz t : Nat} {h h0 : kH} {tx : Nat → Nat} {fa : Int32} {fF fL : Bool} {R : Nat ⊕ (Nat × mT)} {v w : Int32} (hn : 37 ≤ n) (hs4 : sz ≤ 400) (ht : t + 3 ≤ n) (ht6 : 6 ≤ t) (HQ : rdQ G t tx sz fa fF fL R v h) (hcR : ∀ c2 T2, R = .inr (c2, T2) → c2 ≤ tmn tx sz) (dF : tfr t h0 h) : Go G mX3_readItem (3, 0, 0) 80 [(3, .int v), (0, .ref (kb G + 3)), (1, .ref (kb G + t)), (2, .int w)] [] (n, 0, 0) h (kQv mX3_readItem n (fun h' => itQ G t tx sz fa (endR (tSt tx sz) fF fL R) h' ∧ tfr t h0 h')) := by
  cases R with
  | inl j =>
    obtain ⟨rfl, ⟨c2, HR⟩, HT⟩ := HQ
    refine go_iload_n 0 (nx := 81) dX3_readItem_80 rfl rfl rfl ?_
    refine go_if_eq 110 (nx := 84) dX3_readItem_81 rfl rfl (fun c81 => ?_) (fun c81 => False.elim (absurd rfl c81))
    refine go_retv dX3_readItem_110 rfl ?_
    exact ⟨⟨⟨_, _, _, HR⟩, HT⟩, dF⟩
  | inr q =>
    obtain ⟨c, T⟩ := q
    obtain ⟨rfl, HR, HT⟩ := HQ
    have hc := hcR c T rfl
    obtain ⟨tk, pl, ⟨hr, htk, hpl⟩, hok⟩ := id HR
    have hm := tmn_le (tx := tx) (sz := sz)
    have hs2 := tSt_lt (tx := tx) (sz := sz) (i := c)
    refine go_iload_n 0 (nx := 81) dX3_readItem_80 rfl rfl rfl ?_
    refine go_if_eq 110 (nx := 84) dX3_readItem_81 rfl rfl (fun c81 => False.elim (absurd c81 (by decide))) (fun c81 => ?_)
    refine go_aload_n 1 (nx := 85) dX3_readItem_84 rfl rfl rfl ?_
    refine go_aload_n 1 (nx := 86) dX3_readItem_85 rfl rfl rfl ?_
    refine go_gf (nx := 89) fg_X3_9 dX3_readItem_86 (by omega) hr rfl rfl ?_
    refine go_aload_n 1 (nx := 90) dX3_readItem_89 rfl rfl rfl ?_
    refine go_gf (nx := 93) fg_X3_27 dX3_readItem_90 (by omega) hr rfl rfl ?_
    refine go_SNi (nx := 96) [_, _] kc_X3_41 (s_at_in (j := c) (by omega) htk (by decide) rfl (by omega)) dX3_readItem_93 rfl rfl (Nat.le_of_ble_eq_true rfl) (Nat.le_of_ble_eq_true rfl) ⟨Nat.le_refl _, Nat.le_refl _⟩ rfl (fun rh1 h1 hqh1 => ?_)
    obtain ⟨rfl, rfl⟩ := hqh1
    rw [(hok c (by omega)).1]
    refine go_bipush (v := nI 10) (nx := 98) dX3_readItem_96 (by decide) rfl ?_
    refine go_icmp_ne 105 (nx := 101) dX3_readItem_98 rfl rfl (fun c98 => ?_) (fun c98 => ?_)
    · skip
      refine go_iconst (v := nI 0) (nx := 106) dX3_readItem_105 (by decide) rfl ?_
      refine go_Vi (nx := 109) [_] kc_X3_102 ⟨_, _, rfl⟩ (by omega) hr (s_take (b := false) hn HR hc hs4 rfl) dX3_readItem_106 rfl rfl (Nat.le_of_ble_eq_true rfl) (Nat.le_of_ble_eq_true rfl) ⟨Nat.le_refl _, Nat.le_refl _⟩ rfl (fun rh2 h2 hqh2 => ?_)
      obtain ⟨-, HR, hFh2⟩ := hqh2
      have HR : rdS G tx sz c (nI (tpl tx sz c)) fF fL h2 := HR
      have HT := HT.fr hFh2 (by omega)
      have dF := dF.k hFh2 (by omega)
      obtain ⟨tk, pl, ⟨hr, htk, hpl⟩, hok⟩ := id HR
      refine go_pop (nx := 110) dX3_readItem_109 rfl rfl ?_
      refine go_retv dX3_readItem_110 rfl ?_
      have e : ¬ tSt tx sz c = 10 := fun q => c98 (by rw [q])
      show itQ G t tx sz fa (if tSt tx sz c = 10 then _ else _) _ ∧ _
      rw [if_neg e]
      exact ⟨⟨⟨_, _, _, HR⟩, HT.a⟩, dF⟩
    · skip
      refine go_iconst (v := nI 1) (nx := 102) dX3_readItem_101 (by decide) rfl ?_
      refine go_goto 106 dX3_readItem_102 rfl ?_
      refine go_Vi (nx := 109) [_] kc_X3_102 ⟨_, _, rfl⟩ (by omega) hr (s_take (b := true) hn HR hc hs4 rfl) dX3_readItem_106 rfl rfl (Nat.le_of_ble_eq_true rfl) (Nat.le_of_ble_eq_true rfl) ⟨Nat.le_refl _, Nat.le_refl _⟩ rfl (fun rh2 h2 hqh2 => ?_)
      obtain ⟨-, HR, hFh2⟩ := hqh2
      have HR : rdS G tx sz (c + 1) fa fF fL h2 := HR
      have HT := HT.fr hFh2 (by omega)
      have dF := dF.k hFh2 (by omega)
      obtain ⟨tk, pl, ⟨hr, htk, hpl⟩, hok⟩ := id HR
      refine go_pop (nx := 110) dX3_readItem_109 rfl rfl ?_
      refine go_retv dX3_readItem_110 rfl ?_
      have e : tSt tx sz c = 10 := keq c98 (by omega) (by decide)
      show itQ G t tx sz fa (if tSt tx sz c = 10 then _ else _) _ ∧ _
      rw [if_pos e]
      exact ⟨⟨HR, HT⟩, dF⟩
