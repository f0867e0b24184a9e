/-! LeastKnown$Reader: a text, read -/
theorem tpl_le {tx : Nat → Nat} {sz : Nat} : ∀ i, tpl tx sz i ≤ sz
  | 0 => (nxt_b (sz + 1) 0 (by omega) (by omega)).2.1
  | i + 1 => by
    show (if tpl tx sz i < sz then nxt tx sz (tpl tx sz i + 1) else sz) ≤ sz
    split
    · exact (nxt_b (sz + 1) _ (by omega) (by omega)).2.1
    · exact Nat.le_refl _
theorem rdS.o {G : kG} {tx : Nat → Nat} {sz c : Nat} {fa : Int32} {fF fL : Bool} {h : kH} (H : rdS G tx sz c fa fF fL h) : oRead G h := by
  obtain ⟨tk, pl, ⟨h1, h2, h3⟩, -⟩ := H
  exact ⟨tk, pl, _, _, _, _, h1, h2, h3⟩
theorem rAll_in {s : Nat → Nat} {f k : Nat} {σ : RD} {j : Nat} (h : ¬ s σ.1 = 12) (e : rItem s σ = .inl j) : rAll s (f + 1) k σ = .inl j := by
  show (if s σ.1 = 12 then _ else _) = _
  rw [if_neg h, e]
theorem rAll_go {s : Nat → Nat} {f k : Nat} {σ τ : RD} (h : ¬ s σ.1 = 12) (e : rItem s σ = .inr τ) : rAll s (f + 1) k σ = rAll s f (k + 1) τ := by
  show (if s σ.1 = 12 then _ else _) = _
  rw [if_neg h, e]
theorem rAll_ok {s : Nat → Nat} {f k : Nat} {σ : RD} (h : s σ.1 = 12) : rAll s (f + 1) k σ = .inr (k, σ.2.1) := by
  show (if s σ.1 = 12 then _ else _) = _
  rw [if_pos h]
theorem l_read {G : kG} {n sz t : Nat} {tx : Nat → Nat} {h0 : kH} (hn : 37 ≤ n) (hs4 : sz ≤ 400) (ht : t + 3 ≤ n) (ht6 : 6 ≤ t) : ∀ (d k c : Nat) (h : kH) (T : mT) (fF fL : Bool), 401 - k < d → 2 * k ≤ c → c ≤ tmn tx sz → wT T → rdS G tx sz c (-1) fF fL h → oTown G t T h → tfr t h0 h → rdTown tx sz = rAll (tSt tx sz) (401 - k) k (c, T, fF, fL) → Go G mX3_read (9, 0, 0) 31 [(3, .int (nI k)), (0, .ref (kb G + 3)), (1, .ref (kb G + 1)), (2, .ref (kb G + t))] [] (n, 0, 0) h (kQi mX3_read n (fun v h' => v = fTown tx sz ∧ (match rdTown tx sz with | .inl _ => aTown G t h' | .inr (_, T2) => oTown G t T2 h') ∧ oRead G h' ∧ tfr t h0 h')) := by
  intro d
  induction d with
  | zero => intro k c h T fF fL hd hk hc; have := tmn_le (tx := tx) (sz := sz); omega
  | succ d ih =>
    intro k c h T fF fL hd hk hc hw HR HT dF hb
    obtain ⟨tk, pl, ⟨hr, htk, hpl⟩, hok⟩ := id HR
    have hm := tmn_le (tx := tx) (sz := sz)
    have hs2 := tSt_lt (tx := tx) (sz := sz) (i := c)
    rw [show 401 - k = (401 - (k + 1)) + 1 by omega] at hb
    refine go_iload_n 0 (nx := 32) dX3_read_31 rfl rfl rfl ?_
    refine go_sipush (v := nI 400) (nx := 35) dX3_read_32 (by decide) rfl ?_
    refine go_icmp_gt 82 (nx := 38) dX3_read_35 rfl rfl (fun c35 => False.elim (absurd (klt c35 (by decide) (by omega)) (by omega))) (fun c35 => ?_)
    refine go_aload_n 1 (nx := 39) dX3_read_38 rfl rfl rfl ?_
    refine go_gf (nx := 42) fg_X3_9 dX3_read_39 (by omega) hr rfl rfl ?_
    refine go_aload_n 1 (nx := 43) dX3_read_42 rfl rfl rfl ?_
    refine go_gf (nx := 46) fg_X3_27 dX3_read_43 (by omega) hr rfl rfl ?_
    refine go_SNi (nx := 49) [_, _] kc_X3_41 (s_at_in (j := c) (by omega) htk (by decide) rfl (by omega)) dX3_read_46 rfl rfl (Nat.le_of_ble_eq_true rfl) (Nat.le_of_ble_eq_true rfl) ⟨Nat.le_refl _, Nat.le_refl _⟩ rfl (fun rh1 h1 hqh1 => ?_)
    obtain ⟨rfl, rfl⟩ := hqh1
    rw [(hok c (by omega)).1]
    refine go_bipush (v := nI 12) (nx := 51) dX3_read_49 (by decide) rfl ?_
    refine go_icmp_ne 56 (nx := 54) dX3_read_51 rfl rfl (fun c51 => ?_) (fun c51 => ?_)
    · skip
      refine go_aload_n 1 (nx := 57) dX3_read_56 rfl rfl rfl ?_
      refine go_aload_n 3 (nx := 58) dX3_read_57 rfl rfl rfl ?_
      refine go_Vv (nx := 61) [_] kc_X3_45 ⟨_, _, rfl⟩ (by omega) hr (s_readItem hn HR hc hs4 ht ht6 HT hw) dX3_read_58 rfl rfl (Nat.le_of_ble_eq_true rfl) (Nat.le_of_ble_eq_true rfl) ⟨Nat.le_refl _, Nat.le_refl _⟩ rfl (fun h2 hqh2 => ?_)
      obtain ⟨HQ, dQ⟩ := hqh2
      have dF := dF.tr dQ
      have e12 : ¬ tSt tx sz c = 12 := fun q => c51 (by rw [q])
      cases eI : rItem (tSt tx sz) (c, T, fF, fL) with
      | inl j =>
        rw [eI] at HQ
        obtain ⟨⟨c2, fF2, fL2, HR⟩, HT⟩ := HQ
        obtain ⟨tk, pl, ⟨hr, htk, hpl⟩, hok⟩ := id HR
        have hj := tpl_le (tx := tx) (sz := sz) j
        have eT : rdTown tx sz = .inl j := hb.trans (rAll_in e12 eI)
        refine go_aload_n 1 (nx := 62) dX3_read_61 rfl rfl rfl ?_
        refine go_gf (nx := 65) fg_X3_31 dX3_read_62 (by omega) hr rfl rfl ?_
        refine go_if_lt 76 (nx := 68) dX3_read_65 rfl rfl (fun c65 => False.elim (absurd c65 (fun z => Nat.not_lt_zero _ (klt (b := 0) z (by omega) (by decide))))) (fun c65 => ?_)
        refine go_bipush (v := (-10)) (nx := 70) dX3_read_68 (by decide) rfl ?_
        refine go_aload_n 1 (nx := 71) dX3_read_70 rfl rfl rfl ?_
        refine go_gf (nx := 74) fg_X3_31 dX3_read_71 (by omega) hr rfl rfl ?_
        refine go_isub (nx := 75) dX3_read_74 rfl ?_
        refine go_reti dX3_read_75 ⟨_, rfl, rfl⟩ ?_
        unfold fTown
        rw [eT]
        exact ⟨rfl, HT, HR.o, dF⟩
      | inr τ =>
        rw [eI] at HQ
        obtain ⟨HR, HT⟩ := HQ
        obtain ⟨c2, T2, fF2, fL2⟩ := τ
        have hX := (rItem_w (fun _ => tSt_end) ⟨hw, hc⟩).2 _ eI
        obtain ⟨⟨hw2, hc2⟩, hk2⟩ := hX
        have hc2 : c2 ≤ tmn tx sz := hc2
        have hk2 : c + 2 ≤ c2 := hk2
        have HR : rdS G tx sz c2 (-1) fF2 fL2 _ := HR
        obtain ⟨tk, pl, ⟨hr, htk, hpl⟩, hok⟩ := id HR
        refine go_aload_n 1 (nx := 62) dX3_read_61 rfl rfl rfl ?_
        refine go_gf (nx := 65) fg_X3_31 dX3_read_62 (by omega) hr rfl rfl ?_
        refine go_if_lt 76 (nx := 68) dX3_read_65 rfl rfl (fun c65 => ?_) (fun c65 => False.elim (absurd (by decide) c65))
        refine go_iinc 0 (v := nI (k + 1)) (lv' := [_, _, _, _]) (nx := 79) dX3_read_76 rfl (nI_inc k) (by decide) rfl rfl ?_
        refine go_goto 31 dX3_read_79 rfl ?_
        refine Go.sub [0, 1, 2, 3] rfl ?_
        exact ih (k + 1) c2 _ T2 fF2 fL2 (by omega) (by omega) hc2 hw2 HR HT dF (hb.trans (rAll_go e12 eI))
    · skip
      refine go_iload_n 0 (nx := 55) dX3_read_54 rfl rfl rfl ?_
      refine go_reti dX3_read_55 ⟨_, rfl, rfl⟩ ?_
      have e12 : tSt tx sz c = 12 := keq c51 (by omega) (by decide)
      have eT : rdTown tx sz = .inr (k, T) := hb.trans (rAll_ok e12)
      unfold fTown
      rw [eT]
      exact ⟨rfl, HT, HR.o, dF⟩
