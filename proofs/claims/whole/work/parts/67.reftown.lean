/-! the reference: an item whole, its end, a fault -/
def rdW (s : Nat → Nat) (w c : Nat) (D : mT) : Nat ⊕ (Nat × mT) := if w = 0 then .inr (c, (D.1 + 1, D.2)) else if w = 4 then rdF s c D else if w = 5 then rdL s c D else rdP s w c D
theorem m_readsItem {G : kG} {n sz : Nat} {tx : Nat → Nat} {T D : mT} {tr : Int64} {fF fL : Bool} {c : Nat} {h : kH} {w : Nat} {x : Int32} (hn : 49 ≤ n) (HE : pE G tx sz tr T (.inr c) (nI D.1) (nI D.2.2.2.1) (nI D.2.2.2.2.1) (nI D.2.2.2.2.2) (bI fF) (bI fL) h) (HD : pD G T D h) (HT : oTm G tx sz h) (h256 : ∀ j, tx j < 256) (hs4 : sz ≤ 400) (hw : wT D) (hx : x = nI w) (hw6 : w < 6) (hP8 : w = 0 → D.1 < 8) : Spv G mX7_readsItem 6 [.ref (kb G + 37), .int x] n h (fun h' => pR G tx sz tr T (rdW (tSt tx sz) w c D) (decide (w = 4) || fF) (decide (w = 5) || fL) h' ∧ oTm G tx sz h' ∧ tmr h h') := by
  subst hx
  rcases (show w = 0 ∨ w = 1 ∨ w = 2 ∨ w = 3 ∨ w = 4 ∨ w = 5 by omega) with rfl | rfl | rfl | rfl | rfl | rfl
  · exact m_ri0 hn HE HD HT h256 hs4 hw (hP8 rfl)
  · exact m_ri3 hn HE HD HT h256 hs4 hw (Or.inl rfl)
  · exact m_ri3 hn HE HD HT h256 hs4 hw (Or.inr (Or.inl rfl))
  · exact m_ri3 hn HE HD HT h256 hs4 hw (Or.inr (Or.inr rfl))
  · exact m_ri4 hn HE HD HT h256 hs4 hw
  · exact m_ri5 hn HE HD HT h256 hs4 hw
def pI (G : kG) (tx : Nat → Nat) (sz : Nat) (tr : Int64) (T : mT) (R : Nat ⊕ RD) (h : kH) : Prop := match R with
  | .inl j => pR G tx sz tr T (.inl j) false false h
  | .inr τ => pR G tx sz tr T (.inr (τ.1, τ.2.1)) τ.2.2.1 τ.2.2.2 h
theorem pR.fr {G : kG} {tx : Nat → Nat} {sz lo hi : Nat} {tr : Int64} {T : mT} {R : Nat ⊕ (Nat × mT)} {f1 f2 : Bool} {h h' : kH} (H : pR G tx sz tr T R f1 f2 h) (hF : kFr lo hi h h') (hd : 40 < lo ∨ hi ≤ 37) : pR G tx sz tr T R f1 f2 h' := by
  cases R with
  | inl j =>
    obtain ⟨⟨a, b, c, d, e, f, h1⟩, h2⟩ := H
    exact ⟨⟨a, b, c, d, e, f, h1.fr hF (by omega)⟩, h2.fr hF (by omega)⟩
  | inr q =>
    obtain ⟨c2, D2⟩ := q
    obtain ⟨h1, h2⟩ := H
    exact ⟨h1.fr hF (by omega), h2.fr hF (by omega)⟩
theorem l_t183 {G : kG} {n sz : Nat} {tx : Nat → Nat} {ν : mN} {i0 i1 : Option mN} {T : mT} {tr : Int64} {h0 : kH} {R : Nat ⊕ (Nat × mT)} {f1 f2 : Bool} {h : kH} {y z : Int32} {k : Nat} (hn : 49 ≤ n) (HR : pR G tx sz tr T R f1 f2 h) (HT : oTm G tx sz h) (h256 : ∀ j, tx j < 256) (hs4 : sz ≤ 400) (hR : tmr h0 h)
    (kk : ∀ h' : kH, pI G tx sz tr T (endR (tSt tx sz) f1 f2 R) h' → oTm G tx sz h' → tmr h0 h' → Go G mX7_town (7, 0, 0) 51 [(1, .int (nI (k + 1))), (0, .ref (kb G + 37))] [] (n, 0, 0) h' (kQi mX7_town n (fun v h' => v = fTown tx sz ∧ oM G (sTown (tx, sz, ν, i0, i1, T, tr)) h' ∧ kFr 37 49 h0 h'))) : Go G mX7_town (7, 0, 0) 183 [(3, .int y), (2, .int z), (0, .ref (kb G + 37)), (1, .int (nI k))] [] (n, 0, 0) h (kQi mX7_town n (fun v h' => v = fTown tx sz ∧ oM G (sTown (tx, sz, ν, i0, i1, T, tr)) h' ∧ kFr 37 49 h0 h')) := by
  cases R with
  | inl j =>
    obtain ⟨⟨dP, dF, dL, dJ, wF, wL, HE⟩, HD⟩ := id HR
    obtain ⟨th, nx, tk, pl, va, HO⟩ := id HE
    have hM := HO
    unfold pO at hM
    refine go_aload_n 2 (nx := 184) dX7_town_183 rfl rfl rfl ?_
    refine go_aload_n 2 (nx := 185) dX7_town_184 rfl rfl rfl ?_
    refine go_gf (nx := 188) fg_X7_83 dX7_town_185 (by omega) hM rfl rfl ?_
    refine go_iconst (v := nI 3) (nx := 189) dX7_town_188 (by decide) rfl ?_
    refine go_icmp_ne 196 (nx := 192) dX7_town_189 rfl rfl (fun c189 => ?_) (fun c189 => ?_)
    · skip
      refine go_iconst (v := nI 0) (nx := 197) dX7_town_196 (by decide) rfl ?_
      refine go_Vi (nx := 200) [_] kc_X7_103 ⟨_, _, rfl⟩ (by omega) hM (m_takesZ hn hM (tpl_pos hs4)) dX7_town_197 rfl rfl (Nat.le_of_ble_eq_true rfl) (Nat.le_of_ble_eq_true rfl) ⟨Nat.le_refl _, Nat.le_refl _⟩ rfl (fun rh1 h1 hqh1 => ?_)
      obtain ⟨rfl, rfl⟩ := hqh1
      refine go_pop (nx := 201) dX7_town_200 rfl rfl ?_
      refine go_iinc 3 (v := nI (k + 1)) (lv' := [_, _, _, _]) (nx := 204) dX7_town_201 rfl (nI_inc k) (by decide) rfl rfl ?_
      refine go_goto 51 dX7_town_204 rfl ?_
      refine Go.sub [0, 3] rfl ?_
      exact kk _ HR HT hR
    · skip
      refine go_iconst (v := nI 1) (nx := 193) dX7_town_192 (by decide) rfl ?_
      refine go_goto 197 dX7_town_193 rfl ?_
      refine go_Vi (nx := 200) [_] kc_X7_103 ⟨_, _, rfl⟩ (by omega) hM (m_takesZ hn hM (tpl_pos hs4)) dX7_town_197 rfl rfl (Nat.le_of_ble_eq_true rfl) (Nat.le_of_ble_eq_true rfl) ⟨Nat.le_refl _, Nat.le_refl _⟩ rfl (fun rh1 h1 hqh1 => ?_)
      obtain ⟨rfl, rfl⟩ := hqh1
      refine go_pop (nx := 201) dX7_town_200 rfl rfl ?_
      refine go_iinc 3 (v := nI (k + 1)) (lv' := [_, _, _, _]) (nx := 204) dX7_town_201 rfl (nI_inc k) (by decide) rfl rfl ?_
      refine go_goto 51 dX7_town_204 rfl ?_
      refine Go.sub [0, 3] rfl ?_
      exact kk _ HR HT hR
  | inr q =>
    obtain ⟨c2, D2⟩ := q
    obtain ⟨HE, HD⟩ := id HR
    obtain ⟨th, nx, tk, pl, va, HO, HC⟩ := id HE
    have hM := HO
    unfold pO at hM
    obtain ⟨k0, hnk, hk, hti, hnx, hpl, htk⟩ := id HC
    refine go_aload_n 2 (nx := 184) dX7_town_183 rfl rfl rfl ?_
    refine go_aload_n 2 (nx := 185) dX7_town_184 rfl rfl rfl ?_
    refine go_gf (nx := 188) fg_X7_83 dX7_town_185 (by omega) hM rfl rfl ?_
    refine go_iconst (v := nI 3) (nx := 189) dX7_town_188 (by decide) rfl ?_
    refine go_icmp_ne 196 (nx := 192) dX7_town_189 rfl rfl (fun c189 => ?_) (fun c189 => ?_)
    · skip
      refine go_iconst (v := nI 0) (nx := 197) dX7_town_196 (by decide) rfl ?_
      refine go_Vi (nx := 200) [_] kc_X7_103 ⟨_, _, rfl⟩ (by omega) hM (m_takesF hn hM rfl) dX7_town_197 rfl rfl (Nat.le_of_ble_eq_true rfl) (Nat.le_of_ble_eq_true rfl) ⟨Nat.le_refl _, Nat.le_refl _⟩ rfl (fun rh1 h1 hqh1 => ?_)
      obtain ⟨-, HO2, hFh1⟩ := hqh1
      have e10 := fun q => c189 ((tkv_stop htk).mpr q)
      have kk2 := kk h1
      rw [show endR (tSt tx sz) f1 f2 (.inr (c2, D2)) = .inl c2 from if_neg e10] at kk2
      rw [hpl] at HO2
      have HX : pI G tx sz tr T (.inl c2) h1 := ⟨⟨_, _, _, _, _, _, _, _, _, _, _, HO2⟩, (HD.fr hFh1 (by omega)).w⟩
      refine go_pop (nx := 201) dX7_town_200 rfl rfl ?_
      refine go_iinc 3 (v := nI (k + 1)) (lv' := [_, _, _, _]) (nx := 204) dX7_town_201 rfl (nI_inc k) (by decide) rfl rfl ?_
      refine go_goto 51 dX7_town_204 rfl ?_
      refine Go.sub [0, 3] rfl ?_
      exact kk2 HX (HT.fr hFh1 (by omega)) (hR.k hFh1 (by omega))
    · skip
      refine go_iconst (v := nI 1) (nx := 193) dX7_town_192 (by decide) rfl ?_
      refine go_goto 197 dX7_town_193 rfl ?_
      refine go_Vi (nx := 200) [_] kc_X7_103 ⟨_, _, rfl⟩ (by omega) hM (m_takesT hn hM HC HT h256 hs4 rfl) dX7_town_197 rfl rfl (Nat.le_of_ble_eq_true rfl) (Nat.le_of_ble_eq_true rfl) ⟨Nat.le_refl _, Nat.le_refl _⟩ rfl (fun rh1 h1 hqh1 => ?_)
      obtain ⟨-, ⟨nx2, tk2, pl2, va2, HO2, HC2⟩, hFh1⟩ := hqh1
      have e10 := (tkv_stop htk).mp c189
      have kk2 := kk h1
      rw [show endR (tSt tx sz) f1 f2 (.inr (c2, D2)) = .inr (c2 + 1, D2, f1, f2) from if_pos e10] at kk2
      have HX : pI G tx sz tr T (.inr (c2 + 1, D2, f1, f2)) h1 := ⟨⟨_, _, _, _, _, HO2, HC2⟩, HD.fr hFh1 (by omega)⟩
      refine go_pop (nx := 201) dX7_town_200 rfl rfl ?_
      refine go_iinc 3 (v := nI (k + 1)) (lv' := [_, _, _, _]) (nx := 204) dX7_town_201 rfl (nI_inc k) (by decide) rfl rfl ?_
      refine go_goto 51 dX7_town_204 rfl ?_
      refine Go.sub [0, 3] rfl ?_
      exact kk2 HX (HT.fr hFh1 (by omega)) (hR.k hFh1 (by omega))
theorem l_t51Z {G : kG} {n sz : Nat} {tx : Nat → Nat} {ν : mN} {i0 i1 : Option mN} {T : mT} {tr : Int64} {h0 : kH} {j : Nat} {h : kH} {z : Int32} (hn : 49 ≤ n) (HI : pI G tx sz tr T (.inl j) h) (HT : oTm G tx sz h) (hs4 : sz ≤ 400) (H0 : oM G (tx, sz, ν, i0, i1, T, tr) h0) (hR : tmr h0 h) (hrd : rdTown tx sz = .inl j) : Go G mX7_town (7, 0, 0) 51 [(1, .int z), (0, .ref (kb G + 37))] [] (n, 0, 0) h (kQi mX7_town n (fun v h' => v = fTown tx sz ∧ oM G (sTown (tx, sz, ν, i0, i1, T, tr)) h' ∧ kFr 37 49 h0 h')) := by
  obtain ⟨⟨dP, dF, dL, dJ, wF, wL, HE⟩, HD⟩ := id HI
  obtain ⟨th, nx, tk, pl, va, HO⟩ := id HE
  have hM := HO
  unfold pO at hM
  have hv : fTown tx sz = -10 - nI (tpl tx sz j) := by unfold fTown; rw [hrd]
  have hs : sTown (tx, sz, ν, i0, i1, T, tr) = (tx, sz, ν, i0, i1, T, tr) := by simp only [sTown, hrd]
  refine go_aload_n 1 (nx := 52) dX7_town_51 rfl rfl rfl ?_
  refine go_Vi (nx := 55) [] kc_X7_96 ⟨_, _, rfl⟩ (by omega) hM (m_isWell hn hM) dX7_town_52 rfl rfl (Nat.le_of_ble_eq_true rfl) (Nat.le_of_ble_eq_true rfl) ⟨Nat.le_refl _, Nat.le_refl _⟩ rfl (fun rh1 h1 hqh1 => ?_)
  obtain ⟨rfl, rfl⟩ := hqh1
  refine go_if_eq 207 (nx := 58) dX7_town_55 rfl rfl (fun c55 => ?_) (fun c55 => False.elim (c55 (by rw [decide_eq_false (tpl_pos hs4)]; rfl)))
  refine go_aload_n 1 (nx := 208) dX7_town_207 rfl rfl rfl ?_
  refine go_Vi (nx := 211) [] kc_X7_96 ⟨_, _, rfl⟩ (by omega) hM (m_isWell hn hM) dX7_town_208 rfl rfl (Nat.le_of_ble_eq_true rfl) (Nat.le_of_ble_eq_true rfl) ⟨Nat.le_refl _, Nat.le_refl _⟩ rfl (fun rh2 h2 hqh2 => ?_)
  obtain ⟨rfl, rfl⟩ := hqh2
  refine go_if_ne 222 (nx := 214) dX7_town_211 rfl rfl (fun c211 => False.elim (c211 (by rw [decide_eq_false (tpl_pos hs4)]; rfl))) (fun c211 => ?_)
  refine go_bipush (v := (-10)) (nx := 216) dX7_town_214 (by decide) rfl ?_
  refine go_aload_n 1 (nx := 217) dX7_town_216 rfl rfl rfl ?_
  refine go_gf (nx := 220) fg_X7_93 dX7_town_217 (by omega) hM rfl rfl ?_
  refine go_isub (nx := 221) dX7_town_220 rfl ?_
  refine go_reti dX7_town_221 ⟨_, rfl, rfl⟩ ?_
  obtain ⟨ka, ba, hkt, hhb, hk1, hb1, -⟩ := HD
  obtain ⟨-, -, -, -, ⟨a5, q5, q5'⟩, ⟨a6, q6⟩, ⟨a7, b7, q7, q7', q7''⟩, ⟨a8, q8⟩, ⟨a9, q9⟩, ⟨a10, q10⟩, ⟨a11, q11⟩⟩ := H0
  refine ⟨hv.symm, ?_, fun i hi => hR i (by omega) (by omega) (by omega)⟩
  rw [hs]
  exact ⟨⟨fun i => if i = 0 then th else if i = 4 then nx else if i = 5 then tk else if i = 6 then pl else if i = 7 then va else if i = 8 then nI (tpl tx sz j) else if i = 12 then dP else if i = 14 then dF else if i = 16 then dL else if i = 18 then dJ else if i = 19 then wF else wL, hM⟩, HT, ⟨ka, hkt, hk1⟩, ⟨ba, hhb, hb1⟩,
    ⟨a5, (hR 41 (by decide) (by decide) (by decide)).trans q5, q5'⟩, ⟨a6, (hR 42 (by decide) (by decide) (by decide)).trans q6⟩, ⟨a7, b7, (hR 43 (by decide) (by decide) (by decide)).trans q7, (hR 44 (by decide) (by decide) (by decide)).trans q7', q7''⟩,
    ⟨a8, (hR 45 (by decide) (by decide) (by decide)).trans q8⟩, ⟨a9, (hR 46 (by decide) (by decide) (by decide)).trans q9⟩, ⟨a10, (hR 47 (by decide) (by decide) (by decide)).trans q10⟩, ⟨a11, (hR 48 (by decide) (by decide) (by decide)).trans q11⟩⟩
