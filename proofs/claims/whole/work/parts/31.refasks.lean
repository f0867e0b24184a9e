/-! the reference as a whole, and what it answers -/
def xArr (G : kG) (i len : Nat) (h : kH) : Prop := ∃ a : Nat → Int32, h i = .inl (G.2.1, len, .inl a)
def oTm (G : kG) (tx : Nat → Nat) (sz : Nat) (h : kH) : Prop := ∃ a : Nat → Int32, h 38 = .inl (G.2.1, 400, .inl a) ∧ ∀ j, j < sz → a j = nI (tx j)
def oKt (G : kG) (T : mT) (h : kH) : Prop := ∃ a : Nat → Int32, h 39 = .inl (G.2.1, 16, .inl a) ∧ ∀ p, p < 8 → a p = nI (row T.2.1 p)
def oKe (G : kG) (i0 i1 : Option mN) (h : kH) : Prop := ∃ a b : Nat → Int32, h 43 = .inl (G.2.1, 164, .inl a) ∧ h 44 = .inl (G.2.2.1, 2, .inl b) ∧ b 0 = bI i0.isSome ∧ b 1 = bI i1.isSome ∧ (∀ μ, i0 = some μ → sIs a μ) ∧ (∀ μ, i1 = some μ → sIs (fun k => a (82 + k)) μ)
def oM (G : kG) (s : mS) (h : kH) : Prop := (∃ F, mO G F s.2.2.2.2.2.2 s.2.1 s.2.2.2.2.2.1 h) ∧ oTm G s.1 s.2.1 h ∧ oKt G s.2.2.2.2.2.1 h ∧ oHab G s.2.2.2.2.2.1 h ∧ oS G s.2.2.1 h ∧ xArr G 42 82 h ∧ oKe G s.2.2.2.1 s.2.2.2.2.1 h ∧ xArr G 45 40 h ∧ xArr G 46 3 h ∧ xArr G 47 24 h ∧ xArr G 48 3 h
section OM
variable {G : kG} {s : mS} {h h' : kH} {lo hi : Nat}
theorem xArr.fr {i len : Nat} (H : xArr G i len h) (hF : kFr lo hi h h') (hd : i < lo ∨ hi ≤ i) : xArr G i len h' := by
  obtain ⟨a, H⟩ := H
  exact ⟨a, (hF i hd).trans H⟩
theorem mO.fr {F : Nat → Int32} {tr : Int64} {sz : Nat} {T : mT} (H : mO G F tr sz T h) (hF : kFr lo hi h h') (hd : 37 < lo ∨ hi ≤ 37) : mO G F tr sz T h' := (hF 37 hd).trans H
theorem oTm.fr {tx : Nat → Nat} {sz : Nat} (H : oTm G tx sz h) (hF : kFr lo hi h h') (hd : 38 < lo ∨ hi ≤ 38) : oTm G tx sz h' := by
  obtain ⟨a, H, H2⟩ := H
  exact ⟨a, (hF 38 hd).trans H, H2⟩
theorem oKt.fr {T : mT} (H : oKt G T h) (hF : kFr lo hi h h') (hd : 39 < lo ∨ hi ≤ 39) : oKt G T h' := by
  obtain ⟨a, H, H2⟩ := H
  exact ⟨a, (hF 39 hd).trans H, H2⟩
theorem oHab.fr {T : mT} (H : oHab G T h) (hF : kFr lo hi h h') (hd : 40 < lo ∨ hi ≤ 40) : oHab G T h' := by
  obtain ⟨a, H, H2⟩ := H
  exact ⟨a, (hF 40 hd).trans H, H2⟩
theorem oS.fr {ν : mN} (H : oS G ν h) (hF : kFr lo hi h h') (hd : 41 < lo ∨ hi ≤ 41) : oS G ν h' := by
  obtain ⟨a, H, H2⟩ := H
  exact ⟨a, (hF 41 hd).trans H, H2⟩
theorem oKe.fr {i0 i1 : Option mN} (H : oKe G i0 i1 h) (hF : kFr lo hi h h') (hd : 44 < lo ∨ hi ≤ 43) : oKe G i0 i1 h' := by
  obtain ⟨a, b, H, H2, H3⟩ := H
  exact ⟨a, b, (hF 43 (by omega)).trans H, (hF 44 (by omega)).trans H2, H3⟩
theorem oM.frAll (H : oM G s h) (hF : kFr lo hi h h') (hd : 49 ≤ lo ∨ hi ≤ 37) : oM G s h' := by
  obtain ⟨⟨F, h1⟩, h2, h3, h4, h5, h6, h7, h8, h9, h10, h11⟩ := H
  exact ⟨⟨F, h1.fr hF (by omega)⟩, h2.fr hF (by omega), h3.fr hF (by omega), h4.fr hF (by omega), h5.fr hF (by omega), h6.fr hF (by omega), h7.fr hF (by omega), h8.fr hF (by omega), h9.fr hF (by omega), h10.fr hF (by omega), h11.fr hF (by omega)⟩
/-- the object's own cell -/
theorem oM.setO {F : Nat → Int32} {tr : Int64} (H : oM G s h) (hO : mO G F tr s.2.1 s.2.2.2.2.2.1 h') (hF : kFr 37 38 h h') : oM G (s.1, s.2.1, s.2.2.1, s.2.2.2.1, s.2.2.2.2.1, s.2.2.2.2.2.1, tr) h' := by
  obtain ⟨-, h2, h3, h4, h5, h6, h7, h8, h9, h10, h11⟩ := H
  exact ⟨⟨F, hO⟩, h2.fr hF (by omega), h3.fr hF (by omega), h4.fr hF (by omega), h5.fr hF (by omega), h6.fr hF (by omega), h7.fr hF (by omega), h8.fr hF (by omega), h9.fr hF (by omega), h10.fr hF (by omega), h11.fr hF (by omega)⟩
theorem oM.setS {ν : mN} (H : oM G s h) (hS : oS G ν h') (hF : kFr 41 42 h h') : oM G (s.1, s.2.1, ν, s.2.2.2) h' := by
  obtain ⟨⟨F, h1⟩, h2, h3, h4, -, h6, h7, h8, h9, h10, h11⟩ := H
  exact ⟨⟨F, h1.fr hF (by omega)⟩, h2.fr hF (by omega), h3.fr hF (by omega), h4.fr hF (by omega), hS, h6.fr hF (by omega), h7.fr hF (by omega), h8.fr hF (by omega), h9.fr hF (by omega), h10.fr hF (by omega), h11.fr hF (by omega)⟩
/-- spare, ring, pair, ahead, does: nobody asks what they hold; the state's row is as it was -/
theorem oM.setX {ν : mN} (H : oM G s h) (hS : oS G ν h') (h6' : xArr G 42 82 h') (h8' : xArr G 45 40 h') (h9' : xArr G 46 3 h') (h10' : xArr G 47 24 h') (h11' : xArr G 48 3 h') (hF : ∀ j, (j < 41 ∨ j = 43 ∨ j = 44) → h' j = h j) : oM G (s.1, s.2.1, ν, s.2.2.2) h' := by
  obtain ⟨⟨F, h1⟩, ⟨a2, h2, h2'⟩, ⟨a3, h3, h3'⟩, ⟨a4, h4, h4'⟩, -, -, ⟨a, b, h7, h7', h7''⟩, -⟩ := H
  exact ⟨⟨F, (hF 37 (by omega)).trans h1⟩, ⟨a2, (hF 38 (by omega)).trans h2, h2'⟩, ⟨a3, (hF 39 (by omega)).trans h3, h3'⟩, ⟨a4, (hF 40 (by omega)).trans h4, h4'⟩, hS, h6', ⟨a, b, (hF 43 (by omega)).trans h7, (hF 44 (by omega)).trans h7', h7''⟩, h8', h9', h10', h11'⟩
end OM
theorem m_knows {G : kG} {n sz : Nat} {h : kH} {tx : Nat → Nat} {ν : mN} {i0 i1 : Option mN} {T : mT} {tr : Int64} {x y : Int32} (hn : 49 ≤ n) (H : oM G (tx, sz, ν, i0, i1, T, tr) h) (W : wS (tx, sz, ν, i0, i1, T, tr)) : Spi G mX7_knows 3 [.ref (kb G + 37), .int x, .int y] n h (fun v h' => v = fKnows T ν x y ∧ oM G (tx, sz, ν, i0, i1, T, tr) h' ∧ kFr 37 49 h h') := by
  obtain ⟨hwT, hwN, hY, hw0, hw1, hsz, htx⟩ := id W
  have hwT : wT T := hwT
  have hwN : wN T.1 ν := hwN
  have hY : ν.2.2.2.1 ≤ 99 := hY
  have hsz : sz ≤ 400 := hsz
  have hP := hwT.1
  obtain ⟨⟨F, HO⟩, -⟩ := id H
  have hM : h 37 = .inr (7, [.int (F 0), .long tr, .ref (kb G + 38), .int (nI sz), .int (F 4), .int (F 5), .int (F 6), .int (F 7), .int (F 8), .ref (kb G + 39), .ref (kb G + 40), .int (nI T.1), .int (F 12), .int (nI T.2.2.2.1), .int (F 14), .int (nI T.2.2.2.2.1), .int (F 16), .int (nI T.2.2.2.2.2), .int (F 18), .int (F 19), .int (F 20), .ref (kb G + 41), .ref (kb G + 42), .ref (kb G + 43), .ref (kb G + 44), .ref (kb G + 45), .ref (kb G + 46), .ref (kb G + 47), .ref (kb G + 48)]) := HO
  refine Spi.of (by decide) (Nat.le_of_ble_eq_true rfl) ?_
  refine Go.loc (lv' := [(0, _), (1, _), (2, _)]) rfl ?_
  refine go_aload_n 0 (nx := 1) dX7_knows_0 rfl rfl rfl ?_
  refine go_iconst (v := nI 0) (nx := 2) dX7_knows_1 (by decide) rfl ?_
  refine go_pf (fs' := [_, _, _, _, _, _, _, _, _, _, _, _, _, _, _, _, _, _, _, _, _, _, _, _, _, _, _, _, _]) (nx := 5) (fp_X7_51 _) dX7_knows_2 (by omega) hM (Nat.le_of_ble_eq_true rfl) ⟨rfl, rfl⟩ rfl rfl (fun h1 eh1 fh1 => ?_)
  have hM := eh1
  have hZ : kFr 37 49 h h1 := fun j hj => fh1 j (by omega)
  have H := H.setO (F := upd F 0 (nI 0)) (tr := tr) hM (fun j hj => fh1 j (by omega))
  have H : oM G (tx, sz, ν, i0, i1, T, tr) h1 := H
  obtain ⟨⟨F5, HO⟩, HTm, HKt, HH, HS, HSp, HKe, HRi, HPa, HAh, HDo⟩ := id H
  have HO : mO G F5 tr sz T h1 := HO
  have HTm : oTm G tx sz h1 := HTm
  have HKt : oKt G T h1 := HKt
  have HH : oHab G T h1 := HH
  have HS : oS G ν h1 := HS
  have HKe : oKe G i0 i1 h1 := HKe
  have hM : h1 37 = .inr (7, [.int (F5 0), .long tr, .ref (kb G + 38), .int (nI sz), .int (F5 4), .int (F5 5), .int (F5 6), .int (F5 7), .int (F5 8), .ref (kb G + 39), .ref (kb G + 40), .int (nI T.1), .int (F5 12), .int (nI T.2.2.2.1), .int (F5 14), .int (nI T.2.2.2.2.1), .int (F5 16), .int (nI T.2.2.2.2.2), .int (F5 18), .int (F5 19), .int (F5 20), .ref (kb G + 41), .ref (kb G + 42), .ref (kb G + 43), .ref (kb G + 44), .ref (kb G + 45), .ref (kb G + 46), .ref (kb G + 47), .ref (kb G + 48)]) := HO
  obtain ⟨sa, hs, hs1, hs2, hs3, hs4, hs5⟩ := id HS
  refine go_aload_n 0 (nx := 6) dX7_knows_5 rfl rfl rfl ?_
  refine go_iload_n 1 (nx := 7) dX7_knows_6 rfl rfl rfl ?_
  refine go_iload_n 2 (nx := 8) dX7_knows_7 rfl rfl rfl ?_
  refine go_Vi (nx := 11) [_, _] kc_X7_150 ⟨_, _, rfl⟩ (by omega) hM (m_areTwo hn HO hP) dX7_knows_8 rfl rfl (Nat.le_of_ble_eq_true rfl) (Nat.le_of_ble_eq_true rfl) ⟨Nat.le_refl _, Nat.le_refl _⟩ rfl (fun rh2 h2 hqh2 => ?_)
  obtain ⟨rfl, rfl⟩ := hqh2
  refine go_if_ne 18 (nx := 14) dX7_knows_11 rfl rfl (fun c11 => ?_) (fun c11 => ?_)
  · skip
    obtain ⟨a, b, ha, hb, hab, rfl, rfl⟩ := pair_of hP (tbn0 c11)
    have ha8 : a < 8 := by omega
    have hb8 : b < 8 := by omega
    refine go_aload_n 0 (nx := 19) dX7_knows_18 rfl rfl rfl ?_
    refine go_iload_n 1 (nx := 20) dX7_knows_19 rfl rfl rfl ?_
    refine go_iload_n 2 (nx := 21) dX7_knows_20 rfl rfl rfl ?_
    refine go_Vi (nx := 24) [_, _] kc_X7_154 ⟨_, _, rfl⟩ (by omega) hM (m_isKnown hn HO HS rfl ha8 rfl hb8) dX7_knows_21 rfl rfl (Nat.le_of_ble_eq_true rfl) (Nat.le_of_ble_eq_true rfl) ⟨Nat.le_refl _, Nat.le_refl _⟩ rfl (fun rh3 h3 hqh3 => ?_)
    obtain ⟨rfl, rfl⟩ := hqh3
    refine go_if_eq 31 (nx := 27) dX7_knows_24 rfl rfl (fun c24 => ?_) (fun c24 => ?_)
    · skip
      refine go_iconst (v := nI 0) (nx := 32) dX7_knows_31 (by decide) rfl ?_
      refine go_reti dX7_knows_32 ⟨_, rfl, rfl⟩ ?_
      refine ⟨?_, H, hZ⟩
      rw [fKnows, if_pos (tbn0 c11), cl_nI (by omega), cl_nI (by omega), tb0 c24]; rfl
    · skip
      refine go_iconst (v := nI 1) (nx := 28) dX7_knows_27 (by decide) rfl ?_
      refine go_goto 32 dX7_knows_28 rfl ?_
      refine go_reti dX7_knows_32 ⟨_, rfl, rfl⟩ ?_
      refine ⟨?_, H, hZ⟩
      rw [fKnows, if_pos (tbn0 c11), cl_nI (by omega), cl_nI (by omega), tbn0 c24]; rfl
  · skip
    refine go_iconst (v := (-1)) (nx := 15) dX7_knows_14 (by decide) rfl ?_
    refine go_goto 32 dX7_knows_15 rfl ?_
    refine go_reti dX7_knows_32 ⟨_, rfl, rfl⟩ ?_
    refine ⟨?_, H, hZ⟩
    rw [fKnows, if_neg (by rw [tb0 c11]; decide)]
theorem m_seen {G : kG} {n sz : Nat} {h : kH} {tx : Nat → Nat} {ν : mN} {i0 i1 : Option mN} {T : mT} {tr : Int64} {x y : Int32} (hn : 49 ≤ n) (H : oM G (tx, sz, ν, i0, i1, T, tr) h) (W : wS (tx, sz, ν, i0, i1, T, tr)) : Spi G mX7_seen 3 [.ref (kb G + 37), .int x, .int y] n h (fun v h' => v = fSeen T ν x y ∧ oM G (tx, sz, ν, i0, i1, T, tr) h' ∧ kFr 37 49 h h') := by
  obtain ⟨hwT, hwN, hY, hw0, hw1, hsz, htx⟩ := id W
  have hwT : wT T := hwT
  have hwN : wN T.1 ν := hwN
  have hY : ν.2.2.2.1 ≤ 99 := hY
  have hsz : sz ≤ 400 := hsz
  have hP := hwT.1
  obtain ⟨⟨F, HO⟩, -⟩ := id H
  have hM : h 37 = .inr (7, [.int (F 0), .long tr, .ref (kb G + 38), .int (nI sz), .int (F 4), .int (F 5), .int (F 6), .int (F 7), .int (F 8), .ref (kb G + 39), .ref (kb G + 40), .int (nI T.1), .int (F 12), .int (nI T.2.2.2.1), .int (F 14), .int (nI T.2.2.2.2.1), .int (F 16), .int (nI T.2.2.2.2.2), .int (F 18), .int (F 19), .int (F 20), .ref (kb G + 41), .ref (kb G + 42), .ref (kb G + 43), .ref (kb G + 44), .ref (kb G + 45), .ref (kb G + 46), .ref (kb G + 47), .ref (kb G + 48)]) := HO
  refine Spi.of (by decide) (Nat.le_of_ble_eq_true rfl) ?_
  refine Go.loc (lv' := [(0, _), (1, _), (2, _)]) rfl ?_
  refine go_aload_n 0 (nx := 1) dX7_seen_0 rfl rfl rfl ?_
  refine go_iconst (v := nI 0) (nx := 2) dX7_seen_1 (by decide) rfl ?_
  refine go_pf (fs' := [_, _, _, _, _, _, _, _, _, _, _, _, _, _, _, _, _, _, _, _, _, _, _, _, _, _, _, _, _]) (nx := 5) (fp_X7_51 _) dX7_seen_2 (by omega) hM (Nat.le_of_ble_eq_true rfl) ⟨rfl, rfl⟩ rfl rfl (fun h1 eh1 fh1 => ?_)
  have hM := eh1
  have hZ : kFr 37 49 h h1 := fun j hj => fh1 j (by omega)
  have H := H.setO (F := upd F 0 (nI 0)) (tr := tr) hM (fun j hj => fh1 j (by omega))
  have H : oM G (tx, sz, ν, i0, i1, T, tr) h1 := H
  obtain ⟨⟨F5, HO⟩, HTm, HKt, HH, HS, HSp, HKe, HRi, HPa, HAh, HDo⟩ := id H
  have HO : mO G F5 tr sz T h1 := HO
  have HTm : oTm G tx sz h1 := HTm
  have HKt : oKt G T h1 := HKt
  have HH : oHab G T h1 := HH
  have HS : oS G ν h1 := HS
  have HKe : oKe G i0 i1 h1 := HKe
  have hM : h1 37 = .inr (7, [.int (F5 0), .long tr, .ref (kb G + 38), .int (nI sz), .int (F5 4), .int (F5 5), .int (F5 6), .int (F5 7), .int (F5 8), .ref (kb G + 39), .ref (kb G + 40), .int (nI T.1), .int (F5 12), .int (nI T.2.2.2.1), .int (F5 14), .int (nI T.2.2.2.2.1), .int (F5 16), .int (nI T.2.2.2.2.2), .int (F5 18), .int (F5 19), .int (F5 20), .ref (kb G + 41), .ref (kb G + 42), .ref (kb G + 43), .ref (kb G + 44), .ref (kb G + 45), .ref (kb G + 46), .ref (kb G + 47), .ref (kb G + 48)]) := HO
  obtain ⟨sa, hs, hs1, hs2, hs3, hs4, hs5⟩ := id HS
  refine go_aload_n 0 (nx := 6) dX7_seen_5 rfl rfl rfl ?_
  refine go_iload_n 1 (nx := 7) dX7_seen_6 rfl rfl rfl ?_
  refine go_iload_n 2 (nx := 8) dX7_seen_7 rfl rfl rfl ?_
  refine go_Vi (nx := 11) [_, _] kc_X7_150 ⟨_, _, rfl⟩ (by omega) hM (m_areTwo hn HO hP) dX7_seen_8 rfl rfl (Nat.le_of_ble_eq_true rfl) (Nat.le_of_ble_eq_true rfl) ⟨Nat.le_refl _, Nat.le_refl _⟩ rfl (fun rh2 h2 hqh2 => ?_)
  obtain ⟨rfl, rfl⟩ := hqh2
  refine go_if_eq 40 (nx := 14) dX7_seen_11 rfl rfl (fun c11 => ?_) (fun c11 => ?_)
  · skip
    refine go_ldc (nx := 42) kl_X7_157 dX7_seen_40 rfl ?_
    refine go_reti dX7_seen_42 ⟨_, rfl, rfl⟩ ?_
    refine ⟨?_, H, hZ⟩
    rw [fSeen, if_neg (by rw [tb0 c11]; simp)]
  · skip
    obtain ⟨a, b, ha, hb, hab, rfl, rfl⟩ := pair_of hP (tbn0 c11)
    have ha8 : a < 8 := by omega
    have hb8 : b < 8 := by omega
    refine go_aload_n 0 (nx := 15) dX7_seen_14 rfl rfl rfl ?_
    refine go_iload_n 1 (nx := 16) dX7_seen_15 rfl rfl rfl ?_
    refine go_iload_n 2 (nx := 17) dX7_seen_16 rfl rfl rfl ?_
    refine go_Vi (nx := 20) [_, _] kc_X7_154 ⟨_, _, rfl⟩ (by omega) hM (m_isKnown hn HO HS rfl ha8 rfl hb8) dX7_seen_17 rfl rfl (Nat.le_of_ble_eq_true rfl) (Nat.le_of_ble_eq_true rfl) ⟨Nat.le_refl _, Nat.le_refl _⟩ rfl (fun rh3 h3 hqh3 => ?_)
    obtain ⟨rfl, rfl⟩ := hqh3
    refine go_if_eq 40 (nx := 23) dX7_seen_20 rfl rfl (fun c20 => ?_) (fun c20 => ?_)
    · skip
      refine go_ldc (nx := 42) kl_X7_157 dX7_seen_40 rfl ?_
      refine go_reti dX7_seen_42 ⟨_, rfl, rfl⟩ ?_
      refine ⟨?_, H, hZ⟩
      rw [fSeen, cl_nI (by omega), cl_nI (by omega), if_neg (by rw [tb0 c20]; simp)]
    · skip
      refine go_aload_n 0 (nx := 24) dX7_seen_23 rfl rfl rfl ?_
      refine go_gf (nx := 27) fg_X7_19 dX7_seen_24 (by omega) hM rfl rfl ?_
      refine go_bipush (v := nI 8) (nx := 29) dX7_seen_27 (by decide) rfl ?_
      refine go_bipush (v := nI 8) (nx := 31) dX7_seen_29 (by decide) rfl ?_
      refine go_iload_n 1 (nx := 32) dX7_seen_31 rfl rfl rfl ?_
      refine go_imul (nx := 33) dX7_seen_32 rfl ?_
      refine go_iadd (nx := 34) dX7_seen_33 rfl ?_
      refine go_iload_n 2 (nx := 35) dX7_seen_34 rfl rfl rfl ?_
      refine go_iadd (nx := 36) dX7_seen_35 rfl ?_
      refine go_ial (8 + (8 * a + b)) (nx := 37) dX7_seen_36 (by omega) hs (by rw [pk_mul, nI_add, nI_add, Nat.add_assoc]) (by omega) (by omega) rfl ?_
      rw [hs2 (8 * a + b) (by omega)]
      refine go_goto 42 dX7_seen_37 rfl ?_
      refine go_reti dX7_seen_42 ⟨_, rfl, rfl⟩ ?_
      refine ⟨?_, H, hZ⟩
      rw [fSeen, cl_nI (by omega), cl_nI (by omega), if_pos (by rw [tbn0 c11, tbn0 c20]; rfl)]
theorem in_ne {x lo hi : Int32} {k : Nat} (h : inB lo hi x = false) (h1 : lo ≤ nI k) (h2 : nI k ≤ hi) : ¬ x = nI k := by
  intro e
  subst e
  simp only [inB, Bool.and_eq_false_iff, decide_eq_false_iff_not] at h
  rcases h with h | h
  · exact h h1
  · exact h h2
theorem in_3 {x : Int32} (h : inB (nI 0) (nI 3) x = true) (h0 : ¬ x = 0) (h1 : ¬ x = nI 1) (h2 : ¬ x = nI 2) : x = nI 3 := by
  simp only [inB, Bool.and_eq_true, decide_eq_true_eq] at h
  rcases sw_0_3 x with q | q | q | q | q
  · have a1 := Int32.le_iff_toInt_le.mp h.1
    have a2 := Int32.le_iff_toInt_le.mp h.2
    rw [show (nI 0).toInt = 0 from rfl] at a1
    rw [show (nI 3).toInt = 3 from rfl] at a2
    omega
  · exact absurd q h0
  · exact absurd q h1
  · exact absurd q h2
  · exact q
theorem m_person {G : kG} {n sz : Nat} {h : kH} {tx : Nat → Nat} {ν : mN} {i0 i1 : Option mN} {T : mT} {tr : Int64} {x y : Int32} (hn : 49 ≤ n) (H : oM G (tx, sz, ν, i0, i1, T, tr) h) (W : wS (tx, sz, ν, i0, i1, T, tr)) : Spi G mX7_person 2 [.ref (kb G + 37), .int x, .int y] n h (fun v h' => v = fPerson T ν x y ∧ oM G (tx, sz, ν, i0, i1, T, tr) h' ∧ kFr 37 49 h h') := by
  obtain ⟨hwT, hwN, hY, hw0, hw1, hsz, htx⟩ := id W
  have hwT : wT T := hwT
  have hwN : wN T.1 ν := hwN
  have hY : ν.2.2.2.1 ≤ 99 := hY
  have hsz : sz ≤ 400 := hsz
  have hP := hwT.1
  obtain ⟨⟨F, HO⟩, -⟩ := id H
  have hM : h 37 = .inr (7, [.int (F 0), .long tr, .ref (kb G + 38), .int (nI sz), .int (F 4), .int (F 5), .int (F 6), .int (F 7), .int (F 8), .ref (kb G + 39), .ref (kb G + 40), .int (nI T.1), .int (F 12), .int (nI T.2.2.2.1), .int (F 14), .int (nI T.2.2.2.2.1), .int (F 16), .int (nI T.2.2.2.2.2), .int (F 18), .int (F 19), .int (F 20), .ref (kb G + 41), .ref (kb G + 42), .ref (kb G + 43), .ref (kb G + 44), .ref (kb G + 45), .ref (kb G + 46), .ref (kb G + 47), .ref (kb G + 48)]) := HO
  refine Spi.of (by decide) (Nat.le_of_ble_eq_true rfl) ?_
  refine Go.loc (lv' := [(0, _), (1, _), (2, _)]) rfl ?_
  refine go_aload_n 0 (nx := 1) dX7_person_0 rfl rfl rfl ?_
  refine go_iconst (v := nI 0) (nx := 2) dX7_person_1 (by decide) rfl ?_
  refine go_pf (fs' := [_, _, _, _, _, _, _, _, _, _, _, _, _, _, _, _, _, _, _, _, _, _, _, _, _, _, _, _, _]) (nx := 5) (fp_X7_51 _) dX7_person_2 (by omega) hM (Nat.le_of_ble_eq_true rfl) ⟨rfl, rfl⟩ rfl rfl (fun h1 eh1 fh1 => ?_)
  have hM := eh1
  have hZ : kFr 37 49 h h1 := fun j hj => fh1 j (by omega)
  have H := H.setO (F := upd F 0 (nI 0)) (tr := tr) hM (fun j hj => fh1 j (by omega))
  have H : oM G (tx, sz, ν, i0, i1, T, tr) h1 := H
  obtain ⟨⟨F5, HO⟩, HTm, HKt, HH, HS, HSp, HKe, HRi, HPa, HAh, HDo⟩ := id H
  have HO : mO G F5 tr sz T h1 := HO
  have HTm : oTm G tx sz h1 := HTm
  have HKt : oKt G T h1 := HKt
  have HH : oHab G T h1 := HH
  have HS : oS G ν h1 := HS
  have HKe : oKe G i0 i1 h1 := HKe
  have hM : h1 37 = .inr (7, [.int (F5 0), .long tr, .ref (kb G + 38), .int (nI sz), .int (F5 4), .int (F5 5), .int (F5 6), .int (F5 7), .int (F5 8), .ref (kb G + 39), .ref (kb G + 40), .int (nI T.1), .int (F5 12), .int (nI T.2.2.2.1), .int (F5 14), .int (nI T.2.2.2.2.1), .int (F5 16), .int (nI T.2.2.2.2.2), .int (F5 18), .int (F5 19), .int (F5 20), .ref (kb G + 41), .ref (kb G + 42), .ref (kb G + 43), .ref (kb G + 44), .ref (kb G + 45), .ref (kb G + 46), .ref (kb G + 47), .ref (kb G + 48)]) := HO
  obtain ⟨sa, hs, hs1, hs2, hs3, hs4, hs5⟩ := id HS
  refine go_aload_n 0 (nx := 6) dX7_person_5 rfl rfl rfl ?_
  refine go_iload_n 1 (nx := 7) dX7_person_6 rfl rfl rfl ?_
  refine go_Vi (nx := 10) [_] kc_X7_146 ⟨_, _, rfl⟩ (by omega) hM (m_isPerson hn HO hP) dX7_person_7 rfl rfl (Nat.le_of_ble_eq_true rfl) (Nat.le_of_ble_eq_true rfl) ⟨Nat.le_refl _, Nat.le_refl _⟩ rfl (fun rh2 h2 hqh2 => ?_)
  obtain ⟨rfl, rfl⟩ := hqh2
  refine go_if_eq 22 (nx := 13) dX7_person_10 rfl rfl (fun c10 => ?_) (fun c10 => ?_)
  · skip
    refine go_iconst (v := (-1)) (nx := 23) dX7_person_22 (by decide) rfl ?_
    refine go_reti dX7_person_23 ⟨_, rfl, rfl⟩ ?_
    refine ⟨?_, H, hZ⟩
    rw [fPerson, if_neg (by rw [tb0 c10]; decide)]
  · skip
    refine go_iload_n 2 (nx := 14) dX7_person_13 rfl rfl rfl ?_
    refine go_iconst (v := nI 0) (nx := 15) dX7_person_14 (by decide) rfl ?_
    refine go_iconst (v := nI 3) (nx := 16) dX7_person_15 (by decide) rfl ?_
    refine go_Si (nx := 19) [_, _, _] kc_X7_54 s_in dX7_person_16 rfl rfl (Nat.le_of_ble_eq_true rfl) (Nat.le_of_ble_eq_true rfl) ⟨Nat.le_refl _, Nat.le_refl _⟩ rfl (fun rh3 h3 hqh3 => ?_)
    obtain ⟨rfl, rfl⟩ := hqh3
    refine go_if_ne 24 (nx := 22) dX7_person_19 rfl rfl (fun c19 => ?_) (fun c19 => ?_)
    · skip
      obtain ⟨a, ha, rfl⟩ := per_of hP (tbn0 c10)
      obtain ⟨hba, hhb, hha⟩ := id HH
      refine go_iload_n 2 (nx := 25) dX7_person_24 rfl rfl rfl ?_
      refine go_if_ne 36 (nx := 28) dX7_person_25 rfl rfl (fun c25 => ?_) (fun c25 => ?_)
      · skip
        refine go_iload_n 2 (nx := 37) dX7_person_36 rfl rfl rfl ?_
        refine go_iconst (v := nI 1) (nx := 38) dX7_person_37 (by decide) rfl ?_
        refine go_icmp_ne 53 (nx := 41) dX7_person_38 rfl rfl (fun c38 => ?_) (fun c38 => ?_)
        · skip
          refine go_iload_n 2 (nx := 54) dX7_person_53 rfl rfl rfl ?_
          refine go_iconst (v := nI 2) (nx := 55) dX7_person_54 (by decide) rfl ?_
          refine go_icmp_ne 67 (nx := 58) dX7_person_55 rfl rfl (fun c55 => ?_) (fun c55 => ?_)
          · skip
            refine go_aload_n 0 (nx := 68) dX7_person_67 rfl rfl rfl ?_
            refine go_gf (nx := 71) fg_X7_19 dX7_person_68 (by omega) hM rfl rfl ?_
            refine go_bipush (v := nI 73) (nx := 73) dX7_person_71 (by decide) rfl ?_
            refine go_iload_n 1 (nx := 74) dX7_person_73 rfl rfl rfl ?_
            refine go_iadd (nx := 75) dX7_person_74 rfl ?_
            refine go_ial (73 + a) (nx := 76) dX7_person_75 (by omega) hs (by rw [nI_add]) (by omega) (by omega) rfl ?_
            rw [hs4 a (by omega)]
            refine go_reti dX7_person_76 ⟨_, rfl, rfl⟩ ?_
            refine ⟨?_, H, hZ⟩
            rw [fPerson, if_pos (tbn0 c10), if_neg (show ¬ _ = nI 0 from c25), if_neg (show ¬ _ = nI 1 from c38), if_neg (show ¬ _ = nI 2 from c55), if_pos (in_3 (tbn0 c19) c25 c38 c55), cl_nI (by omega)]
          · skip
            skip
            refine go_aload_n 0 (nx := 59) dX7_person_58 rfl rfl rfl ?_
            refine go_gf (nx := 62) fg_X7_16 dX7_person_59 (by omega) hM rfl rfl ?_
            refine go_iload_n 1 (nx := 63) dX7_person_62 rfl rfl rfl ?_
            refine go_ial (a) (nx := 64) dX7_person_63 (by omega) hhb rfl (by omega) (by omega) rfl ?_
            rw [hha a (by omega)]
            refine go_goto 76 dX7_person_64 rfl ?_
            skip
            refine go_reti dX7_person_76 ⟨_, rfl, rfl⟩ ?_
            refine ⟨?_, H, hZ⟩
            rw [fPerson, if_pos (tbn0 c10), if_neg (show ¬ _ = nI 0 from c25), if_neg (show ¬ _ = nI 1 from c38), if_pos (show _ = nI 2 from c55), cl_nI (by omega)]
        · skip
          refine go_aload_n 0 (nx := 42) dX7_person_41 rfl rfl rfl ?_
          refine go_gf (nx := 45) fg_X7_19 dX7_person_42 (by omega) hM rfl rfl ?_
          refine go_iload_n 1 (nx := 46) dX7_person_45 rfl rfl rfl ?_
          refine go_ial (a) (nx := 47) dX7_person_46 (by omega) hs rfl (by omega) (by omega) rfl ?_
          rw [hs1 a (by omega)]
          refine go_Si (nx := 50) [_] kc_X7_161 (m_ones rfl (row_lt _ _)) dX7_person_47 rfl rfl (Nat.le_of_ble_eq_true rfl) (Nat.le_of_ble_eq_true rfl) ⟨Nat.le_refl _, Nat.le_refl _⟩ rfl (fun rh4 h4 hqh4 => ?_)
          obtain ⟨rfl, rfl⟩ := hqh4
          refine go_goto 76 dX7_person_50 rfl ?_
          rw [show popc (row ν.1 a) = acq ν.1 a from popc_bits _]
          refine go_reti dX7_person_76 ⟨_, rfl, rfl⟩ ?_
          refine ⟨?_, H, hZ⟩
          rw [fPerson, if_pos (tbn0 c10), if_neg (show ¬ _ = nI 0 from c25), if_pos (show _ = nI 1 from c38), cl_nI (by omega)]
      · skip
        refine go_aload_n 0 (nx := 29) dX7_person_28 rfl rfl rfl ?_
        refine go_iload_n 1 (nx := 30) dX7_person_29 rfl rfl rfl ?_
        refine go_Vi (nx := 33) [_] kc_X7_158 ⟨_, _, rfl⟩ (by omega) hM (m_countOf hn HO HS hP hwN.1 rfl (by omega)) dX7_person_30 rfl rfl (Nat.le_of_ble_eq_true rfl) (Nat.le_of_ble_eq_true rfl) ⟨Nat.le_refl _, Nat.le_refl _⟩ rfl (fun rh4 h4 hqh4 => ?_)
        obtain ⟨rfl, rfl⟩ := hqh4
        refine go_goto 76 dX7_person_33 rfl ?_
        skip
        refine go_reti dX7_person_76 ⟨_, rfl, rfl⟩ ?_
        refine ⟨?_, H, hZ⟩
        rw [fPerson, if_pos (tbn0 c10), if_pos (show _ = nI 0 from c25), cl_nI (by omega)]
    · skip
      refine go_iconst (v := (-1)) (nx := 23) dX7_person_22 (by decide) rfl ?_
      refine go_reti dX7_person_23 ⟨_, rfl, rfl⟩ ?_
      refine ⟨?_, H, hZ⟩
      have e := tb0 c19
      by_cases ep : perB T x = true
      · rw [fPerson, if_pos ep, if_neg (in_ne e (by decide) (by decide)), if_neg (in_ne e (by decide) (by decide)), if_neg (in_ne e (by decide) (by decide)), if_neg (in_ne e (by decide) (by decide))]
      · rw [fPerson, if_neg ep]
theorem m_law {G : kG} {n sz : Nat} {h : kH} {tx : Nat → Nat} {ν : mN} {i0 i1 : Option mN} {T : mT} {tr : Int64} {x : Int32} (hn : 49 ≤ n) (H : oM G (tx, sz, ν, i0, i1, T, tr) h) (W : wS (tx, sz, ν, i0, i1, T, tr)) : Spi G mX7_law 0 [.ref (kb G + 37), .int x] n h (fun v h' => v = fLaw T x ∧ oM G (tx, sz, ν, i0, i1, T, tr) h' ∧ kFr 37 49 h h') := by
  obtain ⟨hwT, hwN, hY, hw0, hw1, hsz, htx⟩ := id W
  have hwT : wT T := hwT
  have hwN : wN T.1 ν := hwN
  have hY : ν.2.2.2.1 ≤ 99 := hY
  have hsz : sz ≤ 400 := hsz
  have hP := hwT.1
  obtain ⟨⟨F, HO⟩, -⟩ := id H
  have hM : h 37 = .inr (7, [.int (F 0), .long tr, .ref (kb G + 38), .int (nI sz), .int (F 4), .int (F 5), .int (F 6), .int (F 7), .int (F 8), .ref (kb G + 39), .ref (kb G + 40), .int (nI T.1), .int (F 12), .int (nI T.2.2.2.1), .int (F 14), .int (nI T.2.2.2.2.1), .int (F 16), .int (nI T.2.2.2.2.2), .int (F 18), .int (F 19), .int (F 20), .ref (kb G + 41), .ref (kb G + 42), .ref (kb G + 43), .ref (kb G + 44), .ref (kb G + 45), .ref (kb G + 46), .ref (kb G + 47), .ref (kb G + 48)]) := HO
  refine Spi.of (by decide) (Nat.le_of_ble_eq_true rfl) ?_
  refine Go.loc (lv' := [(0, _), (1, _)]) rfl ?_
  refine go_aload_n 0 (nx := 1) dX7_law_0 rfl rfl rfl ?_
  refine go_iconst (v := nI 0) (nx := 2) dX7_law_1 (by decide) rfl ?_
  refine go_pf (fs' := [_, _, _, _, _, _, _, _, _, _, _, _, _, _, _, _, _, _, _, _, _, _, _, _, _, _, _, _, _]) (nx := 5) (fp_X7_51 _) dX7_law_2 (by omega) hM (Nat.le_of_ble_eq_true rfl) ⟨rfl, rfl⟩ rfl rfl (fun h1 eh1 fh1 => ?_)
  have hM := eh1
  have hZ : kFr 37 49 h h1 := fun j hj => fh1 j (by omega)
  have H := H.setO (F := upd F 0 (nI 0)) (tr := tr) hM (fun j hj => fh1 j (by omega))
  have H : oM G (tx, sz, ν, i0, i1, T, tr) h1 := H
  obtain ⟨⟨F5, HO⟩, HTm, HKt, HH, HS, HSp, HKe, HRi, HPa, HAh, HDo⟩ := id H
  have HO : mO G F5 tr sz T h1 := HO
  have HTm : oTm G tx sz h1 := HTm
  have HKt : oKt G T h1 := HKt
  have HH : oHab G T h1 := HH
  have HS : oS G ν h1 := HS
  have HKe : oKe G i0 i1 h1 := HKe
  have hM : h1 37 = .inr (7, [.int (F5 0), .long tr, .ref (kb G + 38), .int (nI sz), .int (F5 4), .int (F5 5), .int (F5 6), .int (F5 7), .int (F5 8), .ref (kb G + 39), .ref (kb G + 40), .int (nI T.1), .int (F5 12), .int (nI T.2.2.2.1), .int (F5 14), .int (nI T.2.2.2.2.1), .int (F5 16), .int (nI T.2.2.2.2.2), .int (F5 18), .int (F5 19), .int (F5 20), .ref (kb G + 41), .ref (kb G + 42), .ref (kb G + 43), .ref (kb G + 44), .ref (kb G + 45), .ref (kb G + 46), .ref (kb G + 47), .ref (kb G + 48)]) := HO
  obtain ⟨sa, hs, hs1, hs2, hs3, hs4, hs5⟩ := id HS
  refine go_iload_n 1 (nx := 6) dX7_law_5 rfl rfl rfl ?_
  refine go_if_ne 16 (nx := 9) dX7_law_6 rfl rfl (fun c6 => ?_) (fun c6 => ?_)
  · skip
    refine go_iload_n 1 (nx := 17) dX7_law_16 rfl rfl rfl ?_
    refine go_iconst (v := nI 1) (nx := 18) dX7_law_17 (by decide) rfl ?_
    refine go_icmp_ne 28 (nx := 21) dX7_law_18 rfl rfl (fun c18 => ?_) (fun c18 => ?_)
    · skip
      refine go_iload_n 1 (nx := 29) dX7_law_28 rfl rfl rfl ?_
      refine go_iconst (v := nI 2) (nx := 30) dX7_law_29 (by decide) rfl ?_
      refine go_icmp_ne 40 (nx := 33) dX7_law_30 rfl rfl (fun c30 => ?_) (fun c30 => ?_)
      · skip
        refine go_iconst (v := (-1)) (nx := 41) dX7_law_40 (by decide) rfl ?_
        refine go_reti dX7_law_41 ⟨_, rfl, rfl⟩ ?_
        refine ⟨?_, H, hZ⟩
        rw [fLaw, if_neg (show ¬ _ = nI 0 from c6), if_neg (show ¬ _ = nI 1 from c18), if_neg (show ¬ _ = nI 2 from c30)]
      · skip
        refine go_aload_n 0 (nx := 34) dX7_law_33 rfl rfl rfl ?_
        refine go_gf (nx := 37) fg_X7_140 dX7_law_34 (by omega) hM rfl rfl ?_
        refine go_goto 41 dX7_law_37 rfl ?_
        refine go_reti dX7_law_41 ⟨_, rfl, rfl⟩ ?_
        refine ⟨?_, H, hZ⟩
        rw [fLaw, if_neg (show ¬ _ = nI 0 from c6), if_neg (show ¬ _ = nI 1 from c18), if_pos (show _ = nI 2 from c30)]
    · skip
      refine go_aload_n 0 (nx := 22) dX7_law_21 rfl rfl rfl ?_
      refine go_gf (nx := 25) fg_X7_44 dX7_law_22 (by omega) hM rfl rfl ?_
      refine go_goto 41 dX7_law_25 rfl ?_
      refine go_reti dX7_law_41 ⟨_, rfl, rfl⟩ ?_
      refine ⟨?_, H, hZ⟩
      rw [fLaw, if_neg (show ¬ _ = nI 0 from c6), if_pos (show _ = nI 1 from c18)]
  · skip
    refine go_aload_n 0 (nx := 10) dX7_law_9 rfl rfl rfl ?_
    refine go_gf (nx := 13) fg_X7_143 dX7_law_10 (by omega) hM rfl rfl ?_
    refine go_goto 41 dX7_law_13 rfl ?_
    refine go_reti dX7_law_41 ⟨_, rfl, rfl⟩ ?_
    refine ⟨?_, H, hZ⟩
    rw [fLaw, if_pos (show _ = nI 0 from c6)]
theorem m_chosen {G : kG} {n sz : Nat} {h : kH} {tx : Nat → Nat} {ν : mN} {i0 i1 : Option mN} {T : mT} {tr : Int64} (hn : 49 ≤ n) (H : oM G (tx, sz, ν, i0, i1, T, tr) h) (W : wS (tx, sz, ν, i0, i1, T, tr)) : Spi G mX7_chosen 3 [.ref (kb G + 37)] n h (fun v h' => v = fChosen T ν ∧ oM G (tx, sz, ν, i0, i1, T, tr) h' ∧ kFr 37 49 h h') := by
  obtain ⟨hwT, hwN, hY, hw0, hw1, hsz, htx⟩ := id W
  have hwT : wT T := hwT
  have hwN : wN T.1 ν := hwN
  have hY : ν.2.2.2.1 ≤ 99 := hY
  have hsz : sz ≤ 400 := hsz
  have hP := hwT.1
  obtain ⟨⟨F, HO⟩, -⟩ := id H
  have hM : h 37 = .inr (7, [.int (F 0), .long tr, .ref (kb G + 38), .int (nI sz), .int (F 4), .int (F 5), .int (F 6), .int (F 7), .int (F 8), .ref (kb G + 39), .ref (kb G + 40), .int (nI T.1), .int (F 12), .int (nI T.2.2.2.1), .int (F 14), .int (nI T.2.2.2.2.1), .int (F 16), .int (nI T.2.2.2.2.2), .int (F 18), .int (F 19), .int (F 20), .ref (kb G + 41), .ref (kb G + 42), .ref (kb G + 43), .ref (kb G + 44), .ref (kb G + 45), .ref (kb G + 46), .ref (kb G + 47), .ref (kb G + 48)]) := HO
  refine Spi.of (by decide) (Nat.le_of_ble_eq_true rfl) ?_
  refine Go.loc (lv' := [(0, _)]) rfl ?_
  refine go_aload_n 0 (nx := 1) dX7_chosen_0 rfl rfl rfl ?_
  refine go_iconst (v := nI 0) (nx := 2) dX7_chosen_1 (by decide) rfl ?_
  refine go_pf (fs' := [_, _, _, _, _, _, _, _, _, _, _, _, _, _, _, _, _, _, _, _, _, _, _, _, _, _, _, _, _]) (nx := 5) (fp_X7_51 _) dX7_chosen_2 (by omega) hM (Nat.le_of_ble_eq_true rfl) ⟨rfl, rfl⟩ rfl rfl (fun h1 eh1 fh1 => ?_)
  have hM := eh1
  have hZ : kFr 37 49 h h1 := fun j hj => fh1 j (by omega)
  have H := H.setO (F := upd F 0 (nI 0)) (tr := tr) hM (fun j hj => fh1 j (by omega))
  have H : oM G (tx, sz, ν, i0, i1, T, tr) h1 := H
  obtain ⟨⟨F5, HO⟩, HTm, HKt, HH, HS, HSp, HKe, HRi, HPa, HAh, HDo⟩ := id H
  have HO : mO G F5 tr sz T h1 := HO
  have HTm : oTm G tx sz h1 := HTm
  have HKt : oKt G T h1 := HKt
  have HH : oHab G T h1 := HH
  have HS : oS G ν h1 := HS
  have HKe : oKe G i0 i1 h1 := HKe
  have hM : h1 37 = .inr (7, [.int (F5 0), .long tr, .ref (kb G + 38), .int (nI sz), .int (F5 4), .int (F5 5), .int (F5 6), .int (F5 7), .int (F5 8), .ref (kb G + 39), .ref (kb G + 40), .int (nI T.1), .int (F5 12), .int (nI T.2.2.2.1), .int (F5 14), .int (nI T.2.2.2.2.1), .int (F5 16), .int (nI T.2.2.2.2.2), .int (F5 18), .int (F5 19), .int (F5 20), .ref (kb G + 41), .ref (kb G + 42), .ref (kb G + 43), .ref (kb G + 44), .ref (kb G + 45), .ref (kb G + 46), .ref (kb G + 47), .ref (kb G + 48)]) := HO
  obtain ⟨sa, hs, hs1, hs2, hs3, hs4, hs5⟩ := id HS
  refine go_aload_n 0 (nx := 6) dX7_chosen_5 rfl rfl rfl ?_
  refine go_gf (nx := 9) fg_X7_137 dX7_chosen_6 (by omega) hM rfl rfl ?_
  refine go_if_ne 17 (nx := 12) dX7_chosen_9 rfl rfl (fun c9 => ?_) (fun c9 => ?_)
  · skip
    have hP0 : ¬ T.1 = 0 := fun e => c9 (by rw [e]; rfl)
    refine go_aload_n 0 (nx := 18) dX7_chosen_17 rfl rfl rfl ?_
    refine go_Vi (nx := 21) [] kc_X7_167 ⟨_, _, rfl⟩ (by omega) hM (m_chosenNow hn HO HS hwT hwN (by omega) (by omega)) dX7_chosen_18 rfl rfl (Nat.le_of_ble_eq_true rfl) (Nat.le_of_ble_eq_true rfl) ⟨Nat.le_refl _, Nat.le_refl _⟩ rfl (fun rh2 h2 hqh2 => ?_)
    obtain ⟨rfl, rfl⟩ := hqh2
    refine go_reti dX7_chosen_21 ⟨_, rfl, rfl⟩ ?_
    refine ⟨?_, H, hZ⟩
    rw [fChosen, if_neg hP0]
  · skip
    refine go_bipush (v := (-2)) (nx := 14) dX7_chosen_12 (by decide) rfl ?_
    refine go_goto 21 dX7_chosen_14 rfl ?_
    refine go_reti dX7_chosen_21 ⟨_, rfl, rfl⟩ ?_
    refine ⟨?_, H, hZ⟩
    rw [fChosen, if_pos (keq (b := 0) c9 (by omega) (by decide))]
theorem m_now {G : kG} {n sz : Nat} {h : kH} {tx : Nat → Nat} {ν : mN} {i0 i1 : Option mN} {T : mT} {tr : Int64} {x : Int32} (hn : 49 ≤ n) (H : oM G (tx, sz, ν, i0, i1, T, tr) h) (W : wS (tx, sz, ν, i0, i1, T, tr)) : Spi G mX7_now 2 [.ref (kb G + 37), .int x] n h (fun v h' => v = fNow ν x ∧ oM G (tx, sz, ν, i0, i1, T, tr) h' ∧ kFr 37 49 h h') := by
  obtain ⟨hwT, hwN, hY, hw0, hw1, hsz, htx⟩ := id W
  have hwT : wT T := hwT
  have hwN : wN T.1 ν := hwN
  have hY : ν.2.2.2.1 ≤ 99 := hY
  have hsz : sz ≤ 400 := hsz
  have hP := hwT.1
  obtain ⟨⟨F, HO⟩, -⟩ := id H
  have hM : h 37 = .inr (7, [.int (F 0), .long tr, .ref (kb G + 38), .int (nI sz), .int (F 4), .int (F 5), .int (F 6), .int (F 7), .int (F 8), .ref (kb G + 39), .ref (kb G + 40), .int (nI T.1), .int (F 12), .int (nI T.2.2.2.1), .int (F 14), .int (nI T.2.2.2.2.1), .int (F 16), .int (nI T.2.2.2.2.2), .int (F 18), .int (F 19), .int (F 20), .ref (kb G + 41), .ref (kb G + 42), .ref (kb G + 43), .ref (kb G + 44), .ref (kb G + 45), .ref (kb G + 46), .ref (kb G + 47), .ref (kb G + 48)]) := HO
  refine Spi.of (by decide) (Nat.le_of_ble_eq_true rfl) ?_
  refine Go.loc (lv' := [(0, _), (1, _)]) rfl ?_
  refine go_aload_n 0 (nx := 1) dX7_now_0 rfl rfl rfl ?_
  refine go_iconst (v := nI 0) (nx := 2) dX7_now_1 (by decide) rfl ?_
  refine go_pf (fs' := [_, _, _, _, _, _, _, _, _, _, _, _, _, _, _, _, _, _, _, _, _, _, _, _, _, _, _, _, _]) (nx := 5) (fp_X7_51 _) dX7_now_2 (by omega) hM (Nat.le_of_ble_eq_true rfl) ⟨rfl, rfl⟩ rfl rfl (fun h1 eh1 fh1 => ?_)
  have hM := eh1
  have hZ : kFr 37 49 h h1 := fun j hj => fh1 j (by omega)
  have H := H.setO (F := upd F 0 (nI 0)) (tr := tr) hM (fun j hj => fh1 j (by omega))
  have H : oM G (tx, sz, ν, i0, i1, T, tr) h1 := H
  obtain ⟨⟨F5, HO⟩, HTm, HKt, HH, HS, HSp, HKe, HRi, HPa, HAh, HDo⟩ := id H
  have HO : mO G F5 tr sz T h1 := HO
  have HTm : oTm G tx sz h1 := HTm
  have HKt : oKt G T h1 := HKt
  have HH : oHab G T h1 := HH
  have HS : oS G ν h1 := HS
  have HKe : oKe G i0 i1 h1 := HKe
  have hM : h1 37 = .inr (7, [.int (F5 0), .long tr, .ref (kb G + 38), .int (nI sz), .int (F5 4), .int (F5 5), .int (F5 6), .int (F5 7), .int (F5 8), .ref (kb G + 39), .ref (kb G + 40), .int (nI T.1), .int (F5 12), .int (nI T.2.2.2.1), .int (F5 14), .int (nI T.2.2.2.2.1), .int (F5 16), .int (nI T.2.2.2.2.2), .int (F5 18), .int (F5 19), .int (F5 20), .ref (kb G + 41), .ref (kb G + 42), .ref (kb G + 43), .ref (kb G + 44), .ref (kb G + 45), .ref (kb G + 46), .ref (kb G + 47), .ref (kb G + 48)]) := HO
  obtain ⟨sa, hs, hs1, hs2, hs3, hs4, hs5⟩ := id HS
  refine go_iload_n 1 (nx := 6) dX7_now_5 rfl rfl rfl ?_
  refine go_if_ne 19 (nx := 9) dX7_now_6 rfl rfl (fun c6 => ?_) (fun c6 => ?_)
  · skip
    refine go_iload_n 1 (nx := 20) dX7_now_19 rfl rfl rfl ?_
    refine go_iconst (v := nI 1) (nx := 21) dX7_now_20 (by decide) rfl ?_
    refine go_icmp_ne 34 (nx := 24) dX7_now_21 rfl rfl (fun c21 => ?_) (fun c21 => ?_)
    · skip
      refine go_iload_n 1 (nx := 35) dX7_now_34 rfl rfl rfl ?_
      refine go_iconst (v := nI 2) (nx := 36) dX7_now_35 (by decide) rfl ?_
      refine go_icmp_ne 46 (nx := 39) dX7_now_36 rfl rfl (fun c36 => ?_) (fun c36 => ?_)
      · skip
        refine go_iconst (v := (-1)) (nx := 47) dX7_now_46 (by decide) rfl ?_
        refine go_reti dX7_now_47 ⟨_, rfl, rfl⟩ ?_
        refine ⟨?_, H, hZ⟩
        rw [fNow, if_neg (show ¬ _ = nI 0 from c6), if_neg (show ¬ _ = nI 1 from c21), if_neg (show ¬ _ = nI 2 from c36)]
      · skip
        refine go_aload_n 0 (nx := 40) dX7_now_39 rfl rfl rfl ?_
        refine go_Vi (nx := 43) [] kc_X7_177 ⟨_, _, rfl⟩ (by omega) hM (m_countAll hn HO HS hP hwN.1) dX7_now_40 rfl rfl (Nat.le_of_ble_eq_true rfl) (Nat.le_of_ble_eq_true rfl) ⟨Nat.le_refl _, Nat.le_refl _⟩ rfl (fun rh2 h2 hqh2 => ?_)
        obtain ⟨rfl, rfl⟩ := hqh2
        refine go_goto 47 dX7_now_43 rfl ?_
        refine go_reti dX7_now_47 ⟨_, rfl, rfl⟩ ?_
        refine ⟨?_, H, hZ⟩
        rw [fNow, if_neg (show ¬ _ = nI 0 from c6), if_neg (show ¬ _ = nI 1 from c21), if_pos (show _ = nI 2 from c36)]
    · skip
      refine go_aload_n 0 (nx := 25) dX7_now_24 rfl rfl rfl ?_
      refine go_gf (nx := 28) fg_X7_19 dX7_now_25 (by omega) hM rfl rfl ?_
      refine go_bipush (v := nI 81) (nx := 30) dX7_now_28 (by decide) rfl ?_
      refine go_ial (81) (nx := 31) dX7_now_30 (by omega) hs rfl (by omega) (by omega) rfl ?_
      rw [hs5]
      refine go_goto 47 dX7_now_31 rfl ?_
      refine go_reti dX7_now_47 ⟨_, rfl, rfl⟩ ?_
      refine ⟨?_, H, hZ⟩
      rw [fNow, if_neg (show ¬ _ = nI 0 from c6), if_pos (show _ = nI 1 from c21)]
  · skip
    refine go_aload_n 0 (nx := 10) dX7_now_9 rfl rfl rfl ?_
    refine go_gf (nx := 13) fg_X7_19 dX7_now_10 (by omega) hM rfl rfl ?_
    refine go_bipush (v := nI 72) (nx := 15) dX7_now_13 (by decide) rfl ?_
    refine go_ial (72) (nx := 16) dX7_now_15 (by omega) hs rfl (by omega) (by omega) rfl ?_
    rw [hs3]
    refine go_goto 47 dX7_now_16 rfl ?_
    refine go_reti dX7_now_47 ⟨_, rfl, rfl⟩ ?_
    refine ⟨?_, H, hZ⟩
    rw [fNow, if_pos (show _ = nI 0 from c6)]
theorem m_trace {G : kG} {n sz : Nat} {h : kH} {tx : Nat → Nat} {ν : mN} {i0 i1 : Option mN} {T : mT} {tr : Int64} (hn : 49 ≤ n) (H : oM G (tx, sz, ν, i0, i1, T, tr) h) (W : wS (tx, sz, ν, i0, i1, T, tr)) : Spl G mX7_trace 0 [.ref (kb G + 37)] n h (fun v h' => v = tr ∧ oM G (tx, sz, ν, i0, i1, T, tr) h' ∧ kFr 37 49 h h') := by
  obtain ⟨hwT, hwN, hY, hw0, hw1, hsz, htx⟩ := id W
  have hwT : wT T := hwT
  have hwN : wN T.1 ν := hwN
  have hY : ν.2.2.2.1 ≤ 99 := hY
  have hsz : sz ≤ 400 := hsz
  have hP := hwT.1
  obtain ⟨⟨F, HO⟩, -⟩ := id H
  have hM : h 37 = .inr (7, [.int (F 0), .long tr, .ref (kb G + 38), .int (nI sz), .int (F 4), .int (F 5), .int (F 6), .int (F 7), .int (F 8), .ref (kb G + 39), .ref (kb G + 40), .int (nI T.1), .int (F 12), .int (nI T.2.2.2.1), .int (F 14), .int (nI T.2.2.2.2.1), .int (F 16), .int (nI T.2.2.2.2.2), .int (F 18), .int (F 19), .int (F 20), .ref (kb G + 41), .ref (kb G + 42), .ref (kb G + 43), .ref (kb G + 44), .ref (kb G + 45), .ref (kb G + 46), .ref (kb G + 47), .ref (kb G + 48)]) := HO
  refine Spl.of (by decide) (Nat.le_of_ble_eq_true rfl) ?_
  refine go_aload_n 0 (nx := 1) dX7_trace_0 rfl rfl rfl ?_
  refine go_iconst (v := nI 0) (nx := 2) dX7_trace_1 (by decide) rfl ?_
  refine go_pf (fs' := [_, _, _, _, _, _, _, _, _, _, _, _, _, _, _, _, _, _, _, _, _, _, _, _, _, _, _, _, _]) (nx := 5) (fp_X7_51 _) dX7_trace_2 (by omega) hM (Nat.le_of_ble_eq_true rfl) ⟨rfl, rfl⟩ rfl rfl (fun h1 eh1 fh1 => ?_)
  have hM := eh1
  have hZ : kFr 37 49 h h1 := fun j hj => fh1 j (by omega)
  have H := H.setO (F := upd F 0 (nI 0)) (tr := tr) hM (fun j hj => fh1 j (by omega))
  have H : oM G (tx, sz, ν, i0, i1, T, tr) h1 := H
  obtain ⟨⟨F5, HO⟩, HTm, HKt, HH, HS, HSp, HKe, HRi, HPa, HAh, HDo⟩ := id H
  have HO : mO G F5 tr sz T h1 := HO
  have HTm : oTm G tx sz h1 := HTm
  have HKt : oKt G T h1 := HKt
  have HH : oHab G T h1 := HH
  have HS : oS G ν h1 := HS
  have HKe : oKe G i0 i1 h1 := HKe
  have hM : h1 37 = .inr (7, [.int (F5 0), .long tr, .ref (kb G + 38), .int (nI sz), .int (F5 4), .int (F5 5), .int (F5 6), .int (F5 7), .int (F5 8), .ref (kb G + 39), .ref (kb G + 40), .int (nI T.1), .int (F5 12), .int (nI T.2.2.2.1), .int (F5 14), .int (nI T.2.2.2.2.1), .int (F5 16), .int (nI T.2.2.2.2.2), .int (F5 18), .int (F5 19), .int (F5 20), .ref (kb G + 41), .ref (kb G + 42), .ref (kb G + 43), .ref (kb G + 44), .ref (kb G + 45), .ref (kb G + 46), .ref (kb G + 47), .ref (kb G + 48)]) := HO
  obtain ⟨sa, hs, hs1, hs2, hs3, hs4, hs5⟩ := id HS
  refine go_aload_n 0 (nx := 6) dX7_trace_5 rfl rfl rfl ?_
  refine go_gf (nx := 9) fg_X7_220 dX7_trace_6 (by omega) hM rfl rfl ?_
  refine go_retl dX7_trace_9 rfl ?_
  exact ⟨rfl, H, hZ⟩
