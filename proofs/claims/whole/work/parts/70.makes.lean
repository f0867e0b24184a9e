/-! WHAT MAKES CELLS: rules with a fresh heap; the constructors -/
def Spn (G : kG) (M : kM) (κ : kZ) (as : List Value) (n : Nat) (h : kH) (m : Nat) (Q : kH → Prop) : Prop := Sp G M κ as n h (fun r n' h' => r = none ∧ n' = n + m ∧ Q h')
def kQn (M : kM) (κ : kZ) (nn : Nat) (Q : kH → Prop) : Option Value → kZ → kH → Prop := fun r z h' => z.2.1 ≤ κ.2.1 ∧ z.2.2 ≤ κ.2.2 ∧ kTy M r ∧ r = none ∧ z.1 = nn ∧ Q h'
theorem Spn.of {G : kG} {M : kM} {κ : kZ} {as : List Value} {n m : Nat} {h : kH} {Q : kH → Prop} (hy : plainName M.1.cls = true) (hlen : (lg_sl as).length ≤ M.2.2.1) (H : Go G M κ 0 (lv_args 0 as) [] (n, 0, 0) h (kQn M κ (n + m) Q)) : Spn G M κ as n h m Q := Sp.of hy hlen H
theorem Spn.mono {G : kG} {M : kM} {κ : kZ} {as : List Value} {n m : Nat} {h : kH} {Q Q' : kH → Prop} (H : Spn G M κ as n h m Q) (hq : ∀ h', Q h' → Q' h') : Spn G M κ as n h m Q' := Sp.mono H (fun r n' h' q => ⟨q.1, q.2.1, hq h' q.2.2⟩)
section KMK
variable {G : kG} {M M' : kM} {κ : kZ} {n cs sl : Nat} {pc nx idx na : Nat} {lv : List (Nat × Value)} {st rest : List Value} {h : kH} {Q : Option Value → kZ → kH → Prop}
theorem go_nw {ci N : Nat} {fs : List Value} (ce : kNew M.1.cls idx ci N fs) (hd : decode M.2.1 pc = .ok (.new idx, 3)) (hc1 : cs + 1 ≤ κ.2.1) (hs1 : sl + N ≤ κ.2.2) (hn : pc + 3 = nx) (kk : ∀ h' : kH, h' n = .inr (ci, fs) → (∀ j, j ≠ n → h' j = h j) → Go G M κ nx lv (.ref (kb G + n) :: st) (n + 1, cs + 1, sl + N) h' Q) : Go G M κ pc lv st (n, cs, sl) h Q :=
  go_new ce hd hc1 hs1 hn (kk _ (hu_self _ _ _) fun _ hj => hu_ne _ _ hj)
theorem go_na {x : Int32} (N : Nat) (hd : decode M.2.1 pc = .ok (.newarray .int, 2)) (hx : x = nI N) (hN : N ≤ 100000) (hc1 : cs + 1 ≤ κ.2.1) (hs1 : sl + N ≤ κ.2.2) (hn : pc + 2 = nx) (kk : ∀ h' : kH, h' n = .inl (G.2.1, N, .inl fun _ => 0) → (∀ j, j ≠ n → h' j = h j) → Go G M κ nx lv (.ref (kb G + n) :: st) (n + 1, cs + 1, sl + N) h' Q) : Go G M κ pc lv (.int x :: st) (n, cs, sl) h Q :=
  go_newarray (at0 := .int) (ty := .int) (cA := G.2.1) N rfl (Or.inl ⟨rfl, rfl⟩) kw_intArray hd hx hN hc1 hs1 hn (kk _ (hu_self _ _ _) fun _ hj => hu_ne _ _ hj)
theorem go_naB {x : Int32} (N : Nat) (hd : decode M.2.1 pc = .ok (.newarray .boolean, 2)) (hx : x = nI N) (hN : N ≤ 100000) (hc1 : cs + 1 ≤ κ.2.1) (hs1 : sl + N ≤ κ.2.2) (hn : pc + 2 = nx) (kk : ∀ h' : kH, h' n = .inl (G.2.2.1, N, .inl fun _ => 0) → (∀ j, j ≠ n → h' j = h j) → Go G M κ nx lv (.ref (kb G + n) :: st) (n + 1, cs + 1, sl + N) h' Q) : Go G M κ pc lv (.int x :: st) (n, cs, sl) h Q :=
  go_newarray (at0 := .boolean) (ty := .boolean) (cA := G.2.2.1) N rfl (Or.inr ⟨rfl, rfl⟩) kw_boolArray hd hx hN hc1 hs1 hn (kk _ (hu_self _ _ _) fun _ hj => hu_ne _ _ hj)
theorem go_mkI {i m k' c' s' : Nat} {Q' : kH → Prop} (as : List Value) (ce : kCI M.1.cls idx M' na) (hsp : Spn G M' (k', c', s') (.ref (kb G + i) :: as) n h m Q') (hd : decode M.2.1 pc = .ok (.invokespecial idx, 3)) (hst : st = as.reverse ++ .ref (kb G + i) :: rest) (hna : as.length = na) (hcat : (rest.map fun v => v.category).sum ≤ 8) (hκ : k' + 1 ≤ κ.1 ∧ cs + c' ≤ κ.2.1 ∧ sl + s' ≤ κ.2.2) (hn : pc + 3 = nx)
    (kk : ∀ h', Q' h' → Go G M κ nx lv rest (n + m, cs + c', sl + s') h' Q) : Go G M κ pc lv st (n, cs, sl) h Q := by
  refine go_callI (κ' := (k', c', s')) as ce hsp hd hst hna hcat hκ hn ?_
  rintro r n' h' ⟨rfl, rfl, hq⟩
  exact kk h' hq
theorem go_mkN {i m k' c' s' : Nat} {Q' : kH → Prop} (as : List Value) (ce : kCIN M.1.cls idx M' na) (hsp : Spn G M' (k', c', s') (.ref (kb G + i) :: as) n h m Q') (hd : decode M.2.1 pc = .ok (.invokespecial idx, 3)) (hst : st = as.reverse ++ .ref (kb G + i) :: rest) (hna : as.length = na) (hcat : (rest.map fun v => v.category).sum ≤ 8) (hκ : k' + 1 ≤ κ.1 ∧ cs + c' ≤ κ.2.1 ∧ sl + s' ≤ κ.2.2) (hn : pc + 3 = nx)
    (kk : ∀ h', Q' h' → Go G M κ nx lv rest (n + m, cs + c', sl + s') h' Q) : Go G M κ pc lv st (n, cs, sl) h Q := by
  refine go_callIN (κ' := (k', c', s')) as ce hsp hd hst hna hcat hκ hn ?_
  rintro r n' h' ⟨rfl, rfl, hq⟩
  exact kk h' hq
theorem go_retn {nn : Nat} {Q : kH → Prop} (hd : decode M.2.1 pc = .ok (.return_, 1)) (hty : M.2.2.2 = none) (he : n = nn) (hc1 : cs ≤ κ.2.1) (hs1 : sl ≤ κ.2.2) (hq : Q h) : Go G M κ pc lv [] (n, cs, sl) h (kQn M κ nn Q) := go_return hd ⟨hc1, hs1, hty, rfl, he, hq⟩
end KMK
theorem c_Text {G : kG} {i : Nat} {h : kH} (hh : h i = .inr (4, [.null, .int 0])) : Spn G mX4_init (0, 1, 400) [.ref (kb G + i)] (i + 1) h 1 (fun h' => h' i = .inr (4, [.ref (kb G + (i + 1)), .int 0]) ∧ h' (i + 1) = .inl (G.2.1, 400, .inl fun _ => 0) ∧ kFr i (i + 2) h h') := by
  refine Spn.of (by decide) (Nat.le_of_ble_eq_true rfl) ?_
  refine go_aload_n 0 (nx := 1) dX4_init_0 rfl rfl rfl ?_
  refine go_objInit (nx := 4) ko_X4_3 dX4_init_1 (Nat.le_of_ble_eq_true rfl) rfl ?_
  refine go_aload_n 0 (nx := 5) dX4_init_4 rfl rfl rfl ?_
  refine go_sipush (v := nI 400) (nx := 8) dX4_init_5 (by decide) rfl ?_
  refine go_na (400) (nx := 10) dX4_init_8 rfl (Nat.le_of_ble_eq_true rfl) (Nat.le_of_ble_eq_true rfl) (Nat.le_of_ble_eq_true rfl) rfl (fun h1 eh1 fh1 => ?_)
  have hh := (fh1 (i) (by omega)).trans hh
  have hby := eh1
  refine go_pf (fs' := [_, _]) (nx := 13) fp_X4_9 dX4_init_10 (by omega) hh (Nat.le_of_ble_eq_true rfl) ⟨rfl, rfl⟩ rfl rfl (fun h2 eh2 fh2 => ?_)
  have hby := (fh2 (i + 1) (by omega)).trans hby
  have hh := eh2
  refine go_retn dX4_init_13 rfl (by omega) (Nat.le_of_ble_eq_true rfl) (Nat.le_of_ble_eq_true rfl) ?_
  exact ⟨hh, hby, fun j hj => by rw [fh2 j (by omega), fh1 j (by omega)]⟩
theorem c_Reader {G : kG} {i : Nat} {h : kH} (hh : h i = .inr (3, [.null, .null, .int 0, .int 0, .int 0, .int 0])) : Spn G mX3_init (0, 2, 802) [.ref (kb G + i)] (i + 1) h 2 (fun h' => h' i = .inr (3, [.ref (kb G + (i + 1)), .ref (kb G + (i + 1 + 1)), .int 0, .int 0, .int 0, .int 0]) ∧ h' (i + 1) = .inl (G.2.1, 401, .inl fun _ => 0) ∧ h' (i + 1 + 1) = .inl (G.2.1, 401, .inl fun _ => 0) ∧ kFr i (i + 3) h h') := by
  refine Spn.of (by decide) (Nat.le_of_ble_eq_true rfl) ?_
  refine go_aload_n 0 (nx := 1) dX3_init_0 rfl rfl rfl ?_
  refine go_objInit (nx := 4) ko_X3_3 dX3_init_1 (Nat.le_of_ble_eq_true rfl) rfl ?_
  refine go_aload_n 0 (nx := 5) dX3_init_4 rfl rfl rfl ?_
  refine go_sipush (v := nI 401) (nx := 8) dX3_init_5 (by decide) rfl ?_
  refine go_na (401) (nx := 10) dX3_init_8 rfl (Nat.le_of_ble_eq_true rfl) (Nat.le_of_ble_eq_true rfl) (Nat.le_of_ble_eq_true rfl) rfl (fun h1 eh1 fh1 => ?_)
  have hh := (fh1 (i) (by omega)).trans hh
  have ha := eh1
  refine go_pf (fs' := [_, _, _, _, _, _]) (nx := 13) fp_X3_9 dX3_init_10 (by omega) hh (Nat.le_of_ble_eq_true rfl) ⟨rfl, rfl⟩ rfl rfl (fun h2 eh2 fh2 => ?_)
  have ha := (fh2 (i + 1) (by omega)).trans ha
  have hh := eh2
  refine go_aload_n 0 (nx := 14) dX3_init_13 rfl rfl rfl ?_
  refine go_sipush (v := nI 401) (nx := 17) dX3_init_14 (by decide) rfl ?_
  refine go_na (401) (nx := 19) dX3_init_17 rfl (Nat.le_of_ble_eq_true rfl) (Nat.le_of_ble_eq_true rfl) (Nat.le_of_ble_eq_true rfl) rfl (fun h3 eh3 fh3 => ?_)
  have hh := (fh3 (i) (by omega)).trans hh
  have ha := (fh3 (i + 1) (by omega)).trans ha
  have hb := eh3
  refine go_pf (fs' := [_, _, _, _, _, _]) (nx := 22) fp_X3_15 dX3_init_19 (by omega) hh (Nat.le_of_ble_eq_true rfl) ⟨rfl, rfl⟩ rfl rfl (fun h4 eh4 fh4 => ?_)
  have ha := (fh4 (i + 1) (by omega)).trans ha
  have hb := (fh4 (i + 1 + 1) (by omega)).trans hb
  have hh := eh4
  refine go_retn dX3_init_22 rfl (by omega) (Nat.le_of_ble_eq_true rfl) (Nat.le_of_ble_eq_true rfl) ?_
  exact ⟨hh, ha, hb, fun j hj => by rw [fh4 j (by omega), fh3 j (by omega), fh2 j (by omega), fh1 j (by omega)]⟩
theorem c_Now {G : kG} {q : Nat} {h : kH} (hh : h q = .inr (2, [.null, .null, .null, .null, .int 0, .int 0, .int 0])) : Spn G mX2_init (0, 4, 88) [.ref (kb G + q)] (q + 1) h 4 (fun h' => aNow G q h' ∧ kFr q (q + 5) h h') := by
  refine Spn.of (by decide) (Nat.le_of_ble_eq_true rfl) ?_
  refine go_aload_n 0 (nx := 1) dX2_init_0 rfl rfl rfl ?_
  refine go_objInit (nx := 4) ko_X2_3 dX2_init_1 (Nat.le_of_ble_eq_true rfl) rfl ?_
  refine go_aload_n 0 (nx := 5) dX2_init_4 rfl rfl rfl ?_
  refine go_bipush (v := nI 8) (nx := 7) dX2_init_5 (by decide) rfl ?_
  refine go_na (8) (nx := 9) dX2_init_7 rfl (Nat.le_of_ble_eq_true rfl) (Nat.le_of_ble_eq_true rfl) (Nat.le_of_ble_eq_true rfl) rfl (fun h1 eh1 fh1 => ?_)
  have hh := (fh1 (q) (by omega)).trans hh
  have ha := eh1
  refine go_pf (fs' := [_, _, _, _, _, _, _]) (nx := 12) fp_X2_9 dX2_init_9 (by omega) hh (Nat.le_of_ble_eq_true rfl) ⟨rfl, rfl⟩ rfl rfl (fun h2 eh2 fh2 => ?_)
  have ha := (fh2 (q + 1) (by omega)).trans ha
  have hh := eh2
  refine go_aload_n 0 (nx := 13) dX2_init_12 rfl rfl rfl ?_
  refine go_bipush (v := nI 8) (nx := 15) dX2_init_13 (by decide) rfl ?_
  refine go_na (8) (nx := 17) dX2_init_15 rfl (Nat.le_of_ble_eq_true rfl) (Nat.le_of_ble_eq_true rfl) (Nat.le_of_ble_eq_true rfl) rfl (fun h3 eh3 fh3 => ?_)
  have hh := (fh3 (q) (by omega)).trans hh
  have ha := (fh3 (q + 1) (by omega)).trans ha
  have hb := eh3
  refine go_pf (fs' := [_, _, _, _, _, _, _]) (nx := 20) fp_X2_15 dX2_init_17 (by omega) hh (Nat.le_of_ble_eq_true rfl) ⟨rfl, rfl⟩ rfl rfl (fun h4 eh4 fh4 => ?_)
  have ha := (fh4 (q + 1) (by omega)).trans ha
  have hb := (fh4 (q + 1 + 1) (by omega)).trans hb
  have hh := eh4
  refine go_aload_n 0 (nx := 21) dX2_init_20 rfl rfl rfl ?_
  refine go_bipush (v := nI 64) (nx := 23) dX2_init_21 (by decide) rfl ?_
  refine go_na (64) (nx := 25) dX2_init_23 rfl (Nat.le_of_ble_eq_true rfl) (Nat.le_of_ble_eq_true rfl) (Nat.le_of_ble_eq_true rfl) rfl (fun h5 eh5 fh5 => ?_)
  have hh := (fh5 (q) (by omega)).trans hh
  have ha := (fh5 (q + 1) (by omega)).trans ha
  have hb := (fh5 (q + 1 + 1) (by omega)).trans hb
  have hc := eh5
  refine go_pf (fs' := [_, _, _, _, _, _, _]) (nx := 28) fp_X2_18 dX2_init_25 (by omega) hh (Nat.le_of_ble_eq_true rfl) ⟨rfl, rfl⟩ rfl rfl (fun h6 eh6 fh6 => ?_)
  have ha := (fh6 (q + 1) (by omega)).trans ha
  have hb := (fh6 (q + 1 + 1) (by omega)).trans hb
  have hc := (fh6 (q + 1 + 1 + 1) (by omega)).trans hc
  have hh := eh6
  refine go_aload_n 0 (nx := 29) dX2_init_28 rfl rfl rfl ?_
  refine go_bipush (v := nI 8) (nx := 31) dX2_init_29 (by decide) rfl ?_
  refine go_na (8) (nx := 33) dX2_init_31 rfl (Nat.le_of_ble_eq_true rfl) (Nat.le_of_ble_eq_true rfl) (Nat.le_of_ble_eq_true rfl) rfl (fun h7 eh7 fh7 => ?_)
  have hh := (fh7 (q) (by omega)).trans hh
  have ha := (fh7 (q + 1) (by omega)).trans ha
  have hb := (fh7 (q + 1 + 1) (by omega)).trans hb
  have hc := (fh7 (q + 1 + 1 + 1) (by omega)).trans hc
  have hd := eh7
  refine go_pf (fs' := [_, _, _, _, _, _, _]) (nx := 36) fp_X2_21 dX2_init_33 (by omega) hh (Nat.le_of_ble_eq_true rfl) ⟨rfl, rfl⟩ rfl rfl (fun h8 eh8 fh8 => ?_)
  have ha := (fh8 (q + 1) (by omega)).trans ha
  have hb := (fh8 (q + 1 + 1) (by omega)).trans hb
  have hc := (fh8 (q + 1 + 1 + 1) (by omega)).trans hc
  have hd := (fh8 (q + 1 + 1 + 1 + 1) (by omega)).trans hd
  have hh := eh8
  refine go_retn dX2_init_36 rfl (by omega) (Nat.le_of_ble_eq_true rfl) (Nat.le_of_ble_eq_true rfl) ?_
  exact ⟨⟨_, _, _, _, _, _, _, hh, ha, hb, hc, hd⟩, fun j hj => by rw [fh8 j (by omega), fh7 j (by omega), fh6 j (by omega), fh5 j (by omega), fh4 j (by omega), fh3 j (by omega), fh2 j (by omega), fh1 j (by omega)]⟩
theorem c_Image {G : kG} {i : Nat} {h : kH} (hh : h i = .inr (1, [.null, .int 0])) : Spn G mX1_init (1, 5, 95) [.ref (kb G + i)] (i + 1) h 5 (fun h' => oImg G i none h' ∧ kFr i (i + 6) h h') := by
  refine Spn.of (by decide) (Nat.le_of_ble_eq_true rfl) ?_
  refine go_aload_n 0 (nx := 1) dX1_init_0 rfl rfl rfl ?_
  refine go_objInit (nx := 4) ko_X1_1 dX1_init_1 (Nat.le_of_ble_eq_true rfl) rfl ?_
  refine go_aload_n 0 (nx := 5) dX1_init_4 rfl rfl rfl ?_
  refine go_nw (nx := 8) kn_X1_7 dX1_init_5 (Nat.le_of_ble_eq_true rfl) (Nat.le_of_ble_eq_true rfl) rfl (fun h1 eh1 fh1 => ?_)
  have hh := (fh1 (i) (by omega)).trans hh
  have hN := eh1
  refine go_dup (nx := 9) dX1_init_8 rfl rfl ?_
  refine go_mkN (nx := 12) [] kc_X1_9 (c_Now hN) dX1_init_9 rfl rfl (Nat.le_of_ble_eq_true rfl) ⟨Nat.le_of_ble_eq_true rfl, Nat.le_of_ble_eq_true rfl, Nat.le_of_ble_eq_true rfl⟩ rfl (fun h2 hqh2 => ?_)
  obtain ⟨hA, gh2⟩ := hqh2
  have hh := (gh2 i (by omega)).trans hh
  refine go_pf (fs' := [_, _]) (nx := 15) fp_X1_10 dX1_init_12 (by omega) hh (Nat.le_of_ble_eq_true rfl) ⟨rfl, rfl⟩ rfl rfl (fun h3 eh3 fh3 => ?_)
  have hh := eh3
  refine go_retn dX1_init_15 rfl (by omega) (Nat.le_of_ble_eq_true rfl) (Nat.le_of_ble_eq_true rfl) ?_
  have fx : kFr i (i + 1) h2 h3 := fun j hj => fh3 j (by omega)
  exact ⟨⟨hh, hA.fr fx (by omega)⟩, fun j hj => by rw [fh3 j (by omega), gh2 j (by omega), fh1 j (by omega)]⟩
theorem c_Fore {G : kG} {f : Nat} {h : kH} (hh : h f = .inr (0, [.null, .int 0, .null, .null])) : Spn G mX0_init (1, 7, 118) [.ref (kb G + f)] (f + 1) h 7 (fun h' => ((∃ (rw : Nat → Int32) (fa : Int32) (ru : Nat → Int32), rFore G f rw fa ru h') ∧ aNow G (f + 2) h') ∧ kFr f (f + 8) h h') := by
  refine Spn.of (by decide) (Nat.le_of_ble_eq_true rfl) ?_
  refine go_aload_n 0 (nx := 1) dX0_init_0 rfl rfl rfl ?_
  refine go_objInit (nx := 4) ko_X0_3 dX0_init_1 (Nat.le_of_ble_eq_true rfl) rfl ?_
  refine go_aload_n 0 (nx := 5) dX0_init_4 rfl rfl rfl ?_
  refine go_iconst (v := nI 3) (nx := 6) dX0_init_5 (by decide) rfl ?_
  refine go_na (3) (nx := 8) dX0_init_6 rfl (Nat.le_of_ble_eq_true rfl) (Nat.le_of_ble_eq_true rfl) (Nat.le_of_ble_eq_true rfl) rfl (fun h1 eh1 fh1 => ?_)
  have hh := (fh1 (f) (by omega)).trans hh
  have ha := eh1
  refine go_pf (fs' := [_, _, _, _]) (nx := 11) fp_X0_9 dX0_init_8 (by omega) hh (Nat.le_of_ble_eq_true rfl) ⟨rfl, rfl⟩ rfl rfl (fun h2 eh2 fh2 => ?_)
  have ha := (fh2 (f + 1) (by omega)).trans ha
  have hh := eh2
  refine go_aload_n 0 (nx := 12) dX0_init_11 rfl rfl rfl ?_
  refine go_nw (nx := 15) kn_X0_15 dX0_init_12 (Nat.le_of_ble_eq_true rfl) (Nat.le_of_ble_eq_true rfl) rfl (fun h3 eh3 fh3 => ?_)
  have hh := (fh3 (f) (by omega)).trans hh
  have ha := (fh3 (f + 1) (by omega)).trans ha
  have hN := eh3
  refine go_dup (nx := 16) dX0_init_15 rfl rfl ?_
  refine go_mkN (nx := 19) [] kc_X0_17 (c_Now (q := f + 2) hN) dX0_init_16 rfl rfl (Nat.le_of_ble_eq_true rfl) ⟨Nat.le_of_ble_eq_true rfl, Nat.le_of_ble_eq_true rfl, Nat.le_of_ble_eq_true rfl⟩ rfl (fun h4 hqh4 => ?_)
  obtain ⟨hA, gh4⟩ := hqh4
  have hh := (gh4 f (by omega)).trans hh
  have ha := (gh4 (f + 1) (by omega)).trans ha
  refine go_pf (fs' := [_, _, _, _]) (nx := 22) fp_X0_18 dX0_init_19 (by omega) hh (Nat.le_of_ble_eq_true rfl) ⟨rfl, rfl⟩ rfl rfl (fun h5 eh5 fh5 => ?_)
  have ha := (fh5 (f + 1) (by omega)).trans ha
  have hh := eh5
  refine go_aload_n 0 (nx := 23) dX0_init_22 rfl rfl rfl ?_
  refine go_bipush (v := nI 20) (nx := 25) dX0_init_23 (by decide) rfl ?_
  refine go_na (20) (nx := 27) dX0_init_25 rfl (Nat.le_of_ble_eq_true rfl) (Nat.le_of_ble_eq_true rfl) (Nat.le_of_ble_eq_true rfl) rfl (fun h6 eh6 fh6 => ?_)
  have hh := (fh6 (f) (by omega)).trans hh
  have ha := (fh6 (f + 1) (by omega)).trans ha
  have hb := eh6
  refine go_pf (fs' := [_, _, _, _]) (nx := 30) fp_X0_22 dX0_init_27 (by omega) hh (Nat.le_of_ble_eq_true rfl) ⟨rfl, rfl⟩ rfl rfl (fun h7 eh7 fh7 => ?_)
  have ha := (fh7 (f + 1) (by omega)).trans ha
  have hb := (fh7 (f + 7) (by omega)).trans hb
  have hh := eh7
  refine go_retn dX0_init_30 rfl (by omega) (Nat.le_of_ble_eq_true rfl) (Nat.le_of_ble_eq_true rfl) ?_
  have fx : kFr f (f + 1) h4 h5 := fun j hj => fh5 j (by omega)
  have fy : kFr (f + 7) (f + 8) h5 h6 := fun j hj => fh6 j (by omega)
  have fz : kFr f (f + 1) h6 h7 := fun j hj => fh7 j (by omega)
  exact ⟨⟨⟨_, _, _, hh, ha, hb⟩, ((hA.fr fx (by omega)).fr fy (by omega)).fr fz (by omega)⟩, fun j hj => by rw [fh7 j (by omega), fh6 j (by omega), fh5 j (by omega), gh4 j (by omega), fh3 j (by omega), fh2 j (by omega), fh1 j (by omega)]⟩
theorem c_Town {G : kG} {t : Nat} {h : kH} (hh : h t = .inr (5, [.null, .null, .int 0, .int 0, .int 0, .int 0])) : Spn G mX5_init (2, 2, 16) [.ref (kb G + t)] (t + 1) h 2 (fun h' => oTown G t T0 h' ∧ kFr t (t + 3) h h') := by
  refine Spn.of (by decide) (Nat.le_of_ble_eq_true rfl) ?_
  refine go_aload_n 0 (nx := 1) dX5_init_0 rfl rfl rfl ?_
  refine go_objInit (nx := 4) ko_X5_3 dX5_init_1 (Nat.le_of_ble_eq_true rfl) rfl ?_
  refine go_aload_n 0 (nx := 5) dX5_init_4 rfl rfl rfl ?_
  refine go_bipush (v := nI 8) (nx := 7) dX5_init_5 (by decide) rfl ?_
  refine go_na (8) (nx := 9) dX5_init_7 rfl (Nat.le_of_ble_eq_true rfl) (Nat.le_of_ble_eq_true rfl) (Nat.le_of_ble_eq_true rfl) rfl (fun h1 eh1 fh1 => ?_)
  have hh := (fh1 (t) (by omega)).trans hh
  have ha := eh1
  refine go_pf (fs' := [_, _, _, _, _, _]) (nx := 12) fp_X5_9 dX5_init_9 (by omega) hh (Nat.le_of_ble_eq_true rfl) ⟨rfl, rfl⟩ rfl rfl (fun h2 eh2 fh2 => ?_)
  have ha := (fh2 (t + 1) (by omega)).trans ha
  have hh := eh2
  refine go_aload_n 0 (nx := 13) dX5_init_12 rfl rfl rfl ?_
  refine go_bipush (v := nI 8) (nx := 15) dX5_init_13 (by decide) rfl ?_
  refine go_na (8) (nx := 17) dX5_init_15 rfl (Nat.le_of_ble_eq_true rfl) (Nat.le_of_ble_eq_true rfl) (Nat.le_of_ble_eq_true rfl) rfl (fun h3 eh3 fh3 => ?_)
  have hh := (fh3 (t) (by omega)).trans hh
  have ha := (fh3 (t + 1) (by omega)).trans ha
  have hb := eh3
  refine go_pf (fs' := [_, _, _, _, _, _]) (nx := 20) fp_X5_15 dX5_init_17 (by omega) hh (Nat.le_of_ble_eq_true rfl) ⟨rfl, rfl⟩ rfl rfl (fun h4 eh4 fh4 => ?_)
  have ha := (fh4 (t + 1) (by omega)).trans ha
  have hb := (fh4 (t + 1 + 1) (by omega)).trans hb
  have hh := eh4
  refine go_aload_n 0 (nx := 21) dX5_init_20 rfl rfl rfl ?_
  refine go_Vv (nx := 24) [] kc_X5_18 ⟨_, _, rfl⟩ (by omega) hh (s_empty (t := t) (by omega) ⟨_, _, _, _, _, _, hh, ha, hb⟩) dX5_init_21 rfl rfl (Nat.le_of_ble_eq_true rfl) (Nat.le_of_ble_eq_true rfl) ⟨Nat.le_of_ble_eq_true rfl, Nat.le_of_ble_eq_true rfl⟩ rfl (fun h5 hqh5 => ?_)
  obtain ⟨hTo, hFh5⟩ := hqh5
  refine go_retn dX5_init_24 rfl (by omega) (Nat.le_of_ble_eq_true rfl) (Nat.le_of_ble_eq_true rfl) ?_
  exact ⟨hTo, fun j hj => by rw [hFh5 j (by omega), fh4 j (by omega), fh3 j (by omega), fh2 j (by omega), fh1 j (by omega)]⟩
