/-! the reference is made -/
theorem l_mhab {G : kG} {h0 : kH} {F : Nat → Int32} : ∀ (d p : Nat) (h : kH) (ba : Nat → Int32), 8 - p < d → p ≤ 8 → mO G F 0 0 T0 h → h 40 = .inl (G.2.1, 16, .inl ba) → (∀ j, j < p → ba j = -9) → h 38 = .inl (G.2.1, 400, .inl fun _ => 0) → h 39 = .inl (G.2.1, 16, .inl fun _ => 0) → h 41 = .inl (G.2.1, 82, .inl fun _ => 0) → h 42 = .inl (G.2.1, 82, .inl fun _ => 0) → h 43 = .inl (G.2.1, 164, .inl fun _ => 0) → h 44 = .inl (G.2.2.1, 2, .inl fun _ => 0) → h 45 = .inl (G.2.1, 40, .inl fun _ => 0) → h 46 = .inl (G.2.1, 3, .inl fun _ => 0) → h 47 = .inl (G.2.1, 24, .inl fun _ => 0) → h 48 = .inl (G.2.1, 3, .inl fun _ => 0) → kFr 37 49 h0 h → Go G mX7_init (1, 11, 832) 98 [(1, .int (nI p)), (0, .ref (kb G + 37))] [] (49, 11, 832) h (kQn mX7_init (1, 11, 832) (38 + 11) (fun h' => oM G S0 h' ∧ kFr 37 49 h0 h')) := by
  intro d
  induction d with
  | zero => intro p h ba hd; omega
  | succ d ih =>
    intro p h ba hd hp HO hc40 hj hc38 hc39 hc41 hc42 hc43 hc44 hc45 hc46 hc47 hc48 hZ
    have hM : h 37 = .inr (7, [.int (F 0), .long 0, .ref (kb G + 38), .int (nI 0), .int (F 4), .int (F 5), .int (F 6), .int (F 7), .int (F 8), .ref (kb G + 39), .ref (kb G + 40), .int (nI T0.1), .int (F 12), .int (nI T0.2.2.2.1), .int (F 14), .int (nI T0.2.2.2.2.1), .int (F 16), .int (nI T0.2.2.2.2.2), .int (F 18), .int (F 19), .int (F 20), .ref (kb G + 41), .ref (kb G + 42), .ref (kb G + 43), .ref (kb G + 44), .ref (kb G + 45), .ref (kb G + 46), .ref (kb G + 47), .ref (kb G + 48)]) := HO
    refine go_iload_n 0 (nx := 99) dX7_init_98 rfl rfl rfl ?_
    refine go_bipush (v := nI 8) (nx := 101) dX7_init_99 (by decide) rfl ?_
    refine go_icmp_ge 118 (nx := 104) dX7_init_101 rfl rfl (fun c101 => ?_) (fun c101 => ?_)
    · skip
      refine go_aload_n 1 (nx := 119) dX7_init_118 rfl rfl rfl ?_
      have hk0 : ∀ p, p < 8 → (0 : Int32) = nI (row T0.2.1 p) := by decide +kernel
      refine go_Vv (nx := 122) [] kc_X7_48 ⟨_, _, rfl⟩ (by omega) hM (m_begins (tx := fun _ => 0) (ν := nAnew T0) (i0 := none) (i1 := none) (F := F) (T := T0) (sz := 0) (tr := 0) (by omega) hM ⟨_, hc39, hk0⟩ ⟨_, hc41⟩) dX7_init_119 rfl rfl (Nat.le_of_ble_eq_true rfl) (Nat.le_of_ble_eq_true rfl) ⟨Nat.le_of_ble_eq_true rfl, Nat.le_of_ble_eq_true rfl⟩ rfl (fun h1 hqh1 => ?_)
      obtain ⟨hSn, gB⟩ := hqh1
      refine go_retn dX7_init_122 rfl (by omega) (Nat.le_of_ble_eq_true rfl) (Nat.le_of_ble_eq_true rfl) ?_
      have e8 : p = 8 := by have := kle c101; omega
      subst e8
      have gZ := hZ.tr (gB.wide (by omega) (by omega) : kFr 37 49 _ _)
      exact ⟨⟨⟨F, (gB 37 (by omega)).trans hM⟩, ⟨_, (gB 38 (by omega)).trans hc38, fun j hj => absurd hj (Nat.not_lt_zero j)⟩, ⟨_, (gB 39 (by omega)).trans hc39, hk0⟩, ⟨_, (gB 40 (by omega)).trans hc40, hj⟩, hSn, ⟨_, (gB 42 (by omega)).trans hc42⟩, ⟨_, _, (gB 43 (by omega)).trans hc43, (gB 44 (by omega)).trans hc44, rfl, rfl, fun μ e => (nomatch e), fun μ e => (nomatch e)⟩, ⟨_, (gB 45 (by omega)).trans hc45⟩, ⟨_, (gB 46 (by omega)).trans hc46⟩, ⟨_, (gB 47 (by omega)).trans hc47⟩, ⟨_, (gB 48 (by omega)).trans hc48⟩⟩, gZ⟩
    · skip
      have h8 := knle c101
      refine go_aload_n 1 (nx := 105) dX7_init_104 rfl rfl rfl ?_
      refine go_gf (nx := 108) fg_X7_16 dX7_init_105 (by omega) hM rfl rfl ?_
      refine go_iload_n 0 (nx := 109) dX7_init_108 rfl rfl rfl ?_
      refine go_bipush (v := (-9)) (nx := 111) dX7_init_109 (by decide) rfl ?_
      refine go_ias (p) (nx := 112) dX7_init_111 (by omega) hc40 rfl (by omega) (by omega) rfl (fun h1 eh1 fh1 => ?_)
      have hc38 := (fh1 (38) (by omega)).trans hc38
      have hc39 := (fh1 (39) (by omega)).trans hc39
      have hc41 := (fh1 (41) (by omega)).trans hc41
      have hc42 := (fh1 (42) (by omega)).trans hc42
      have hc43 := (fh1 (43) (by omega)).trans hc43
      have hc44 := (fh1 (44) (by omega)).trans hc44
      have hc45 := (fh1 (45) (by omega)).trans hc45
      have hc46 := (fh1 (46) (by omega)).trans hc46
      have hc47 := (fh1 (47) (by omega)).trans hc47
      have hc48 := (fh1 (48) (by omega)).trans hc48
      have hM := (fh1 (37) (by omega)).trans hM
      have hc40 := eh1
      refine go_iinc 0 (v := nI (p + 1)) (lv' := [_, _]) (nx := 115) dX7_init_112 rfl (nI_inc p) (by decide) rfl rfl ?_
      refine go_goto 98 dX7_init_115 rfl ?_
      refine Go.sub [0, 1] rfl ?_
      have fx : kFr 37 49 _ h1 := fun j hj => fh1 j (by omega)
      refine ih (p + 1) _ _ (by omega) (by omega) hM hc40 (fun j hj2 => ?_) hc38 hc39 hc41 hc42 hc43 hc44 hc45 hc46 hc47 hc48 (hZ.tr fx)
      by_cases e : j = p
      · subst e; rw [pk_us]
      · rw [pk_un e]; exact hj j (by omega)
theorem c_Model {G : kG} {h : kH} (hh : h 37 = .inr (7, [.int 0, .long 0, .null, .int 0, .int 0, .int 0, .int 0, .int 0, .int 0, .null, .null, .int 0, .int 0, .int 0, .int 0, .int 0, .int 0, .int 0, .int 0, .int 0, .int 0, .null, .null, .null, .null, .null, .null, .null, .null])) : Spn G mX7_init (1, 11, 832) [.ref (kb G + 37)] 38 h 11 (fun h' => oM G S0 h' ∧ kFr 37 49 h h') := by
  refine Spn.of (by decide) (Nat.le_of_ble_eq_true rfl) ?_
  refine go_aload_n 0 (nx := 1) dX7_init_0 rfl rfl rfl ?_
  refine go_objInit (nx := 4) ko_X7_1 dX7_init_1 (Nat.le_of_ble_eq_true rfl) rfl ?_
  refine go_aload_n 0 (nx := 5) dX7_init_4 rfl rfl rfl ?_
  refine go_sipush (v := nI 400) (nx := 8) dX7_init_5 (by decide) rfl ?_
  refine go_na (400) (nx := 10) dX7_init_8 rfl (Nat.le_of_ble_eq_true rfl) (Nat.le_of_ble_eq_true rfl) (Nat.le_of_ble_eq_true rfl) rfl (fun h1 eh1 fh1 => ?_)
  have hh := (fh1 (37) (by omega)).trans hh
  have hc38 := eh1
  have hc38 : h1 38 = .inl (G.2.1, 400, .inl fun _ => 0) := hc38
  refine go_pf (fs' := [_, _, _, _, _, _, _, _, _, _, _, _, _, _, _, _, _, _, _, _, _, _, _, _, _, _, _, _, _]) (nx := 13) fp_X7_7 dX7_init_10 (by omega) hh (Nat.le_of_ble_eq_true rfl) ⟨rfl, rfl⟩ rfl rfl (fun h2 eh2 fh2 => ?_)
  have hc38 := (fh2 (38) (by omega)).trans hc38
  have hh := eh2
  refine go_aload_n 0 (nx := 14) dX7_init_13 rfl rfl rfl ?_
  refine go_bipush (v := nI 16) (nx := 16) dX7_init_14 (by decide) rfl ?_
  refine go_na (16) (nx := 18) dX7_init_16 rfl (Nat.le_of_ble_eq_true rfl) (Nat.le_of_ble_eq_true rfl) (Nat.le_of_ble_eq_true rfl) rfl (fun h3 eh3 fh3 => ?_)
  have hh := (fh3 (37) (by omega)).trans hh
  have hc38 := (fh3 (38) (by omega)).trans hc38
  have hc39 := eh3
  have hc39 : h3 39 = .inl (G.2.1, 16, .inl fun _ => 0) := hc39
  refine go_pf (fs' := [_, _, _, _, _, _, _, _, _, _, _, _, _, _, _, _, _, _, _, _, _, _, _, _, _, _, _, _, _]) (nx := 21) fp_X7_13 dX7_init_18 (by omega) hh (Nat.le_of_ble_eq_true rfl) ⟨rfl, rfl⟩ rfl rfl (fun h4 eh4 fh4 => ?_)
  have hc38 := (fh4 (38) (by omega)).trans hc38
  have hc39 := (fh4 (39) (by omega)).trans hc39
  have hh := eh4
  refine go_aload_n 0 (nx := 22) dX7_init_21 rfl rfl rfl ?_
  refine go_bipush (v := nI 16) (nx := 24) dX7_init_22 (by decide) rfl ?_
  refine go_na (16) (nx := 26) dX7_init_24 rfl (Nat.le_of_ble_eq_true rfl) (Nat.le_of_ble_eq_true rfl) (Nat.le_of_ble_eq_true rfl) rfl (fun h5 eh5 fh5 => ?_)
  have hh := (fh5 (37) (by omega)).trans hh
  have hc38 := (fh5 (38) (by omega)).trans hc38
  have hc39 := (fh5 (39) (by omega)).trans hc39
  have hc40 := eh5
  have hc40 : h5 40 = .inl (G.2.1, 16, .inl fun _ => 0) := hc40
  refine go_pf (fs' := [_, _, _, _, _, _, _, _, _, _, _, _, _, _, _, _, _, _, _, _, _, _, _, _, _, _, _, _, _]) (nx := 29) fp_X7_16 dX7_init_26 (by omega) hh (Nat.le_of_ble_eq_true rfl) ⟨rfl, rfl⟩ rfl rfl (fun h6 eh6 fh6 => ?_)
  have hc38 := (fh6 (38) (by omega)).trans hc38
  have hc39 := (fh6 (39) (by omega)).trans hc39
  have hc40 := (fh6 (40) (by omega)).trans hc40
  have hh := eh6
  refine go_aload_n 0 (nx := 30) dX7_init_29 rfl rfl rfl ?_
  refine go_bipush (v := nI 82) (nx := 32) dX7_init_30 (by decide) rfl ?_
  refine go_na (82) (nx := 34) dX7_init_32 rfl (Nat.le_of_ble_eq_true rfl) (Nat.le_of_ble_eq_true rfl) (Nat.le_of_ble_eq_true rfl) rfl (fun h7 eh7 fh7 => ?_)
  have hh := (fh7 (37) (by omega)).trans hh
  have hc38 := (fh7 (38) (by omega)).trans hc38
  have hc39 := (fh7 (39) (by omega)).trans hc39
  have hc40 := (fh7 (40) (by omega)).trans hc40
  have hc41 := eh7
  have hc41 : h7 41 = .inl (G.2.1, 82, .inl fun _ => 0) := hc41
  refine go_pf (fs' := [_, _, _, _, _, _, _, _, _, _, _, _, _, _, _, _, _, _, _, _, _, _, _, _, _, _, _, _, _]) (nx := 37) fp_X7_19 dX7_init_34 (by omega) hh (Nat.le_of_ble_eq_true rfl) ⟨rfl, rfl⟩ rfl rfl (fun h8 eh8 fh8 => ?_)
  have hc38 := (fh8 (38) (by omega)).trans hc38
  have hc39 := (fh8 (39) (by omega)).trans hc39
  have hc40 := (fh8 (40) (by omega)).trans hc40
  have hc41 := (fh8 (41) (by omega)).trans hc41
  have hh := eh8
  refine go_aload_n 0 (nx := 38) dX7_init_37 rfl rfl rfl ?_
  refine go_bipush (v := nI 82) (nx := 40) dX7_init_38 (by decide) rfl ?_
  refine go_na (82) (nx := 42) dX7_init_40 rfl (Nat.le_of_ble_eq_true rfl) (Nat.le_of_ble_eq_true rfl) (Nat.le_of_ble_eq_true rfl) rfl (fun h9 eh9 fh9 => ?_)
  have hh := (fh9 (37) (by omega)).trans hh
  have hc38 := (fh9 (38) (by omega)).trans hc38
  have hc39 := (fh9 (39) (by omega)).trans hc39
  have hc40 := (fh9 (40) (by omega)).trans hc40
  have hc41 := (fh9 (41) (by omega)).trans hc41
  have hc42 := eh9
  have hc42 : h9 42 = .inl (G.2.1, 82, .inl fun _ => 0) := hc42
  refine go_pf (fs' := [_, _, _, _, _, _, _, _, _, _, _, _, _, _, _, _, _, _, _, _, _, _, _, _, _, _, _, _, _]) (nx := 45) fp_X7_22 dX7_init_42 (by omega) hh (Nat.le_of_ble_eq_true rfl) ⟨rfl, rfl⟩ rfl rfl (fun h10 eh10 fh10 => ?_)
  have hc38 := (fh10 (38) (by omega)).trans hc38
  have hc39 := (fh10 (39) (by omega)).trans hc39
  have hc40 := (fh10 (40) (by omega)).trans hc40
  have hc41 := (fh10 (41) (by omega)).trans hc41
  have hc42 := (fh10 (42) (by omega)).trans hc42
  have hh := eh10
  refine go_aload_n 0 (nx := 46) dX7_init_45 rfl rfl rfl ?_
  refine go_sipush (v := nI 164) (nx := 49) dX7_init_46 (by decide) rfl ?_
  refine go_na (164) (nx := 51) dX7_init_49 rfl (Nat.le_of_ble_eq_true rfl) (Nat.le_of_ble_eq_true rfl) (Nat.le_of_ble_eq_true rfl) rfl (fun h11 eh11 fh11 => ?_)
  have hh := (fh11 (37) (by omega)).trans hh
  have hc38 := (fh11 (38) (by omega)).trans hc38
  have hc39 := (fh11 (39) (by omega)).trans hc39
  have hc40 := (fh11 (40) (by omega)).trans hc40
  have hc41 := (fh11 (41) (by omega)).trans hc41
  have hc42 := (fh11 (42) (by omega)).trans hc42
  have hc43 := eh11
  have hc43 : h11 43 = .inl (G.2.1, 164, .inl fun _ => 0) := hc43
  refine go_pf (fs' := [_, _, _, _, _, _, _, _, _, _, _, _, _, _, _, _, _, _, _, _, _, _, _, _, _, _, _, _, _]) (nx := 54) fp_X7_25 dX7_init_51 (by omega) hh (Nat.le_of_ble_eq_true rfl) ⟨rfl, rfl⟩ rfl rfl (fun h12 eh12 fh12 => ?_)
  have hc38 := (fh12 (38) (by omega)).trans hc38
  have hc39 := (fh12 (39) (by omega)).trans hc39
  have hc40 := (fh12 (40) (by omega)).trans hc40
  have hc41 := (fh12 (41) (by omega)).trans hc41
  have hc42 := (fh12 (42) (by omega)).trans hc42
  have hc43 := (fh12 (43) (by omega)).trans hc43
  have hh := eh12
  refine go_aload_n 0 (nx := 55) dX7_init_54 rfl rfl rfl ?_
  refine go_iconst (v := nI 2) (nx := 56) dX7_init_55 (by decide) rfl ?_
  refine go_naB (2) (nx := 58) dX7_init_56 rfl (Nat.le_of_ble_eq_true rfl) (Nat.le_of_ble_eq_true rfl) (Nat.le_of_ble_eq_true rfl) rfl (fun h13 eh13 fh13 => ?_)
  have hh := (fh13 (37) (by omega)).trans hh
  have hc38 := (fh13 (38) (by omega)).trans hc38
  have hc39 := (fh13 (39) (by omega)).trans hc39
  have hc40 := (fh13 (40) (by omega)).trans hc40
  have hc41 := (fh13 (41) (by omega)).trans hc41
  have hc42 := (fh13 (42) (by omega)).trans hc42
  have hc43 := (fh13 (43) (by omega)).trans hc43
  have hc44 := eh13
  have hc44 : h13 44 = .inl (G.2.2.1, 2, .inl fun _ => 0) := hc44
  refine go_pf (fs' := [_, _, _, _, _, _, _, _, _, _, _, _, _, _, _, _, _, _, _, _, _, _, _, _, _, _, _, _, _]) (nx := 61) fp_X7_28 dX7_init_58 (by omega) hh (Nat.le_of_ble_eq_true rfl) ⟨rfl, rfl⟩ rfl rfl (fun h14 eh14 fh14 => ?_)
  have hc38 := (fh14 (38) (by omega)).trans hc38
  have hc39 := (fh14 (39) (by omega)).trans hc39
  have hc40 := (fh14 (40) (by omega)).trans hc40
  have hc41 := (fh14 (41) (by omega)).trans hc41
  have hc42 := (fh14 (42) (by omega)).trans hc42
  have hc43 := (fh14 (43) (by omega)).trans hc43
  have hc44 := (fh14 (44) (by omega)).trans hc44
  have hh := eh14
  refine go_aload_n 0 (nx := 62) dX7_init_61 rfl rfl rfl ?_
  refine go_bipush (v := nI 40) (nx := 64) dX7_init_62 (by decide) rfl ?_
  refine go_na (40) (nx := 66) dX7_init_64 rfl (Nat.le_of_ble_eq_true rfl) (Nat.le_of_ble_eq_true rfl) (Nat.le_of_ble_eq_true rfl) rfl (fun h15 eh15 fh15 => ?_)
  have hh := (fh15 (37) (by omega)).trans hh
  have hc38 := (fh15 (38) (by omega)).trans hc38
  have hc39 := (fh15 (39) (by omega)).trans hc39
  have hc40 := (fh15 (40) (by omega)).trans hc40
  have hc41 := (fh15 (41) (by omega)).trans hc41
  have hc42 := (fh15 (42) (by omega)).trans hc42
  have hc43 := (fh15 (43) (by omega)).trans hc43
  have hc44 := (fh15 (44) (by omega)).trans hc44
  have hc45 := eh15
  have hc45 : h15 45 = .inl (G.2.1, 40, .inl fun _ => 0) := hc45
  refine go_pf (fs' := [_, _, _, _, _, _, _, _, _, _, _, _, _, _, _, _, _, _, _, _, _, _, _, _, _, _, _, _, _]) (nx := 69) fp_X7_32 dX7_init_66 (by omega) hh (Nat.le_of_ble_eq_true rfl) ⟨rfl, rfl⟩ rfl rfl (fun h16 eh16 fh16 => ?_)
  have hc38 := (fh16 (38) (by omega)).trans hc38
  have hc39 := (fh16 (39) (by omega)).trans hc39
  have hc40 := (fh16 (40) (by omega)).trans hc40
  have hc41 := (fh16 (41) (by omega)).trans hc41
  have hc42 := (fh16 (42) (by omega)).trans hc42
  have hc43 := (fh16 (43) (by omega)).trans hc43
  have hc44 := (fh16 (44) (by omega)).trans hc44
  have hc45 := (fh16 (45) (by omega)).trans hc45
  have hh := eh16
  refine go_aload_n 0 (nx := 70) dX7_init_69 rfl rfl rfl ?_
  refine go_iconst (v := nI 3) (nx := 71) dX7_init_70 (by decide) rfl ?_
  refine go_na (3) (nx := 73) dX7_init_71 rfl (Nat.le_of_ble_eq_true rfl) (Nat.le_of_ble_eq_true rfl) (Nat.le_of_ble_eq_true rfl) rfl (fun h17 eh17 fh17 => ?_)
  have hh := (fh17 (37) (by omega)).trans hh
  have hc38 := (fh17 (38) (by omega)).trans hc38
  have hc39 := (fh17 (39) (by omega)).trans hc39
  have hc40 := (fh17 (40) (by omega)).trans hc40
  have hc41 := (fh17 (41) (by omega)).trans hc41
  have hc42 := (fh17 (42) (by omega)).trans hc42
  have hc43 := (fh17 (43) (by omega)).trans hc43
  have hc44 := (fh17 (44) (by omega)).trans hc44
  have hc45 := (fh17 (45) (by omega)).trans hc45
  have hc46 := eh17
  have hc46 : h17 46 = .inl (G.2.1, 3, .inl fun _ => 0) := hc46
  refine go_pf (fs' := [_, _, _, _, _, _, _, _, _, _, _, _, _, _, _, _, _, _, _, _, _, _, _, _, _, _, _, _, _]) (nx := 76) fp_X7_35 dX7_init_73 (by omega) hh (Nat.le_of_ble_eq_true rfl) ⟨rfl, rfl⟩ rfl rfl (fun h18 eh18 fh18 => ?_)
  have hc38 := (fh18 (38) (by omega)).trans hc38
  have hc39 := (fh18 (39) (by omega)).trans hc39
  have hc40 := (fh18 (40) (by omega)).trans hc40
  have hc41 := (fh18 (41) (by omega)).trans hc41
  have hc42 := (fh18 (42) (by omega)).trans hc42
  have hc43 := (fh18 (43) (by omega)).trans hc43
  have hc44 := (fh18 (44) (by omega)).trans hc44
  have hc45 := (fh18 (45) (by omega)).trans hc45
  have hc46 := (fh18 (46) (by omega)).trans hc46
  have hh := eh18
  refine go_aload_n 0 (nx := 77) dX7_init_76 rfl rfl rfl ?_
  refine go_bipush (v := nI 24) (nx := 79) dX7_init_77 (by decide) rfl ?_
  refine go_na (24) (nx := 81) dX7_init_79 rfl (Nat.le_of_ble_eq_true rfl) (Nat.le_of_ble_eq_true rfl) (Nat.le_of_ble_eq_true rfl) rfl (fun h19 eh19 fh19 => ?_)
  have hh := (fh19 (37) (by omega)).trans hh
  have hc38 := (fh19 (38) (by omega)).trans hc38
  have hc39 := (fh19 (39) (by omega)).trans hc39
  have hc40 := (fh19 (40) (by omega)).trans hc40
  have hc41 := (fh19 (41) (by omega)).trans hc41
  have hc42 := (fh19 (42) (by omega)).trans hc42
  have hc43 := (fh19 (43) (by omega)).trans hc43
  have hc44 := (fh19 (44) (by omega)).trans hc44
  have hc45 := (fh19 (45) (by omega)).trans hc45
  have hc46 := (fh19 (46) (by omega)).trans hc46
  have hc47 := eh19
  have hc47 : h19 47 = .inl (G.2.1, 24, .inl fun _ => 0) := hc47
  refine go_pf (fs' := [_, _, _, _, _, _, _, _, _, _, _, _, _, _, _, _, _, _, _, _, _, _, _, _, _, _, _, _, _]) (nx := 84) fp_X7_38 dX7_init_81 (by omega) hh (Nat.le_of_ble_eq_true rfl) ⟨rfl, rfl⟩ rfl rfl (fun h20 eh20 fh20 => ?_)
  have hc38 := (fh20 (38) (by omega)).trans hc38
  have hc39 := (fh20 (39) (by omega)).trans hc39
  have hc40 := (fh20 (40) (by omega)).trans hc40
  have hc41 := (fh20 (41) (by omega)).trans hc41
  have hc42 := (fh20 (42) (by omega)).trans hc42
  have hc43 := (fh20 (43) (by omega)).trans hc43
  have hc44 := (fh20 (44) (by omega)).trans hc44
  have hc45 := (fh20 (45) (by omega)).trans hc45
  have hc46 := (fh20 (46) (by omega)).trans hc46
  have hc47 := (fh20 (47) (by omega)).trans hc47
  have hh := eh20
  refine go_aload_n 0 (nx := 85) dX7_init_84 rfl rfl rfl ?_
  refine go_iconst (v := nI 3) (nx := 86) dX7_init_85 (by decide) rfl ?_
  refine go_na (3) (nx := 88) dX7_init_86 rfl (Nat.le_of_ble_eq_true rfl) (Nat.le_of_ble_eq_true rfl) (Nat.le_of_ble_eq_true rfl) rfl (fun h21 eh21 fh21 => ?_)
  have hh := (fh21 (37) (by omega)).trans hh
  have hc38 := (fh21 (38) (by omega)).trans hc38
  have hc39 := (fh21 (39) (by omega)).trans hc39
  have hc40 := (fh21 (40) (by omega)).trans hc40
  have hc41 := (fh21 (41) (by omega)).trans hc41
  have hc42 := (fh21 (42) (by omega)).trans hc42
  have hc43 := (fh21 (43) (by omega)).trans hc43
  have hc44 := (fh21 (44) (by omega)).trans hc44
  have hc45 := (fh21 (45) (by omega)).trans hc45
  have hc46 := (fh21 (46) (by omega)).trans hc46
  have hc47 := (fh21 (47) (by omega)).trans hc47
  have hc48 := eh21
  have hc48 : h21 48 = .inl (G.2.1, 3, .inl fun _ => 0) := hc48
  refine go_pf (fs' := [_, _, _, _, _, _, _, _, _, _, _, _, _, _, _, _, _, _, _, _, _, _, _, _, _, _, _, _, _]) (nx := 91) fp_X7_41 dX7_init_88 (by omega) hh (Nat.le_of_ble_eq_true rfl) ⟨rfl, rfl⟩ rfl rfl (fun h22 eh22 fh22 => ?_)
  have hc38 := (fh22 (38) (by omega)).trans hc38
  have hc39 := (fh22 (39) (by omega)).trans hc39
  have hc40 := (fh22 (40) (by omega)).trans hc40
  have hc41 := (fh22 (41) (by omega)).trans hc41
  have hc42 := (fh22 (42) (by omega)).trans hc42
  have hc43 := (fh22 (43) (by omega)).trans hc43
  have hc44 := (fh22 (44) (by omega)).trans hc44
  have hc45 := (fh22 (45) (by omega)).trans hc45
  have hc46 := (fh22 (46) (by omega)).trans hc46
  have hc47 := (fh22 (47) (by omega)).trans hc47
  have hc48 := (fh22 (48) (by omega)).trans hc48
  have hh := eh22
  refine go_aload_n 0 (nx := 92) dX7_init_91 rfl rfl rfl ?_
  refine go_iconst (v := nI 2) (nx := 93) dX7_init_92 (by decide) rfl ?_
  refine go_pf (fs' := [_, _, _, _, _, _, _, _, _, _, _, _, _, _, _, _, _, _, _, _, _, _, _, _, _, _, _, _, _]) (nx := 96) (fp_X7_44 _) dX7_init_93 (by omega) hh (Nat.le_of_ble_eq_true rfl) ⟨rfl, rfl⟩ rfl rfl (fun h23 eh23 fh23 => ?_)
  have hc38 := (fh23 (38) (by omega)).trans hc38
  have hc39 := (fh23 (39) (by omega)).trans hc39
  have hc40 := (fh23 (40) (by omega)).trans hc40
  have hc41 := (fh23 (41) (by omega)).trans hc41
  have hc42 := (fh23 (42) (by omega)).trans hc42
  have hc43 := (fh23 (43) (by omega)).trans hc43
  have hc44 := (fh23 (44) (by omega)).trans hc44
  have hc45 := (fh23 (45) (by omega)).trans hc45
  have hc46 := (fh23 (46) (by omega)).trans hc46
  have hc47 := (fh23 (47) (by omega)).trans hc47
  have hc48 := (fh23 (48) (by omega)).trans hc48
  have hh := eh23
  refine go_iconst (v := nI 0) (nx := 97) dX7_init_96 (by decide) rfl ?_
  refine go_istore_n (lv' := [_, _]) (nx := 98) dX7_init_97 rfl (by decide) rfl rfl ?_
  refine Go.sub [0, 1] rfl ?_
  have fx : kFr 37 49 h h23 := fun j hj => by rw [fh23 j (by omega), fh22 j (by omega), fh21 j (by omega), fh20 j (by omega), fh19 j (by omega), fh18 j (by omega), fh17 j (by omega), fh16 j (by omega), fh15 j (by omega), fh14 j (by omega), fh13 j (by omega), fh12 j (by omega), fh11 j (by omega), fh10 j (by omega), fh9 j (by omega), fh8 j (by omega), fh7 j (by omega), fh6 j (by omega), fh5 j (by omega), fh4 j (by omega), fh3 j (by omega), fh2 j (by omega), fh1 j (by omega)]
  exact l_mhab (F := fun _ => 0) 9 0 _ _ (by omega) (by omega) hh hc40 (fun j hj => absurd hj (Nat.not_lt_zero j)) hc38 hc39 hc41 hc42 hc43 hc44 hc45 hc46 hc47 hc48 fx
