/-! the object LeastKnown is made -/
def S0 : mS := (fun _ => 0, 0, nAnew T0, none, none, T0, 0)
theorem c_LeastKnown {G : kG} {h : kH} (hh : h 0 = .inr (6, [.null, .null, .null, .null, .null, .null, .null, .null, .long 0])) : Spn G mX6_init (3, 36, 1665) [.ref (kb G + 0)] 1 h 36 (fun h' => oX G 31 S0 h') := by
  refine Spn.of (by decide) (Nat.le_of_ble_eq_true rfl) ?_
  refine go_aload_n 0 (nx := 1) dX6_init_0 rfl rfl rfl ?_
  refine go_objInit (nx := 4) ko_X6_1 dX6_init_1 (Nat.le_of_ble_eq_true rfl) rfl ?_
  refine go_aload_n 0 (nx := 5) dX6_init_4 rfl rfl rfl ?_
  refine go_nw (nx := 8) kn_X6_7 dX6_init_5 (Nat.le_of_ble_eq_true rfl) (Nat.le_of_ble_eq_true rfl) rfl (fun h1 eh1 fh1 => ?_)
  have hh := (fh1 (0) (by omega)).trans hh
  have hNEW := eh1
  have hNEW : h1 1 = .inr (4, [.null, .int 0]) := hNEW
  have gN : kFr 1 2 _ h1 := fun j hj => fh1 j (by omega)
  refine go_dup (nx := 9) dX6_init_8 rfl rfl ?_
  refine go_mkN (nx := 12) [] kc_X6_9 (c_Text (i := 1) hNEW) dX6_init_9 rfl rfl (Nat.le_of_ble_eq_true rfl) ⟨Nat.le_of_ble_eq_true rfl, Nat.le_of_ble_eq_true rfl, Nat.le_of_ble_eq_true rfl⟩ rfl (fun h2 hqh2 => ?_)
  obtain ⟨hT0, hBy, gC⟩ := hqh2
  have hh := (gC 0 (by omega)).trans hh
  refine go_pf (fs' := [_, _, _, _, _, _, _, _, _]) (nx := 15) fp_X6_10 dX6_init_12 (by omega) hh (Nat.le_of_ble_eq_true rfl) ⟨rfl, rfl⟩ rfl rfl (fun h3 eh3 fh3 => ?_)
  have hh := eh3
  have gP : kFr 0 1 _ h3 := fun j hj => fh3 j (by omega)
  have hT0 := (gP 1 (by omega)).trans hT0
  have hBy := (gP 2 (by omega)).trans hBy
  refine go_aload_n 0 (nx := 16) dX6_init_15 rfl rfl rfl ?_
  refine go_nw (nx := 19) kn_X6_16 dX6_init_16 (Nat.le_of_ble_eq_true rfl) (Nat.le_of_ble_eq_true rfl) rfl (fun h4 eh4 fh4 => ?_)
  have hh := (fh4 (0) (by omega)).trans hh
  have hNEW := eh4
  have hNEW : h4 3 = .inr (3, [.null, .null, .int 0, .int 0, .int 0, .int 0]) := hNEW
  have gN : kFr 3 4 _ h4 := fun j hj => fh4 j (by omega)
  have hT0 := (gN 1 (by omega)).trans hT0
  have hBy := (gN 2 (by omega)).trans hBy
  refine go_dup (nx := 20) dX6_init_19 rfl rfl ?_
  refine go_mkN (nx := 23) [] kc_X6_18 (c_Reader (i := 3) hNEW) dX6_init_20 rfl rfl (Nat.le_of_ble_eq_true rfl) ⟨Nat.le_of_ble_eq_true rfl, Nat.le_of_ble_eq_true rfl, Nat.le_of_ble_eq_true rfl⟩ rfl (fun h5 hqh5 => ?_)
  obtain ⟨hR0, hR1, hR2, gC⟩ := hqh5
  have hh := (gC 0 (by omega)).trans hh
  have hT0 := (gC 1 (by omega)).trans hT0
  have hBy := (gC 2 (by omega)).trans hBy
  refine go_pf (fs' := [_, _, _, _, _, _, _, _, _]) (nx := 26) fp_X6_19 dX6_init_23 (by omega) hh (Nat.le_of_ble_eq_true rfl) ⟨rfl, rfl⟩ rfl rfl (fun h6 eh6 fh6 => ?_)
  have hh := eh6
  have gP : kFr 0 1 _ h6 := fun j hj => fh6 j (by omega)
  have hT0 := (gP 1 (by omega)).trans hT0
  have hBy := (gP 2 (by omega)).trans hBy
  have hR0 := (gP 3 (by omega)).trans hR0
  have hR1 := (gP 4 (by omega)).trans hR1
  have hR2 := (gP 5 (by omega)).trans hR2
  refine go_aload_n 0 (nx := 27) dX6_init_26 rfl rfl rfl ?_
  refine go_nw (nx := 30) kn_X6_23 dX6_init_27 (Nat.le_of_ble_eq_true rfl) (Nat.le_of_ble_eq_true rfl) rfl (fun h7 eh7 fh7 => ?_)
  have hh := (fh7 (0) (by omega)).trans hh
  have hNEW := eh7
  have hNEW : h7 6 = .inr (2, [.null, .null, .null, .null, .int 0, .int 0, .int 0]) := hNEW
  have gN : kFr 6 7 _ h7 := fun j hj => fh7 j (by omega)
  have hT0 := (gN 1 (by omega)).trans hT0
  have hBy := (gN 2 (by omega)).trans hBy
  have hR0 := (gN 3 (by omega)).trans hR0
  have hR1 := (gN 4 (by omega)).trans hR1
  have hR2 := (gN 5 (by omega)).trans hR2
  refine go_dup (nx := 31) dX6_init_30 rfl rfl ?_
  refine go_mkN (nx := 34) [] kc_X6_25 (c_Now (q := 6) hNEW) dX6_init_31 rfl rfl (Nat.le_of_ble_eq_true rfl) ⟨Nat.le_of_ble_eq_true rfl, Nat.le_of_ble_eq_true rfl, Nat.le_of_ble_eq_true rfl⟩ rfl (fun h8 hqh8 => ?_)
  obtain ⟨hNw, gC⟩ := hqh8
  have hh := (gC 0 (by omega)).trans hh
  have hT0 := (gC 1 (by omega)).trans hT0
  have hBy := (gC 2 (by omega)).trans hBy
  have hR0 := (gC 3 (by omega)).trans hR0
  have hR1 := (gC 4 (by omega)).trans hR1
  have hR2 := (gC 5 (by omega)).trans hR2
  have hNw : aNow G 6 _ := hNw
  refine go_pf (fs' := [_, _, _, _, _, _, _, _, _]) (nx := 37) fp_X6_26 dX6_init_34 (by omega) hh (Nat.le_of_ble_eq_true rfl) ⟨rfl, rfl⟩ rfl rfl (fun h9 eh9 fh9 => ?_)
  have hh := eh9
  have gP : kFr 0 1 _ h9 := fun j hj => fh9 j (by omega)
  have hT0 := (gP 1 (by omega)).trans hT0
  have hBy := (gP 2 (by omega)).trans hBy
  have hR0 := (gP 3 (by omega)).trans hR0
  have hR1 := (gP 4 (by omega)).trans hR1
  have hR2 := (gP 5 (by omega)).trans hR2
  have hNw := hNw.fr gP (by omega)
  refine go_aload_n 0 (nx := 38) dX6_init_37 rfl rfl rfl ?_
  refine go_nw (nx := 41) kn_X6_30 dX6_init_38 (Nat.le_of_ble_eq_true rfl) (Nat.le_of_ble_eq_true rfl) rfl (fun h10 eh10 fh10 => ?_)
  have hh := (fh10 (0) (by omega)).trans hh
  have hNEW := eh10
  have hNEW : h10 11 = .inr (1, [.null, .int 0]) := hNEW
  have gN : kFr 11 12 _ h10 := fun j hj => fh10 j (by omega)
  have hT0 := (gN 1 (by omega)).trans hT0
  have hBy := (gN 2 (by omega)).trans hBy
  have hR0 := (gN 3 (by omega)).trans hR0
  have hR1 := (gN 4 (by omega)).trans hR1
  have hR2 := (gN 5 (by omega)).trans hR2
  have hNw := hNw.fr gN (by omega)
  refine go_dup (nx := 42) dX6_init_41 rfl rfl ?_
  refine go_mkN (nx := 45) [] kc_X6_32 (c_Image (i := 11) hNEW) dX6_init_42 rfl rfl (Nat.le_of_ble_eq_true rfl) ⟨Nat.le_of_ble_eq_true rfl, Nat.le_of_ble_eq_true rfl, Nat.le_of_ble_eq_true rfl⟩ rfl (fun h11 hqh11 => ?_)
  obtain ⟨hIa, gC⟩ := hqh11
  have hh := (gC 0 (by omega)).trans hh
  have hT0 := (gC 1 (by omega)).trans hT0
  have hBy := (gC 2 (by omega)).trans hBy
  have hR0 := (gC 3 (by omega)).trans hR0
  have hR1 := (gC 4 (by omega)).trans hR1
  have hR2 := (gC 5 (by omega)).trans hR2
  have hNw := hNw.fr gC (by omega)
  have hIa : oImg G 11 none _ := hIa
  refine go_pf (fs' := [_, _, _, _, _, _, _, _, _]) (nx := 48) fp_X6_33 dX6_init_45 (by omega) hh (Nat.le_of_ble_eq_true rfl) ⟨rfl, rfl⟩ rfl rfl (fun h12 eh12 fh12 => ?_)
  have hh := eh12
  have gP : kFr 0 1 _ h12 := fun j hj => fh12 j (by omega)
  have hT0 := (gP 1 (by omega)).trans hT0
  have hBy := (gP 2 (by omega)).trans hBy
  have hR0 := (gP 3 (by omega)).trans hR0
  have hR1 := (gP 4 (by omega)).trans hR1
  have hR2 := (gP 5 (by omega)).trans hR2
  have hNw := hNw.fr gP (by omega)
  have hIa := hIa.fr gP (by omega)
  refine go_aload_n 0 (nx := 49) dX6_init_48 rfl rfl rfl ?_
  refine go_nw (nx := 52) kn_X6_30 dX6_init_49 (Nat.le_of_ble_eq_true rfl) (Nat.le_of_ble_eq_true rfl) rfl (fun h13 eh13 fh13 => ?_)
  have hh := (fh13 (0) (by omega)).trans hh
  have hNEW := eh13
  have hNEW : h13 17 = .inr (1, [.null, .int 0]) := hNEW
  have gN : kFr 17 18 _ h13 := fun j hj => fh13 j (by omega)
  have hT0 := (gN 1 (by omega)).trans hT0
  have hBy := (gN 2 (by omega)).trans hBy
  have hR0 := (gN 3 (by omega)).trans hR0
  have hR1 := (gN 4 (by omega)).trans hR1
  have hR2 := (gN 5 (by omega)).trans hR2
  have hNw := hNw.fr gN (by omega)
  have hIa := hIa.fr gN (by omega)
  refine go_dup (nx := 53) dX6_init_52 rfl rfl ?_
  refine go_mkN (nx := 56) [] kc_X6_32 (c_Image (i := 17) hNEW) dX6_init_53 rfl rfl (Nat.le_of_ble_eq_true rfl) ⟨Nat.le_of_ble_eq_true rfl, Nat.le_of_ble_eq_true rfl, Nat.le_of_ble_eq_true rfl⟩ rfl (fun h14 hqh14 => ?_)
  obtain ⟨hIb, gC⟩ := hqh14
  have hh := (gC 0 (by omega)).trans hh
  have hT0 := (gC 1 (by omega)).trans hT0
  have hBy := (gC 2 (by omega)).trans hBy
  have hR0 := (gC 3 (by omega)).trans hR0
  have hR1 := (gC 4 (by omega)).trans hR1
  have hR2 := (gC 5 (by omega)).trans hR2
  have hNw := hNw.fr gC (by omega)
  have hIa := hIa.fr gC (by omega)
  have hIb : oImg G 17 none _ := hIb
  refine go_pf (fs' := [_, _, _, _, _, _, _, _, _]) (nx := 59) fp_X6_37 dX6_init_56 (by omega) hh (Nat.le_of_ble_eq_true rfl) ⟨rfl, rfl⟩ rfl rfl (fun h15 eh15 fh15 => ?_)
  have hh := eh15
  have gP : kFr 0 1 _ h15 := fun j hj => fh15 j (by omega)
  have hT0 := (gP 1 (by omega)).trans hT0
  have hBy := (gP 2 (by omega)).trans hBy
  have hR0 := (gP 3 (by omega)).trans hR0
  have hR1 := (gP 4 (by omega)).trans hR1
  have hR2 := (gP 5 (by omega)).trans hR2
  have hNw := hNw.fr gP (by omega)
  have hIa := hIa.fr gP (by omega)
  have hIb := hIb.fr gP (by omega)
  refine go_aload_n 0 (nx := 60) dX6_init_59 rfl rfl rfl ?_
  refine go_nw (nx := 63) kn_X6_40 dX6_init_60 (Nat.le_of_ble_eq_true rfl) (Nat.le_of_ble_eq_true rfl) rfl (fun h16 eh16 fh16 => ?_)
  have hh := (fh16 (0) (by omega)).trans hh
  have hNEW := eh16
  have hNEW : h16 23 = .inr (0, [.null, .int 0, .null, .null]) := hNEW
  have gN : kFr 23 24 _ h16 := fun j hj => fh16 j (by omega)
  have hT0 := (gN 1 (by omega)).trans hT0
  have hBy := (gN 2 (by omega)).trans hBy
  have hR0 := (gN 3 (by omega)).trans hR0
  have hR1 := (gN 4 (by omega)).trans hR1
  have hR2 := (gN 5 (by omega)).trans hR2
  have hNw := hNw.fr gN (by omega)
  have hIa := hIa.fr gN (by omega)
  have hIb := hIb.fr gN (by omega)
  refine go_dup (nx := 64) dX6_init_63 rfl rfl ?_
  refine go_mkN (nx := 67) [] kc_X6_42 (c_Fore (f := 23) hNEW) dX6_init_64 rfl rfl (Nat.le_of_ble_eq_true rfl) ⟨Nat.le_of_ble_eq_true rfl, Nat.le_of_ble_eq_true rfl, Nat.le_of_ble_eq_true rfl⟩ rfl (fun h17 hqh17 => ?_)
  obtain ⟨hFt, gC⟩ := hqh17
  have hh := (gC 0 (by omega)).trans hh
  have hT0 := (gC 1 (by omega)).trans hT0
  have hBy := (gC 2 (by omega)).trans hBy
  have hR0 := (gC 3 (by omega)).trans hR0
  have hR1 := (gC 4 (by omega)).trans hR1
  have hR2 := (gC 5 (by omega)).trans hR2
  have hNw := hNw.fr gC (by omega)
  have hIa := hIa.fr gC (by omega)
  have hIb := hIb.fr gC (by omega)
  have hFt : oFt G _ := hFt
  refine go_pf (fs' := [_, _, _, _, _, _, _, _, _]) (nx := 70) fp_X6_43 dX6_init_67 (by omega) hh (Nat.le_of_ble_eq_true rfl) ⟨rfl, rfl⟩ rfl rfl (fun h18 eh18 fh18 => ?_)
  have hh := eh18
  have gP : kFr 0 1 _ h18 := fun j hj => fh18 j (by omega)
  have hT0 := (gP 1 (by omega)).trans hT0
  have hBy := (gP 2 (by omega)).trans hBy
  have hR0 := (gP 3 (by omega)).trans hR0
  have hR1 := (gP 4 (by omega)).trans hR1
  have hR2 := (gP 5 (by omega)).trans hR2
  have hNw := hNw.fr gP (by omega)
  have hIa := hIa.fr gP (by omega)
  have hIb := hIb.fr gP (by omega)
  have hFt := hFt.fr gP (by omega)
  refine go_aload_n 0 (nx := 71) dX6_init_70 rfl rfl rfl ?_
  refine go_nw (nx := 74) kn_X6_47 dX6_init_71 (Nat.le_of_ble_eq_true rfl) (Nat.le_of_ble_eq_true rfl) rfl (fun h19 eh19 fh19 => ?_)
  have hh := (fh19 (0) (by omega)).trans hh
  have hNEW := eh19
  have hNEW : h19 31 = .inr (5, [.null, .null, .int 0, .int 0, .int 0, .int 0]) := hNEW
  have gN : kFr 31 32 _ h19 := fun j hj => fh19 j (by omega)
  have hT0 := (gN 1 (by omega)).trans hT0
  have hBy := (gN 2 (by omega)).trans hBy
  have hR0 := (gN 3 (by omega)).trans hR0
  have hR1 := (gN 4 (by omega)).trans hR1
  have hR2 := (gN 5 (by omega)).trans hR2
  have hNw := hNw.fr gN (by omega)
  have hIa := hIa.fr gN (by omega)
  have hIb := hIb.fr gN (by omega)
  have hFt := hFt.fr gN (by omega)
  refine go_dup (nx := 75) dX6_init_74 rfl rfl ?_
  refine go_mkI (nx := 78) [] kc_X6_49 (c_Town (t := 31) hNEW) dX6_init_75 rfl rfl (Nat.le_of_ble_eq_true rfl) ⟨Nat.le_of_ble_eq_true rfl, Nat.le_of_ble_eq_true rfl, Nat.le_of_ble_eq_true rfl⟩ rfl (fun h20 hqh20 => ?_)
  obtain ⟨hTo, gC⟩ := hqh20
  have hh := (gC 0 (by omega)).trans hh
  have hT0 := (gC 1 (by omega)).trans hT0
  have hBy := (gC 2 (by omega)).trans hBy
  have hR0 := (gC 3 (by omega)).trans hR0
  have hR1 := (gC 4 (by omega)).trans hR1
  have hR2 := (gC 5 (by omega)).trans hR2
  have hNw := hNw.fr gC (by omega)
  have hIa := hIa.fr gC (by omega)
  have hIb := hIb.fr gC (by omega)
  have hFt := hFt.fr gC (by omega)
  have hTo : oTown G 31 T0 _ := hTo
  refine go_pf (fs' := [_, _, _, _, _, _, _, _, _]) (nx := 81) (fp_X6_50 _) dX6_init_78 (by omega) hh (Nat.le_of_ble_eq_true rfl) ⟨rfl, rfl⟩ rfl rfl (fun h21 eh21 fh21 => ?_)
  have hh := eh21
  have gP : kFr 0 1 _ h21 := fun j hj => fh21 j (by omega)
  have hT0 := (gP 1 (by omega)).trans hT0
  have hBy := (gP 2 (by omega)).trans hBy
  have hR0 := (gP 3 (by omega)).trans hR0
  have hR1 := (gP 4 (by omega)).trans hR1
  have hR2 := (gP 5 (by omega)).trans hR2
  have hNw := hNw.fr gP (by omega)
  have hIa := hIa.fr gP (by omega)
  have hIb := hIb.fr gP (by omega)
  have hFt := hFt.fr gP (by omega)
  have hTo := hTo.fr gP (by omega)
  refine go_aload_n 0 (nx := 82) dX6_init_81 rfl rfl rfl ?_
  refine go_nw (nx := 85) kn_X6_47 dX6_init_82 (Nat.le_of_ble_eq_true rfl) (Nat.le_of_ble_eq_true rfl) rfl (fun h22 eh22 fh22 => ?_)
  have hh := (fh22 (0) (by omega)).trans hh
  have hNEW := eh22
  have hNEW : h22 34 = .inr (5, [.null, .null, .int 0, .int 0, .int 0, .int 0]) := hNEW
  have gN : kFr 34 35 _ h22 := fun j hj => fh22 j (by omega)
  have hT0 := (gN 1 (by omega)).trans hT0
  have hBy := (gN 2 (by omega)).trans hBy
  have hR0 := (gN 3 (by omega)).trans hR0
  have hR1 := (gN 4 (by omega)).trans hR1
  have hR2 := (gN 5 (by omega)).trans hR2
  have hNw := hNw.fr gN (by omega)
  have hIa := hIa.fr gN (by omega)
  have hIb := hIb.fr gN (by omega)
  have hFt := hFt.fr gN (by omega)
  have hTo := hTo.fr gN (by omega)
  refine go_dup (nx := 86) dX6_init_85 rfl rfl ?_
  refine go_mkI (nx := 89) [] kc_X6_49 (c_Town (t := 34) hNEW) dX6_init_86 rfl rfl (Nat.le_of_ble_eq_true rfl) ⟨Nat.le_of_ble_eq_true rfl, Nat.le_of_ble_eq_true rfl, Nat.le_of_ble_eq_true rfl⟩ rfl (fun h23 hqh23 => ?_)
  obtain ⟨hDr, gC⟩ := hqh23
  have hh := (gC 0 (by omega)).trans hh
  have hT0 := (gC 1 (by omega)).trans hT0
  have hBy := (gC 2 (by omega)).trans hBy
  have hR0 := (gC 3 (by omega)).trans hR0
  have hR1 := (gC 4 (by omega)).trans hR1
  have hR2 := (gC 5 (by omega)).trans hR2
  have hNw := hNw.fr gC (by omega)
  have hIa := hIa.fr gC (by omega)
  have hIb := hIb.fr gC (by omega)
  have hFt := hFt.fr gC (by omega)
  have hTo := hTo.fr gC (by omega)
  have hDr : oTown G 34 T0 _ := hDr
  refine go_pf (fs' := [_, _, _, _, _, _, _, _, _]) (nx := 92) (fp_X6_54 _) dX6_init_89 (by omega) hh (Nat.le_of_ble_eq_true rfl) ⟨rfl, rfl⟩ rfl rfl (fun h24 eh24 fh24 => ?_)
  have hh := eh24
  have gP : kFr 0 1 _ h24 := fun j hj => fh24 j (by omega)
  have hT0 := (gP 1 (by omega)).trans hT0
  have hBy := (gP 2 (by omega)).trans hBy
  have hR0 := (gP 3 (by omega)).trans hR0
  have hR1 := (gP 4 (by omega)).trans hR1
  have hR2 := (gP 5 (by omega)).trans hR2
  have hNw := hNw.fr gP (by omega)
  have hIa := hIa.fr gP (by omega)
  have hIb := hIb.fr gP (by omega)
  have hFt := hFt.fr gP (by omega)
  have hTo := hTo.fr gP (by omega)
  have hDr := hDr.fr gP (by omega)
  obtain ⟨kn, ct, si, cr, rg, yr, la, hNr⟩ := id hNw
  obtain ⟨hN, hkn, hct, hsi, hcr⟩ := id hNr
  refine go_aload_n 0 (nx := 93) dX6_init_92 rfl rfl rfl ?_
  refine go_gf (nx := 96) fg_X6_26 dX6_init_93 (by omega) hh rfl rfl ?_
  refine go_aload_n 0 (nx := 97) dX6_init_96 rfl rfl rfl ?_
  refine go_gf (nx := 100) fg_X6_50 dX6_init_97 (by omega) hh rfl rfl ?_
  refine go_Vv (nx := 103) [_] kc_X6_57 ⟨_, _, rfl⟩ (by omega) hN (s_begin (q := 6) (t := 31) (by omega) (by omega) (by omega) hNr hTo) dX6_init_100 rfl rfl (Nat.le_of_ble_eq_true rfl) (Nat.le_of_ble_eq_true rfl) ⟨Nat.le_of_ble_eq_true rfl, Nat.le_of_ble_eq_true rfl⟩ rfl (fun h25 hqh25 => ?_)
  obtain ⟨hNow, gB⟩ := hqh25
  have hh := (gB 0 (by omega)).trans hh
  have hT0 := (gB 1 (by omega)).trans hT0
  have hBy := (gB 2 (by omega)).trans hBy
  have hR0 := (gB 3 (by omega)).trans hR0
  have hR1 := (gB 4 (by omega)).trans hR1
  have hR2 := (gB 5 (by omega)).trans hR2
  have hIa := hIa.fr gB (by omega)
  have hIb := hIb.fr gB (by omega)
  have hFt := hFt.fr gB (by omega)
  have hTo := hTo.fr gB (by omega)
  have hDr := hDr.fr gB (by omega)
  refine go_retn dX6_init_103 rfl (by omega) (Nat.le_of_ble_eq_true rfl) (Nat.le_of_ble_eq_true rfl) ?_
  exact ⟨Or.inl rfl, hh, ⟨hT0, Nat.zero_le _, _, hBy, fun j hj => absurd hj (Nat.not_lt_zero j)⟩, ⟨_, _, _, _, _, _, hR0, hR1, hR2⟩, hNow, hIa, hIb, hFt, hTo, hDr.a⟩
