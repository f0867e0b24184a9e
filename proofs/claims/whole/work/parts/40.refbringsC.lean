/-! the reference: brings -/
theorem l_mbE {G : kG} {n sz p : Nat} {ν : mN} {T : mT} {tr : Int64} {F : Nat → Int32} {wd : Bool} {h0 : kH} {i : Int32} (hn : 49 ≤ n) (HO0 : mO G F tr sz T h0) (hw : wT T) (hv : wN T.1 ν) (hp : p < T.1) (hY : ν.2.2.2.1 ≤ 99) {m : Nat} {h : kH} {pr : Nat → Int32} (hm : m ≤ 4) (HS : oS G ν h) (hpa : h 46 = .inl (G.2.1, 3, .inl pr)) (hF : bfr h0 h) (hb : mBr T ν.2.2.1 p wd ν.1 = none) (hm4 : m = 4) : Go G mX7_brings (5, 0, 0) 45 [(5, .int (nI m)), (4, .int (-9)), (0, .ref (kb G + 37)), (1, .int (nI p)), (2, .int (bI wd)), (3, .int i)] [] (n, 0, 0) h (kQi mX7_brings n (fun u h' => u = (match mBr T ν.2.2.1 p wd ν.1 with | none => -9 | some L => if i < 0 then nI L.length else if i < nI L.length then nI (L.getD (cl i) 0) else -5) ∧ oS G ν h' ∧ xArr G 46 3 h' ∧ bfr h0 h')) := by
  have HO := HO0.bf hF
  have hP := hw.1
  have hM : h 37 = .inr (7, [.int (F 0), .long tr, .ref (kb G + 38), .int (nI sz), .int (F 4), .int (F 5), .int (F 6), .int (F 7), .int (F 8), .ref (kb G + 39), .ref (kb G + 40), .int (nI T.1), .int (F 12), .int (nI T.2.2.2.1), .int (F 14), .int (nI T.2.2.2.2.1), .int (F 16), .int (nI T.2.2.2.2.2), .int (F 18), .int (F 19), .int (F 20), .ref (kb G + 41), .ref (kb G + 42), .ref (kb G + 43), .ref (kb G + 44), .ref (kb G + 45), .ref (kb G + 46), .ref (kb G + 47), .ref (kb G + 48)]) := HO
  refine go_iload 0 (nx := 47) dX7_brings_45 rfl rfl ?_
  refine go_iconst (v := nI 4) (nx := 48) dX7_brings_47 (by decide) rfl ?_
  refine go_icmp_ge 74 (nx := 51) dX7_brings_48 rfl rfl (fun c48 => ?_) (fun c48 => False.elim (c48 ((nI_leI (by decide) (by omega)).mpr (by omega))))
  refine go_iload 1 (nx := 76) dX7_brings_74 rfl rfl ?_
  refine go_bipush (v := (-9)) (nx := 78) dX7_brings_76 (by decide) rfl ?_
  refine go_icmp_eq 85 (nx := 81) dX7_brings_78 rfl rfl (fun c78 => ?_) (fun c78 => False.elim (absurd rfl c78))
  refine go_iload 1 (nx := 87) dX7_brings_85 rfl rfl ?_
  refine go_goto 107 dX7_brings_87 rfl ?_
  refine go_reti dX7_brings_107 ⟨_, rfl, rfl⟩ ?_
  rw [hb]
  exact ⟨rfl, HS, ⟨_, hpa⟩, hF⟩
theorem nI_ne9 {k : Nat} (h : k < 2 ^ 31) : ¬ nI k = -9 := fun e => by
  have z := congrArg Int32.toInt e
  rw [nI_toInt h] at z
  have z2 : (-9 : Int32).toInt = -9 := by decide
  omega
theorem l_mbS {G : kG} {n sz p : Nat} {ν : mN} {T : mT} {tr : Int64} {F : Nat → Int32} {wd : Bool} {h0 : kH} {i : Int32} (hn : 49 ≤ n) (HO0 : mO G F tr sz T h0) (hw : wT T) (hv : wN T.1 ν) (hp : p < T.1) (hY : ν.2.2.2.1 ≤ 99) {m : Nat} {h : kH} {pr : Nat → Int32} {L : List Nat} (hm : m ≤ 4) (HS : oS G ν h) (hpa : h 46 = .inl (G.2.1, 3, .inl pr)) (hF : bfr h0 h) (hb : mBr T ν.2.2.1 p wd ν.1 = some L) (hL : L.length ≤ 3) (hpr : ∀ j, j < L.length → pr j = nI (L.getD j 0)) (hi : inB (-1) (nI 2) i = true) : Go G mX7_brings (5, 0, 0) 45 [(5, .int (nI m)), (4, .int (nI L.length)), (0, .ref (kb G + 37)), (1, .int (nI p)), (2, .int (bI wd)), (3, .int i)] [] (n, 0, 0) h (kQi mX7_brings n (fun u h' => u = (match mBr T ν.2.2.1 p wd ν.1 with | none => -9 | some L => if i < 0 then nI L.length else if i < nI L.length then nI (L.getD (cl i) 0) else -5) ∧ oS G ν h' ∧ xArr G 46 3 h' ∧ bfr h0 h')) := by
  have HO := HO0.bf hF
  have hP := hw.1
  have hM : h 37 = .inr (7, [.int (F 0), .long tr, .ref (kb G + 38), .int (nI sz), .int (F 4), .int (F 5), .int (F 6), .int (F 7), .int (F 8), .ref (kb G + 39), .ref (kb G + 40), .int (nI T.1), .int (F 12), .int (nI T.2.2.2.1), .int (F 14), .int (nI T.2.2.2.2.1), .int (F 16), .int (nI T.2.2.2.2.2), .int (F 18), .int (F 19), .int (F 20), .ref (kb G + 41), .ref (kb G + 42), .ref (kb G + 43), .ref (kb G + 44), .ref (kb G + 45), .ref (kb G + 46), .ref (kb G + 47), .ref (kb G + 48)]) := HO
  have h9 : ¬ nI L.length = -9 := nI_ne9 (by omega)
  refine go_iload 0 (nx := 47) dX7_brings_45 rfl rfl ?_
  refine go_iconst (v := nI 4) (nx := 48) dX7_brings_47 (by decide) rfl ?_
  refine go_icmp_ge 74 (nx := 51) dX7_brings_48 rfl rfl (fun c48 => ?_) (fun c48 => ?_)
  · skip
    refine go_iload 1 (nx := 76) dX7_brings_74 rfl rfl ?_
    refine go_bipush (v := (-9)) (nx := 78) dX7_brings_76 (by decide) rfl ?_
    refine go_icmp_eq 85 (nx := 81) dX7_brings_78 rfl rfl (fun c78 => False.elim (absurd c78 h9)) (fun c78 => ?_)
    refine go_iload_n 5 (nx := 82) dX7_brings_81 rfl rfl rfl ?_
    refine go_if_ge 90 (nx := 85) dX7_brings_82 rfl rfl (fun c82 => ?_) (fun c82 => ?_)
    · skip
      refine go_iload_n 5 (nx := 91) dX7_brings_90 rfl rfl rfl ?_
      refine go_iload 1 (nx := 93) dX7_brings_91 rfl rfl ?_
      refine go_icmp_ge 105 (nx := 96) dX7_brings_93 rfl rfl (fun c93 => ?_) (fun c93 => ?_)
      · skip
        refine go_bipush (v := (-5)) (nx := 107) dX7_brings_105 (by decide) rfl ?_
        refine go_reti dX7_brings_107 ⟨_, rfl, rfl⟩ ?_
        rw [hb]
        exact ⟨((if_neg (Int32.not_lt.mpr c82)).trans (if_neg (Int32.not_lt.mpr c93))).symm, HS, ⟨_, hpa⟩, hF⟩
      · skip
        obtain ⟨j, hj0, rfl⟩ := nI_of (x := i) (Int32.not_lt.mpr c82)
        have hj : j < L.length := klt (Int32.not_le.mp c93) (by omega) (by omega)
        refine go_aload_n 2 (nx := 97) dX7_brings_96 rfl rfl rfl ?_
        refine go_gf (nx := 100) fg_X7_35 dX7_brings_97 (by omega) hM rfl rfl ?_
        refine go_iload_n 5 (nx := 101) dX7_brings_100 rfl rfl rfl ?_
        refine go_ial (j) (nx := 102) dX7_brings_101 (by omega) hpa rfl (by omega) (by omega) rfl ?_
        refine go_goto 107 dX7_brings_102 rfl ?_
        refine go_reti dX7_brings_107 ⟨_, rfl, rfl⟩ ?_
        rw [hb]
        exact ⟨(hpr j hj).trans ((if_neg (Int32.not_lt.mpr c82)).trans ((if_pos (Int32.not_le.mp c93)).trans (by rw [cl_nI (by omega)]))).symm, HS, ⟨_, hpa⟩, hF⟩
    · skip
      refine go_iload 1 (nx := 87) dX7_brings_85 rfl rfl ?_
      refine go_goto 107 dX7_brings_87 rfl ?_
      refine go_reti dX7_brings_107 ⟨_, rfl, rfl⟩ ?_
      rw [hb]
      exact ⟨(if_pos (Int32.not_le.mp c82)).symm, HS, ⟨_, hpa⟩, hF⟩
  · skip
    refine go_iload 1 (nx := 53) dX7_brings_51 rfl rfl ?_
    refine go_bipush (v := (-9)) (nx := 55) dX7_brings_53 (by decide) rfl ?_
    refine go_icmp_ne 74 (nx := 58) dX7_brings_55 rfl rfl (fun c55 => ?_) (fun c55 => False.elim (h9 c55))
    refine go_iload 1 (nx := 76) dX7_brings_74 rfl rfl ?_
    refine go_bipush (v := (-9)) (nx := 78) dX7_brings_76 (by decide) rfl ?_
    refine go_icmp_eq 85 (nx := 81) dX7_brings_78 rfl rfl (fun c78 => False.elim (absurd c78 h9)) (fun c78 => ?_)
    refine go_iload_n 5 (nx := 82) dX7_brings_81 rfl rfl rfl ?_
    refine go_if_ge 90 (nx := 85) dX7_brings_82 rfl rfl (fun c82 => ?_) (fun c82 => ?_)
    · skip
      refine go_iload_n 5 (nx := 91) dX7_brings_90 rfl rfl rfl ?_
      refine go_iload 1 (nx := 93) dX7_brings_91 rfl rfl ?_
      refine go_icmp_ge 105 (nx := 96) dX7_brings_93 rfl rfl (fun c93 => ?_) (fun c93 => ?_)
      · skip
        refine go_bipush (v := (-5)) (nx := 107) dX7_brings_105 (by decide) rfl ?_
        refine go_reti dX7_brings_107 ⟨_, rfl, rfl⟩ ?_
        rw [hb]
        exact ⟨((if_neg (Int32.not_lt.mpr c82)).trans (if_neg (Int32.not_lt.mpr c93))).symm, HS, ⟨_, hpa⟩, hF⟩
      · skip
        obtain ⟨j, hj0, rfl⟩ := nI_of (x := i) (Int32.not_lt.mpr c82)
        have hj : j < L.length := klt (Int32.not_le.mp c93) (by omega) (by omega)
        refine go_aload_n 2 (nx := 97) dX7_brings_96 rfl rfl rfl ?_
        refine go_gf (nx := 100) fg_X7_35 dX7_brings_97 (by omega) hM rfl rfl ?_
        refine go_iload_n 5 (nx := 101) dX7_brings_100 rfl rfl rfl ?_
        refine go_ial (j) (nx := 102) dX7_brings_101 (by omega) hpa rfl (by omega) (by omega) rfl ?_
        refine go_goto 107 dX7_brings_102 rfl ?_
        refine go_reti dX7_brings_107 ⟨_, rfl, rfl⟩ ?_
        rw [hb]
        exact ⟨(hpr j hj).trans ((if_neg (Int32.not_lt.mpr c82)).trans ((if_pos (Int32.not_le.mp c93)).trans (by rw [cl_nI (by omega)]))).symm, HS, ⟨_, hpa⟩, hF⟩
    · skip
      refine go_iload 1 (nx := 87) dX7_brings_85 rfl rfl ?_
      refine go_goto 107 dX7_brings_87 rfl ?_
      refine go_reti dX7_brings_107 ⟨_, rfl, rfl⟩ ?_
      rw [hb]
      exact ⟨(if_pos (Int32.not_le.mp c82)).symm, HS, ⟨_, hpa⟩, hF⟩
theorem l_mb {G : kG} {n sz p : Nat} {ν : mN} {T : mT} {tr : Int64} {F : Nat → Int32} {wd : Bool} {h0 : kH} {i : Int32} (hn : 49 ≤ n) (HO0 : mO G F tr sz T h0) (hw : wT T) (hv : wN T.1 ν) (hp : p < T.1) (hY : ν.2.2.2.1 ≤ 99) (HH0 : oSp G ν h0) (hi : inB (-1) (nI 2) i = true) : ∀ (d m : Nat) (h : kH) (pr : Nat → Int32), 4 - m < d → m ≤ 4 → oS G ν h → h 46 = .inl (G.2.1, 3, .inl pr) → bfr h0 h → mBr T ν.2.2.1 p wd ν.1 = ffo (fun m => brg T ν.2.2.1 p wd m 1 ν.1) (4 - m) m → Go G mX7_brings (5, 0, 0) 45 [(5, .int (nI m)), (4, .int (-9)), (0, .ref (kb G + 37)), (1, .int (nI p)), (2, .int (bI wd)), (3, .int i)] [] (n, 0, 0) h (kQi mX7_brings n (fun u h' => u = (match mBr T ν.2.2.1 p wd ν.1 with | none => -9 | some L => if i < 0 then nI L.length else if i < nI L.length then nI (L.getD (cl i) 0) else -5) ∧ oS G ν h' ∧ xArr G 46 3 h' ∧ bfr h0 h')) := by
  intro d
  induction d with
  | zero => intro m h pr hd; omega
  | succ d ih =>
    intro m h pr hd hm HS hpa hF hb
    rcases Nat.lt_or_ge m 4 with h4 | h4
    · rw [show 4 - m = (4 - (m + 1)) + 1 by omega] at hb
      have HO := HO0.bf hF
      have hP := hw.1
      have hM : h 37 = .inr (7, [.int (F 0), .long tr, .ref (kb G + 38), .int (nI sz), .int (F 4), .int (F 5), .int (F 6), .int (F 7), .int (F 8), .ref (kb G + 39), .ref (kb G + 40), .int (nI T.1), .int (F 12), .int (nI T.2.2.2.1), .int (F 14), .int (nI T.2.2.2.2.1), .int (F 16), .int (nI T.2.2.2.2.2), .int (F 18), .int (F 19), .int (F 20), .ref (kb G + 41), .ref (kb G + 42), .ref (kb G + 43), .ref (kb G + 44), .ref (kb G + 45), .ref (kb G + 46), .ref (kb G + 47), .ref (kb G + 48)]) := HO
      have HSp : oSp G ν h := by
        obtain ⟨a, z1, z2⟩ := HH0
        exact ⟨a, (hF 42 (by decide) (by decide)).trans z1, z2⟩
      refine go_iload 0 (nx := 47) dX7_brings_45 rfl rfl ?_
      refine go_iconst (v := nI 4) (nx := 48) dX7_brings_47 (by decide) rfl ?_
      refine go_icmp_ge 74 (nx := 51) dX7_brings_48 rfl rfl (fun c48 => False.elim (absurd ((nI_leI (b := m) (by decide) (by omega)).mp c48) (by omega))) (fun c48 => ?_)
      refine go_iload 1 (nx := 53) dX7_brings_51 rfl rfl ?_
      refine go_bipush (v := (-9)) (nx := 55) dX7_brings_53 (by decide) rfl ?_
      refine go_icmp_ne 74 (nx := 58) dX7_brings_55 rfl rfl (fun c55 => False.elim (absurd rfl c55)) (fun c55 => ?_)
      refine go_aload_n 2 (nx := 59) dX7_brings_58 rfl rfl rfl ?_
      refine go_iload_n 3 (nx := 60) dX7_brings_59 rfl rfl rfl ?_
      refine go_iload_n 4 (nx := 61) dX7_brings_60 rfl rfl rfl ?_
      refine go_iload 0 (nx := 63) dX7_brings_61 rfl rfl ?_
      refine go_Vi (nx := 66) [_, _, _] kc_X7_193 ⟨_, _, rfl⟩ (by omega) hM (m_bringsBy hn HO hw hv hp hY (by omega) HS HSp ⟨_, hpa⟩ rfl rfl rfl) dX7_brings_63 rfl rfl (Nat.le_of_ble_eq_true rfl) (Nat.le_of_ble_eq_true rfl) ⟨Nat.le_refl _, Nat.le_refl _⟩ rfl (fun rh1 h1 hqh1 => ?_)
      obtain ⟨rfl, HS, ⟨pr, hpa, hpr⟩, hF2⟩ := hqh1
      have hF : bfr h0 h1 := fun j a b => (hF2 j a b).trans (hF j a b)
      refine go_istore (lv' := [_, _, _, _, _, _]) (nx := 68) dX7_brings_66 (by decide) rfl rfl ?_
      refine go_iinc 1 (v := nI (m + 1)) (lv' := [_, _, _, _, _, _]) (nx := 71) dX7_brings_68 rfl (nI_inc m) (by decide) rfl rfl ?_
      refine go_goto 45 dX7_brings_71 rfl ?_
      refine Go.sub [0, 1, 2, 3, 4, 5] rfl ?_
      cases eB : brg T ν.2.2.1 p wd m 1 ν.1 with
      | none => exact ih (m + 1) _ _ (by omega) (by omega) HS hpa hF (hb.trans (ffo_none (g := fun m => brg T ν.2.2.1 p wd m 1 ν.1) eB))
      | some L =>
        have eL := brg_len eB
        exact l_mbS hn HO0 hw hv hp hY (m := m + 1) (L := L) (by omega) HS hpa hF (hb.trans (ffo_some (g := fun m => brg T ν.2.2.1 p wd m 1 ν.1) eB)) (by omega) (fun j hj => hpr L eB j (by omega)) hi
    · have e4 : m = 4 := by omega
      exact l_mbE hn HO0 hw hv hp hY hm HS hpa hF (by rw [hb, e4]; rfl) e4
theorem m_brings {G : kG} {n sz : Nat} {h : kH} {tx : Nat → Nat} {ν : mN} {i0 i1 : Option mN} {T : mT} {tr : Int64} {x y z : Int32} (hn : 49 ≤ n) (H : oM G (tx, sz, ν, i0, i1, T, tr) h) (W : wS (tx, sz, ν, i0, i1, T, tr)) : Spi G mX7_brings 5 [.ref (kb G + 37), .int x, .int y, .int z] n h (fun v h' => v = fBrings T ν x y z ∧ oM G (tx, sz, ν, i0, i1, T, tr) h' ∧ kFr 37 49 h h') := by
  obtain ⟨hwT, hwN, hY, hw0, hw1, hsz, htx⟩ := id W
  have hwT : wT T := hwT
  have hwN : wN T.1 ν := hwN
  have hY : ν.2.2.2.1 ≤ 99 := hY
  have hsz : sz ≤ 400 := hsz
  have hP := hwT.1
  obtain ⟨⟨F, HO⟩, -⟩ := id H
  have hM : h 37 = .inr (7, [.int (F 0), .long tr, .ref (kb G + 38), .int (nI sz), .int (F 4), .int (F 5), .int (F 6), .int (F 7), .int (F 8), .ref (kb G + 39), .ref (kb G + 40), .int (nI T.1), .int (F 12), .int (nI T.2.2.2.1), .int (F 14), .int (nI T.2.2.2.2.1), .int (F 16), .int (nI T.2.2.2.2.2), .int (F 18), .int (F 19), .int (F 20), .ref (kb G + 41), .ref (kb G + 42), .ref (kb G + 43), .ref (kb G + 44), .ref (kb G + 45), .ref (kb G + 46), .ref (kb G + 47), .ref (kb G + 48)]) := HO
  refine Spi.of (by decide) (Nat.le_of_ble_eq_true rfl) ?_
  refine Go.loc (lv' := [(0, _), (1, _), (2, _), (3, _)]) rfl ?_
  refine go_aload_n 0 (nx := 1) dX7_brings_0 rfl rfl rfl ?_
  refine go_iconst (v := nI 0) (nx := 2) dX7_brings_1 (by decide) rfl ?_
  refine go_pf (fs' := [_, _, _, _, _, _, _, _, _, _, _, _, _, _, _, _, _, _, _, _, _, _, _, _, _, _, _, _, _]) (nx := 5) (fp_X7_51 _) dX7_brings_2 (by omega) hM (Nat.le_of_ble_eq_true rfl) ⟨rfl, rfl⟩ rfl rfl (fun h1 eh1 fh1 => ?_)
  have hM := eh1
  have hZ : kFr 37 49 h h1 := fun j hj => fh1 j (by omega)
  have H := H.setO (F := upd F 0 (nI 0)) (tr := tr) hM (fun j hj => fh1 j (by omega))
  have H : oM G (tx, sz, ν, i0, i1, T, tr) h1 := H
  obtain ⟨⟨F5, HO⟩, HTm, HKt, HH, HS, HSp, HKe, HRi, HPa, HAh, HDo⟩ := id H
  have HO : mO G F5 tr sz T h1 := HO
  have HTm : oTm G tx sz h1 := HTm
  have HKt : oKt G T h1 := HKt
  have HH : oHab G T h1 := HH
  have HS : oS G ν h1 := HS
  have HKe : oKe G i0 i1 h1 := HKe
  have hM : h1 37 = .inr (7, [.int (F5 0), .long tr, .ref (kb G + 38), .int (nI sz), .int (F5 4), .int (F5 5), .int (F5 6), .int (F5 7), .int (F5 8), .ref (kb G + 39), .ref (kb G + 40), .int (nI T.1), .int (F5 12), .int (nI T.2.2.2.1), .int (F5 14), .int (nI T.2.2.2.2.1), .int (F5 16), .int (nI T.2.2.2.2.2), .int (F5 18), .int (F5 19), .int (F5 20), .ref (kb G + 41), .ref (kb G + 42), .ref (kb G + 43), .ref (kb G + 44), .ref (kb G + 45), .ref (kb G + 46), .ref (kb G + 47), .ref (kb G + 48)]) := HO
  obtain ⟨sa, hs, hs1, hs2, hs3, hs4, hs5⟩ := id HS
  refine go_aload_n 0 (nx := 6) dX7_brings_5 rfl rfl rfl ?_
  refine go_iload_n 1 (nx := 7) dX7_brings_6 rfl rfl rfl ?_
  refine go_Vi (nx := 10) [_] kc_X7_146 ⟨_, _, rfl⟩ (by omega) hM (m_isPerson hn HO hP) dX7_brings_7 rfl rfl (Nat.le_of_ble_eq_true rfl) (Nat.le_of_ble_eq_true rfl) ⟨Nat.le_refl _, Nat.le_refl _⟩ rfl (fun rh2 h2 hqh2 => ?_)
  obtain ⟨rfl, rfl⟩ := hqh2
  refine go_if_eq 31 (nx := 13) dX7_brings_10 rfl rfl (fun c10 => ?_) (fun c10 => ?_)
  · skip
    refine go_iconst (v := (-1)) (nx := 32) dX7_brings_31 (by decide) rfl ?_
    refine go_reti dX7_brings_32 ⟨_, rfl, rfl⟩ ?_
    have e : (perB T x && choB y && inB (-1) (nI 2) z) = false := by rw [tb0 c10]; rfl
    rw [fBrings, if_neg (by rw [e]; decide)]
    exact ⟨rfl, H, hZ⟩
  · skip
    refine go_iload_n 2 (nx := 14) dX7_brings_13 rfl rfl rfl ?_
    refine go_iconst (v := nI 0) (nx := 15) dX7_brings_14 (by decide) rfl ?_
    refine go_iconst (v := nI 1) (nx := 16) dX7_brings_15 (by decide) rfl ?_
    refine go_Si (nx := 19) [_, _, _] kc_X7_54 s_in dX7_brings_16 rfl rfl (Nat.le_of_ble_eq_true rfl) (Nat.le_of_ble_eq_true rfl) ⟨Nat.le_refl _, Nat.le_refl _⟩ rfl (fun rh3 h3 hqh3 => ?_)
    obtain ⟨rfl, rfl⟩ := hqh3
    refine go_if_eq 31 (nx := 22) dX7_brings_19 rfl rfl (fun c19 => ?_) (fun c19 => ?_)
    · skip
      refine go_iconst (v := (-1)) (nx := 32) dX7_brings_31 (by decide) rfl ?_
      refine go_reti dX7_brings_32 ⟨_, rfl, rfl⟩ ?_
      have e : (perB T x && choB y && inB (-1) (nI 2) z) = false := by rw [← in01, show inB (nI 0) (nI 1) y = false from tb0 c19]; simp
      rw [fBrings, if_neg (by rw [e]; decide)]
      exact ⟨rfl, H, hZ⟩
    · skip
      refine go_iload_n 3 (nx := 23) dX7_brings_22 rfl rfl rfl ?_
      refine go_iconst (v := (-1)) (nx := 24) dX7_brings_23 (by decide) rfl ?_
      refine go_iconst (v := nI 2) (nx := 25) dX7_brings_24 (by decide) rfl ?_
      refine go_Si (nx := 28) [_, _, _] kc_X7_54 s_in dX7_brings_25 rfl rfl (Nat.le_of_ble_eq_true rfl) (Nat.le_of_ble_eq_true rfl) ⟨Nat.le_refl _, Nat.le_refl _⟩ rfl (fun rh4 h4 hqh4 => ?_)
      obtain ⟨rfl, rfl⟩ := hqh4
      refine go_if_ne 33 (nx := 31) dX7_brings_28 rfl rfl (fun c28 => ?_) (fun c28 => ?_)
      · skip
        obtain ⟨a, ha, rfl⟩ := per_of hP (tbn0 c10)
        have hcy : choB y = true := by rw [← in01]; exact tbn0 c19
        have hi : inB (-1) (nI 2) z = true := tbn0 c28
        have hall : (perB T (nI a) && choB y && inB (-1) (nI 2) z) = true := by rw [tbn0 c10, hcy, hi]; rfl
        obtain ⟨wd, ewd, rfl⟩ : ∃ wd : Bool, decide (y = nI 1) = wd ∧ y = bI wd := by
          rcases cho_of hcy with rfl | rfl
          · exact ⟨false, by decide, rfl⟩
          · exact ⟨true, by decide, rfl⟩
        refine go_aload_n 0 (nx := 34) dX7_brings_33 rfl rfl rfl ?_
        refine go_iconst (v := nI 1) (nx := 35) dX7_brings_34 (by decide) rfl ?_
        refine go_Vv (nx := 38) [_] kc_X7_180 ⟨_, _, rfl⟩ (by omega) hM (m_asideT (tx := tx) (ν := ν) (i0 := i0) (i1 := i1) hn HO HS HSp rfl) dX7_brings_35 rfl rfl (Nat.le_of_ble_eq_true rfl) (Nat.le_of_ble_eq_true rfl) ⟨Nat.le_refl _, Nat.le_refl _⟩ rfl (fun h5 hqh5 => ?_)
        obtain ⟨HSp2, hFh5⟩ := hqh5
        have HO := HO.fr hFh5 (by omega)
        have HH := HH.fr hFh5 (by omega)
        have HS := HS.fr hFh5 (by omega)
        have hF0 : kFr 41 43 _ h5 := hFh5.wide (by omega) (by omega)
        refine go_bipush (v := (-9)) (nx := 40) dX7_brings_38 (by decide) rfl ?_
        refine go_istore (lv' := [_, _, _, _, _]) (nx := 42) dX7_brings_40 (by decide) rfl rfl ?_
        refine go_iconst (v := nI 0) (nx := 43) dX7_brings_42 (by decide) rfl ?_
        refine go_istore (lv' := [_, _, _, _, _, _]) (nx := 45) dX7_brings_43 (by decide) rfl rfl ?_
        refine Go.sub [0, 1, 2, 3, 4, 5] rfl ?_
        obtain ⟨pr, hpa⟩ := HPa
        refine (l_mb (i := z) hn HO hwT hwN ha hY HSp2 hi 5 0 _ pr (by omega) (by omega) HS ((hF0 46 (by omega)).trans hpa) (fun _ _ _ => rfl) rfl).mono ?_
        rintro r z' h' ⟨rfl, q2, v, rfl, rfl, qS, qP, qF⟩
        refine ⟨rfl, q2, _, rfl, ?_⟩
        have fz := fun (j : Nat) (a : j ≠ 41) (b : j ≠ 42) (c : j ≠ 46) => (qF j a c).trans (hF0 j (by omega))
        have qX : xArr G 42 82 h' := by
          obtain ⟨a, z1, z2⟩ := HSp2
          exact ⟨a, (qF 42 (by decide) (by decide)).trans z1⟩
        refine ⟨?_, H.setX qS qX ?_ qP ?_ ?_ (fun j hj => fz j (by omega) (by omega) (by omega)), fun j hj => (fz j (by omega) (by omega) (by omega)).trans (hZ j hj)⟩
        · rw [fBrings, if_pos hall, cl_nI (by omega), ewd]
          generalize mBr T ν.2.2.1 a wd ν.1 = R
          cases R <;> rfl
        · obtain ⟨a, q⟩ := HRi; exact ⟨a, (fz 45 (by decide) (by decide) (by decide)).trans q⟩
        · obtain ⟨a, q⟩ := HAh; exact ⟨a, (fz 47 (by decide) (by decide) (by decide)).trans q⟩
        · obtain ⟨a, q⟩ := HDo; exact ⟨a, (fz 48 (by decide) (by decide) (by decide)).trans q⟩
      · skip
        refine go_iconst (v := (-1)) (nx := 32) dX7_brings_31 (by decide) rfl ?_
        refine go_reti dX7_brings_32 ⟨_, rfl, rfl⟩ ?_
        have e : (perB T x && choB y && inB (-1) (nI 2) z) = false := by rw [show inB (-1) (nI 2) z = false from tb0 c28]; simp
        rw [fBrings, if_neg (by rw [e]; decide)]
        exact ⟨rfl, H, hZ⟩
