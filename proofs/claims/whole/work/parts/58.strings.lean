/-! THE STRING CONSTANT of the reader: it and its bytes lie below our cells; String.length, charAt -/
def W80I : List Int32 := W80.map nI
def kg (G : kG) : State := G.2.2.2
def kSt (G : kG) (aK aV : Nat) : Prop :=
  vk_R "LeastKnown$Reader" 86 "person  knows   mutual  calls   forgets law     least   second  just    never   " aK (kg G) ∧ va_O "java/lang/String" aK (kA G) (kg G) (kg G).heap ∧ va_OF "java/lang/String" "coder" "B" (.int 0) aK (kA G) (kg G) (kg G).heap ∧ va_OF "java/lang/String" "value" "[B" (.ref aV) aK (kA G) (kg G) (kg G).heap ∧ va_T .byte aV 80 (fun j => .int (W80I.getD j 0)) (kA G) (kg G) (kg G).heap ∧ va_Z "java/lang/String" "COMPACT_STRINGS" "Z" (.int 1) (kA G) (kg G) (kg G).heap ∧ va_Zq "jdk/internal/util/Preconditions" "SIOOBE_FORMATTER" "Ljava/util/function/BiFunction;" (kA G) (kg G) (kg G).heap
theorem kSt_m : ∀ j, j < 80 → (Cond.eq (.elem (.field (Term.string "LeastKnown$Reader" 86) "java/lang/String" "value" "[B") (.int (Int32.ofNat j))) (.int (W80I.getD j 0))) ∈ flatC (Jvm.Cond.and given_1 narrow_1) := by decide +kernel
theorem kSt_ok {G : kG} (hG : kOK G) : ∃ aK aV, kSt G aK aV := by
  obtain ⟨⟨b, hts, hgv⟩, -⟩ := hG
  have hs := flat_of_before _ hgv
  have hA : ∀ a : Nat, a < (kg G).heap.size → ¬ kA G a := fun a ha q => absurd (show (kg G).heap.size ≤ a from q) (by omega)
  obtain ⟨adK, adV, hS, hE⟩ := vk_Sof (args := #[Value.ref b]) (s := kg G) (N := 1) (tm := fun _ => (Term.string "LeastKnown$Reader" 86)) (len := [80]) (byt := [W80I]) (A := kA G) (by decide +kernel)
    (fun _ _ => hs _ (by decide +kernel)) (fun _ _ => hs _ (by decide +kernel)) (fun _ _ => hs _ (by decide +kernel))
    (fun i hi => by obtain rfl : i = 0 := by omega
                    exact hs _ (by decide +kernel))
    (fun i hi j hj => by obtain rfl : i = 0 := by omega
                         exact hs _ (kSt_m j hj))
    (fun i j hi hj hij => absurd (show i = j by omega) hij) hA
  obtain ⟨h1, h2, h3, h4⟩ := hS.1 0 (by decide)
  exact ⟨adK 0, adV 0, vk_R.of (hts _ (List.mem_of_getElem? (i := 337) (by decide +kernel))) (hE 0 (by decide)), h1, h2, h3, h4,
    va_Zof (hts _ (List.mem_of_getElem? (i := 347) (by decide +kernel))) (hts _ (List.mem_of_getElem? (i := 61) (by decide +kernel))) (va_eqi (hs _ (by decide +kernel))) hA,
    va_Zqof (hts _ (List.mem_of_getElem? (i := 363) (by decide +kernel))) (hts _ (List.mem_of_getElem? (i := 63) (by decide +kernel))) (hs _ (by decide +kernel)) hA⟩
section KST
variable {G : kG} {M M' : kM} {κ κ' z : kZ} {pc nx idx na : Nat} {lv : List (Nat × Value)} {st rest : List Value} {h : kH} {Q : Option Value → kZ → kH → Prop} {Q' : Option Value → Nat → kH → Prop} {aK aV : Nat}
theorem go_ldcS (hZ : kSt G aK aV) (ho : M.1.cls = "LeastKnown$Reader") (hd : decode M.2.1 pc = .ok (.ldc 86, 2)) (hn : pc + 2 = nx) (k : Go G M κ nx lv (.ref aK :: st) z h Q) : Go G M κ pc lv st z h Q := by
  intro p l e R s m args below meth c H locs ls Qm hG hC hW hl hr
  subst hn
  obtain ⟨hx, hb, hml, hown, hname, hWm, -⟩ := id hC
  exact va_ldcS hx hb (own := "LeastKnown$Reader") (ho ▸ hown) (vk_R.warm hWm hZ.1) hd (k p l e R s m args below meth c H locs ls Qm hG hC hW hl hr)
theorem go_gfS {o n d : String} {q : Nat} {v : Value} (hE : va_OF o n d v q (kA G) (kg G) (kg G).heap) (hli : kW (Cond.fieldLink M.1.cls idx o n d)) (hd : decode M.2.1 pc = .ok (.getfield idx, 3)) (hn : pc + 3 = nx) (k : Go G M κ nx lv (v :: st) z h Q) : Go G M κ pc lv (.ref q :: st) z h Q := by
  intro p l e R s m args below meth c H locs ls Qm hG hC hW hl hr
  subst hn
  obtain ⟨hx, hb, hml, hown, hname, hWm, -⟩ := id hC
  obtain ⟨cf, kk, i, f, cell, h1, h2, h3, h4, h5, h6⟩ := (va_OF.moved hWm.alike hE).kept hW.2.2.2.1
  exact W.getf hx hb hown (kword hG hWm hli args) h1 h2 h3 h4 (v := v) h5 rfl rfl hd (k p l e R s m args below meth c H locs ls Qm hG hC hW hl hr)
theorem go_gsS {o n d : String} {v : Value} (hE : va_Z o n d v (kA G) (kg G) (kg G).heap) (hli : kW (Cond.fieldLink M.1.cls idx o n d)) (hd : decode M.2.1 pc = .ok (.getstatic idx, 3)) (hn : pc + 3 = nx) (k : Go G M κ nx lv (v :: st) z h Q) : Go G M κ pc lv st z h Q := by
  intro p l e R s m args below meth c H locs ls Qm hG hC hW hl hr
  subst hn
  obtain ⟨hx, hb, hml, hown, hname, hWm, -⟩ := id hC
  obtain ⟨cf, kf, fi, f, a, cell, h1, h2, h3, h4, h5, h6, h7, h8⟩ := (va_Z.moved hWm.alike hE).kept hW.2.2.2.1
  exact W.gets hx hb hown (kword hG hWm hli args) h1 h2 h3 h4 h5 (fun e => by rw [e] at h6; cases h6) h7 rfl hd (k p l e R s m args below meth c H locs ls Qm hG hC hW hl hr)
theorem go_alnS {ty : FieldType} {q N : Nat} {f : Nat → Value} (hT : va_T ty q N f (kA G) (kg G) (kg G).heap) (hd : decode M.2.1 pc = .ok (.arraylength, 1)) (hn : pc + 1 = nx) (k : Go G M κ nx lv (.int (nI N) :: st) z h Q) : Go G M κ pc lv (.ref q :: st) z h Q := by
  intro p l e R s m args below meth c H locs ls Qm hG hC hW hl hr
  subst hn
  obtain ⟨hx, hb, hml, hown, hname, hWm, -⟩ := id hC
  obtain ⟨cell, h1, h2, h3, h4, h5, h6, h7⟩ := (va_T.moved hWm.alike hT).kept hW.2.2.2.1
  exact W.alen (n := nI N) hx hb h1 h2 h5 rfl rfl hd (k p l e R s m args below meth c H locs ls Qm hG hC hW hl hr)
theorem go_balS {q N j : Nat} {f : Nat → Value} {v : Value} (hT : va_T .byte q N f (kA G) (kg G) (kg G).heap) (hj : j < N) (hN : N < 2 ^ 31) (hv : f j = v) (hd : decode M.2.1 pc = .ok (.baload, 1)) (hn : pc + 1 = nx) (k : Go G M κ nx lv (v :: st) z h Q) : Go G M κ pc lv (.int (nI j) :: .ref q :: st) z h Q := by
  intro p l e R s m args below meth c H locs ls Qm hG hC hW hl hr
  subst hn
  subst hv
  obtain ⟨hx, hb, hml, hown, hname, hWm, -⟩ := id hC
  obtain ⟨cell, h1, h2, h3, h4, h5, h6, h7⟩ := (va_T.moved hWm.alike hT).kept hW.2.2.2.1
  refine W.bald (v := f j) hx hb h1 h2 h3 (fun q => ?_) (by rw [nI_clamp (by omega)]; exact h6 j hj) rfl rfl hd (k p l e R s m args below meth c H locs ls Qm hG hC hW hl hr)
  rcases q with q | q
  · exact nI_pos (by omega) q
  · rw [nI_clamp (by omega)] at q; omega
theorem go_callVS {q : Nat} (as : List Value) (ce : kCV M.1.cls idx M' na) (hO : va_O M'.1.cls q (kA G) (kg G) (kg G).heap) (hsp : Sp G M' κ' (.ref q :: as) z.1 h Q') (hd : decode M.2.1 pc = .ok (.invokevirtual idx, 3)) (hst : st = as.reverse ++ .ref q :: rest) (hna : as.length = na) (hcat : (rest.map fun v => v.category).sum ≤ 8) (hκ : κ'.1 + 1 ≤ κ.1 ∧ z.2.1 + κ'.2.1 ≤ κ.2.1 ∧ z.2.2 + κ'.2.2 ≤ κ.2.2) (hn : pc + 3 = nx)
    (kk : ∀ r n' h', Q' r n' h' → Go G M κ nx lv (r.toList ++ rest) (n', z.2.1 + κ'.2.1, z.2.2 + κ'.2.2) h' Q) : Go G M κ pc lv st z h Q := by
  intro p l e R s m args below meth c H locs ls Qm hG hC hW hl hr
  subst hn
  subst hst
  obtain ⟨hx, hb, hml, hown, hname, hWm, hfr, hlo, hrc, hrs⟩ := id hC
  obtain ⟨me, hli, hin, hse⟩ := ce
  obtain ⟨cell, c1, c2, c3, -⟩ := (va_O.moved hWm.alike hO).kept hW.2.2.2.1
  refine kBehind (va_runV (own := M.1.cls) (C := M'.1.cls) (Ts := []) ⟨hx, hb, hml, hown, fun _ h => by cases h⟩ (hsp l hG) ⟨kCallB (κ := κ) hG hWm me hκ.1 hfr hlo hli, kword hG hWm hin args, kword hG hWm hse args⟩ ⟨kPreC.blind, ⟨cell, c1, c2, c3⟩, kBoth hWm hW⟩ rfl hna hl.1 rfl (lv_room hcat) hd ⟨Nat.le_trans hκ.2.1 hrc, Nat.le_trans hκ.2.2 hrs⟩) hW fun r n' h' H' locs' hQ hW' => ?_
  exact kk r n' h' hQ p l e R s m args below meth c H' locs' ls Qm hG hC hW' hl hr
theorem go_VSi {q n cs sl k' : Nat} {Q' : Int32 → kH → Prop} (as : List Value) (ce : kCV M.1.cls idx M' na) (hO : va_O M'.1.cls q (kA G) (kg G) (kg G).heap) (hsp : Spi G M' k' (.ref q :: as) n h Q') (hd : decode M.2.1 pc = .ok (.invokevirtual idx, 3)) (hst : st = as.reverse ++ .ref q :: rest) (hna : as.length = na) (hcat : (rest.map fun v => v.category).sum ≤ 8) (hk : k' + 1 ≤ κ.1) (hc : cs ≤ κ.2.1 ∧ sl ≤ κ.2.2) (hn : pc + 3 = nx)
    (kk : ∀ v h', Q' v h' → Go G M κ nx lv (.int v :: rest) (n, cs, sl) h' Q) : Go G M κ pc lv st (n, cs, sl) h Q := by
  refine go_callVS (κ' := (k', 0, 0)) as ce hO hsp hd hst hna hcat ⟨hk, hc⟩ hn ?_
  rintro r n' h' ⟨rfl, v, rfl, hq⟩
  exact kk v h' hq
end KST
theorem km_J0_coder_7d493 : kMe mJ0_coder_7d493 0 := ⟨⟨List.mem_of_getElem? (i := 345) (by decide +kernel), by decide +kernel⟩, ⟨List.mem_of_getElem? (i := 61) (by decide +kernel), by decide +kernel⟩, ⟨by decide +kernel, by decide +kernel, by decide +kernel⟩, by decide⟩
theorem kc_J0_335 : kCV RJ0 335 mJ0_coder_7d493 0 := ⟨km_J0_coder_7d493, ⟨List.mem_of_getElem? (i := 342) (by decide +kernel), by decide +kernel⟩, ⟨List.mem_of_getElem? (i := 343) (by decide +kernel), by decide +kernel⟩, ⟨List.mem_of_getElem? (i := 344) (by decide +kernel), by decide +kernel⟩⟩
theorem km_J0_isLatin1_aae02 : kMe mJ0_isLatin1_aae02 0 := ⟨⟨List.mem_of_getElem? (i := 355) (by decide +kernel), by decide +kernel⟩, ⟨List.mem_of_getElem? (i := 61) (by decide +kernel), by decide +kernel⟩, ⟨by decide +kernel, by decide +kernel, by decide +kernel⟩, by decide⟩
theorem kc_J0_492 : kCV RJ0 492 mJ0_isLatin1_aae02 0 := ⟨km_J0_isLatin1_aae02, ⟨List.mem_of_getElem? (i := 352) (by decide +kernel), by decide +kernel⟩, ⟨List.mem_of_getElem? (i := 353) (by decide +kernel), by decide +kernel⟩, ⟨List.mem_of_getElem? (i := 354) (by decide +kernel), by decide +kernel⟩⟩
theorem km_J1_charAt_3b067 : kMe mJ1_charAt_3b067 2 := ⟨⟨List.mem_of_getElem? (i := 358) (by decide +kernel), by decide +kernel⟩, ⟨List.mem_of_getElem? (i := 62) (by decide +kernel), by decide +kernel⟩, ⟨by decide +kernel, by decide +kernel, by decide +kernel⟩, by decide⟩
theorem kc_J0_495 : kCS RJ0 495 mJ1_charAt_3b067 2 := ⟨km_J1_charAt_3b067, ⟨List.mem_of_getElem? (i := 356) (by decide +kernel), by decide +kernel⟩, ⟨List.mem_of_getElem? (i := 357) (by decide +kernel), by decide +kernel⟩⟩
theorem km_J0_checkIndex_df160 : kMe mJ0_checkIndex_df160 2 := ⟨⟨List.mem_of_getElem? (i := 361) (by decide +kernel), by decide +kernel⟩, ⟨List.mem_of_getElem? (i := 61) (by decide +kernel), by decide +kernel⟩, ⟨by decide +kernel, by decide +kernel, by decide +kernel⟩, by decide⟩
theorem kc_J1_9 : kCS RJ1 9 mJ0_checkIndex_df160 2 := ⟨km_J0_checkIndex_df160, ⟨List.mem_of_getElem? (i := 359) (by decide +kernel), by decide +kernel⟩, ⟨List.mem_of_getElem? (i := 360) (by decide +kernel), by decide +kernel⟩⟩
theorem km_J3_checkIndex_8e157 : kMe mJ3_checkIndex_8e157 3 := ⟨⟨List.mem_of_getElem? (i := 366) (by decide +kernel), by decide +kernel⟩, ⟨List.mem_of_getElem? (i := 63) (by decide +kernel), by decide +kernel⟩, ⟨by decide +kernel, by decide +kernel, by decide +kernel⟩, by decide⟩
theorem kc_J0_1059 : kCS RJ0 1059 mJ3_checkIndex_8e157 3 := ⟨km_J3_checkIndex_8e157, ⟨List.mem_of_getElem? (i := 364) (by decide +kernel), by decide +kernel⟩, ⟨List.mem_of_getElem? (i := 365) (by decide +kernel), by decide +kernel⟩⟩
theorem ks_9 : kW (Cond.fieldLink RJ0 9 "java/lang/String" "value" "[B") := ⟨List.mem_of_getElem? (i := 1025) (by decide +kernel), by decide +kernel⟩
theorem ks_15 : kW (Cond.fieldLink RJ0 15 "java/lang/String" "coder" "B") := ⟨List.mem_of_getElem? (i := 1026) (by decide +kernel), by decide +kernel⟩
theorem ks_38 : kW (Cond.fieldLink RJ0 38 "java/lang/String" "COMPACT_STRINGS" "Z") := ⟨List.mem_of_getElem? (i := 346) (by decide +kernel), by decide +kernel⟩
theorem ks_1053 : kW (Cond.fieldLink RJ0 1053 "jdk/internal/util/Preconditions" "SIOOBE_FORMATTER" "Ljava/util/function/BiFunction;") := ⟨List.mem_of_getElem? (i := 362) (by decide +kernel), by decide +kernel⟩
theorem st_coder {G : kG} {n : Nat} {h : kH} {aK aV : Nat} (hZ : kSt G aK aV) : Spi G mJ0_coder_7d493 0 [.ref aK] n h (fun v h' => v = 0 ∧ h' = h) := by
  refine Spi.of (by decide) (Nat.le_of_ble_eq_true rfl) ?_
  refine go_gsS (nx := 3) hZ.2.2.2.2.2.1 ks_38 dJ0_coder_7d493_0 rfl ?_
  refine go_if_eq 13 (nx := 6) dJ0_coder_7d493_3 rfl rfl (fun c3 => absurd c3 (by decide)) (fun c3 => ?_)
  refine go_aload_n 0 (nx := 7) dJ0_coder_7d493_6 rfl rfl rfl ?_
  refine go_gfS (nx := 10) hZ.2.2.1 ks_15 dJ0_coder_7d493_7 rfl ?_
  refine go_goto 14 dJ0_coder_7d493_10 rfl ?_
  refine go_reti dJ0_coder_7d493_14 ⟨_, rfl, rfl⟩ ?_
  exact ⟨rfl, rfl⟩
theorem st_isLatin1 {G : kG} {n : Nat} {h : kH} {aK aV : Nat} (hZ : kSt G aK aV) : Spi G mJ0_isLatin1_aae02 0 [.ref aK] n h (fun v h' => v = nI 1 ∧ h' = h) := by
  refine Spi.of (by decide) (Nat.le_of_ble_eq_true rfl) ?_
  refine go_gsS (nx := 3) hZ.2.2.2.2.2.1 ks_38 dJ0_isLatin1_aae02_0 rfl ?_
  refine go_if_eq 17 (nx := 6) dJ0_isLatin1_aae02_3 rfl rfl (fun c3 => absurd c3 (by decide)) (fun c3 => ?_)
  refine go_aload_n 0 (nx := 7) dJ0_isLatin1_aae02_6 rfl rfl rfl ?_
  refine go_gfS (nx := 10) hZ.2.2.1 ks_15 dJ0_isLatin1_aae02_7 rfl ?_
  refine go_if_ne 17 (nx := 13) dJ0_isLatin1_aae02_10 rfl rfl (fun c10 => absurd rfl c10) (fun c10 => ?_)
  refine go_iconst (v := nI 1) (nx := 14) dJ0_isLatin1_aae02_13 (by decide) rfl ?_
  refine go_goto 18 dJ0_isLatin1_aae02_14 rfl ?_
  refine go_reti dJ0_isLatin1_aae02_18 ⟨_, rfl, rfl⟩ ?_
  exact ⟨rfl, rfl⟩
theorem st_length {G : kG} {n : Nat} {h : kH} {aK aV : Nat} (hZ : kSt G aK aV) : Spi G mJ0_length_8abf5 1 [.ref aK] n h (fun v h' => v = nI 80 ∧ h' = h) := by
  refine Spi.of (by decide) (Nat.le_of_ble_eq_true rfl) ?_
  refine go_aload_n 0 (nx := 1) dJ0_length_8abf5_0 rfl rfl rfl ?_
  refine go_gfS (nx := 4) hZ.2.2.2.1 ks_9 dJ0_length_8abf5_1 rfl ?_
  refine go_alnS (nx := 5) hZ.2.2.2.2.1 dJ0_length_8abf5_4 rfl ?_
  refine go_aload_n 0 (nx := 6) dJ0_length_8abf5_5 rfl rfl rfl ?_
  refine go_VSi (nx := 9) [] kc_J0_335 hZ.2.1 (st_coder hZ) dJ0_length_8abf5_6 rfl rfl (Nat.le_of_ble_eq_true rfl) (Nat.le_of_ble_eq_true rfl) ⟨Nat.le_refl _, Nat.le_refl _⟩ rfl (fun v h1 hq => ?_)
  obtain ⟨rfl, rfl⟩ := hq
  refine go_ishr (nx := 10) dJ0_length_8abf5_9 rfl ?_
  refine go_reti dJ0_length_8abf5_10 ⟨_, rfl, rfl⟩ ?_
  exact ⟨by decide, rfl⟩
theorem st_pre {G : kG} {n : Nat} {h : kH} {k : Nat} {x : Value} (hk : k < 80) (hx : x = .null ∨ ∃ t, x = .ref t) : Spi G mJ3_checkIndex_8e157 0 [.int (nI k), .int (nI 80), x] n h (fun v h' => v = nI k ∧ h' = h) := by
  rcases hx with rfl | ⟨t, rfl⟩

  · refine Spi.of (by decide) (Nat.le_of_ble_eq_true rfl) ?_
    refine go_iload_n 0 (nx := 1) dJ3_checkIndex_8e157_0 rfl rfl rfl ?_
    refine go_if_lt 9 (nx := 4) dJ3_checkIndex_8e157_1 rfl rfl (fun c1 => absurd c1 (nI_pos (by omega))) (fun c1 => ?_)
    refine go_iload_n 0 (nx := 5) dJ3_checkIndex_8e157_4 rfl rfl rfl ?_
    refine go_iload_n 1 (nx := 6) dJ3_checkIndex_8e157_5 rfl rfl rfl ?_
    refine go_icmp_lt 16 (nx := 9) dJ3_checkIndex_8e157_6 rfl rfl (fun c6 => ?_) (fun c6 => absurd (nI_lt hk (by decide)) c6)
    refine go_iload_n 0 (nx := 17) dJ3_checkIndex_8e157_16 rfl rfl rfl ?_
    refine go_reti dJ3_checkIndex_8e157_17 ⟨_, rfl, rfl⟩ ?_
    exact ⟨rfl, rfl⟩
  · refine Spi.of (by decide) (Nat.le_of_ble_eq_true rfl) ?_
    refine go_iload_n 0 (nx := 1) dJ3_checkIndex_8e157_0 rfl rfl rfl ?_
    refine go_if_lt 9 (nx := 4) dJ3_checkIndex_8e157_1 rfl rfl (fun c1 => absurd c1 (nI_pos (by omega))) (fun c1 => ?_)
    refine go_iload_n 0 (nx := 5) dJ3_checkIndex_8e157_4 rfl rfl rfl ?_
    refine go_iload_n 1 (nx := 6) dJ3_checkIndex_8e157_5 rfl rfl rfl ?_
    refine go_icmp_lt 16 (nx := 9) dJ3_checkIndex_8e157_6 rfl rfl (fun c6 => ?_) (fun c6 => absurd (nI_lt hk (by decide)) c6)
    refine go_iload_n 0 (nx := 17) dJ3_checkIndex_8e157_16 rfl rfl rfl ?_
    refine go_reti dJ3_checkIndex_8e157_17 ⟨_, rfl, rfl⟩ ?_
    exact ⟨rfl, rfl⟩
theorem st_check {G : kG} {n : Nat} {h : kH} {aK aV : Nat} (hZ : kSt G aK aV) {k : Nat} (hk : k < 80) : Spv G mJ0_checkIndex_df160 1 [.int (nI k), .int (nI 80)] n h (fun h' => h' = h) := by
  rcases hZ.2.2.2.2.2.2 with hq0 | ⟨t, hq0⟩
  · refine Spv.of (by decide) (Nat.le_of_ble_eq_true rfl) ?_
    refine go_iload_n 0 (nx := 1) dJ0_checkIndex_df160_0 rfl rfl rfl ?_
    refine go_iload_n 1 (nx := 2) dJ0_checkIndex_df160_1 rfl rfl rfl ?_
    refine go_gsS (nx := 5) hq0 ks_1053 dJ0_checkIndex_df160_2 rfl ?_
    refine go_Si (nx := 8) [_, _, _] kc_J0_1059 (st_pre hk (.inl rfl)) dJ0_checkIndex_df160_5 rfl rfl (Nat.le_of_ble_eq_true rfl) (Nat.le_of_ble_eq_true rfl) ⟨Nat.le_refl _, Nat.le_refl _⟩ rfl (fun v h1 hq => ?_)
    obtain ⟨rfl, rfl⟩ := hq
    refine go_pop (nx := 9) dJ0_checkIndex_df160_8 rfl rfl ?_
    refine go_retv dJ0_checkIndex_df160_9 rfl ?_
    rfl
  · refine Spv.of (by decide) (Nat.le_of_ble_eq_true rfl) ?_
    refine go_iload_n 0 (nx := 1) dJ0_checkIndex_df160_0 rfl rfl rfl ?_
    refine go_iload_n 1 (nx := 2) dJ0_checkIndex_df160_1 rfl rfl rfl ?_
    refine go_gsS (nx := 5) hq0 ks_1053 dJ0_checkIndex_df160_2 rfl ?_
    refine go_Si (nx := 8) [_, _, _] kc_J0_1059 (st_pre hk (.inr ⟨_, rfl⟩)) dJ0_checkIndex_df160_5 rfl rfl (Nat.le_of_ble_eq_true rfl) (Nat.le_of_ble_eq_true rfl) ⟨Nat.le_refl _, Nat.le_refl _⟩ rfl (fun v h1 hq => ?_)
    obtain ⟨rfl, rfl⟩ := hq
    refine go_pop (nx := 9) dJ0_checkIndex_df160_8 rfl rfl ?_
    refine go_retv dJ0_checkIndex_df160_9 rfl ?_
    rfl
theorem W80_char : ∀ k, k < 80 → ((W80I.getD k 0 &&& nI 255).toUInt32 % 65536).toInt32 = nI (W8 k) := by decide +kernel
theorem W80_nar : ∀ k, k < 80 → narrow .char (.int (nI (W8 k))) = .int (nI (W8 k)) := by decide +kernel
theorem st_latin {G : kG} {n : Nat} {h : kH} {aK aV : Nat} (hZ : kSt G aK aV) {k : Nat} (hk : k < 80) : Spi G mJ1_charAt_3b067 2 [.ref aV, .int (nI k)] n h (fun v h' => v = nI (W8 k) ∧ h' = h) := by
  refine Spi.of (by decide) (Nat.le_of_ble_eq_true rfl) ?_
  refine go_iload_n 1 (nx := 1) dJ1_charAt_3b067_0 rfl rfl rfl ?_
  refine go_aload_n 0 (nx := 2) dJ1_charAt_3b067_1 rfl rfl rfl ?_
  refine go_alnS (nx := 3) hZ.2.2.2.2.1 dJ1_charAt_3b067_2 rfl ?_
  refine go_Sv (nx := 6) [_, _] kc_J1_9 (st_check hZ hk) dJ1_charAt_3b067_3 rfl rfl (Nat.le_of_ble_eq_true rfl) (Nat.le_of_ble_eq_true rfl) ⟨Nat.le_refl _, Nat.le_refl _⟩ rfl (fun h1 hq => ?_)
  obtain rfl := hq
  refine go_aload_n 0 (nx := 7) dJ1_charAt_3b067_6 rfl rfl rfl ?_
  refine go_iload_n 1 (nx := 8) dJ1_charAt_3b067_7 rfl rfl rfl ?_
  refine go_balS (nx := 9) (v := .int (W80I.getD k 0)) hZ.2.2.2.2.1 hk (by decide) rfl dJ1_charAt_3b067_8 rfl ?_
  refine go_sipush (v := nI 255) (nx := 12) dJ1_charAt_3b067_9 (by decide) rfl ?_
  refine go_iand (nx := 13) dJ1_charAt_3b067_12 rfl ?_
  refine go_i2c (nx := 14) dJ1_charAt_3b067_13 rfl ?_
  rw [W80_char k hk]
  refine go_reti dJ1_charAt_3b067_14 ⟨_, rfl, W80_nar k hk⟩ ?_
  exact ⟨rfl, rfl⟩
theorem st_charAt {G : kG} {n : Nat} {h : kH} {aK aV : Nat} (hZ : kSt G aK aV) {k : Nat} (hk : k < 80) : Spi G mJ0_charAt_5068e 3 [.ref aK, .int (nI k)] n h (fun v h' => v = nI (W8 k) ∧ h' = h) := by
  refine Spi.of (by decide) (Nat.le_of_ble_eq_true rfl) ?_
  refine go_aload_n 0 (nx := 1) dJ0_charAt_5068e_0 rfl rfl rfl ?_
  refine go_VSi (nx := 4) [] kc_J0_492 hZ.2.1 (st_isLatin1 hZ) dJ0_charAt_5068e_1 rfl rfl (Nat.le_of_ble_eq_true rfl) (Nat.le_of_ble_eq_true rfl) ⟨Nat.le_refl _, Nat.le_refl _⟩ rfl (fun v h1 hq => ?_)
  obtain ⟨rfl, rfl⟩ := hq
  refine go_if_eq 16 (nx := 7) dJ0_charAt_5068e_4 rfl rfl (fun c3 => absurd c3 (by decide)) (fun c3 => ?_)
  refine go_aload_n 0 (nx := 8) dJ0_charAt_5068e_7 rfl rfl rfl ?_
  refine go_gfS (nx := 11) hZ.2.2.2.1 ks_9 dJ0_charAt_5068e_8 rfl ?_
  refine go_iload_n 1 (nx := 12) dJ0_charAt_5068e_11 rfl rfl rfl ?_
  refine go_Si (nx := 15) [_, _] kc_J0_495 (st_latin hZ hk) dJ0_charAt_5068e_12 rfl rfl (Nat.le_of_ble_eq_true rfl) (Nat.le_of_ble_eq_true rfl) ⟨Nat.le_refl _, Nat.le_refl _⟩ rfl (fun v h1 hq => ?_)
  obtain ⟨rfl, rfl⟩ := hq
  refine go_reti dJ0_charAt_5068e_15 ⟨_, rfl, W80_nar k hk⟩ ?_
  exact ⟨rfl, rfl⟩
