/-! the law's loop, its start -/
theorem nI_i5 (i : Nat) : nI i + Int32.ofInt 5 = nI (i + 5) := by rw [show Int32.ofInt 5 = nI 5 from by decide, nI_add]
theorem len5 {L i : Nat} (hL : L ≤ 2560) (hi : i ≤ L) (h : ¬ nI L - nI 5 < nI i) : i + 5 ≤ L := by
  have h1 := Int32.le_iff_toInt_le.mp (Int32.not_lt.mp h)
  rw [nI_toInt (by omega), pk_sub_toInt (by omega) (by decide)] at h1
  omega
theorem law_loop {G : kG} {nm : String} {b L : Nat} {xs : Nat → Int32} (hXs : va_X b L xs (kg G) (kg G).heap) (hbl : b < (kg G).heap.size) (hL5 : L ≤ 2560) : ∀ (d i : Nat) (h : kH) (t : Nat) (S : mS), L - i < d → i ≤ L → oX G t S h → oM G S h → wS S → Go G (kL nm) (11, 49, 2535) 18 (LV G b i) [] (49, 49, 2535) h QL := by
  intro d
  induction d with
  | zero => intro i h t S hd; omega
  | succ d ih =>
    intro i h t S hd hi HX HM W
    obtain ⟨tx, sz, ν, i0, i1, T, tr⟩ := S
    have hL : L < 2 ^ 31 := by omega
    refine go_iload_n 0 (nx := 19) dL_law_18 rfl rfl rfl ?_
    refine go_aload_n 1 (nx := 20) dL_law_19 rfl rfl rfl ?_
    refine go_slen (nx := 21) hXs hbl dL_law_20 rfl ?_
    refine go_iconst (v := nI 5) (nx := 22) dL_law_21 (by decide) rfl ?_
    refine go_isub (nx := 23) dL_law_22 rfl ?_
    refine go_icmp_gt 904 (nx := 26) dL_law_23 rfl rfl (fun c23 => ?_) (fun c23 => ?_)
    · skip
      refine go_iconst (v := nI 1) (nx := 905) dL_law_904 (by decide) rfl ?_
      exact go_ireturn dL_law_905 ⟨rfl, by decide, by decide⟩
    · skip
      have hi5 := len5 hL5 hi c23
      have cont : ∀ (t : Nat) (S : mS) (h : kH), oX G t S h → oM G S h → wS S → Go G (kL nm) (11, 49, 2535) 898 (LV G b i) [] (49, 49, 2535) h QL := by
        intro t S h HX HM W
        refine go_iinc 0 (v := nI (i + 5)) (lv' := LV G b (i + 5)) (nx := 901) dL_law_898 rfl (nI_i5 i) (by show _ < 4; decide) rfl rfl ?_
        refine go_goto 18 dL_law_901 rfl ?_
        exact ih (i + 5) h t S (by omega) (by omega) HX HM W
      refine go_aload_n 1 (nx := 27) dL_law_26 rfl rfl rfl ?_
      refine go_iload_n 0 (nx := 28) dL_law_27 rfl rfl rfl ?_
      refine go_sld (i) (nx := 29) hXs hbl (by omega) hL rfl dL_law_28 rfl ?_
      refine go_bipush (v := nI 31) (nx := 31) dL_law_29 (by decide) rfl ?_
      refine go_iand (nx := 32) dL_law_31 rfl ?_
      rcases sw_0_26 (xs i &&& nI 31) with hs32 | hs32 | hs32 | hs32 | hs32 | hs32 | hs32 | hs32 | hs32 | hs32 | hs32 | hs32 | hs32 | hs32 | hs32 | hs32 | hs32 | hs32 | hs32 | hs32 | hs32 | hs32 | hs32 | hs32 | hs32 | hs32 | hs32 | hs32
      · refine go_tableOut 898 dL_law_32 hs32 rfl ?_
        exact cont _ _ _ HX HM W
      · refine go_tableIn 156 dL_law_32 (by rw [hs32]; decide) (by rw [hs32]; decide) (off := 124) (by rw [hs32]; rfl) rfl ?_
        exact law_type hXs hbl hL hi5 HX HM W cont
      · refine go_tableIn 219 dL_law_32 (by rw [hs32]; decide) (by rw [hs32]; decide) (off := 187) (by rw [hs32]; rfl) rfl ?_
        exact law_clear hXs hbl hL hi5 HX HM W cont
      · refine go_tableIn 232 dL_law_32 (by rw [hs32]; decide) (by rw [hs32]; decide) (off := 200) (by rw [hs32]; rfl) rfl ?_
        exact law_town hXs hbl hL hi5 HX HM W cont
      · refine go_tableIn 245 dL_law_32 (by rw [hs32]; decide) (by rw [hs32]; decide) (off := 213) (by rw [hs32]; rfl) rfl ?_
        exact law_knows hXs hbl hL hi5 HX HM W cont
      · refine go_tableIn 278 dL_law_32 (by rw [hs32]; decide) (by rw [hs32]; decide) (off := 246) (by rw [hs32]; rfl) rfl ?_
        exact law_seen hXs hbl hL hi5 HX HM W cont
      · refine go_tableIn 311 dL_law_32 (by rw [hs32]; decide) (by rw [hs32]; decide) (off := 279) (by rw [hs32]; rfl) rfl ?_
        exact law_person hXs hbl hL hi5 HX HM W cont
      · refine go_tableIn 344 dL_law_32 (by rw [hs32]; decide) (by rw [hs32]; decide) (off := 312) (by rw [hs32]; rfl) rfl ?_
        exact law_law hXs hbl hL hi5 HX HM W cont
      · refine go_tableIn 367 dL_law_32 (by rw [hs32]; decide) (by rw [hs32]; decide) (off := 335) (by rw [hs32]; rfl) rfl ?_
        exact law_rules hXs hbl hL hi5 HX HM W cont
      · refine go_tableIn 400 dL_law_32 (by rw [hs32]; decide) (by rw [hs32]; decide) (off := 368) (by rw [hs32]; rfl) rfl ?_
        exact law_chosen hXs hbl hL hi5 HX HM W cont
      · refine go_tableIn 413 dL_law_32 (by rw [hs32]; decide) (by rw [hs32]; decide) (off := 381) (by rw [hs32]; rfl) rfl ?_
        exact law_meet hXs hbl hL hi5 HX HM W cont
      · refine go_tableIn 446 dL_law_32 (by rw [hs32]; decide) (by rw [hs32]; decide) (off := 414) (by rw [hs32]; rfl) rfl ?_
        exact law_introduce hXs hbl hL hi5 HX HM W cont
      · refine go_tableIn 489 dL_law_32 (by rw [hs32]; decide) (by rw [hs32]; decide) (off := 457) (by rw [hs32]; rfl) rfl ?_
        exact law_moves hXs hbl hL hi5 HX HM W cont
      · refine go_tableIn 512 dL_law_32 (by rw [hs32]; decide) (by rw [hs32]; decide) (off := 480) (by rw [hs32]; rfl) rfl ?_
        exact law_go hXs hbl hL hi5 HX HM W cont
      · refine go_tableIn 535 dL_law_32 (by rw [hs32]; decide) (by rw [hs32]; decide) (off := 503) (by rw [hs32]; rfl) rfl ?_
        exact law_now hXs hbl hL hi5 HX HM W cont
      · refine go_tableIn 558 dL_law_32 (by rw [hs32]; decide) (by rw [hs32]; decide) (off := 526) (by rw [hs32]; rfl) rfl ?_
        exact law_anew hXs hbl hL hi5 HX HM W cont
      · refine go_tableIn 571 dL_law_32 (by rw [hs32]; decide) (by rw [hs32]; decide) (off := 539) (by rw [hs32]; rfl) rfl ?_
        exact law_reigns hXs hbl hL hi5 HX HM W cont
      · refine go_tableIn 594 dL_law_32 (by rw [hs32]; decide) (by rw [hs32]; decide) (off := 562) (by rw [hs32]; rfl) rfl ?_
        exact law_ring hXs hbl hL hi5 HX HM W cont
      · refine go_tableIn 607 dL_law_32 (by rw [hs32]; decide) (by rw [hs32]; decide) (off := 575) (by rw [hs32]; rfl) rfl ?_
        exact law_brings hXs hbl hL hi5 HX HM W cont
      · refine go_tableIn 650 dL_law_32 (by rw [hs32]; decide) (by rw [hs32]; decide) (off := 618) (by rw [hs32]; rfl) rfl ?_
        exact law_days hXs hbl hL hi5 HX HM W cont
      · refine go_tableIn 703 dL_law_32 (by rw [hs32]; decide) (by rw [hs32]; decide) (off := 671) (by rw [hs32]; rfl) rfl ?_
        exact law_asks hXs hbl hL hi5 HX HM W cont
      · refine go_tableIn 736 dL_law_32 (by rw [hs32]; decide) (by rw [hs32]; decide) (off := 704) (by rw [hs32]; rfl) rfl ?_
        exact law_party hXs hbl hL hi5 HX HM W cont
      · refine go_tableIn 759 dL_law_32 (by rw [hs32]; decide) (by rw [hs32]; decide) (off := 727) (by rw [hs32]; rfl) rfl ?_
        exact law_parties hXs hbl hL hi5 HX HM W cont
      · refine go_tableIn 782 dL_law_32 (by rw [hs32]; decide) (by rw [hs32]; decide) (off := 750) (by rw [hs32]; rfl) rfl ?_
        exact law_rate hXs hbl hL hi5 HX HM W cont
      · refine go_tableIn 815 dL_law_32 (by rw [hs32]; decide) (by rw [hs32]; decide) (off := 783) (by rw [hs32]; rfl) rfl ?_
        exact law_keep hXs hbl hL hi5 HX HM W cont
      · refine go_tableIn 838 dL_law_32 (by rw [hs32]; decide) (by rw [hs32]; decide) (off := 806) (by rw [hs32]; rfl) rfl ?_
        exact law_back hXs hbl hL hi5 HX HM W cont
      · refine go_tableIn 861 dL_law_32 (by rw [hs32]; decide) (by rw [hs32]; decide) (off := 829) (by rw [hs32]; rfl) rfl ?_
        exact law_count hXs hbl hL hi5 HX HM W cont
      · refine go_tableIn 884 dL_law_32 (by rw [hs32]; decide) (by rw [hs32]; decide) (off := 852) (by rw [hs32]; rfl) rfl ?_
        exact law_trace hXs hbl hL hi5 HX HM W cont
theorem law_start {G : kG} {nm : String} {b L : Nat} {xs : Nat → Int32} {h : kH} (hXs : va_X b L xs (kg G) (kg G).heap) (hbl : b < (kg G).heap.size) (hL5 : L ≤ 2560) : Go G (kL nm) (11, 49, 2535) 0 [(0, .ref b)] [] (0, 0, 0) h QL := by
  refine go_nw (nx := 3) kn_L_7 dL_law_0 (Nat.le_of_ble_eq_true rfl) (Nat.le_of_ble_eq_true rfl) rfl (fun h1 eh1 fh1 => ?_)
  have hX := eh1
  have hX : h1 0 = .inr (6, [.null, .null, .null, .null, .null, .null, .null, .null, .long 0]) := hX
  refine go_dup (nx := 4) dL_law_3 rfl rfl ?_
  refine go_mkI (nx := 7) [] kc_L_9 (c_LeastKnown hX) dL_law_4 rfl rfl (Nat.le_of_ble_eq_true rfl) ⟨Nat.le_of_ble_eq_true rfl, Nat.le_of_ble_eq_true rfl, Nat.le_of_ble_eq_true rfl⟩ rfl (fun h2 hqh2 => ?_)
  have HX := hqh2
  refine go_astore_n (lv' := [_, _]) (nx := 8) dL_law_7 rfl (by show _ < 4; decide) rfl rfl ?_
  refine go_nw (nx := 11) kn_L_10 dL_law_8 (Nat.le_of_ble_eq_true rfl) (Nat.le_of_ble_eq_true rfl) rfl (fun h3 eh3 fh3 => ?_)
  have hM := eh3
  have hM : h3 37 = .inr (7, [.int 0, .long 0, .null, .int 0, .int 0, .int 0, .int 0, .int 0, .int 0, .null, .null, .int 0, .int 0, .int 0, .int 0, .int 0, .int 0, .int 0, .int 0, .int 0, .int 0, .null, .null, .null, .null, .null, .null, .null, .null]) := hM
  have HX := HX.frAll (fun j hj => fh3 j (by omega) : kFr 37 38 _ h3) (by omega)
  refine go_dup (nx := 12) dL_law_11 rfl rfl ?_
  refine go_mkI (nx := 15) [] kc_L_12 (c_Model hM) dL_law_12 rfl rfl (Nat.le_of_ble_eq_true rfl) ⟨Nat.le_of_ble_eq_true rfl, Nat.le_of_ble_eq_true rfl, Nat.le_of_ble_eq_true rfl⟩ rfl (fun h4 hqh4 => ?_)
  obtain ⟨HM, gC⟩ := hqh4
  have HX := HX.frAll gC (by omega)
  refine go_astore_n (lv' := [_, _, _]) (nx := 16) dL_law_15 rfl (by show _ < 4; decide) rfl rfl ?_
  refine go_iconst (v := nI 0) (nx := 17) dL_law_16 (by decide) rfl ?_
  refine go_istore_n (lv' := [_, _, _, _]) (nx := 18) dL_law_17 rfl (by show _ < 4; decide) rfl rfl ?_
  refine Go.sub [0, 3, 2, 1] rfl ?_
  exact law_loop hXs hbl hL5 (L + 1) 0 _ 31 S0 (by omega) (Nat.zero_le _) HX HM wS_0
