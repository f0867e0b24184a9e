/-! the reference: a byte of the text, and words -/
def pO (G : kG) (tr : Int64) (sz : Nat) (T : mT) (th nx tk pl va fa dP dF dL dJ wF wL : Int32) (h : kH) : Prop := h 37 = .inr (7, [.int th, .long tr, .ref (kb G + 38), .int (nI sz), .int nx, .int tk, .int pl, .int va, .int fa, .ref (kb G + 39), .ref (kb G + 40), .int (nI T.1), .int dP, .int (nI T.2.2.2.1), .int dF, .int (nI T.2.2.2.2.1), .int dL, .int (nI T.2.2.2.2.2), .int dJ, .int wF, .int wL, .ref (kb G + 41), .ref (kb G + 42), .ref (kb G + 43), .ref (kb G + 44), .ref (kb G + 45), .ref (kb G + 46), .ref (kb G + 47), .ref (kb G + 48)])
theorem pO.fr {G : kG} {sz lo hi : Nat} {T : mT} {tr : Int64} {th nx tk pl va fa dP dF dL dJ wF wL : Int32} {h h' : kH} (H : pO G tr sz T th nx tk pl va fa dP dF dL dJ wF wL h) (hF : kFr lo hi h h') (hd : 37 < lo ∨ hi ≤ 37) : pO G tr sz T th nx tk pl va fa dP dF dL dJ wF wL h' := (hF 37 hd).trans H
def mby (tx : Nat → Nat) (sz k : Nat) : Int32 := if k < sz then nI (tx k) else -1
theorem m_byteAt {G : kG} {n sz : Nat} {h : kH} {tx : Nat → Nat} {T : mT} {tr : Int64} {th nx tk pl va fa dP dF dL dJ wF wL : Int32} {k : Nat} {x : Int32} (hn : 49 ≤ n) (HO : pO G tr sz T th nx tk pl va fa dP dF dL dJ wF wL h) (HT : oTm G tx sz h) (h256 : ∀ j, tx j < 256) (hs4 : sz ≤ 400) (hx : x = nI k) (hk : k < 2 ^ 31) : Spi G mX7_byteAt 0 [.ref (kb G + 37), .int x] n h (fun v h' => v = mby tx sz k ∧ h' = h) := by
  subst hx
  have hM : h 37 = .inr (7, [.int th, .long tr, .ref (kb G + 38), .int (nI sz), .int nx, .int tk, .int pl, .int va, .int fa, .ref (kb G + 39), .ref (kb G + 40), .int (nI T.1), .int dP, .int (nI T.2.2.2.1), .int dF, .int (nI T.2.2.2.2.1), .int dL, .int (nI T.2.2.2.2.2), .int dJ, .int wF, .int wL, .ref (kb G + 41), .ref (kb G + 42), .ref (kb G + 43), .ref (kb G + 44), .ref (kb G + 45), .ref (kb G + 46), .ref (kb G + 47), .ref (kb G + 48)]) := HO
  obtain ⟨ta, htm, hta⟩ := id HT
  refine Spi.of (by decide) (Nat.le_of_ble_eq_true rfl) ?_
  refine go_iload_n 1 (nx := 1) dX7_byteAt_0 rfl rfl rfl ?_
  refine go_aload_n 0 (nx := 2) dX7_byteAt_1 rfl rfl rfl ?_
  refine go_gf (nx := 5) fg_X7_58 dX7_byteAt_2 (by omega) hM rfl rfl ?_
  refine go_icmp_ge 17 (nx := 8) dX7_byteAt_5 rfl rfl (fun c5 => ?_) (fun c5 => ?_)
  · skip
    refine go_iconst (v := (-1)) (nx := 18) dX7_byteAt_17 (by decide) rfl ?_
    refine go_reti dX7_byteAt_18 ⟨_, rfl, rfl⟩ ?_
    exact ⟨by rw [mby, if_neg (by have := kle c5; omega)], rfl⟩
  · skip
    refine go_aload_n 0 (nx := 9) dX7_byteAt_8 rfl rfl rfl ?_
    refine go_gf (nx := 12) fg_X7_7 dX7_byteAt_9 (by omega) hM rfl rfl ?_
    refine go_iload_n 1 (nx := 13) dX7_byteAt_12 rfl rfl rfl ?_
    refine go_ial (k) (nx := 14) dX7_byteAt_13 (by omega) htm rfl (by have := knle c5; omega) (by omega) rfl ?_
    refine go_goto 18 dX7_byteAt_14 rfl ?_
    refine go_reti dX7_byteAt_18 ⟨_, rfl, rfl⟩ ?_
    have z := knle c5
    exact ⟨by rw [mby, if_pos z, hta k z], rfl⟩
def addL (v : Int64) (c : Int32) : Int64 := if c = 0 then v else 256 * v + c.toInt64
theorem m_add {G : kG} {n : Nat} {h : kH} {v : Int64} {c : Int32} : Spl G mX7_add 0 [.long v, .int c] n h (fun u h' => u = addL v c ∧ h' = h) := by
  refine Spl.of (by decide) (Nat.le_of_ble_eq_true rfl) ?_
  refine go_iload_n 1 (nx := 1) dX7_add_0 rfl rfl rfl ?_
  refine go_if_ne 8 (nx := 4) dX7_add_1 rfl rfl (fun c1 => ?_) (fun c1 => ?_)
  · skip
    refine go_ldc2 (nx := 11) kl_X7_63 dX7_add_8 rfl ?_
    refine go_lload_n 0 (nx := 12) dX7_add_11 rfl rfl rfl ?_
    refine go_lmul (nx := 13) dX7_add_12 rfl ?_
    refine go_iload_n 1 (nx := 14) dX7_add_13 rfl rfl rfl ?_
    refine go_i2l (nx := 15) dX7_add_14 rfl ?_
    refine go_ladd (nx := 16) dX7_add_15 rfl ?_
    refine go_retl dX7_add_16 rfl ?_
    exact ⟨by rw [addL, if_neg c1], rfl⟩
  · skip
    refine go_lload_n 0 (nx := 5) dX7_add_4 rfl rfl rfl ?_
    refine go_goto 16 dX7_add_5 rfl ?_
    refine go_retl dX7_add_16 rfl ?_
    exact ⟨by rw [addL, if_pos c1], rfl⟩
def namL (a b c d e f : Int32) : Int64 := addL (addL (addL (addL (addL (addL 0 a) b) c) d) e) f
theorem m_named {G : kG} {n : Nat} {h : kH} {a b c d e f : Int32} : Spl G mX7_named 1 [.int a, .int b, .int c, .int d, .int e, .int f] n h (fun u h' => u = namL a b c d e f ∧ h' = h) := by
  refine Spl.of (by decide) (Nat.le_of_ble_eq_true rfl) ?_
  refine go_lconst (v := 0) (nx := 1) dX7_named_0 (by decide) rfl ?_
  refine go_iload_n 0 (nx := 2) dX7_named_1 rfl rfl rfl ?_
  refine go_Sl (nx := 5) [_, _] kc_X7_65 m_add dX7_named_2 rfl rfl (Nat.le_of_ble_eq_true rfl) (Nat.le_of_ble_eq_true rfl) ⟨Nat.le_refl _, Nat.le_refl _⟩ rfl (fun rh1 h1 hqh1 => ?_)
  obtain ⟨rfl, rfl⟩ := hqh1
  refine go_iload_n 1 (nx := 6) dX7_named_5 rfl rfl rfl ?_
  refine go_Sl (nx := 9) [_, _] kc_X7_65 m_add dX7_named_6 rfl rfl (Nat.le_of_ble_eq_true rfl) (Nat.le_of_ble_eq_true rfl) ⟨Nat.le_refl _, Nat.le_refl _⟩ rfl (fun rh2 h2 hqh2 => ?_)
  obtain ⟨rfl, rfl⟩ := hqh2
  refine go_iload_n 2 (nx := 10) dX7_named_9 rfl rfl rfl ?_
  refine go_Sl (nx := 13) [_, _] kc_X7_65 m_add dX7_named_10 rfl rfl (Nat.le_of_ble_eq_true rfl) (Nat.le_of_ble_eq_true rfl) ⟨Nat.le_refl _, Nat.le_refl _⟩ rfl (fun rh3 h3 hqh3 => ?_)
  obtain ⟨rfl, rfl⟩ := hqh3
  refine go_iload_n 3 (nx := 14) dX7_named_13 rfl rfl rfl ?_
  refine go_Sl (nx := 17) [_, _] kc_X7_65 m_add dX7_named_14 rfl rfl (Nat.le_of_ble_eq_true rfl) (Nat.le_of_ble_eq_true rfl) ⟨Nat.le_refl _, Nat.le_refl _⟩ rfl (fun rh4 h4 hqh4 => ?_)
  obtain ⟨rfl, rfl⟩ := hqh4
  refine go_iload 4 (nx := 19) dX7_named_17 rfl rfl ?_
  refine go_Sl (nx := 22) [_, _] kc_X7_65 m_add dX7_named_19 rfl rfl (Nat.le_of_ble_eq_true rfl) (Nat.le_of_ble_eq_true rfl) ⟨Nat.le_refl _, Nat.le_refl _⟩ rfl (fun rh5 h5 hqh5 => ?_)
  obtain ⟨rfl, rfl⟩ := hqh5
  refine go_iload 5 (nx := 24) dX7_named_22 rfl rfl ?_
  refine go_Sl (nx := 27) [_, _] kc_X7_65 m_add dX7_named_24 rfl rfl (Nat.le_of_ble_eq_true rfl) (Nat.le_of_ble_eq_true rfl) ⟨Nat.le_refl _, Nat.le_refl _⟩ rfl (fun rh6 h6 hqh6 => ?_)
  obtain ⟨rfl, rfl⟩ := hqh6
  refine go_retl dX7_named_27 rfl ?_
  exact ⟨rfl, rfl⟩
theorem FV_lt : ∀ w, w < 10 → FV w < 2 ^ 56 := by decide +kernel
theorem lN_56 {a b : Nat} (ha : a < 2 ^ 56) (hb : b < 2 ^ 56) (h : lN a = lN b) : a = b := by
  have h1 : (lN a).toInt = (a : Int) := lg_ofNat_toInt (by omega)
  have h2 : (lN b).toInt = (b : Int) := lg_ofNat_toInt (by omega)
  rw [h, h2] at h1
  omega
theorem cmp_t {V w : Nat} (hV : V < 2 ^ 56) (hw : w < 10) (h : lg_cmp (lN V) (lN (FV w)) = 0) : V = FV w := lN_56 hV (FV_lt w hw) ((lg_cmp_eq _ _).mp h)
theorem cmp_f {V w : Nat} (h : ¬ lg_cmp (lN V) (lN (FV w)) = 0) : ¬ V = FV w := fun q => h ((lg_cmp_eq _ _).mpr (by rw [q]))
def woI : Option Nat → Int32
  | none => -9
  | some w => nI w
theorem wOf_no {V : Nat} (h0 : ¬ V = FV 0) (h1 : ¬ V = FV 1) (h2 : ¬ V = FV 2) (h3 : ¬ V = FV 3) (h4 : ¬ V = FV 4) (h5 : ¬ V = FV 5) (h6 : ¬ V = FV 6) (h7 : ¬ V = FV 7) (h8 : ¬ V = FV 8) (h9 : ¬ V = FV 9) : wOf V = none := by
  refine ff_no (fun w hw => ?_)
  show (V == FV w) = false
  rw [beq_eq_false_iff_ne]
  rcases (show w = 0 ∨ w = 1 ∨ w = 2 ∨ w = 3 ∨ w = 4 ∨ w = 5 ∨ w = 6 ∨ w = 7 ∨ w = 8 ∨ w = 9 by omega) with rfl | rfl | rfl | rfl | rfl | rfl | rfl | rfl | rfl | rfl <;> assumption
theorem wOf_FV : ∀ w, w < 10 → wOf (FV w) = some w := by decide +kernel
theorem m_wordOf {G : kG} {n V : Nat} {h : kH} {v : Int64} (hV : V < 2 ^ 56) (hv : v = lN V) : Spi G mX7_wordOf 2 [.long v] n h (fun u h' => u = woI (wOf V) ∧ h' = h) := by
  subst hv
  refine Spi.of (by decide) (Nat.le_of_ble_eq_true rfl) ?_
  refine go_lload_n 0 (nx := 1) dX7_wordOf_0 rfl rfl rfl ?_
  refine go_bipush (v := nI 102) (nx := 3) dX7_wordOf_1 (by decide) rfl ?_
  refine go_bipush (v := nI 111) (nx := 5) dX7_wordOf_3 (by decide) rfl ?_
  refine go_bipush (v := nI 114) (nx := 7) dX7_wordOf_5 (by decide) rfl ?_
  refine go_bipush (v := nI 103) (nx := 9) dX7_wordOf_7 (by decide) rfl ?_
  refine go_bipush (v := nI 101) (nx := 11) dX7_wordOf_9 (by decide) rfl ?_
  refine go_bipush (v := nI 116) (nx := 13) dX7_wordOf_11 (by decide) rfl ?_
  refine go_Sl (nx := 16) [_, _, _, _, _, _] kc_X7_69 m_named dX7_wordOf_13 rfl rfl (Nat.le_of_ble_eq_true rfl) (Nat.le_of_ble_eq_true rfl) ⟨Nat.le_refl _, Nat.le_refl _⟩ rfl (fun rh1 h1 hqh1 => ?_)
  obtain ⟨rfl, rfl⟩ := hqh1
  refine go_bipush (v := nI 115) (nx := 18) dX7_wordOf_16 (by decide) rfl ?_
  refine go_Sl (nx := 21) [_, _] kc_X7_65 m_add dX7_wordOf_18 rfl rfl (Nat.le_of_ble_eq_true rfl) (Nat.le_of_ble_eq_true rfl) ⟨Nat.le_refl _, Nat.le_refl _⟩ rfl (fun rh2 h2 hqh2 => ?_)
  obtain ⟨rfl, rfl⟩ := hqh2
  rw [show addL (namL (nI 102) (nI 111) (nI 114) (nI 103) (nI 101) (nI 116)) (nI 115) = lN (FV 4) from by decide +kernel]
  refine go_lcmp (nx := 22) dX7_wordOf_21 rfl ?_
  refine go_if_ne 27 (nx := 25) dX7_wordOf_22 rfl rfl (fun c22 => ?_) (fun c22 => ?_)
  · skip
    refine go_lload_n 0 (nx := 28) dX7_wordOf_27 rfl rfl rfl ?_
    refine go_bipush (v := nI 112) (nx := 30) dX7_wordOf_28 (by decide) rfl ?_
    refine go_bipush (v := nI 101) (nx := 32) dX7_wordOf_30 (by decide) rfl ?_
    refine go_bipush (v := nI 114) (nx := 34) dX7_wordOf_32 (by decide) rfl ?_
    refine go_bipush (v := nI 115) (nx := 36) dX7_wordOf_34 (by decide) rfl ?_
    refine go_bipush (v := nI 111) (nx := 38) dX7_wordOf_36 (by decide) rfl ?_
    refine go_bipush (v := nI 110) (nx := 40) dX7_wordOf_38 (by decide) rfl ?_
    refine go_Sl (nx := 43) [_, _, _, _, _, _] kc_X7_69 m_named dX7_wordOf_40 rfl rfl (Nat.le_of_ble_eq_true rfl) (Nat.le_of_ble_eq_true rfl) ⟨Nat.le_refl _, Nat.le_refl _⟩ rfl (fun rh3 h3 hqh3 => ?_)
    obtain ⟨rfl, rfl⟩ := hqh3
    rw [show namL (nI 112) (nI 101) (nI 114) (nI 115) (nI 111) (nI 110) = lN (FV 0) from by decide +kernel]
    refine go_lcmp (nx := 44) dX7_wordOf_43 rfl ?_
    refine go_if_ne 51 (nx := 47) dX7_wordOf_44 rfl rfl (fun c44 => ?_) (fun c44 => ?_)
    · skip
      refine go_lload_n 0 (nx := 52) dX7_wordOf_51 rfl rfl rfl ?_
      refine go_bipush (v := nI 107) (nx := 54) dX7_wordOf_52 (by decide) rfl ?_
      refine go_bipush (v := nI 110) (nx := 56) dX7_wordOf_54 (by decide) rfl ?_
      refine go_bipush (v := nI 111) (nx := 58) dX7_wordOf_56 (by decide) rfl ?_
      refine go_bipush (v := nI 119) (nx := 60) dX7_wordOf_58 (by decide) rfl ?_
      refine go_bipush (v := nI 115) (nx := 62) dX7_wordOf_60 (by decide) rfl ?_
      refine go_iconst (v := nI 0) (nx := 63) dX7_wordOf_62 (by decide) rfl ?_
      refine go_Sl (nx := 66) [_, _, _, _, _, _] kc_X7_69 m_named dX7_wordOf_63 rfl rfl (Nat.le_of_ble_eq_true rfl) (Nat.le_of_ble_eq_true rfl) ⟨Nat.le_refl _, Nat.le_refl _⟩ rfl (fun rh4 h4 hqh4 => ?_)
      obtain ⟨rfl, rfl⟩ := hqh4
      rw [show namL (nI 107) (nI 110) (nI 111) (nI 119) (nI 115) (nI 0) = lN (FV 1) from by decide +kernel]
      refine go_lcmp (nx := 67) dX7_wordOf_66 rfl ?_
      refine go_if_ne 74 (nx := 70) dX7_wordOf_67 rfl rfl (fun c67 => ?_) (fun c67 => ?_)
      · skip
        refine go_lload_n 0 (nx := 75) dX7_wordOf_74 rfl rfl rfl ?_
        refine go_bipush (v := nI 109) (nx := 77) dX7_wordOf_75 (by decide) rfl ?_
        refine go_bipush (v := nI 117) (nx := 79) dX7_wordOf_77 (by decide) rfl ?_
        refine go_bipush (v := nI 116) (nx := 81) dX7_wordOf_79 (by decide) rfl ?_
        refine go_bipush (v := nI 117) (nx := 83) dX7_wordOf_81 (by decide) rfl ?_
        refine go_bipush (v := nI 97) (nx := 85) dX7_wordOf_83 (by decide) rfl ?_
        refine go_bipush (v := nI 108) (nx := 87) dX7_wordOf_85 (by decide) rfl ?_
        refine go_Sl (nx := 90) [_, _, _, _, _, _] kc_X7_69 m_named dX7_wordOf_87 rfl rfl (Nat.le_of_ble_eq_true rfl) (Nat.le_of_ble_eq_true rfl) ⟨Nat.le_refl _, Nat.le_refl _⟩ rfl (fun rh5 h5 hqh5 => ?_)
        obtain ⟨rfl, rfl⟩ := hqh5
        rw [show namL (nI 109) (nI 117) (nI 116) (nI 117) (nI 97) (nI 108) = lN (FV 2) from by decide +kernel]
        refine go_lcmp (nx := 91) dX7_wordOf_90 rfl ?_
        refine go_if_ne 98 (nx := 94) dX7_wordOf_91 rfl rfl (fun c91 => ?_) (fun c91 => ?_)
        · skip
          refine go_lload_n 0 (nx := 99) dX7_wordOf_98 rfl rfl rfl ?_
          refine go_bipush (v := nI 99) (nx := 101) dX7_wordOf_99 (by decide) rfl ?_
          refine go_bipush (v := nI 97) (nx := 103) dX7_wordOf_101 (by decide) rfl ?_
          refine go_bipush (v := nI 108) (nx := 105) dX7_wordOf_103 (by decide) rfl ?_
          refine go_bipush (v := nI 108) (nx := 107) dX7_wordOf_105 (by decide) rfl ?_
          refine go_bipush (v := nI 115) (nx := 109) dX7_wordOf_107 (by decide) rfl ?_
          refine go_iconst (v := nI 0) (nx := 110) dX7_wordOf_109 (by decide) rfl ?_
          refine go_Sl (nx := 113) [_, _, _, _, _, _] kc_X7_69 m_named dX7_wordOf_110 rfl rfl (Nat.le_of_ble_eq_true rfl) (Nat.le_of_ble_eq_true rfl) ⟨Nat.le_refl _, Nat.le_refl _⟩ rfl (fun rh6 h6 hqh6 => ?_)
          obtain ⟨rfl, rfl⟩ := hqh6
          rw [show namL (nI 99) (nI 97) (nI 108) (nI 108) (nI 115) (nI 0) = lN (FV 3) from by decide +kernel]
          refine go_lcmp (nx := 114) dX7_wordOf_113 rfl ?_
          refine go_if_ne 121 (nx := 117) dX7_wordOf_114 rfl rfl (fun c114 => ?_) (fun c114 => ?_)
          · skip
            refine go_bipush (v := (-9)) (nx := 123) dX7_wordOf_121 (by decide) rfl ?_
            refine go_istore_n (lv' := [_, _]) (nx := 124) dX7_wordOf_123 rfl (by decide) rfl rfl ?_
            refine go_iload_n 0 (nx := 125) dX7_wordOf_124 rfl rfl rfl ?_
            refine go_bipush (v := (-9)) (nx := 127) dX7_wordOf_125 (by decide) rfl ?_
            refine go_icmp_eq 132 (nx := 130) dX7_wordOf_127 rfl rfl (fun c127 => ?_) (fun c127 => False.elim (absurd rfl c127))
            refine go_lload_n 1 (nx := 133) dX7_wordOf_132 rfl rfl rfl ?_
            refine go_bipush (v := nI 108) (nx := 135) dX7_wordOf_133 (by decide) rfl ?_
            refine go_bipush (v := nI 97) (nx := 137) dX7_wordOf_135 (by decide) rfl ?_
            refine go_bipush (v := nI 119) (nx := 139) dX7_wordOf_137 (by decide) rfl ?_
            refine go_iconst (v := nI 0) (nx := 140) dX7_wordOf_139 (by decide) rfl ?_
            refine go_iconst (v := nI 0) (nx := 141) dX7_wordOf_140 (by decide) rfl ?_
            refine go_iconst (v := nI 0) (nx := 142) dX7_wordOf_141 (by decide) rfl ?_
            refine go_Sl (nx := 145) [_, _, _, _, _, _] kc_X7_69 m_named dX7_wordOf_142 rfl rfl (Nat.le_of_ble_eq_true rfl) (Nat.le_of_ble_eq_true rfl) ⟨Nat.le_refl _, Nat.le_refl _⟩ rfl (fun rh7 h7 hqh7 => ?_)
            obtain ⟨rfl, rfl⟩ := hqh7
            rw [show namL (nI 108) (nI 97) (nI 119) (nI 0) (nI 0) (nI 0) = lN (FV 5) from by decide +kernel]
            refine go_lcmp (nx := 146) dX7_wordOf_145 rfl ?_
            refine go_if_ne 153 (nx := 149) dX7_wordOf_146 rfl rfl (fun c146 => ?_) (fun c146 => ?_)
            · skip
              refine go_lload_n 1 (nx := 154) dX7_wordOf_153 rfl rfl rfl ?_
              refine go_bipush (v := nI 108) (nx := 156) dX7_wordOf_154 (by decide) rfl ?_
              refine go_bipush (v := nI 101) (nx := 158) dX7_wordOf_156 (by decide) rfl ?_
              refine go_bipush (v := nI 97) (nx := 160) dX7_wordOf_158 (by decide) rfl ?_
              refine go_bipush (v := nI 115) (nx := 162) dX7_wordOf_160 (by decide) rfl ?_
              refine go_bipush (v := nI 116) (nx := 164) dX7_wordOf_162 (by decide) rfl ?_
              refine go_iconst (v := nI 0) (nx := 165) dX7_wordOf_164 (by decide) rfl ?_
              refine go_Sl (nx := 168) [_, _, _, _, _, _] kc_X7_69 m_named dX7_wordOf_165 rfl rfl (Nat.le_of_ble_eq_true rfl) (Nat.le_of_ble_eq_true rfl) ⟨Nat.le_refl _, Nat.le_refl _⟩ rfl (fun rh8 h8 hqh8 => ?_)
              obtain ⟨rfl, rfl⟩ := hqh8
              rw [show namL (nI 108) (nI 101) (nI 97) (nI 115) (nI 116) (nI 0) = lN (FV 6) from by decide +kernel]
              refine go_lcmp (nx := 169) dX7_wordOf_168 rfl ?_
              refine go_if_ne 177 (nx := 172) dX7_wordOf_169 rfl rfl (fun c169 => ?_) (fun c169 => ?_)
              · skip
                refine go_lload_n 1 (nx := 178) dX7_wordOf_177 rfl rfl rfl ?_
                refine go_bipush (v := nI 115) (nx := 180) dX7_wordOf_178 (by decide) rfl ?_
                refine go_bipush (v := nI 101) (nx := 182) dX7_wordOf_180 (by decide) rfl ?_
                refine go_bipush (v := nI 99) (nx := 184) dX7_wordOf_182 (by decide) rfl ?_
                refine go_bipush (v := nI 111) (nx := 186) dX7_wordOf_184 (by decide) rfl ?_
                refine go_bipush (v := nI 110) (nx := 188) dX7_wordOf_186 (by decide) rfl ?_
                refine go_bipush (v := nI 100) (nx := 190) dX7_wordOf_188 (by decide) rfl ?_
                refine go_Sl (nx := 193) [_, _, _, _, _, _] kc_X7_69 m_named dX7_wordOf_190 rfl rfl (Nat.le_of_ble_eq_true rfl) (Nat.le_of_ble_eq_true rfl) ⟨Nat.le_refl _, Nat.le_refl _⟩ rfl (fun rh9 h9 hqh9 => ?_)
                obtain ⟨rfl, rfl⟩ := hqh9
                rw [show namL (nI 115) (nI 101) (nI 99) (nI 111) (nI 110) (nI 100) = lN (FV 7) from by decide +kernel]
                refine go_lcmp (nx := 194) dX7_wordOf_193 rfl ?_
                refine go_if_ne 202 (nx := 197) dX7_wordOf_194 rfl rfl (fun c194 => ?_) (fun c194 => ?_)
                · skip
                  refine go_bipush (v := (-9)) (nx := 204) dX7_wordOf_202 (by decide) rfl ?_
                  refine go_istore_n (lv' := [_, _, _]) (nx := 205) dX7_wordOf_204 rfl (by decide) rfl rfl ?_
                  refine go_iload_n 0 (nx := 206) dX7_wordOf_205 rfl rfl rfl ?_
                  refine go_bipush (v := (-9)) (nx := 208) dX7_wordOf_206 (by decide) rfl ?_
                  refine go_icmp_eq 215 (nx := 211) dX7_wordOf_208 rfl rfl (fun c208 => ?_) (fun c208 => False.elim (absurd rfl c208))
                  refine go_lload_n 2 (nx := 216) dX7_wordOf_215 rfl rfl rfl ?_
                  refine go_bipush (v := nI 106) (nx := 218) dX7_wordOf_216 (by decide) rfl ?_
                  refine go_bipush (v := nI 117) (nx := 220) dX7_wordOf_218 (by decide) rfl ?_
                  refine go_bipush (v := nI 115) (nx := 222) dX7_wordOf_220 (by decide) rfl ?_
                  refine go_bipush (v := nI 116) (nx := 224) dX7_wordOf_222 (by decide) rfl ?_
                  refine go_iconst (v := nI 0) (nx := 225) dX7_wordOf_224 (by decide) rfl ?_
                  refine go_iconst (v := nI 0) (nx := 226) dX7_wordOf_225 (by decide) rfl ?_
                  refine go_Sl (nx := 229) [_, _, _, _, _, _] kc_X7_69 m_named dX7_wordOf_226 rfl rfl (Nat.le_of_ble_eq_true rfl) (Nat.le_of_ble_eq_true rfl) ⟨Nat.le_refl _, Nat.le_refl _⟩ rfl (fun rh10 h10 hqh10 => ?_)
                  obtain ⟨rfl, rfl⟩ := hqh10
                  rw [show namL (nI 106) (nI 117) (nI 115) (nI 116) (nI 0) (nI 0) = lN (FV 8) from by decide +kernel]
                  refine go_lcmp (nx := 230) dX7_wordOf_229 rfl ?_
                  refine go_if_ne 238 (nx := 233) dX7_wordOf_230 rfl rfl (fun c230 => ?_) (fun c230 => ?_)
                  · skip
                    refine go_lload_n 2 (nx := 239) dX7_wordOf_238 rfl rfl rfl ?_
                    refine go_bipush (v := nI 110) (nx := 241) dX7_wordOf_239 (by decide) rfl ?_
                    refine go_bipush (v := nI 101) (nx := 243) dX7_wordOf_241 (by decide) rfl ?_
                    refine go_bipush (v := nI 118) (nx := 245) dX7_wordOf_243 (by decide) rfl ?_
                    refine go_bipush (v := nI 101) (nx := 247) dX7_wordOf_245 (by decide) rfl ?_
                    refine go_bipush (v := nI 114) (nx := 249) dX7_wordOf_247 (by decide) rfl ?_
                    refine go_iconst (v := nI 0) (nx := 250) dX7_wordOf_249 (by decide) rfl ?_
                    refine go_Sl (nx := 253) [_, _, _, _, _, _] kc_X7_69 m_named dX7_wordOf_250 rfl rfl (Nat.le_of_ble_eq_true rfl) (Nat.le_of_ble_eq_true rfl) ⟨Nat.le_refl _, Nat.le_refl _⟩ rfl (fun rh11 h11 hqh11 => ?_)
                    obtain ⟨rfl, rfl⟩ := hqh11
                    rw [show namL (nI 110) (nI 101) (nI 118) (nI 101) (nI 114) (nI 0) = lN (FV 9) from by decide +kernel]
                    refine go_lcmp (nx := 254) dX7_wordOf_253 rfl ?_
                    refine go_if_ne 262 (nx := 257) dX7_wordOf_254 rfl rfl (fun c254 => ?_) (fun c254 => ?_)
                    · skip
                      refine go_bipush (v := (-9)) (nx := 264) dX7_wordOf_262 (by decide) rfl ?_
                      refine go_reti dX7_wordOf_264 ⟨_, rfl, rfl⟩ ?_
                      rw [wOf_no (cmp_f c44) (cmp_f c67) (cmp_f c91) (cmp_f c114) (cmp_f c22) (cmp_f c146) (cmp_f c169) (cmp_f c194) (cmp_f c230) (cmp_f c254)]
                      exact ⟨rfl, rfl⟩
                    · skip
                      refine go_bipush (v := nI 9) (nx := 259) dX7_wordOf_257 (by decide) rfl ?_
                      refine go_goto 264 dX7_wordOf_259 rfl ?_
                      refine go_reti dX7_wordOf_264 ⟨_, rfl, rfl⟩ ?_
                      have e := cmp_t hV (by decide) c254
                      rw [e, wOf_FV 9 (by decide)]
                      exact ⟨rfl, rfl⟩
                  · skip
                    refine go_bipush (v := nI 8) (nx := 235) dX7_wordOf_233 (by decide) rfl ?_
                    refine go_goto 264 dX7_wordOf_235 rfl ?_
                    refine go_reti dX7_wordOf_264 ⟨_, rfl, rfl⟩ ?_
                    have e := cmp_t hV (by decide) c230
                    rw [e, wOf_FV 8 (by decide)]
                    exact ⟨rfl, rfl⟩
                · skip
                  refine go_bipush (v := nI 7) (nx := 199) dX7_wordOf_197 (by decide) rfl ?_
                  refine go_goto 204 dX7_wordOf_199 rfl ?_
                  refine go_istore_n (lv' := [_, _, _]) (nx := 205) dX7_wordOf_204 rfl (by decide) rfl rfl ?_
                  refine go_iload_n 0 (nx := 206) dX7_wordOf_205 rfl rfl rfl ?_
                  refine go_bipush (v := (-9)) (nx := 208) dX7_wordOf_206 (by decide) rfl ?_
                  refine go_icmp_eq 215 (nx := 211) dX7_wordOf_208 rfl rfl (fun c208 => False.elim (absurd c208 (by decide))) (fun c208 => ?_)
                  refine go_iload_n 0 (nx := 212) dX7_wordOf_211 rfl rfl rfl ?_
                  refine go_goto 264 dX7_wordOf_212 rfl ?_
                  refine go_reti dX7_wordOf_264 ⟨_, rfl, rfl⟩ ?_
                  have e := cmp_t hV (by decide) c194
                  rw [e, wOf_FV 7 (by decide)]
                  exact ⟨rfl, rfl⟩
              · skip
                refine go_bipush (v := nI 6) (nx := 174) dX7_wordOf_172 (by decide) rfl ?_
                refine go_goto 204 dX7_wordOf_174 rfl ?_
                refine go_istore_n (lv' := [_, _, _]) (nx := 205) dX7_wordOf_204 rfl (by decide) rfl rfl ?_
                refine go_iload_n 0 (nx := 206) dX7_wordOf_205 rfl rfl rfl ?_
                refine go_bipush (v := (-9)) (nx := 208) dX7_wordOf_206 (by decide) rfl ?_
                refine go_icmp_eq 215 (nx := 211) dX7_wordOf_208 rfl rfl (fun c208 => False.elim (absurd c208 (by decide))) (fun c208 => ?_)
                refine go_iload_n 0 (nx := 212) dX7_wordOf_211 rfl rfl rfl ?_
                refine go_goto 264 dX7_wordOf_212 rfl ?_
                refine go_reti dX7_wordOf_264 ⟨_, rfl, rfl⟩ ?_
                have e := cmp_t hV (by decide) c169
                rw [e, wOf_FV 6 (by decide)]
                exact ⟨rfl, rfl⟩
            · skip
              refine go_iconst (v := nI 5) (nx := 150) dX7_wordOf_149 (by decide) rfl ?_
              refine go_goto 204 dX7_wordOf_150 rfl ?_
              refine go_istore_n (lv' := [_, _, _]) (nx := 205) dX7_wordOf_204 rfl (by decide) rfl rfl ?_
              refine go_iload_n 0 (nx := 206) dX7_wordOf_205 rfl rfl rfl ?_
              refine go_bipush (v := (-9)) (nx := 208) dX7_wordOf_206 (by decide) rfl ?_
              refine go_icmp_eq 215 (nx := 211) dX7_wordOf_208 rfl rfl (fun c208 => False.elim (absurd c208 (by decide))) (fun c208 => ?_)
              refine go_iload_n 0 (nx := 212) dX7_wordOf_211 rfl rfl rfl ?_
              refine go_goto 264 dX7_wordOf_212 rfl ?_
              refine go_reti dX7_wordOf_264 ⟨_, rfl, rfl⟩ ?_
              have e := cmp_t hV (by decide) c146
              rw [e, wOf_FV 5 (by decide)]
              exact ⟨rfl, rfl⟩
          · skip
            refine go_iconst (v := nI 3) (nx := 118) dX7_wordOf_117 (by decide) rfl ?_
            refine go_goto 123 dX7_wordOf_118 rfl ?_
            refine go_istore_n (lv' := [_, _]) (nx := 124) dX7_wordOf_123 rfl (by decide) rfl rfl ?_
            refine go_iload_n 0 (nx := 125) dX7_wordOf_124 rfl rfl rfl ?_
            refine go_bipush (v := (-9)) (nx := 127) dX7_wordOf_125 (by decide) rfl ?_
            refine go_icmp_eq 132 (nx := 130) dX7_wordOf_127 rfl rfl (fun c127 => False.elim (absurd c127 (by decide))) (fun c127 => ?_)
            refine go_iload_n 0 (nx := 131) dX7_wordOf_130 rfl rfl rfl ?_
            refine go_reti dX7_wordOf_131 ⟨_, rfl, rfl⟩ ?_
            have e := cmp_t hV (by decide) c114
            rw [e, wOf_FV 3 (by decide)]
            exact ⟨rfl, rfl⟩
        · skip
          refine go_iconst (v := nI 2) (nx := 95) dX7_wordOf_94 (by decide) rfl ?_
          refine go_goto 123 dX7_wordOf_95 rfl ?_
          refine go_istore_n (lv' := [_, _]) (nx := 124) dX7_wordOf_123 rfl (by decide) rfl rfl ?_
          refine go_iload_n 0 (nx := 125) dX7_wordOf_124 rfl rfl rfl ?_
          refine go_bipush (v := (-9)) (nx := 127) dX7_wordOf_125 (by decide) rfl ?_
          refine go_icmp_eq 132 (nx := 130) dX7_wordOf_127 rfl rfl (fun c127 => False.elim (absurd c127 (by decide))) (fun c127 => ?_)
          refine go_iload_n 0 (nx := 131) dX7_wordOf_130 rfl rfl rfl ?_
          refine go_reti dX7_wordOf_131 ⟨_, rfl, rfl⟩ ?_
          have e := cmp_t hV (by decide) c91
          rw [e, wOf_FV 2 (by decide)]
          exact ⟨rfl, rfl⟩
      · skip
        refine go_iconst (v := nI 1) (nx := 71) dX7_wordOf_70 (by decide) rfl ?_
        refine go_goto 123 dX7_wordOf_71 rfl ?_
        refine go_istore_n (lv' := [_, _]) (nx := 124) dX7_wordOf_123 rfl (by decide) rfl rfl ?_
        refine go_iload_n 0 (nx := 125) dX7_wordOf_124 rfl rfl rfl ?_
        refine go_bipush (v := (-9)) (nx := 127) dX7_wordOf_125 (by decide) rfl ?_
        refine go_icmp_eq 132 (nx := 130) dX7_wordOf_127 rfl rfl (fun c127 => False.elim (absurd c127 (by decide))) (fun c127 => ?_)
        refine go_iload_n 0 (nx := 131) dX7_wordOf_130 rfl rfl rfl ?_
        refine go_reti dX7_wordOf_131 ⟨_, rfl, rfl⟩ ?_
        have e := cmp_t hV (by decide) c67
        rw [e, wOf_FV 1 (by decide)]
        exact ⟨rfl, rfl⟩
    · skip
      refine go_iconst (v := nI 0) (nx := 48) dX7_wordOf_47 (by decide) rfl ?_
      refine go_goto 123 dX7_wordOf_48 rfl ?_
      refine go_istore_n (lv' := [_, _]) (nx := 124) dX7_wordOf_123 rfl (by decide) rfl rfl ?_
      refine go_iload_n 0 (nx := 125) dX7_wordOf_124 rfl rfl rfl ?_
      refine go_bipush (v := (-9)) (nx := 127) dX7_wordOf_125 (by decide) rfl ?_
      refine go_icmp_eq 132 (nx := 130) dX7_wordOf_127 rfl rfl (fun c127 => False.elim (absurd c127 (by decide))) (fun c127 => ?_)
      refine go_iload_n 0 (nx := 131) dX7_wordOf_130 rfl rfl rfl ?_
      refine go_reti dX7_wordOf_131 ⟨_, rfl, rfl⟩ ?_
      have e := cmp_t hV (by decide) c44
      rw [e, wOf_FV 0 (by decide)]
      exact ⟨rfl, rfl⟩
  · skip
    refine go_iconst (v := nI 4) (nx := 26) dX7_wordOf_25 (by decide) rfl ?_
    refine go_reti dX7_wordOf_26 ⟨_, rfl, rfl⟩ ?_
    have e := cmp_t hV (by decide) c22
    rw [e, wOf_FV 4 (by decide)]
    exact ⟨rfl, rfl⟩
