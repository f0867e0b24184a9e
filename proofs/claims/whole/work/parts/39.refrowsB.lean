/-! the reference: rows of pairs, the first two -/
theorem l_bby2 {G : kG} {n sz m p : Nat} {ν : mN} {T : mT} {tr : Int64} {F : Nat → Int32} {wd : Bool} {h0 : kH} {Q : Int32 → kH → Prop} (hn : 49 ≤ n) (HO0 : mO G F tr sz T h0) (hw : wT T) (hv : wN T.1 ν) (hp : p < T.1) (hY : ν.2.2.2.1 ≤ 99) (hm : m ≤ 3) {v0 : Nat} (HSp0 : oSp G ν h0) (e0 : 1 ≤ m → vpB T.1 v0 = true) : ∀ (d fr : Nat) (h : kH) (pr : Nat → Int32), 68 - fr < d → oS G ν h → h 46 = .inl (G.2.1, 3, .inl pr) → pr 0 = nI v0 → pr 1 = (if 2 ≤ m then actI (-1) (nxP T.1 fr) else nI 0) → bfr h0 h →
    (∀ L, brg T ν.2.2.1 p wd (m - 1) fr (mtF (tri v0 0 0) (min m 1) ν).1 = some L → ∀ h' pr', oS G ν h' → h' 46 = .inl (G.2.1, 3, .inl pr') → pr' 0 = nI v0 → (∀ i, i < m - 1 → pr' (1 + i) = nI (L.getD i 0)) → bfr h0 h' → Q (nI m) h') →
    (brg T ν.2.2.1 p wd (m - 1) fr (mtF (tri v0 0 0) (min m 1) ν).1 = none → ∀ h' pr', oS G ν h' → h' 46 = .inl (G.2.1, 3, .inl pr') → pr' 0 = nI v0 → bfr h0 h' → Go G mX7_bringsBy (4, 0, 0) 198 [(0, .ref (kb G + 37)), (1, .int (nI p)), (2, .int (bI wd)), (3, .int (nI m))] [] (n, 0, 0) h' (kQi mX7_bringsBy n Q)) → Go G mX7_bringsBy (4, 0, 0) 53 [(0, .ref (kb G + 37)), (1, .int (nI p)), (2, .int (bI wd)), (3, .int (nI m))] [] (n, 0, 0) h (kQi mX7_bringsBy n Q) := by
  intro d
  induction d with
  | zero => intro fr h pr hd; omega
  | succ d ih =>
    intro fr h pr hd HS hpa p0 p1 hF hyes hno
    by_cases hm2 : 2 ≤ m
    · rw [if_pos hm2] at p1
      have em : m - 1 = (m - 2) + 1 := by omega
      have em2 : min m 1 = 1 := by omega
      have em3 : min m 2 = 2 := by omega
      rw [em, em2] at hyes hno
      rcases brg_nx (T := T) (C := ν.2.2.1) (p := p) (l := m - 2) (wd := wd) (K := (mtF (tri v0 0 0) 1 ν).1) 69 fr (by omega) with ⟨q, q2⟩ | ⟨v, q, q3, q4, q5, q2⟩
      · rw [q] at p1
        have HO := HO0.bf hF
        have hP := hw.1
        have hM : h 37 = .inr (7, [.int (F 0), .long tr, .ref (kb G + 38), .int (nI sz), .int (F 4), .int (F 5), .int (F 6), .int (F 7), .int (F 8), .ref (kb G + 39), .ref (kb G + 40), .int (nI T.1), .int (F 12), .int (nI T.2.2.2.1), .int (F 14), .int (nI T.2.2.2.2.1), .int (F 16), .int (nI T.2.2.2.2.2), .int (F 18), .int (F 19), .int (F 20), .ref (kb G + 41), .ref (kb G + 42), .ref (kb G + 43), .ref (kb G + 44), .ref (kb G + 45), .ref (kb G + 46), .ref (kb G + 47), .ref (kb G + 48)]) := HO
        refine go_aload_n 0 (nx := 54) dX7_bringsBy_53 rfl rfl rfl ?_
        refine go_gf (nx := 57) fg_X7_35 dX7_bringsBy_54 (by omega) hM rfl rfl ?_
        refine go_iconst (v := nI 1) (nx := 58) dX7_bringsBy_57 (by decide) rfl ?_
        refine go_ial (1) (nx := 59) dX7_bringsBy_58 (by omega) hpa rfl (by decide) (by omega) rfl ?_
        refine go_if_lt 198 (nx := 62) dX7_bringsBy_59 rfl rfl (fun c59 => ?_) (fun c59 => False.elim (absurd (by rw [p1]; decide) c59))
        refine Go.sub [0, 1, 2, 3] rfl ?_
        exact hno q2 _ _ HS hpa p0 hF
      · rw [q] at p1
        have ek : (mtF (tri v0 v 0) 2 ν).1 = meetK (mtF (tri v0 0 0) 1 ν).1 (v / 10) (v % 10) := mMt_K
        have HO := HO0.bf hF
        have hP := hw.1
        have hM : h 37 = .inr (7, [.int (F 0), .long tr, .ref (kb G + 38), .int (nI sz), .int (F 4), .int (F 5), .int (F 6), .int (F 7), .int (F 8), .ref (kb G + 39), .ref (kb G + 40), .int (nI T.1), .int (F 12), .int (nI T.2.2.2.1), .int (F 14), .int (nI T.2.2.2.2.1), .int (F 16), .int (nI T.2.2.2.2.2), .int (F 18), .int (F 19), .int (F 20), .ref (kb G + 41), .ref (kb G + 42), .ref (kb G + 43), .ref (kb G + 44), .ref (kb G + 45), .ref (kb G + 46), .ref (kb G + 47), .ref (kb G + 48)]) := HO
        refine go_aload_n 0 (nx := 54) dX7_bringsBy_53 rfl rfl rfl ?_
        refine go_gf (nx := 57) fg_X7_35 dX7_bringsBy_54 (by omega) hM rfl rfl ?_
        refine go_iconst (v := nI 1) (nx := 58) dX7_bringsBy_57 (by decide) rfl ?_
        refine go_ial (1) (nx := 59) dX7_bringsBy_58 (by omega) hpa rfl (by decide) (by omega) rfl ?_
        refine go_if_lt 198 (nx := 62) dX7_bringsBy_59 rfl rfl (fun c59 => False.elim (absurd c59 (by rw [p1]; exact fun z => Nat.not_lt_zero v (klt (b := 0) z (by omega) (by decide))))) (fun c59 => ?_)
        refine go_aload_n 0 (nx := 63) dX7_bringsBy_62 rfl rfl rfl ?_
        refine go_gf (nx := 66) fg_X7_35 dX7_bringsBy_63 (by omega) hM rfl rfl ?_
        refine go_iconst (v := nI 2) (nx := 67) dX7_bringsBy_66 (by decide) rfl ?_
        refine go_iload_n 3 (nx := 68) dX7_bringsBy_67 rfl rfl rfl ?_
        refine go_iconst (v := nI 2) (nx := 69) dX7_bringsBy_68 (by decide) rfl ?_
        refine go_icmp_le 85 (nx := 72) dX7_bringsBy_69 rfl rfl (fun c69 => ?_) (fun c69 => ?_)
        · skip
          refine go_iconst (v := nI 0) (nx := 86) dX7_bringsBy_85 (by decide) rfl ?_
          refine go_ias (2) (nx := 87) dX7_bringsBy_86 (by omega) hpa rfl (by decide) (by omega) rfl (fun h1 eh1 fh1 => ?_)
          have hM := (fh1 (37) (by omega)).trans hM
          have hpa := eh1
          refine Go.sub [0, 1, 2, 3] rfl ?_
          have fx : kFr 46 47 _ h1 := fun j hj => fh1 j (by omega)
          refine l_bby3 hn HO0 hw hv hp hY hm (v0 := v0) (v1 := v) HSp0 e0 (fun _ => q5) 69 (v + 1) _ _ (by omega) (by obtain ⟨a, z1, z2⟩ := HS; exact ⟨a, (fx 41 (by omega)).trans z1, z2⟩) hpa ((pk_un (by decide)).trans p0) ((pk_un (by decide)).trans p1) (pk_us.trans (if_neg (by have z := kle c69; omega)).symm) (hF.tr fx (by omega)) ?_ ?_
          · rw [em3, ek]
            intro L eL h' pr' a1 a2 a3 a4 a5 a6
            rw [eL] at q2
            refine hyes (v :: L) q2 h' pr' a1 a2 a3 (fun i hi => ?_) a6
            cases i with
            | zero => exact a4
            | succ i => exact (congrArg pr' (by omega)).trans (a5 i (by omega))
          · rw [em3, ek]
            intro eL h pr' HS hpa p0 p1 hF
            rw [eL] at q2
            have HO := HO0.bf hF
            have hP := hw.1
            have hM : h 37 = .inr (7, [.int (F 0), .long tr, .ref (kb G + 38), .int (nI sz), .int (F 4), .int (F 5), .int (F 6), .int (F 7), .int (F 8), .ref (kb G + 39), .ref (kb G + 40), .int (nI T.1), .int (F 12), .int (nI T.2.2.2.1), .int (F 14), .int (nI T.2.2.2.2.1), .int (F 16), .int (nI T.2.2.2.2.2), .int (F 18), .int (F 19), .int (F 20), .ref (kb G + 41), .ref (kb G + 42), .ref (kb G + 43), .ref (kb G + 44), .ref (kb G + 45), .ref (kb G + 46), .ref (kb G + 47), .ref (kb G + 48)]) := HO
            refine go_aload_n 0 (nx := 171) dX7_bringsBy_170 rfl rfl rfl ?_
            refine go_gf (nx := 174) fg_X7_35 dX7_bringsBy_171 (by omega) hM rfl rfl ?_
            refine go_iconst (v := nI 1) (nx := 175) dX7_bringsBy_174 (by decide) rfl ?_
            refine go_iload_n 3 (nx := 176) dX7_bringsBy_175 rfl rfl rfl ?_
            refine go_iconst (v := nI 1) (nx := 177) dX7_bringsBy_176 (by decide) rfl ?_
            refine go_icmp_le 193 (nx := 180) dX7_bringsBy_177 rfl rfl (fun c177 => False.elim (absurd ((nI_leI (by omega) (by decide)).mp c177) (by omega))) (fun c177 => ?_)
            refine go_aload_n 0 (nx := 181) dX7_bringsBy_180 rfl rfl rfl ?_
            refine go_aload_n 0 (nx := 182) dX7_bringsBy_181 rfl rfl rfl ?_
            refine go_gf (nx := 185) fg_X7_35 dX7_bringsBy_182 (by omega) hM rfl rfl ?_
            refine go_iconst (v := nI 1) (nx := 186) dX7_bringsBy_185 (by decide) rfl ?_
            refine go_ial (1) (nx := 187) dX7_bringsBy_186 (by omega) hpa rfl (by decide) (by omega) rfl ?_
            rw [p1]
            refine go_Vi (nx := 190) [_] kc_X7_184 ⟨_, _, rfl⟩ (by omega) hM (m_nextPair (ν := ν) (a := v) hn HO hP rfl (by omega)) dX7_bringsBy_187 rfl rfl (Nat.le_of_ble_eq_true rfl) (Nat.le_of_ble_eq_true rfl) ⟨Nat.le_refl _, Nat.le_refl _⟩ rfl (fun rh1 h1 hqh1 => ?_)
            obtain ⟨rfl, rfl⟩ := hqh1
            refine go_goto 194 dX7_bringsBy_190 rfl ?_
            refine go_ias (1) (nx := 195) dX7_bringsBy_194 (by omega) hpa rfl (by decide) (by omega) rfl (fun h2 eh2 fh2 => ?_)
            have hM := (fh2 (37) (by omega)).trans hM
            have hpa := eh2
            refine go_goto 53 dX7_bringsBy_195 rfl ?_
            refine Go.sub [0, 1, 2, 3] rfl ?_
            have fx : kFr 46 47 _ h2 := fun j hj => fh2 j (by omega)
            refine ih (v + 1) _ _ (by omega) (by obtain ⟨a, z1, z2⟩ := HS; exact ⟨a, (fx 41 (by omega)).trans z1, z2⟩) hpa ((pk_un (by decide)).trans p0) (pk_us.trans (if_pos hm2).symm) (hF.tr fx (by omega)) ?_ ?_
            · rw [em, em2]
              exact fun L e => hyes L (q2.trans e)
            · rw [em, em2]
              exact fun e => hno (q2.trans e)
        · skip
          refine go_aload_n 0 (nx := 73) dX7_bringsBy_72 rfl rfl rfl ?_
          refine go_aload_n 0 (nx := 74) dX7_bringsBy_73 rfl rfl rfl ?_
          refine go_gf (nx := 77) fg_X7_35 dX7_bringsBy_74 (by omega) hM rfl rfl ?_
          refine go_iconst (v := nI 1) (nx := 78) dX7_bringsBy_77 (by decide) rfl ?_
          refine go_ial (1) (nx := 79) dX7_bringsBy_78 (by omega) hpa rfl (by decide) (by omega) rfl ?_
          rw [p1]
          refine go_Vi (nx := 82) [_] kc_X7_184 ⟨_, _, rfl⟩ (by omega) hM (m_nextPair (ν := ν) (a := v) hn HO hP rfl (by omega)) dX7_bringsBy_79 rfl rfl (Nat.le_of_ble_eq_true rfl) (Nat.le_of_ble_eq_true rfl) ⟨Nat.le_refl _, Nat.le_refl _⟩ rfl (fun rh1 h1 hqh1 => ?_)
          obtain ⟨rfl, rfl⟩ := hqh1
          refine go_goto 86 dX7_bringsBy_82 rfl ?_
          refine go_ias (2) (nx := 87) dX7_bringsBy_86 (by omega) hpa rfl (by decide) (by omega) rfl (fun h2 eh2 fh2 => ?_)
          have hM := (fh2 (37) (by omega)).trans hM
          have hpa := eh2
          refine Go.sub [0, 1, 2, 3] rfl ?_
          have fx : kFr 46 47 _ h2 := fun j hj => fh2 j (by omega)
          refine l_bby3 hn HO0 hw hv hp hY hm (v0 := v0) (v1 := v) HSp0 e0 (fun _ => q5) 69 (v + 1) _ _ (by omega) (by obtain ⟨a, z1, z2⟩ := HS; exact ⟨a, (fx 41 (by omega)).trans z1, z2⟩) hpa ((pk_un (by decide)).trans p0) ((pk_un (by decide)).trans p1) (pk_us.trans (if_pos (by have z := knle c69; omega)).symm) (hF.tr fx (by omega)) ?_ ?_
          · rw [em3, ek]
            intro L eL h' pr' a1 a2 a3 a4 a5 a6
            rw [eL] at q2
            refine hyes (v :: L) q2 h' pr' a1 a2 a3 (fun i hi => ?_) a6
            cases i with
            | zero => exact a4
            | succ i => exact (congrArg pr' (by omega)).trans (a5 i (by omega))
          · rw [em3, ek]
            intro eL h pr' HS hpa p0 p1 hF
            rw [eL] at q2
            have HO := HO0.bf hF
            have hP := hw.1
            have hM : h 37 = .inr (7, [.int (F 0), .long tr, .ref (kb G + 38), .int (nI sz), .int (F 4), .int (F 5), .int (F 6), .int (F 7), .int (F 8), .ref (kb G + 39), .ref (kb G + 40), .int (nI T.1), .int (F 12), .int (nI T.2.2.2.1), .int (F 14), .int (nI T.2.2.2.2.1), .int (F 16), .int (nI T.2.2.2.2.2), .int (F 18), .int (F 19), .int (F 20), .ref (kb G + 41), .ref (kb G + 42), .ref (kb G + 43), .ref (kb G + 44), .ref (kb G + 45), .ref (kb G + 46), .ref (kb G + 47), .ref (kb G + 48)]) := HO
            refine go_aload_n 0 (nx := 171) dX7_bringsBy_170 rfl rfl rfl ?_
            refine go_gf (nx := 174) fg_X7_35 dX7_bringsBy_171 (by omega) hM rfl rfl ?_
            refine go_iconst (v := nI 1) (nx := 175) dX7_bringsBy_174 (by decide) rfl ?_
            refine go_iload_n 3 (nx := 176) dX7_bringsBy_175 rfl rfl rfl ?_
            refine go_iconst (v := nI 1) (nx := 177) dX7_bringsBy_176 (by decide) rfl ?_
            refine go_icmp_le 193 (nx := 180) dX7_bringsBy_177 rfl rfl (fun c177 => False.elim (absurd ((nI_leI (by omega) (by decide)).mp c177) (by omega))) (fun c177 => ?_)
            refine go_aload_n 0 (nx := 181) dX7_bringsBy_180 rfl rfl rfl ?_
            refine go_aload_n 0 (nx := 182) dX7_bringsBy_181 rfl rfl rfl ?_
            refine go_gf (nx := 185) fg_X7_35 dX7_bringsBy_182 (by omega) hM rfl rfl ?_
            refine go_iconst (v := nI 1) (nx := 186) dX7_bringsBy_185 (by decide) rfl ?_
            refine go_ial (1) (nx := 187) dX7_bringsBy_186 (by omega) hpa rfl (by decide) (by omega) rfl ?_
            rw [p1]
            refine go_Vi (nx := 190) [_] kc_X7_184 ⟨_, _, rfl⟩ (by omega) hM (m_nextPair (ν := ν) (a := v) hn HO hP rfl (by omega)) dX7_bringsBy_187 rfl rfl (Nat.le_of_ble_eq_true rfl) (Nat.le_of_ble_eq_true rfl) ⟨Nat.le_refl _, Nat.le_refl _⟩ rfl (fun rh1 h1 hqh1 => ?_)
            obtain ⟨rfl, rfl⟩ := hqh1
            refine go_goto 194 dX7_bringsBy_190 rfl ?_
            refine go_ias (1) (nx := 195) dX7_bringsBy_194 (by omega) hpa rfl (by decide) (by omega) rfl (fun h2 eh2 fh2 => ?_)
            have hM := (fh2 (37) (by omega)).trans hM
            have hpa := eh2
            refine go_goto 53 dX7_bringsBy_195 rfl ?_
            refine Go.sub [0, 1, 2, 3] rfl ?_
            have fx : kFr 46 47 _ h2 := fun j hj => fh2 j (by omega)
            refine ih (v + 1) _ _ (by omega) (by obtain ⟨a, z1, z2⟩ := HS; exact ⟨a, (fx 41 (by omega)).trans z1, z2⟩) hpa ((pk_un (by decide)).trans p0) (pk_us.trans (if_pos hm2).symm) (hF.tr fx (by omega)) ?_ ?_
            · rw [em, em2]
              exact fun L e => hyes L (q2.trans e)
            · rw [em, em2]
              exact fun e => hno (q2.trans e)
    · rw [if_neg hm2] at p1
      have em : m - 1 = 0 := by omega
      have em2 : min m 1 = m := by omega
      have em3 : min m 2 = m := by omega
      have em4 : m - 2 = 0 := by omega
      rw [em, em2] at hyes hno
      have HO := HO0.bf hF
      have hP := hw.1
      have hM : h 37 = .inr (7, [.int (F 0), .long tr, .ref (kb G + 38), .int (nI sz), .int (F 4), .int (F 5), .int (F 6), .int (F 7), .int (F 8), .ref (kb G + 39), .ref (kb G + 40), .int (nI T.1), .int (F 12), .int (nI T.2.2.2.1), .int (F 14), .int (nI T.2.2.2.2.1), .int (F 16), .int (nI T.2.2.2.2.2), .int (F 18), .int (F 19), .int (F 20), .ref (kb G + 41), .ref (kb G + 42), .ref (kb G + 43), .ref (kb G + 44), .ref (kb G + 45), .ref (kb G + 46), .ref (kb G + 47), .ref (kb G + 48)]) := HO
      refine go_aload_n 0 (nx := 54) dX7_bringsBy_53 rfl rfl rfl ?_
      refine go_gf (nx := 57) fg_X7_35 dX7_bringsBy_54 (by omega) hM rfl rfl ?_
      refine go_iconst (v := nI 1) (nx := 58) dX7_bringsBy_57 (by decide) rfl ?_
      refine go_ial (1) (nx := 59) dX7_bringsBy_58 (by omega) hpa rfl (by decide) (by omega) rfl ?_
      refine go_if_lt 198 (nx := 62) dX7_bringsBy_59 rfl rfl (fun c59 => False.elim (absurd c59 (by rw [p1]; decide))) (fun c59 => ?_)
      refine go_aload_n 0 (nx := 63) dX7_bringsBy_62 rfl rfl rfl ?_
      refine go_gf (nx := 66) fg_X7_35 dX7_bringsBy_63 (by omega) hM rfl rfl ?_
      refine go_iconst (v := nI 2) (nx := 67) dX7_bringsBy_66 (by decide) rfl ?_
      refine go_iload_n 3 (nx := 68) dX7_bringsBy_67 rfl rfl rfl ?_
      refine go_iconst (v := nI 2) (nx := 69) dX7_bringsBy_68 (by decide) rfl ?_
      refine go_icmp_le 85 (nx := 72) dX7_bringsBy_69 rfl rfl (fun c69 => ?_) (fun c69 => False.elim (c69 ((nI_leI (by omega) (by decide)).mpr (by omega))))
      refine go_iconst (v := nI 0) (nx := 86) dX7_bringsBy_85 (by decide) rfl ?_
      refine go_ias (2) (nx := 87) dX7_bringsBy_86 (by omega) hpa rfl (by decide) (by omega) rfl (fun h1 eh1 fh1 => ?_)
      have hM := (fh1 (37) (by omega)).trans hM
      have hpa := eh1
      refine Go.sub [0, 1, 2, 3] rfl ?_
      have fx : kFr 46 47 _ h1 := fun j hj => fh1 j (by omega)
      refine l_bby3 hn HO0 hw hv hp hY hm (v0 := v0) (v1 := 0) HSp0 e0 (fun q => absurd q hm2) 69 0 _ _ (by omega) (by obtain ⟨a, z1, z2⟩ := HS; exact ⟨a, (fx 41 (by omega)).trans z1, z2⟩) hpa ((pk_un (by decide)).trans p0) ((pk_un (by decide)).trans p1) (pk_us.trans (if_neg (by omega)).symm) (hF.tr fx (by omega)) ?_ ?_
      · rw [em3, em4]
        intro L eL h' pr' a1 a2 a3 a4 a5 a6
        exact hyes L (by simp only [brg] at eL ⊢; exact eL) h' pr' a1 a2 a3 (fun i hi => absurd hi (Nat.not_lt_zero i)) a6
      · rw [em3, em4]
        intro eL h pr' HS hpa p0 p1 hF
        have hno := hno (by simp only [brg] at eL ⊢; exact eL)
        have HO := HO0.bf hF
        have hP := hw.1
        have hM : h 37 = .inr (7, [.int (F 0), .long tr, .ref (kb G + 38), .int (nI sz), .int (F 4), .int (F 5), .int (F 6), .int (F 7), .int (F 8), .ref (kb G + 39), .ref (kb G + 40), .int (nI T.1), .int (F 12), .int (nI T.2.2.2.1), .int (F 14), .int (nI T.2.2.2.2.1), .int (F 16), .int (nI T.2.2.2.2.2), .int (F 18), .int (F 19), .int (F 20), .ref (kb G + 41), .ref (kb G + 42), .ref (kb G + 43), .ref (kb G + 44), .ref (kb G + 45), .ref (kb G + 46), .ref (kb G + 47), .ref (kb G + 48)]) := HO
        refine go_aload_n 0 (nx := 171) dX7_bringsBy_170 rfl rfl rfl ?_
        refine go_gf (nx := 174) fg_X7_35 dX7_bringsBy_171 (by omega) hM rfl rfl ?_
        refine go_iconst (v := nI 1) (nx := 175) dX7_bringsBy_174 (by decide) rfl ?_
        refine go_iload_n 3 (nx := 176) dX7_bringsBy_175 rfl rfl rfl ?_
        refine go_iconst (v := nI 1) (nx := 177) dX7_bringsBy_176 (by decide) rfl ?_
        refine go_icmp_le 193 (nx := 180) dX7_bringsBy_177 rfl rfl (fun c177 => ?_) (fun c177 => False.elim (c177 ((nI_leI (by omega) (by decide)).mpr (by omega))))
        refine go_iconst (v := (-1)) (nx := 194) dX7_bringsBy_193 (by decide) rfl ?_
        refine go_ias (1) (nx := 195) dX7_bringsBy_194 (by omega) hpa rfl (by decide) (by omega) rfl (fun h1 eh1 fh1 => ?_)
        have hM := (fh1 (37) (by omega)).trans hM
        have hpa := eh1
        refine go_goto 53 dX7_bringsBy_195 rfl ?_
        refine go_aload_n 0 (nx := 54) dX7_bringsBy_53 rfl rfl rfl ?_
        refine go_gf (nx := 57) fg_X7_35 dX7_bringsBy_54 (by omega) hM rfl rfl ?_
        refine go_iconst (v := nI 1) (nx := 58) dX7_bringsBy_57 (by decide) rfl ?_
        refine go_ial (1) (nx := 59) dX7_bringsBy_58 (by omega) hpa rfl (by decide) (by omega) rfl ?_
        refine go_if_lt 198 (nx := 62) dX7_bringsBy_59 rfl rfl (fun c59 => ?_) (fun c59 => False.elim (absurd (by rw [pk_us]; decide) c59))
        refine Go.sub [0, 1, 2, 3] rfl ?_
        have fx : kFr 46 47 _ h1 := fun j hj => fh1 j (by omega)
        exact hno _ _ (by obtain ⟨a, z1, z2⟩ := HS; exact ⟨a, (fx 41 (by omega)).trans z1, z2⟩) hpa ((pk_un (by decide)).trans p0) (hF.tr fx (by omega))
theorem l_bby1 {G : kG} {n sz m p : Nat} {ν : mN} {T : mT} {tr : Int64} {F : Nat → Int32} {wd : Bool} {h0 : kH} (hn : 49 ≤ n) (HO0 : mO G F tr sz T h0) (hw : wT T) (hv : wN T.1 ν) (hp : p < T.1) (hY : ν.2.2.2.1 ≤ 99) (hm : m ≤ 3) (HSp0 : oSp G ν h0) : ∀ (d fr : Nat) (h : kH) (pr : Nat → Int32), 68 - fr < d → oS G ν h → h 46 = .inl (G.2.1, 3, .inl pr) → pr 0 = (if 1 ≤ m then actI (-1) (nxP T.1 fr) else nI 0) → bfr h0 h → brg T ν.2.2.1 p wd m 1 ν.1 = brg T ν.2.2.1 p wd m fr ν.1 → Go G mX7_bringsBy (4, 0, 0) 19 [(0, .ref (kb G + 37)), (1, .int (nI p)), (2, .int (bI wd)), (3, .int (nI m))] [] (n, 0, 0) h (kQi mX7_bringsBy n (fun u h' => u = lenI (brg T ν.2.2.1 p wd m 1 ν.1) ∧ oS G ν h' ∧ (∃ pr' : Nat → Int32, h' 46 = .inl (G.2.1, 3, .inl pr') ∧ ∀ L, brg T ν.2.2.1 p wd m 1 ν.1 = some L → ∀ i, i < m → pr' i = nI (L.getD i 0)) ∧ bfr h0 h')) := by
  intro d
  induction d with
  | zero => intro fr h pr hd; omega
  | succ d ih =>
    intro fr h pr hd HS hpa p0 hF hb
    by_cases hm1 : 1 ≤ m
    · rw [if_pos hm1] at p0
      obtain ⟨l, em⟩ : ∃ l, m = l + 1 := ⟨m - 1, by omega⟩
      have em2 : min m 1 = 1 := by omega
      have em3 : m - 1 = l := by omega
      rcases brg_nx (T := T) (C := ν.2.2.1) (p := p) (l := l) (wd := wd) (K := ν.1) 69 fr (by omega) with ⟨q, q2⟩ | ⟨v, q, q3, q4, q5, q2⟩
      · rw [q] at p0
        rw [← em, ← hb] at q2
        have HO := HO0.bf hF
        have hP := hw.1
        have hM : h 37 = .inr (7, [.int (F 0), .long tr, .ref (kb G + 38), .int (nI sz), .int (F 4), .int (F 5), .int (F 6), .int (F 7), .int (F 8), .ref (kb G + 39), .ref (kb G + 40), .int (nI T.1), .int (F 12), .int (nI T.2.2.2.1), .int (F 14), .int (nI T.2.2.2.2.1), .int (F 16), .int (nI T.2.2.2.2.2), .int (F 18), .int (F 19), .int (F 20), .ref (kb G + 41), .ref (kb G + 42), .ref (kb G + 43), .ref (kb G + 44), .ref (kb G + 45), .ref (kb G + 46), .ref (kb G + 47), .ref (kb G + 48)]) := HO
        refine go_aload_n 0 (nx := 20) dX7_bringsBy_19 rfl rfl rfl ?_
        refine go_gf (nx := 23) fg_X7_35 dX7_bringsBy_20 (by omega) hM rfl rfl ?_
        refine go_iconst (v := nI 0) (nx := 24) dX7_bringsBy_23 (by decide) rfl ?_
        refine go_ial (0) (nx := 25) dX7_bringsBy_24 (by omega) hpa rfl (by decide) (by omega) rfl ?_
        refine go_if_lt 225 (nx := 28) dX7_bringsBy_25 rfl rfl (fun c25 => ?_) (fun c25 => False.elim (absurd (by rw [p0]; decide) c25))
        refine go_bipush (v := (-9)) (nx := 227) dX7_bringsBy_225 (by decide) rfl ?_
        refine go_reti dX7_bringsBy_227 ⟨_, rfl, rfl⟩ ?_
        rw [q2]
        exact ⟨rfl, HS, ⟨_, hpa, fun L e => by cases e⟩, hF⟩
      · rw [q] at p0
        rw [← em, ← hb] at q2
        have ek : (mtF (tri v 0 0) 1 ν).1 = meetK ν.1 (v / 10) (v % 10) := mMt_K
        have HO := HO0.bf hF
        have hP := hw.1
        have hM : h 37 = .inr (7, [.int (F 0), .long tr, .ref (kb G + 38), .int (nI sz), .int (F 4), .int (F 5), .int (F 6), .int (F 7), .int (F 8), .ref (kb G + 39), .ref (kb G + 40), .int (nI T.1), .int (F 12), .int (nI T.2.2.2.1), .int (F 14), .int (nI T.2.2.2.2.1), .int (F 16), .int (nI T.2.2.2.2.2), .int (F 18), .int (F 19), .int (F 20), .ref (kb G + 41), .ref (kb G + 42), .ref (kb G + 43), .ref (kb G + 44), .ref (kb G + 45), .ref (kb G + 46), .ref (kb G + 47), .ref (kb G + 48)]) := HO
        refine go_aload_n 0 (nx := 20) dX7_bringsBy_19 rfl rfl rfl ?_
        refine go_gf (nx := 23) fg_X7_35 dX7_bringsBy_20 (by omega) hM rfl rfl ?_
        refine go_iconst (v := nI 0) (nx := 24) dX7_bringsBy_23 (by decide) rfl ?_
        refine go_ial (0) (nx := 25) dX7_bringsBy_24 (by omega) hpa rfl (by decide) (by omega) rfl ?_
        refine go_if_lt 225 (nx := 28) dX7_bringsBy_25 rfl rfl (fun c25 => False.elim (absurd c25 (by rw [p0]; exact fun z => Nat.not_lt_zero v (klt (b := 0) z (by omega) (by decide))))) (fun c25 => ?_)
        refine go_aload_n 0 (nx := 29) dX7_bringsBy_28 rfl rfl rfl ?_
        refine go_gf (nx := 32) fg_X7_35 dX7_bringsBy_29 (by omega) hM rfl rfl ?_
        refine go_iconst (v := nI 1) (nx := 33) dX7_bringsBy_32 (by decide) rfl ?_
        refine go_iload_n 3 (nx := 34) dX7_bringsBy_33 rfl rfl rfl ?_
        refine go_iconst (v := nI 1) (nx := 35) dX7_bringsBy_34 (by decide) rfl ?_
        refine go_icmp_le 51 (nx := 38) dX7_bringsBy_35 rfl rfl (fun c35 => ?_) (fun c35 => ?_)
        · skip
          refine go_iconst (v := nI 0) (nx := 52) dX7_bringsBy_51 (by decide) rfl ?_
          refine go_ias (1) (nx := 53) dX7_bringsBy_52 (by omega) hpa rfl (by decide) (by omega) rfl (fun h1 eh1 fh1 => ?_)
          have hM := (fh1 (37) (by omega)).trans hM
          have hpa := eh1
          refine Go.sub [0, 1, 2, 3] rfl ?_
          have fx : kFr 46 47 _ h1 := fun j hj => fh1 j (by omega)
          refine l_bby2 hn HO0 hw hv hp hY hm (v0 := v) HSp0 (fun _ => q5) 69 (v + 1) _ _ (by omega) (by obtain ⟨a, z1, z2⟩ := HS; exact ⟨a, (fx 41 (by omega)).trans z1, z2⟩) hpa ((pk_un (by decide)).trans p0) (pk_us.trans (if_neg (by have z := kle c35; omega)).symm) (hF.tr fx (by omega)) ?_ ?_
          · rw [em3, em2, ek]
            intro L eL h' pr' a1 a2 a3 a4 a5
            rw [eL] at q2
            rw [q2]
            refine ⟨congrArg nI (by have z := brg_len eL; rw [List.length_cons, z]; exact em), a1, ⟨pr', a2, fun L2 e2 i hi => ?_⟩, a5⟩
            cases e2
            cases i with
            | zero => exact a3
            | succ i => exact (congrArg pr' (by omega)).trans (a4 i (by omega))
          · rw [em3, em2, ek]
            intro eL h pr' HS hpa p0 hF
            rw [eL] at q2
            have HO := HO0.bf hF
            have hP := hw.1
            have hM : h 37 = .inr (7, [.int (F 0), .long tr, .ref (kb G + 38), .int (nI sz), .int (F 4), .int (F 5), .int (F 6), .int (F 7), .int (F 8), .ref (kb G + 39), .ref (kb G + 40), .int (nI T.1), .int (F 12), .int (nI T.2.2.2.1), .int (F 14), .int (nI T.2.2.2.2.1), .int (F 16), .int (nI T.2.2.2.2.2), .int (F 18), .int (F 19), .int (F 20), .ref (kb G + 41), .ref (kb G + 42), .ref (kb G + 43), .ref (kb G + 44), .ref (kb G + 45), .ref (kb G + 46), .ref (kb G + 47), .ref (kb G + 48)]) := HO
            refine go_aload_n 0 (nx := 199) dX7_bringsBy_198 rfl rfl rfl ?_
            refine go_gf (nx := 202) fg_X7_35 dX7_bringsBy_199 (by omega) hM rfl rfl ?_
            refine go_iconst (v := nI 0) (nx := 203) dX7_bringsBy_202 (by decide) rfl ?_
            refine go_iload_n 3 (nx := 204) dX7_bringsBy_203 rfl rfl rfl ?_
            refine go_if_le 220 (nx := 207) dX7_bringsBy_204 rfl rfl (fun c204 => False.elim (absurd ((nI_leI (b := 0) (by omega) (by decide)).mp c204) (by omega))) (fun c204 => ?_)
            refine go_aload_n 0 (nx := 208) dX7_bringsBy_207 rfl rfl rfl ?_
            refine go_aload_n 0 (nx := 209) dX7_bringsBy_208 rfl rfl rfl ?_
            refine go_gf (nx := 212) fg_X7_35 dX7_bringsBy_209 (by omega) hM rfl rfl ?_
            refine go_iconst (v := nI 0) (nx := 213) dX7_bringsBy_212 (by decide) rfl ?_
            refine go_ial (0) (nx := 214) dX7_bringsBy_213 (by omega) hpa rfl (by decide) (by omega) rfl ?_
            rw [p0]
            refine go_Vi (nx := 217) [_] kc_X7_184 ⟨_, _, rfl⟩ (by omega) hM (m_nextPair (ν := ν) (a := v) hn HO hP rfl (by omega)) dX7_bringsBy_214 rfl rfl (Nat.le_of_ble_eq_true rfl) (Nat.le_of_ble_eq_true rfl) ⟨Nat.le_refl _, Nat.le_refl _⟩ rfl (fun rh1 h1 hqh1 => ?_)
            obtain ⟨rfl, rfl⟩ := hqh1
            refine go_goto 221 dX7_bringsBy_217 rfl ?_
            refine go_ias (0) (nx := 222) dX7_bringsBy_221 (by omega) hpa rfl (by decide) (by omega) rfl (fun h2 eh2 fh2 => ?_)
            have hM := (fh2 (37) (by omega)).trans hM
            have hpa := eh2
            refine go_goto 19 dX7_bringsBy_222 rfl ?_
            refine Go.sub [0, 1, 2, 3] rfl ?_
            have fx : kFr 46 47 _ h2 := fun j hj => fh2 j (by omega)
            exact ih (v + 1) _ _ (by omega) (by obtain ⟨a, z1, z2⟩ := HS; exact ⟨a, (fx 41 (by omega)).trans z1, z2⟩) hpa (pk_us.trans (if_pos hm1).symm) (hF.tr fx (by omega)) (by rw [em] at q2 ⊢; exact q2)
        · skip
          refine go_aload_n 0 (nx := 39) dX7_bringsBy_38 rfl rfl rfl ?_
          refine go_aload_n 0 (nx := 40) dX7_bringsBy_39 rfl rfl rfl ?_
          refine go_gf (nx := 43) fg_X7_35 dX7_bringsBy_40 (by omega) hM rfl rfl ?_
          refine go_iconst (v := nI 0) (nx := 44) dX7_bringsBy_43 (by decide) rfl ?_
          refine go_ial (0) (nx := 45) dX7_bringsBy_44 (by omega) hpa rfl (by decide) (by omega) rfl ?_
          rw [p0]
          refine go_Vi (nx := 48) [_] kc_X7_184 ⟨_, _, rfl⟩ (by omega) hM (m_nextPair (ν := ν) (a := v) hn HO hP rfl (by omega)) dX7_bringsBy_45 rfl rfl (Nat.le_of_ble_eq_true rfl) (Nat.le_of_ble_eq_true rfl) ⟨Nat.le_refl _, Nat.le_refl _⟩ rfl (fun rh1 h1 hqh1 => ?_)
          obtain ⟨rfl, rfl⟩ := hqh1
          refine go_goto 52 dX7_bringsBy_48 rfl ?_
          refine go_ias (1) (nx := 53) dX7_bringsBy_52 (by omega) hpa rfl (by decide) (by omega) rfl (fun h2 eh2 fh2 => ?_)
          have hM := (fh2 (37) (by omega)).trans hM
          have hpa := eh2
          refine Go.sub [0, 1, 2, 3] rfl ?_
          have fx : kFr 46 47 _ h2 := fun j hj => fh2 j (by omega)
          refine l_bby2 hn HO0 hw hv hp hY hm (v0 := v) HSp0 (fun _ => q5) 69 (v + 1) _ _ (by omega) (by obtain ⟨a, z1, z2⟩ := HS; exact ⟨a, (fx 41 (by omega)).trans z1, z2⟩) hpa ((pk_un (by decide)).trans p0) (pk_us.trans (if_pos (by have z := knle c35; omega)).symm) (hF.tr fx (by omega)) ?_ ?_
          · rw [em3, em2, ek]
            intro L eL h' pr' a1 a2 a3 a4 a5
            rw [eL] at q2
            rw [q2]
            refine ⟨congrArg nI (by have z := brg_len eL; rw [List.length_cons, z]; exact em), a1, ⟨pr', a2, fun L2 e2 i hi => ?_⟩, a5⟩
            cases e2
            cases i with
            | zero => exact a3
            | succ i => exact (congrArg pr' (by omega)).trans (a4 i (by omega))
          · rw [em3, em2, ek]
            intro eL h pr' HS hpa p0 hF
            rw [eL] at q2
            have HO := HO0.bf hF
            have hP := hw.1
            have hM : h 37 = .inr (7, [.int (F 0), .long tr, .ref (kb G + 38), .int (nI sz), .int (F 4), .int (F 5), .int (F 6), .int (F 7), .int (F 8), .ref (kb G + 39), .ref (kb G + 40), .int (nI T.1), .int (F 12), .int (nI T.2.2.2.1), .int (F 14), .int (nI T.2.2.2.2.1), .int (F 16), .int (nI T.2.2.2.2.2), .int (F 18), .int (F 19), .int (F 20), .ref (kb G + 41), .ref (kb G + 42), .ref (kb G + 43), .ref (kb G + 44), .ref (kb G + 45), .ref (kb G + 46), .ref (kb G + 47), .ref (kb G + 48)]) := HO
            refine go_aload_n 0 (nx := 199) dX7_bringsBy_198 rfl rfl rfl ?_
            refine go_gf (nx := 202) fg_X7_35 dX7_bringsBy_199 (by omega) hM rfl rfl ?_
            refine go_iconst (v := nI 0) (nx := 203) dX7_bringsBy_202 (by decide) rfl ?_
            refine go_iload_n 3 (nx := 204) dX7_bringsBy_203 rfl rfl rfl ?_
            refine go_if_le 220 (nx := 207) dX7_bringsBy_204 rfl rfl (fun c204 => False.elim (absurd ((nI_leI (b := 0) (by omega) (by decide)).mp c204) (by omega))) (fun c204 => ?_)
            refine go_aload_n 0 (nx := 208) dX7_bringsBy_207 rfl rfl rfl ?_
            refine go_aload_n 0 (nx := 209) dX7_bringsBy_208 rfl rfl rfl ?_
            refine go_gf (nx := 212) fg_X7_35 dX7_bringsBy_209 (by omega) hM rfl rfl ?_
            refine go_iconst (v := nI 0) (nx := 213) dX7_bringsBy_212 (by decide) rfl ?_
            refine go_ial (0) (nx := 214) dX7_bringsBy_213 (by omega) hpa rfl (by decide) (by omega) rfl ?_
            rw [p0]
            refine go_Vi (nx := 217) [_] kc_X7_184 ⟨_, _, rfl⟩ (by omega) hM (m_nextPair (ν := ν) (a := v) hn HO hP rfl (by omega)) dX7_bringsBy_214 rfl rfl (Nat.le_of_ble_eq_true rfl) (Nat.le_of_ble_eq_true rfl) ⟨Nat.le_refl _, Nat.le_refl _⟩ rfl (fun rh1 h1 hqh1 => ?_)
            obtain ⟨rfl, rfl⟩ := hqh1
            refine go_goto 221 dX7_bringsBy_217 rfl ?_
            refine go_ias (0) (nx := 222) dX7_bringsBy_221 (by omega) hpa rfl (by decide) (by omega) rfl (fun h2 eh2 fh2 => ?_)
            have hM := (fh2 (37) (by omega)).trans hM
            have hpa := eh2
            refine go_goto 19 dX7_bringsBy_222 rfl ?_
            refine Go.sub [0, 1, 2, 3] rfl ?_
            have fx : kFr 46 47 _ h2 := fun j hj => fh2 j (by omega)
            exact ih (v + 1) _ _ (by omega) (by obtain ⟨a, z1, z2⟩ := HS; exact ⟨a, (fx 41 (by omega)).trans z1, z2⟩) hpa (pk_us.trans (if_pos hm1).symm) (hF.tr fx (by omega)) (by rw [em] at q2 ⊢; exact q2)
    · rw [if_neg hm1] at p0
      have em : m = 0 := by omega
      have HO := HO0.bf hF
      have hP := hw.1
      have hM : h 37 = .inr (7, [.int (F 0), .long tr, .ref (kb G + 38), .int (nI sz), .int (F 4), .int (F 5), .int (F 6), .int (F 7), .int (F 8), .ref (kb G + 39), .ref (kb G + 40), .int (nI T.1), .int (F 12), .int (nI T.2.2.2.1), .int (F 14), .int (nI T.2.2.2.2.1), .int (F 16), .int (nI T.2.2.2.2.2), .int (F 18), .int (F 19), .int (F 20), .ref (kb G + 41), .ref (kb G + 42), .ref (kb G + 43), .ref (kb G + 44), .ref (kb G + 45), .ref (kb G + 46), .ref (kb G + 47), .ref (kb G + 48)]) := HO
      refine go_aload_n 0 (nx := 20) dX7_bringsBy_19 rfl rfl rfl ?_
      refine go_gf (nx := 23) fg_X7_35 dX7_bringsBy_20 (by omega) hM rfl rfl ?_
      refine go_iconst (v := nI 0) (nx := 24) dX7_bringsBy_23 (by decide) rfl ?_
      refine go_ial (0) (nx := 25) dX7_bringsBy_24 (by omega) hpa rfl (by decide) (by omega) rfl ?_
      refine go_if_lt 225 (nx := 28) dX7_bringsBy_25 rfl rfl (fun c25 => False.elim (absurd c25 (by rw [p0]; decide))) (fun c25 => ?_)
      refine go_aload_n 0 (nx := 29) dX7_bringsBy_28 rfl rfl rfl ?_
      refine go_gf (nx := 32) fg_X7_35 dX7_bringsBy_29 (by omega) hM rfl rfl ?_
      refine go_iconst (v := nI 1) (nx := 33) dX7_bringsBy_32 (by decide) rfl ?_
      refine go_iload_n 3 (nx := 34) dX7_bringsBy_33 rfl rfl rfl ?_
      refine go_iconst (v := nI 1) (nx := 35) dX7_bringsBy_34 (by decide) rfl ?_
      refine go_icmp_le 51 (nx := 38) dX7_bringsBy_35 rfl rfl (fun c35 => ?_) (fun c35 => False.elim (c35 ((nI_leI (by omega) (by decide)).mpr (by omega))))
      refine go_iconst (v := nI 0) (nx := 52) dX7_bringsBy_51 (by decide) rfl ?_
      refine go_ias (1) (nx := 53) dX7_bringsBy_52 (by omega) hpa rfl (by decide) (by omega) rfl (fun h1 eh1 fh1 => ?_)
      have hM := (fh1 (37) (by omega)).trans hM
      have hpa := eh1
      refine Go.sub [0, 1, 2, 3] rfl ?_
      have fx : kFr 46 47 _ h1 := fun j hj => fh1 j (by omega)
      refine l_bby2 hn HO0 hw hv hp hY hm (v0 := 0) HSp0 (fun q => absurd q hm1) 69 0 _ _ (by omega) (by obtain ⟨a, z1, z2⟩ := HS; exact ⟨a, (fx 41 (by omega)).trans z1, z2⟩) hpa ((pk_un (by decide)).trans p0) (pk_us.trans (if_neg (by omega)).symm) (hF.tr fx (by omega)) ?_ ?_
      · subst em
        intro L eL h' pr' a1 a2 a3 a4 a5
        have eR : brg T ν.2.2.1 p wd 0 1 ν.1 = some L := eL
        rw [eR]
        refine ⟨congrArg nI (brg_len eL).symm, a1, ⟨pr', a2, fun L2 e2 i hi => absurd hi (Nat.not_lt_zero i)⟩, a5⟩
      · intro eL h pr' HS hpa p0 hF
        have eR : brg T ν.2.2.1 p wd m 1 ν.1 = none := by subst em; exact eL
        have HO := HO0.bf hF
        have hP := hw.1
        have hM : h 37 = .inr (7, [.int (F 0), .long tr, .ref (kb G + 38), .int (nI sz), .int (F 4), .int (F 5), .int (F 6), .int (F 7), .int (F 8), .ref (kb G + 39), .ref (kb G + 40), .int (nI T.1), .int (F 12), .int (nI T.2.2.2.1), .int (F 14), .int (nI T.2.2.2.2.1), .int (F 16), .int (nI T.2.2.2.2.2), .int (F 18), .int (F 19), .int (F 20), .ref (kb G + 41), .ref (kb G + 42), .ref (kb G + 43), .ref (kb G + 44), .ref (kb G + 45), .ref (kb G + 46), .ref (kb G + 47), .ref (kb G + 48)]) := HO
        refine go_aload_n 0 (nx := 199) dX7_bringsBy_198 rfl rfl rfl ?_
        refine go_gf (nx := 202) fg_X7_35 dX7_bringsBy_199 (by omega) hM rfl rfl ?_
        refine go_iconst (v := nI 0) (nx := 203) dX7_bringsBy_202 (by decide) rfl ?_
        refine go_iload_n 3 (nx := 204) dX7_bringsBy_203 rfl rfl rfl ?_
        refine go_if_le 220 (nx := 207) dX7_bringsBy_204 rfl rfl (fun c204 => ?_) (fun c204 => False.elim (c204 ((nI_leI (b := 0) (by omega) (by decide)).mpr (by omega))))
        refine go_iconst (v := (-1)) (nx := 221) dX7_bringsBy_220 (by decide) rfl ?_
        refine go_ias (0) (nx := 222) dX7_bringsBy_221 (by omega) hpa rfl (by decide) (by omega) rfl (fun h1 eh1 fh1 => ?_)
        have hM := (fh1 (37) (by omega)).trans hM
        have hpa := eh1
        refine go_goto 19 dX7_bringsBy_222 rfl ?_
        refine go_aload_n 0 (nx := 20) dX7_bringsBy_19 rfl rfl rfl ?_
        refine go_gf (nx := 23) fg_X7_35 dX7_bringsBy_20 (by omega) hM rfl rfl ?_
        refine go_iconst (v := nI 0) (nx := 24) dX7_bringsBy_23 (by decide) rfl ?_
        refine go_ial (0) (nx := 25) dX7_bringsBy_24 (by omega) hpa rfl (by decide) (by omega) rfl ?_
        refine go_if_lt 225 (nx := 28) dX7_bringsBy_25 rfl rfl (fun c25 => ?_) (fun c25 => False.elim (absurd (by rw [pk_us]; decide) c25))
        refine go_bipush (v := (-9)) (nx := 227) dX7_bringsBy_225 (by decide) rfl ?_
        refine go_reti dX7_bringsBy_227 ⟨_, rfl, rfl⟩ ?_
        rw [eR]
        have fx : kFr 46 47 _ h1 := fun j hj => fh1 j (by omega)
        exact ⟨rfl, (by obtain ⟨a, z1, z2⟩ := HS; exact ⟨a, (fx 41 (by omega)).trans z1, z2⟩), ⟨_, hpa, fun L e => by cases e⟩, hF.tr fx (by omega)⟩
theorem m_bringsBy {G : kG} {n sz m p : Nat} {ν : mN} {T : mT} {tr : Int64} {F : Nat → Int32} {wd : Bool} {h : kH} (hn : 49 ≤ n) (HO0 : mO G F tr sz T h) (hw : wT T) (hv : wN T.1 ν) (hp : p < T.1) (hY : ν.2.2.2.1 ≤ 99) (hm : m ≤ 3) {x y z : Int32} (HS : oS G ν h) (HSp : oSp G ν h) (HPa : xArr G 46 3 h) (hx : x = nI p) (hy : y = bI wd) (hz : z = nI m) : Spi G mX7_bringsBy 4 [.ref (kb G + 37), .int x, .int y, .int z] n h (fun u h' => u = lenI (brg T ν.2.2.1 p wd m 1 ν.1) ∧ oS G ν h' ∧ (∃ pr' : Nat → Int32, h' 46 = .inl (G.2.1, 3, .inl pr') ∧ ∀ L, brg T ν.2.2.1 p wd m 1 ν.1 = some L → ∀ i, i < m → pr' i = nI (L.getD i 0)) ∧ bfr h h') := by
  subst hx
  subst hy
  subst hz
  obtain ⟨pr, hpa⟩ := HPa
  have HO := HO0
  have hP := hw.1
  have hM : h 37 = .inr (7, [.int (F 0), .long tr, .ref (kb G + 38), .int (nI sz), .int (F 4), .int (F 5), .int (F 6), .int (F 7), .int (F 8), .ref (kb G + 39), .ref (kb G + 40), .int (nI T.1), .int (F 12), .int (nI T.2.2.2.1), .int (F 14), .int (nI T.2.2.2.2.1), .int (F 16), .int (nI T.2.2.2.2.2), .int (F 18), .int (F 19), .int (F 20), .ref (kb G + 41), .ref (kb G + 42), .ref (kb G + 43), .ref (kb G + 44), .ref (kb G + 45), .ref (kb G + 46), .ref (kb G + 47), .ref (kb G + 48)]) := HO
  refine Spi.of (by decide) (Nat.le_of_ble_eq_true rfl) ?_
  refine Go.loc (lv' := [(0, _), (1, _), (2, _), (3, _)]) rfl ?_
  refine go_aload_n 0 (nx := 1) dX7_bringsBy_0 rfl rfl rfl ?_
  refine go_gf (nx := 4) fg_X7_35 dX7_bringsBy_1 (by omega) hM rfl rfl ?_
  refine go_iconst (v := nI 0) (nx := 5) dX7_bringsBy_4 (by decide) rfl ?_
  refine go_iload_n 3 (nx := 6) dX7_bringsBy_5 rfl rfl rfl ?_
  refine go_if_le 17 (nx := 9) dX7_bringsBy_6 rfl rfl (fun c6 => ?_) (fun c6 => ?_)
  · skip
    refine go_iconst (v := nI 0) (nx := 18) dX7_bringsBy_17 (by decide) rfl ?_
    refine go_ias (0) (nx := 19) dX7_bringsBy_18 (by omega) hpa rfl (by decide) (by omega) rfl (fun h1 eh1 fh1 => ?_)
    have hM := (fh1 (37) (by omega)).trans hM
    have hpa := eh1
    refine Go.sub [0, 1, 2, 3] rfl ?_
    have fx : kFr 46 47 _ h1 := fun j hj => fh1 j (by omega)
    exact l_bby1 hn HO0 hw hv hp hY hm HSp 69 1 _ _ (by omega) (by obtain ⟨a, z1, z2⟩ := HS; exact ⟨a, (fx 41 (by omega)).trans z1, z2⟩) hpa (pk_us.trans (if_neg (by have z := kle (b := 0) c6; omega)).symm) (fun j a b => fx j (by omega)) rfl
  · skip
    refine go_aload_n 0 (nx := 10) dX7_bringsBy_9 rfl rfl rfl ?_
    refine go_iconst (v := nI 0) (nx := 11) dX7_bringsBy_10 (by decide) rfl ?_
    refine go_Vi (nx := 14) [_] kc_X7_184 ⟨_, _, rfl⟩ (by omega) hM (m_nextPair (ν := ν) (a := 0) hn HO hP rfl (by omega)) dX7_bringsBy_11 rfl rfl (Nat.le_of_ble_eq_true rfl) (Nat.le_of_ble_eq_true rfl) ⟨Nat.le_refl _, Nat.le_refl _⟩ rfl (fun rh1 h1 hqh1 => ?_)
    obtain ⟨rfl, rfl⟩ := hqh1
    refine go_goto 18 dX7_bringsBy_14 rfl ?_
    refine go_ias (0) (nx := 19) dX7_bringsBy_18 (by omega) hpa rfl (by decide) (by omega) rfl (fun h2 eh2 fh2 => ?_)
    have hM := (fh2 (37) (by omega)).trans hM
    have hpa := eh2
    refine Go.sub [0, 1, 2, 3] rfl ?_
    have fx : kFr 46 47 _ h2 := fun j hj => fh2 j (by omega)
    exact l_bby1 hn HO0 hw hv hp hY hm HSp 69 1 _ _ (by omega) (by obtain ⟨a, z1, z2⟩ := HS; exact ⟨a, (fx 41 (by omega)).trans z1, z2⟩) hpa (pk_us.trans (if_pos (by have z := knle (b := 0) c6; omega)).symm) (fun j a b => fx j (by omega)) rfl
