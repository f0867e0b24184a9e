/-! the reference: the rows of pairs -/
def bfr (h h' : kH) : Prop := ∀ j, j ≠ 41 → j ≠ 46 → h' j = h j
theorem mO.bf {G : kG} {F : Nat → Int32} {tr : Int64} {sz : Nat} {T : mT} {h h' : kH} (H : mO G F tr sz T h) (B : bfr h h') : mO G F tr sz T h' := (B 37 (by decide) (by decide)).trans H
theorem bfr.tr {lo hi : Nat} {h h1 h2 : kH} (B : bfr h h1) (K : kFr lo hi h1 h2) (hd : (lo = 41 ∧ hi = 42) ∨ (lo = 46 ∧ hi = 47)) : bfr h h2 := fun j a b => (K j (by omega)).trans (B j a b)
def mtF (v : Nat → Nat) : Nat → mN → mN
  | 0, ν => ν
  | j + 1, ν => mMt (mtF v j ν) (v j)
theorem mtF_C {v : Nat → Nat} {ν : mN} : ∀ j, (mtF v j ν).2.2 = ν.2.2
  | 0 => rfl
  | j + 1 => (mMt_C (v := v j)).trans (mtF_C j)
theorem wN_mtF {v : Nat → Nat} {ν : mN} {P : Nat} (h : wN P ν) : ∀ j, (∀ i, i < j → vpB P (v i) = true) → wN P (mtF v j ν)
  | 0, _ => h
  | j + 1, hv => wN_mt (wN_mtF h j fun i hi => hv i (by omega)) (hv j (by omega))
theorem l_bby0 {G : kG} {n sz m p : Nat} {ν : mN} {T : mT} {tr : Int64} {F : Nat → Int32} {wd : Bool} {h0 : kH} {Q : Int32 → kH → Prop} (hn : 49 ≤ n) (HO0 : mO G F tr sz T h0) (hw : wT T) (hv : wN T.1 ν) (hp : p < T.1) (hY : ν.2.2.2.1 ≤ 99) (hm : m ≤ 3) {v : Nat → Nat} {pr : Nat → Int32} (hvp : ∀ i, i < m → vpB T.1 (v i) = true) (hpr : ∀ i, i < m → pr i = nI (v i)) (HSp0 : oSp G ν h0)
    (hyes : ((mChoose T (mtF v m ν).1 ν.2.2.1 == p) == wd) = true → ∀ h', oS G ν h' → h' 46 = .inl (G.2.1, 3, .inl pr) → bfr h0 h' → Q (nI m) h')
    (hno : ((mChoose T (mtF v m ν).1 ν.2.2.1 == p) == wd) = false → ∀ h', oS G ν h' → h' 46 = .inl (G.2.1, 3, .inl pr) → bfr h0 h' → Go G mX7_bringsBy (4, 0, 0) 142 [(0, .ref (kb G + 37)), (1, .int (nI p)), (2, .int (bI wd)), (3, .int (nI m))] [] (n, 0, 0) h' (kQi mX7_bringsBy n Q)) : ∀ (d j : Nat) (h : kH), m - j < d → j ≤ m → oS G (mtF v j ν) h → h 46 = .inl (G.2.1, 3, .inl pr) → bfr h0 h → Go G mX7_bringsBy (4, 0, 0) 99 [(4, .int (nI j)), (0, .ref (kb G + 37)), (1, .int (nI p)), (2, .int (bI wd)), (3, .int (nI m))] [] (n, 0, 0) h (kQi mX7_bringsBy n Q) := by
  intro d
  induction d with
  | zero => intro j h hd; omega
  | succ d ih =>
    intro j h hd hj HS hpa hF
    have HO := HO0.bf hF
    have hP := hw.1
    have hM : h 37 = .inr (7, [.int (F 0), .long tr, .ref (kb G + 38), .int (nI sz), .int (F 4), .int (F 5), .int (F 6), .int (F 7), .int (F 8), .ref (kb G + 39), .ref (kb G + 40), .int (nI T.1), .int (F 12), .int (nI T.2.2.2.1), .int (F 14), .int (nI T.2.2.2.2.1), .int (F 16), .int (nI T.2.2.2.2.2), .int (F 18), .int (F 19), .int (F 20), .ref (kb G + 41), .ref (kb G + 42), .ref (kb G + 43), .ref (kb G + 44), .ref (kb G + 45), .ref (kb G + 46), .ref (kb G + 47), .ref (kb G + 48)]) := HO
    refine go_iload 0 (nx := 101) dX7_bringsBy_99 rfl rfl ?_
    refine go_iload_n 4 (nx := 102) dX7_bringsBy_101 rfl rfl rfl ?_
    refine go_icmp_ge 122 (nx := 105) dX7_bringsBy_102 rfl rfl (fun c102 => ?_) (fun c102 => ?_)
    · skip
      have e8 : j = m := by have := kle c102; omega
      subst e8
      refine go_aload_n 1 (nx := 123) dX7_bringsBy_122 rfl rfl rfl ?_
      refine go_iload_n 2 (nx := 124) dX7_bringsBy_123 rfl rfl rfl ?_
      refine go_iload_n 3 (nx := 125) dX7_bringsBy_124 rfl rfl rfl ?_
      refine go_Vi (nx := 128) [_, _] kc_X7_190 ⟨_, _, rfl⟩ (by omega) hM (m_isSo hn HO HS hw (wN_mtF hv j hvp) (by rw [mtF_C]; exact hY) rfl hp rfl) dX7_bringsBy_125 rfl rfl (Nat.le_of_ble_eq_true rfl) (Nat.le_of_ble_eq_true rfl) ⟨Nat.le_refl _, Nat.le_refl _⟩ rfl (fun rh1 h1 hqh1 => ?_)
      obtain ⟨rfl, rfl⟩ := hqh1
      refine go_istore (lv' := [_, _, _, _, _]) (nx := 130) dX7_bringsBy_128 (by decide) rfl rfl ?_
      refine go_aload_n 1 (nx := 131) dX7_bringsBy_130 rfl rfl rfl ?_
      refine go_iconst (v := nI 0) (nx := 132) dX7_bringsBy_131 (by decide) rfl ?_
      refine go_Vv (nx := 135) [_] kc_X7_180 ⟨_, _, rfl⟩ (by omega) hM (m_asideF (tx := fun _ => 0) (ν := ν) (i0 := none) (i1 := none) hn HO (by obtain ⟨a, q1, q2⟩ := HSp0; exact ⟨a, (hF 42 (by decide) (by decide)).trans q1, q2⟩) HS.xa rfl) dX7_bringsBy_132 rfl rfl (Nat.le_of_ble_eq_true rfl) (Nat.le_of_ble_eq_true rfl) ⟨Nat.le_refl _, Nat.le_refl _⟩ rfl (fun h2 hqh2 => ?_)
      obtain ⟨HS2, hFh2⟩ := hqh2
      have hpa := (hFh2 46 (by omega)).trans hpa
      have hF := hF.tr hFh2 (by omega)
      refine go_iload 0 (nx := 137) dX7_bringsBy_135 rfl rfl ?_
      refine go_if_eq 142 (nx := 140) dX7_bringsBy_137 rfl rfl (fun c137 => ?_) (fun c137 => ?_)
      · skip
        refine Go.sub [1, 2, 3, 4] rfl ?_
        exact hno (by have z := tb0 c137; rw [mtF_C] at z; exact z) _ HS2 hpa hF
      · skip
        refine go_iload_n 4 (nx := 141) dX7_bringsBy_140 rfl rfl rfl ?_
        refine go_reti dX7_bringsBy_141 ⟨_, rfl, rfl⟩ ?_
        exact hyes (by have z := tbn0 c137; rw [mtF_C] at z; exact z) _ HS2 hpa hF
    · skip
      have z1 := knle c102
      refine go_aload_n 1 (nx := 106) dX7_bringsBy_105 rfl rfl rfl ?_
      refine go_aload_n 1 (nx := 107) dX7_bringsBy_106 rfl rfl rfl ?_
      refine go_gf (nx := 110) fg_X7_35 dX7_bringsBy_107 (by omega) hM rfl rfl ?_
      refine go_iload 0 (nx := 112) dX7_bringsBy_110 rfl rfl ?_
      refine go_ial (j) (nx := 113) dX7_bringsBy_112 (by omega) hpa rfl (by omega) (by omega) rfl ?_
      rw [hpr j z1]
      refine go_Vv (nx := 116) [_] kc_X7_187 ⟨_, _, rfl⟩ (by omega) hM (m_meets hn HO HS hP rfl (hvp j z1)) dX7_bringsBy_113 rfl rfl (Nat.le_of_ble_eq_true rfl) (Nat.le_of_ble_eq_true rfl) ⟨Nat.le_refl _, Nat.le_refl _⟩ rfl (fun h1 hqh1 => ?_)
      obtain ⟨HS, hFh1⟩ := hqh1
      have hpa := (hFh1 46 (by omega)).trans hpa
      have hF := hF.tr hFh1 (by omega)
      refine go_iinc 0 (v := nI (j + 1)) (lv' := [_, _, _, _, _]) (nx := 119) dX7_bringsBy_116 rfl (nI_inc j) (by decide) rfl rfl ?_
      refine go_goto 99 dX7_bringsBy_119 rfl ?_
      refine Go.sub [0, 1, 2, 3, 4] rfl ?_
      exact ih (j + 1) _ (by omega) (by omega) HS hpa hF
theorem l_bby {G : kG} {n sz m p : Nat} {ν : mN} {T : mT} {tr : Int64} {F : Nat → Int32} {wd : Bool} {h0 : kH} {Q : Int32 → kH → Prop} (hn : 49 ≤ n) (HO0 : mO G F tr sz T h0) (hw : wT T) (hv : wN T.1 ν) (hp : p < T.1) (hY : ν.2.2.2.1 ≤ 99) (hm : m ≤ 3) {v : Nat → Nat} {pr : Nat → Int32} (hvp : ∀ i, i < m → vpB T.1 (v i) = true) (hpr : ∀ i, i < m → pr i = nI (v i)) (hge : ¬ pr 2 < 0) (HSp0 : oSp G ν h0)
    (hyes : ((mChoose T (mtF v m ν).1 ν.2.2.1 == p) == wd) = true → ∀ h', oS G ν h' → h' 46 = .inl (G.2.1, 3, .inl pr) → bfr h0 h' → Q (nI m) h')
    (hno : ((mChoose T (mtF v m ν).1 ν.2.2.1 == p) == wd) = false → ∀ h', oS G ν h' → h' 46 = .inl (G.2.1, 3, .inl pr) → bfr h0 h' → Go G mX7_bringsBy (4, 0, 0) 142 [(0, .ref (kb G + 37)), (1, .int (nI p)), (2, .int (bI wd)), (3, .int (nI m))] [] (n, 0, 0) h' (kQi mX7_bringsBy n Q)) {h : kH} (HS : oS G ν h) (hpa : h 46 = .inl (G.2.1, 3, .inl pr)) (hF : bfr h0 h) : Go G mX7_bringsBy (4, 0, 0) 87 [(0, .ref (kb G + 37)), (1, .int (nI p)), (2, .int (bI wd)), (3, .int (nI m))] [] (n, 0, 0) h (kQi mX7_bringsBy n Q) := by
  have HO := HO0.bf hF
  have hP := hw.1
  have hM : h 37 = .inr (7, [.int (F 0), .long tr, .ref (kb G + 38), .int (nI sz), .int (F 4), .int (F 5), .int (F 6), .int (F 7), .int (F 8), .ref (kb G + 39), .ref (kb G + 40), .int (nI T.1), .int (F 12), .int (nI T.2.2.2.1), .int (F 14), .int (nI T.2.2.2.2.1), .int (F 16), .int (nI T.2.2.2.2.2), .int (F 18), .int (F 19), .int (F 20), .ref (kb G + 41), .ref (kb G + 42), .ref (kb G + 43), .ref (kb G + 44), .ref (kb G + 45), .ref (kb G + 46), .ref (kb G + 47), .ref (kb G + 48)]) := HO
  refine go_aload_n 0 (nx := 88) dX7_bringsBy_87 rfl rfl rfl ?_
  refine go_gf (nx := 91) fg_X7_35 dX7_bringsBy_88 (by omega) hM rfl rfl ?_
  refine go_iconst (v := nI 2) (nx := 92) dX7_bringsBy_91 (by decide) rfl ?_
  refine go_ial (2) (nx := 93) dX7_bringsBy_92 (by omega) hpa rfl (by decide) (by omega) rfl ?_
  refine go_if_lt 170 (nx := 96) dX7_bringsBy_93 rfl rfl (fun c93 => False.elim (hge c93)) (fun c93 => ?_)
  refine go_iconst (v := nI 0) (nx := 97) dX7_bringsBy_96 (by decide) rfl ?_
  refine go_istore (lv' := [_, _, _, _, _]) (nx := 99) dX7_bringsBy_97 (by decide) rfl rfl ?_
  refine Go.sub [0, 1, 2, 3, 4] rfl ?_
  exact l_bby0 hn HO0 hw hv hp hY hm hvp hpr HSp0 hyes hno (m + 1) 0 _ (by omega) (by omega) HS hpa hF
def tri (a b c i : Nat) : Nat := if i = 0 then a else if i = 1 then b else c
theorem l_bby3 {G : kG} {n sz m p : Nat} {ν : mN} {T : mT} {tr : Int64} {F : Nat → Int32} {wd : Bool} {h0 : kH} {Q : Int32 → kH → Prop} (hn : 49 ≤ n) (HO0 : mO G F tr sz T h0) (hw : wT T) (hv : wN T.1 ν) (hp : p < T.1) (hY : ν.2.2.2.1 ≤ 99) (hm : m ≤ 3) {v0 v1 : Nat} (HSp0 : oSp G ν h0) (e0 : 1 ≤ m → vpB T.1 v0 = true) (e1 : 2 ≤ m → vpB T.1 v1 = true) : ∀ (d fr : Nat) (h : kH) (pr : Nat → Int32), 68 - fr < d → oS G ν h → h 46 = .inl (G.2.1, 3, .inl pr) → pr 0 = nI v0 → pr 1 = nI v1 → pr 2 = (if m = 3 then actI (-1) (nxP T.1 fr) else nI 0) → bfr h0 h →
    (∀ L, brg T ν.2.2.1 p wd (m - 2) fr (mtF (tri v0 v1 0) (min m 2) ν).1 = some L → ∀ h' pr', oS G ν h' → h' 46 = .inl (G.2.1, 3, .inl pr') → pr' 0 = nI v0 → pr' 1 = nI v1 → (∀ i, i < m - 2 → pr' (2 + i) = nI (L.getD i 0)) → bfr h0 h' → Q (nI m) h') →
    (brg T ν.2.2.1 p wd (m - 2) fr (mtF (tri v0 v1 0) (min m 2) ν).1 = none → ∀ h' pr', oS G ν h' → h' 46 = .inl (G.2.1, 3, .inl pr') → pr' 0 = nI v0 → pr' 1 = nI v1 → bfr h0 h' → Go G mX7_bringsBy (4, 0, 0) 170 [(0, .ref (kb G + 37)), (1, .int (nI p)), (2, .int (bI wd)), (3, .int (nI m))] [] (n, 0, 0) h' (kQi mX7_bringsBy n Q)) → Go G mX7_bringsBy (4, 0, 0) 87 [(0, .ref (kb G + 37)), (1, .int (nI p)), (2, .int (bI wd)), (3, .int (nI m))] [] (n, 0, 0) h (kQi mX7_bringsBy n Q) := by
  intro d
  induction d with
  | zero => intro fr h pr hd; omega
  | succ d ih =>
    intro fr h pr hd HS hpa p0 p1 p2 hF hyes hno
    by_cases hm3 : m = 3
    · subst hm3
      rw [if_pos rfl] at p2
      rcases brg_nx (T := T) (C := ν.2.2.1) (p := p) (l := 0) (wd := wd) (K := (mtF (tri v0 v1 0) 2 ν).1) 69 fr (by omega) with ⟨q, q2⟩ | ⟨v, q, q3, q4, q5, q2⟩
      · rw [q] at p2
        have HO := HO0.bf hF
        have hP := hw.1
        have hM : h 37 = .inr (7, [.int (F 0), .long tr, .ref (kb G + 38), .int (nI sz), .int (F 4), .int (F 5), .int (F 6), .int (F 7), .int (F 8), .ref (kb G + 39), .ref (kb G + 40), .int (nI T.1), .int (F 12), .int (nI T.2.2.2.1), .int (F 14), .int (nI T.2.2.2.2.1), .int (F 16), .int (nI T.2.2.2.2.2), .int (F 18), .int (F 19), .int (F 20), .ref (kb G + 41), .ref (kb G + 42), .ref (kb G + 43), .ref (kb G + 44), .ref (kb G + 45), .ref (kb G + 46), .ref (kb G + 47), .ref (kb G + 48)]) := HO
        refine go_aload_n 0 (nx := 88) dX7_bringsBy_87 rfl rfl rfl ?_
        refine go_gf (nx := 91) fg_X7_35 dX7_bringsBy_88 (by omega) hM rfl rfl ?_
        refine go_iconst (v := nI 2) (nx := 92) dX7_bringsBy_91 (by decide) rfl ?_
        refine go_ial (2) (nx := 93) dX7_bringsBy_92 (by omega) hpa rfl (by decide) (by omega) rfl ?_
        refine go_if_lt 170 (nx := 96) dX7_bringsBy_93 rfl rfl (fun c93 => ?_) (fun c93 => False.elim (absurd (by rw [p2]; decide) c93))
        refine Go.sub [0, 1, 2, 3] rfl ?_
        exact hno q2 _ _ HS hpa p0 p1 hF
      · rw [q] at p2
        refine l_bby hn HO0 hw hv hp hY hm (v := tri v0 v1 v) (pr := pr) (fun i hi => ?_) (fun i hi => ?_) (by rw [p2]; exact fun z => Nat.not_lt_zero v (klt (b := 0) z (by omega) (by decide))) HSp0 (fun c h HS hpa hF => ?_) (fun c h HS hpa hF => ?_) HS hpa hF
        · rcases (show i = 0 ∨ i = 1 ∨ i = 2 by omega) with rfl | rfl | rfl
          · exact e0 (by decide)
          · exact e1 (by decide)
          · exact q5
        · rcases (show i = 0 ∨ i = 1 ∨ i = 2 by omega) with rfl | rfl | rfl
          · exact p0
          · exact p1
          · exact p2
        · rw [show (mtF (tri v0 v1 v) 3 ν).1 = meetK (mtF (tri v0 v1 0) 2 ν).1 (v / 10) (v % 10) from mMt_K] at c
          have eb : brg T ν.2.2.1 p wd (0) (v + 1) (meetK (mtF (tri v0 v1 0) 2 ν).1 (v / 10) (v % 10)) = some [] := by simp only [brg]; rw [if_pos c]
          rw [eb] at q2
          exact hyes [v] q2 h pr HS hpa p0 p1 (fun i hi => by have e : i = 0 := (by omega); rw [e]; exact p2) hF
        · rw [show (mtF (tri v0 v1 v) 3 ν).1 = meetK (mtF (tri v0 v1 0) 2 ν).1 (v / 10) (v % 10) from mMt_K] at c
          have eb : brg T ν.2.2.1 p wd (0) (v + 1) (meetK (mtF (tri v0 v1 0) 2 ν).1 (v / 10) (v % 10)) = none := by simp only [brg]; rw [if_neg (by rw [c]; decide)]
          rw [eb] at q2
          have HO := HO0.bf hF
          have hP := hw.1
          have hM : h 37 = .inr (7, [.int (F 0), .long tr, .ref (kb G + 38), .int (nI sz), .int (F 4), .int (F 5), .int (F 6), .int (F 7), .int (F 8), .ref (kb G + 39), .ref (kb G + 40), .int (nI T.1), .int (F 12), .int (nI T.2.2.2.1), .int (F 14), .int (nI T.2.2.2.2.1), .int (F 16), .int (nI T.2.2.2.2.2), .int (F 18), .int (F 19), .int (F 20), .ref (kb G + 41), .ref (kb G + 42), .ref (kb G + 43), .ref (kb G + 44), .ref (kb G + 45), .ref (kb G + 46), .ref (kb G + 47), .ref (kb G + 48)]) := HO
          refine go_aload_n 0 (nx := 143) dX7_bringsBy_142 rfl rfl rfl ?_
          refine go_gf (nx := 146) fg_X7_35 dX7_bringsBy_143 (by omega) hM rfl rfl ?_
          refine go_iconst (v := nI 2) (nx := 147) dX7_bringsBy_146 (by decide) rfl ?_
          refine go_iload_n 3 (nx := 148) dX7_bringsBy_147 rfl rfl rfl ?_
          refine go_iconst (v := nI 2) (nx := 149) dX7_bringsBy_148 (by decide) rfl ?_
          refine go_icmp_le 165 (nx := 152) dX7_bringsBy_149 rfl rfl (fun c149 => False.elim (absurd c149 (by decide))) (fun c149 => ?_)
          refine go_aload_n 0 (nx := 153) dX7_bringsBy_152 rfl rfl rfl ?_
          refine go_aload_n 0 (nx := 154) dX7_bringsBy_153 rfl rfl rfl ?_
          refine go_gf (nx := 157) fg_X7_35 dX7_bringsBy_154 (by omega) hM rfl rfl ?_
          refine go_iconst (v := nI 2) (nx := 158) dX7_bringsBy_157 (by decide) rfl ?_
          refine go_ial (2) (nx := 159) dX7_bringsBy_158 (by omega) hpa rfl (by decide) (by omega) rfl ?_
          rw [p2]
          refine go_Vi (nx := 162) [_] kc_X7_184 ⟨_, _, rfl⟩ (by omega) hM (m_nextPair (ν := ν) (a := v) hn HO hP rfl (by omega)) dX7_bringsBy_159 rfl rfl (Nat.le_of_ble_eq_true rfl) (Nat.le_of_ble_eq_true rfl) ⟨Nat.le_refl _, Nat.le_refl _⟩ rfl (fun rh1 h1 hqh1 => ?_)
          obtain ⟨rfl, rfl⟩ := hqh1
          refine go_goto 166 dX7_bringsBy_162 rfl ?_
          refine go_ias (2) (nx := 167) dX7_bringsBy_166 (by omega) hpa rfl (by decide) (by omega) rfl (fun h2 eh2 fh2 => ?_)
          have hM := (fh2 (37) (by omega)).trans hM
          have hpa := eh2
          refine go_goto 87 dX7_bringsBy_167 rfl ?_
          refine Go.sub [0, 1, 2, 3] rfl ?_
          have fx : kFr 46 47 _ h2 := fun j hj => fh2 j (by omega)
          refine ih (v + 1) _ _ (by omega) (by obtain ⟨a, z1, z2⟩ := HS; exact ⟨a, (fx 41 (by omega)).trans z1, z2⟩) hpa ((pk_un (by decide)).trans p0) ((pk_un (by decide)).trans p1) pk_us (hF.tr fx (by omega)) (fun L e => hyes L (q2.trans e)) (fun e => hno (q2.trans e))
    · rw [if_neg hm3] at p2
      have em : m - 2 = 0 := by omega
      have em2 : min m 2 = m := by omega
      rw [em, em2] at hyes hno
      refine l_bby hn HO0 hw hv hp hY hm (v := tri v0 v1 0) (pr := pr) (fun i hi => ?_) (fun i hi => ?_) (by rw [p2]; decide) HSp0 (fun c h HS hpa hF => ?_) (fun c h HS hpa hF => ?_) HS hpa hF
      · rcases (show i = 0 ∨ i = 1 by omega) with rfl | rfl
        · exact e0 (by omega)
        · exact e1 (by omega)
      · rcases (show i = 0 ∨ i = 1 by omega) with rfl | rfl
        · exact p0
        · exact p1
      · exact hyes [] (by simp only [brg]; rw [if_pos c]) h pr HS hpa p0 p1 (fun i hi => absurd hi (Nat.not_lt_zero i)) hF
      · have hno := hno (by simp only [brg]; rw [if_neg (by rw [c]; decide)])
        have HO := HO0.bf hF
        have hP := hw.1
        have hM : h 37 = .inr (7, [.int (F 0), .long tr, .ref (kb G + 38), .int (nI sz), .int (F 4), .int (F 5), .int (F 6), .int (F 7), .int (F 8), .ref (kb G + 39), .ref (kb G + 40), .int (nI T.1), .int (F 12), .int (nI T.2.2.2.1), .int (F 14), .int (nI T.2.2.2.2.1), .int (F 16), .int (nI T.2.2.2.2.2), .int (F 18), .int (F 19), .int (F 20), .ref (kb G + 41), .ref (kb G + 42), .ref (kb G + 43), .ref (kb G + 44), .ref (kb G + 45), .ref (kb G + 46), .ref (kb G + 47), .ref (kb G + 48)]) := HO
        refine go_aload_n 0 (nx := 143) dX7_bringsBy_142 rfl rfl rfl ?_
        refine go_gf (nx := 146) fg_X7_35 dX7_bringsBy_143 (by omega) hM rfl rfl ?_
        refine go_iconst (v := nI 2) (nx := 147) dX7_bringsBy_146 (by decide) rfl ?_
        refine go_iload_n 3 (nx := 148) dX7_bringsBy_147 rfl rfl rfl ?_
        refine go_iconst (v := nI 2) (nx := 149) dX7_bringsBy_148 (by decide) rfl ?_
        refine go_icmp_le 165 (nx := 152) dX7_bringsBy_149 rfl rfl (fun c149 => ?_) (fun c149 => False.elim (c149 ((nI_leI (by omega) (by decide)).mpr (by omega))))
        refine go_iconst (v := (-1)) (nx := 166) dX7_bringsBy_165 (by decide) rfl ?_
        refine go_ias (2) (nx := 167) dX7_bringsBy_166 (by omega) hpa rfl (by decide) (by omega) rfl (fun h1 eh1 fh1 => ?_)
        have hM := (fh1 (37) (by omega)).trans hM
        have hpa := eh1
        refine go_goto 87 dX7_bringsBy_167 rfl ?_
        refine go_aload_n 0 (nx := 88) dX7_bringsBy_87 rfl rfl rfl ?_
        refine go_gf (nx := 91) fg_X7_35 dX7_bringsBy_88 (by omega) hM rfl rfl ?_
        refine go_iconst (v := nI 2) (nx := 92) dX7_bringsBy_91 (by decide) rfl ?_
        refine go_ial (2) (nx := 93) dX7_bringsBy_92 (by omega) hpa rfl (by decide) (by omega) rfl ?_
        refine go_if_lt 170 (nx := 96) dX7_bringsBy_93 rfl rfl (fun c93 => ?_) (fun c93 => False.elim (absurd (by rw [pk_us]; decide) c93))
        refine Go.sub [0, 1, 2, 3] rfl ?_
        have fx : kFr 46 47 _ h1 := fun j hj => fh1 j (by omega)
        exact hno _ _ (by obtain ⟨a, z1, z2⟩ := HS; exact ⟨a, (fx 41 (by omega)).trans z1, z2⟩) hpa ((pk_un (by decide)).trans p0) ((pk_un (by decide)).trans p1) (hF.tr fx (by omega))
