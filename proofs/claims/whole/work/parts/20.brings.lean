/-! LeastKnown$Foretelling: whom to bring together -/
theorem s_note {G : kG} {n f : Nat} {h : kH} {rw ru : Nat → Int32} {fa x : Int32} (hf8 : f + 8 ≤ n) (HF : rFore G f rw fa ru h) : Spv G mX0_noteInFront 1 [.ref (kb G + f), .int x] n h (fun h' => (∃ rw' : Nat → Int32, rFore G f rw' fa ru h' ∧ rw' 0 = x ∧ rw' 1 = rw 0 ∧ rw' 2 = rw 1) ∧ kFr (f + 1) (f + 2) h h') := by
  obtain ⟨hf, hrw, hru⟩ := HF
  have hF : kFr (f + 1) (f + 2) h h := kFr.rf
  refine Spv.of (by decide) (Nat.le_of_ble_eq_true rfl) ?_
  refine go_iconst (v := nI 2) (nx := 1) dX0_noteInFront_0 (by decide) rfl ?_
  refine go_istore_n (lv' := [_, _, _]) (nx := 2) dX0_noteInFront_1 rfl (by decide) rfl rfl ?_
  refine go_iload_n 0 (nx := 3) dX0_noteInFront_2 rfl rfl rfl ?_
  refine go_if_le 30 (nx := 6) dX0_noteInFront_3 rfl rfl (fun c3 => False.elim (absurd c3 (by decide))) (fun c3 => ?_)
  refine go_aload_n 1 (nx := 7) dX0_noteInFront_6 rfl rfl rfl ?_
  refine go_gf (nx := 10) fg_X0_9 dX0_noteInFront_7 (by omega) hf rfl rfl ?_
  refine go_iload_n 0 (nx := 11) dX0_noteInFront_10 rfl rfl rfl ?_
  refine go_aload_n 1 (nx := 12) dX0_noteInFront_11 rfl rfl rfl ?_
  refine go_gf (nx := 15) fg_X0_9 dX0_noteInFront_12 (by omega) hf rfl rfl ?_
  refine go_iload_n 0 (nx := 16) dX0_noteInFront_15 rfl rfl rfl ?_
  refine go_iconst (v := nI 1) (nx := 17) dX0_noteInFront_16 (by decide) rfl ?_
  refine go_isub (nx := 18) dX0_noteInFront_17 rfl ?_
  refine go_SNi (nx := 21) [_, _] kc_X0_41 (s_at_in (j := 1) (by omega) hrw (by omega) (by decide) (by decide)) dX0_noteInFront_18 rfl rfl (Nat.le_of_ble_eq_true rfl) (Nat.le_of_ble_eq_true rfl) ⟨Nat.le_refl _, Nat.le_refl _⟩ rfl (fun rh1 h1 hqh1 => ?_)
  obtain ⟨rfl, rfl⟩ := hqh1
  refine go_SNv (nx := 24) [_, _, _] kc_X0_33 (s_put (j := 2) (by omega) hrw (by omega) rfl (by decide)) dX0_noteInFront_21 rfl rfl (Nat.le_of_ble_eq_true rfl) (Nat.le_of_ble_eq_true rfl) ⟨Nat.le_refl _, Nat.le_refl _⟩ rfl (fun h2 hqh2 => ?_)
  obtain ⟨eh2, fh2⟩ := hqh2
  have hf := (fh2 (f) (by omega)).trans hf
  have hru := (fh2 (f + 7) (by omega)).trans hru
  have hrw := eh2
  have hF := hF.tr (fun j hj => fh2 j (by omega))
  refine go_iinc 0 (v := nI 1) (lv' := [_, _, _]) (nx := 27) dX0_noteInFront_24 rfl (by decide) (by decide) rfl rfl ?_
  refine go_goto 2 dX0_noteInFront_27 rfl ?_
  refine go_iload_n 0 (nx := 3) dX0_noteInFront_2 rfl rfl rfl ?_
  refine go_if_le 30 (nx := 6) dX0_noteInFront_3 rfl rfl (fun c3 => False.elim (absurd c3 (by decide))) (fun c3 => ?_)
  refine go_aload_n 1 (nx := 7) dX0_noteInFront_6 rfl rfl rfl ?_
  refine go_gf (nx := 10) fg_X0_9 dX0_noteInFront_7 (by omega) hf rfl rfl ?_
  refine go_iload_n 0 (nx := 11) dX0_noteInFront_10 rfl rfl rfl ?_
  refine go_aload_n 1 (nx := 12) dX0_noteInFront_11 rfl rfl rfl ?_
  refine go_gf (nx := 15) fg_X0_9 dX0_noteInFront_12 (by omega) hf rfl rfl ?_
  refine go_iload_n 0 (nx := 16) dX0_noteInFront_15 rfl rfl rfl ?_
  refine go_iconst (v := nI 1) (nx := 17) dX0_noteInFront_16 (by decide) rfl ?_
  refine go_isub (nx := 18) dX0_noteInFront_17 rfl ?_
  refine go_SNi (nx := 21) [_, _] kc_X0_41 (s_at_in (j := 0) (by omega) hrw (by omega) (by decide) (by decide)) dX0_noteInFront_18 rfl rfl (Nat.le_of_ble_eq_true rfl) (Nat.le_of_ble_eq_true rfl) ⟨Nat.le_refl _, Nat.le_refl _⟩ rfl (fun rh3 h3 hqh3 => ?_)
  obtain ⟨rfl, rfl⟩ := hqh3
  refine go_SNv (nx := 24) [_, _, _] kc_X0_33 (s_put (j := 1) (by omega) hrw (by omega) rfl (by decide)) dX0_noteInFront_21 rfl rfl (Nat.le_of_ble_eq_true rfl) (Nat.le_of_ble_eq_true rfl) ⟨Nat.le_refl _, Nat.le_refl _⟩ rfl (fun h4 hqh4 => ?_)
  obtain ⟨eh4, fh4⟩ := hqh4
  have hf := (fh4 (f) (by omega)).trans hf
  have hru := (fh4 (f + 7) (by omega)).trans hru
  have hrw := eh4
  have hF := hF.tr (fun j hj => fh4 j (by omega))
  refine go_iinc 0 (v := nI 0) (lv' := [_, _, _]) (nx := 27) dX0_noteInFront_24 rfl (by decide) (by decide) rfl rfl ?_
  refine go_goto 2 dX0_noteInFront_27 rfl ?_
  refine go_iload_n 0 (nx := 3) dX0_noteInFront_2 rfl rfl rfl ?_
  refine go_if_le 30 (nx := 6) dX0_noteInFront_3 rfl rfl (fun c3 => ?_) (fun c3 => False.elim (absurd (by decide) c3))
  refine go_aload_n 1 (nx := 31) dX0_noteInFront_30 rfl rfl rfl ?_
  refine go_gf (nx := 34) fg_X0_9 dX0_noteInFront_31 (by omega) hf rfl rfl ?_
  refine go_iconst (v := nI 0) (nx := 35) dX0_noteInFront_34 (by decide) rfl ?_
  refine go_iload_n 2 (nx := 36) dX0_noteInFront_35 rfl rfl rfl ?_
  refine go_SNv (nx := 39) [_, _, _] kc_X0_33 (s_put (j := 0) (by omega) hrw (by omega) rfl (by decide)) dX0_noteInFront_36 rfl rfl (Nat.le_of_ble_eq_true rfl) (Nat.le_of_ble_eq_true rfl) ⟨Nat.le_refl _, Nat.le_refl _⟩ rfl (fun h5 hqh5 => ?_)
  obtain ⟨eh5, fh5⟩ := hqh5
  have hf := (fh5 (f) (by omega)).trans hf
  have hru := (fh5 (f + 7) (by omega)).trans hru
  have hrw := eh5
  have hF := hF.tr (fun j hj => fh5 j (by omega))
  refine go_retv dX0_noteInFront_39 rfl ?_
  exact ⟨⟨_, ⟨hf, hrw, hru⟩, pk_us, (pk_un (by decide)).trans pk_us, ((pk_un (by decide)).trans (pk_un (by decide))).trans pk_us⟩, hF⟩
def vpB (P v : Nat) : Bool := decide (v / 10 < v % 10) && decide (v % 10 < P)
def meetK (K : mK) (a b : Nat) : mK := kSet (kSet K b a) a b
def ffo {α : Type} (g : Nat → Option α) : Nat → Nat → Option α
  | 0, _ => none
  | c + 1, s => match g s with
    | some x => some x
    | none => ffo g c (s + 1)
def brg (T : mT) (C : Nat → Nat) (p : Nat) (wd : Bool) : Nat → Nat → mK → Option (List Nat)
  | 0, _, K => if ((mChoose T K C == p) == wd) = true then some [] else none
  | l + 1, fr, K => ffo (fun v => if vpB T.1 v = true then (brg T C p wd l (v + 1) (meetK K (v / 10) (v % 10))).map (v :: ·) else none) (68 - fr) fr
theorem ffo_some {α : Type} {g : Nat → Option α} {c s : Nat} {x : α} (h : g s = some x) : ffo g (c + 1) s = some x := by simp only [ffo]; rw [h]
theorem ffo_none {α : Type} {g : Nat → Option α} {c s : Nat} (h : g s = none) : ffo g (c + 1) s = ffo g c (s + 1) := by simp only [ffo]; rw [h]
theorem ffo_mem {α : Type} {g : Nat → Option α} {x : α} : ∀ {c s : Nat}, ffo g c s = some x → ∃ v, s ≤ v ∧ v < s + c ∧ g v = some x
  | 0, s, h => by cases h
  | c + 1, s, h => by
    simp only [ffo] at h
    split at h
    · rename_i e
      cases h
      exact ⟨s, Nat.le_refl _, by omega, e⟩
    · obtain ⟨v, h1, h2, h3⟩ := ffo_mem h
      exact ⟨v, by omega, by omega, h3⟩
theorem brg_len {T : mT} {C : Nat → Nat} {p : Nat} {wd : Bool} : ∀ {l fr : Nat} {K : mK} {L : List Nat}, brg T C p wd l fr K = some L → L.length = l
  | 0, fr, K, L, h => by
    simp only [brg] at h
    split at h
    · cases h; rfl
    · cases h
  | l + 1, fr, K, L, h => by
    simp only [brg] at h
    obtain ⟨v, -, -, h3⟩ := ffo_mem h
    split at h3
    · cases e : brg T C p wd l (v + 1) (meetK K (v / 10) (v % 10)) with
      | none => rw [e] at h3; cases h3
      | some L' => rw [e] at h3; cases h3; simp [brg_len e]
    · cases h3
theorem wK_meet {P a b : Nat} {K : mK} (hK : wK P K) (ha : a < P) (hb : b < P) (h : a ≠ b) : wK P (meetK K a b) := wK_set (wK_set hK hb ha (Ne.symm h)) ha hb h
theorem oNow_set {G : kG} {q a b : Nat} {h : kH} {ν : mN} {kn ct si cr : Nat → Int32} (ha : a < 8) (H : rNow G q (upd kn b (nI (col ν.1 b ||| 2 ^ a))) (upd ct b (nI (popc (col ν.1 b ||| 2 ^ a)))) si cr (nI (bitsOf fun p => !(ν.2.2.1 p == 0))) (nI ν.2.2.2.1) ν.2.2.2.2 h) (hK : ∀ b, b < 8 → kn b = nI (col ν.1 b)) (hC : ∀ b, b < 8 → ct b = nI (cnt ν.1 b)) (hS : ∀ j, j < 64 → si j = ν.2.1 j) (hR : ∀ p, p < 8 → cr p = nI (ν.2.2.1 p)) : oNow G q (kSet ν.1 a b, ν.2) h := by
  refine ⟨_, _, _, _, H, fun c hc => ?_, fun c hc => ?_, hS, hR⟩
  · by_cases e : c = b
    · subst e; rw [pk_us]; exact congrArg nI (col_set ha).symm
    · rw [pk_un e, hK c hc]; exact congrArg nI (col_ne e).symm
  · by_cases e : c = b
    · subst e; rw [pk_us]; exact congrArg nI (by rw [cnt_popc, col_set ha])
    · rw [pk_un e, hC c hc]; exact congrArg nI (cnt_ne e).symm
/-- two rows are put back -/
theorem oNow_undo {G : kG} {q a b : Nat} {h : kH} {ν : mN} {kn ct si cr : Nat → Int32} (H : rNow G q (upd (upd kn a (nI (col ν.1 a))) b (nI (col ν.1 b))) (upd (upd ct a (nI (popc (col ν.1 a)))) b (nI (popc (col ν.1 b)))) si cr (nI (bitsOf fun p => !(ν.2.2.1 p == 0))) (nI ν.2.2.2.1) ν.2.2.2.2 h) (hK : ∀ c, c < 8 → kn c = nI (col (meetK ν.1 a b) c)) (hC : ∀ c, c < 8 → ct c = nI (cnt (meetK ν.1 a b) c)) (hS : ∀ j, j < 64 → si j = ν.2.1 j) (hR : ∀ p, p < 8 → cr p = nI (ν.2.2.1 p)) : oNow G q ν h := by
  refine ⟨_, _, _, _, H, fun c hc => ?_, fun c hc => ?_, hS, hR⟩
  · by_cases e : c = b
    · subst e; rw [pk_us]
    · rw [pk_un e]
      by_cases e2 : c = a
      · subst e2; rw [pk_us]
      · rw [pk_un e2, hK c hc, meetK, col_ne e, col_ne e2]
  · by_cases e : c = b
    · subst e; rw [pk_us, cnt_popc]
    · rw [pk_un e]
      by_cases e2 : c = a
      · subst e2; rw [pk_us, cnt_popc]
      · rw [pk_un e2, hC c hc, meetK, cnt_ne e, cnt_ne e2]
theorem l_brings {G : kG} {n f t p l fr : Nat} {h0 : kH} {ν : mN} {T : mT} {ru : Nat → Int32} {fa : Int32} {wd : Bool} (hf8 : f + 8 ≤ n) (ht : t + 3 ≤ n) (hd0 : t + 3 ≤ f ∨ f + 8 ≤ t) (hw : wT T) (hp : p < T.1) (hl : l ≤ 2) (hv : wK T.1 ν.1) (ih0 : ∀ (fr : Nat) (ν : mN) (rw : Nat → Int32) (h : kH), fr ≤ 68 → wK T.1 ν.1 → oNow G (f + 2) ν h → oTown G t T h → rFore G f rw fa ru h → Spi G mX0_bringsAbout (l + 3) [.ref (kb G + f), .ref (kb G + t), .int (nI p), .int (bI wd), .int (nI l), .int (nI fr)] n h (fun v h' => v = bI (brg T ν.2.2.1 p wd (l) fr ν.1).isSome ∧ oNow G (f + 2) ν h' ∧ (∃ rw' : Nat → Int32, rFore G f rw' fa ru h' ∧ ∀ L, brg T ν.2.2.1 p wd (l) fr ν.1 = some L → ∀ i, i < (l) → rw' i = nI (L.getD i 0)) ∧ kFr (f + 1) (f + 7) h h')) : ∀ (d v : Nat) (rw : Nat → Int32) (h : kH), 68 - v < d → v ≤ 68 → oNow G (f + 2) ν h → oTown G t T h → rFore G f rw fa ru h → kFr (f + 1) (f + 7) h0 h → brg T ν.2.2.1 p wd (l + 1) fr ν.1 = ffo (fun v => if vpB T.1 v = true then (brg T ν.2.2.1 p wd l (v + 1) (meetK ν.1 (v / 10) (v % 10))).map (v :: ·) else none) (68 - v) v → Go G mX0_bringsAbout (l + 1 + 3, 0, 0) 40 [(7, .int (nI v)), (6, .ref (kb G + (f + 2))), (0, .ref (kb G + f)), (1, .ref (kb G + t)), (2, .int (nI p)), (3, .int (bI wd)), (4, .int (nI (l + 1))), (5, .int (nI fr))] [] (n, 0, 0) h (kQi mX0_bringsAbout n (fun v h' => v = bI (brg T ν.2.2.1 p wd (l + 1) fr ν.1).isSome ∧ oNow G (f + 2) ν h' ∧ (∃ rw' : Nat → Int32, rFore G f rw' fa ru h' ∧ ∀ L, brg T ν.2.2.1 p wd (l + 1) fr ν.1 = some L → ∀ i, i < (l + 1) → rw' i = nI (L.getD i 0)) ∧ kFr (f + 1) (f + 7) h0 h')) := by
  intro d
  have hP8 := hw.1
  induction d with
  | zero => intro v rw h hd; omega
  | succ d ih =>
    intro v rw h hd hv68 H HT HF hF hb
    obtain ⟨kn, ct, si, cr, ⟨hN, hkn, hct, hsi, hcr⟩, hK, hC, hS, hR⟩ := id H
    obtain ⟨tk, tc, ⟨hT, htk, htc⟩, hTk, hTc⟩ := id HT
    obtain ⟨hf, hrw, hru⟩ := id HF
    refine go_iload 0 (nx := 42) dX0_bringsAbout_40 rfl rfl ?_
    refine go_bipush (v := nI 68) (nx := 44) dX0_bringsAbout_42 (by decide) rfl ?_
    refine go_icmp_ge 186 (nx := 47) dX0_bringsAbout_44 rfl rfl (fun c44 => ?_) (fun c44 => ?_)
    · skip
      refine go_iconst (v := nI 0) (nx := 187) dX0_bringsAbout_186 (by decide) rfl ?_
      refine go_reti dX0_bringsAbout_187 ⟨_, rfl, rfl⟩ ?_
      have e8 : v = 68 := by have := kle c44; omega
      subst e8
      have e : brg T ν.2.2.1 p wd (l + 1) fr ν.1 = none := hb
      exact ⟨by rw [e]; rfl, H, ⟨rw, HF, fun L hL => by rw [e] at hL; cases hL⟩, hF⟩
    · skip
      have h68 := knle c44
      refine go_iload 0 (nx := 49) dX0_bringsAbout_47 rfl rfl ?_
      refine go_bipush (v := nI 10) (nx := 51) dX0_bringsAbout_49 (by decide) rfl ?_
      refine go_idiv (nx := 52) dX0_bringsAbout_51 (by decide) rfl ?_
      rw [pk_div (by omega) (by decide) (by decide)]
      refine go_istore (lv' := [_, _, _, _, _, _, _, _, _]) (nx := 54) dX0_bringsAbout_52 (by decide) rfl rfl ?_
      refine go_iload 1 (nx := 56) dX0_bringsAbout_54 rfl rfl ?_
      refine go_bipush (v := nI 10) (nx := 58) dX0_bringsAbout_56 (by decide) rfl ?_
      refine go_irem (nx := 59) dX0_bringsAbout_58 (by decide) rfl ?_
      rw [pk_rem (by omega) (by decide) (by decide)]
      refine go_istore (lv' := [_, _, _, _, _, _, _, _, _, _]) (nx := 61) dX0_bringsAbout_59 (by decide) rfl rfl ?_
      refine go_iload 1 (nx := 63) dX0_bringsAbout_61 rfl rfl ?_
      refine go_iload 0 (nx := 65) dX0_bringsAbout_63 rfl rfl ?_
      refine go_icmp_ge 180 (nx := 68) dX0_bringsAbout_65 rfl rfl (fun c65 => ?_) (fun c65 => ?_)
      · skip
        refine go_iinc 2 (v := nI (v + 1)) (lv' := [_, _, _, _, _, _, _, _, _, _]) (nx := 183) dX0_bringsAbout_180 rfl (nI_inc v) (by decide) rfl rfl ?_
        refine go_goto 40 dX0_bringsAbout_183 rfl ?_
        refine Go.sub [0, 3, 4, 5, 6, 7, 8, 9] rfl ?_
        have z := kle c65 (by omega) (by omega)
        have hvp : vpB T.1 v = false := by simp [vpB]; omega
        refine ih (v + 1) _ _ (by omega) (by omega) H HT HF hF (hb.trans ?_)
        rw [show 68 - v = (68 - (v + 1)) + 1 by omega]
        exact ffo_none (by show (if _ then _ else _) = none; rw [hvp]; rfl)
      · skip
        refine go_iload 0 (nx := 70) dX0_bringsAbout_68 rfl rfl ?_
        refine go_aload_n 5 (nx := 71) dX0_bringsAbout_70 rfl rfl rfl ?_
        refine go_gf (nx := 74) fg_X0_55 dX0_bringsAbout_71 (by omega) hT rfl rfl ?_
        refine go_icmp_lt 80 (nx := 77) dX0_bringsAbout_74 rfl rfl (fun c74 => ?_) (fun c74 => ?_)
        · skip
          have hab1 := knle c65 (by omega) (by omega)
          have hbP := klt c74 (by omega) (by omega)
          have hvp : vpB T.1 v = true := by simp [vpB]; omega
          obtain ⟨a, ea⟩ : ∃ a, a = v / 10 := ⟨_, rfl⟩
          obtain ⟨b, eb⟩ : ∃ b, b = v % 10 := ⟨_, rfl⟩
          rw [← ea] at hab1 ⊢
          rw [← eb] at hab1 hbP ⊢
          have ha8 : a < 8 := by omega
          have hb8 : b < 8 := by omega
          have hab : a ≠ b := by omega
          refine go_aload 3 (nx := 82) dX0_bringsAbout_80 rfl rfl ?_
          refine go_gf (nx := 85) fg_X0_59 dX0_bringsAbout_82 (by omega) hN rfl rfl ?_
          refine go_iload 1 (nx := 87) dX0_bringsAbout_85 rfl rfl ?_
          refine go_SNi (nx := 90) [_, _] kc_X0_41 (s_at_in (by omega) hkn (by omega) rfl ha8) dX0_bringsAbout_87 rfl rfl (Nat.le_of_ble_eq_true rfl) (Nat.le_of_ble_eq_true rfl) ⟨Nat.le_refl _, Nat.le_refl _⟩ rfl (fun rh1 h1 hqh1 => ?_)
          obtain ⟨rfl, rfl⟩ := hqh1
          rw [hK a ha8]
          refine go_istore (lv' := [_, _, _, _, _, _, _, _, _, _, _]) (nx := 92) dX0_bringsAbout_90 (by decide) rfl rfl ?_
          refine go_aload 4 (nx := 94) dX0_bringsAbout_92 rfl rfl ?_
          refine go_gf (nx := 97) fg_X0_59 dX0_bringsAbout_94 (by omega) hN rfl rfl ?_
          refine go_iload 1 (nx := 99) dX0_bringsAbout_97 rfl rfl ?_
          refine go_SNi (nx := 102) [_, _] kc_X0_41 (s_at_in (by omega) hkn (by omega) rfl hb8) dX0_bringsAbout_99 rfl rfl (Nat.le_of_ble_eq_true rfl) (Nat.le_of_ble_eq_true rfl) ⟨Nat.le_refl _, Nat.le_refl _⟩ rfl (fun rh2 h2 hqh2 => ?_)
          obtain ⟨rfl, rfl⟩ := hqh2
          rw [hK b hb8]
          refine go_istore (lv' := [_, _, _, _, _, _, _, _, _, _, _, _]) (nx := 104) dX0_bringsAbout_102 (by decide) rfl rfl ?_
          refine go_aload 5 (nx := 106) dX0_bringsAbout_104 rfl rfl ?_
          refine go_iload 3 (nx := 108) dX0_bringsAbout_106 rfl rfl ?_
          refine go_iload 1 (nx := 110) dX0_bringsAbout_108 rfl rfl ?_
          refine go_iconst (v := nI 1) (nx := 111) dX0_bringsAbout_110 (by decide) rfl ?_
          refine go_iload 2 (nx := 113) dX0_bringsAbout_111 rfl rfl ?_
          refine go_ishl (nx := 114) dX0_bringsAbout_113 rfl ?_
          refine go_ior (nx := 115) dX0_bringsAbout_114 rfl ?_
          refine go_Vv (nx := 118) [_, _] kc_X0_62 ⟨_, _, rfl⟩ (by omega) hN (s_setKnowers (w := col ν.1 a ||| 2 ^ b) (by omega) ⟨hN, hkn, hct, hsi, hcr⟩ rfl ha8 (by rw [i_set _ (col_lt _ _) b hb8]) (by rw [col, bits_set _ hb8]; exact bits_lt _)) dX0_bringsAbout_115 rfl rfl (Nat.le_of_ble_eq_true rfl) (Nat.le_of_ble_eq_true rfl) ⟨Nat.le_refl _, Nat.le_refl _⟩ rfl (fun h3 hqh3 => ?_)
          obtain ⟨hR1, hFh3⟩ := hqh3
          have H := oNow_set (ν := ν) hb8 hR1 hK hC hS hR
          obtain ⟨kn, ct, si, cr, ⟨hN, hkn, hct, hsi, hcr⟩, hK, hC, hS, hR⟩ := id H
          have HT := HT.fr hFh3 (by omega)
          have HF := HF.fr hFh3 (by omega)
          obtain ⟨hf, hrw, hru⟩ := id HF
          obtain ⟨tk, tc, ⟨hT, htk, htc⟩, hTk, hTc⟩ := id HT
          have hF := hF.tr (hFh3.wide (by omega) (by omega))
          refine go_aload 5 (nx := 120) dX0_bringsAbout_118 rfl rfl ?_
          refine go_iload 2 (nx := 122) dX0_bringsAbout_120 rfl rfl ?_
          refine go_iload 0 (nx := 124) dX0_bringsAbout_122 rfl rfl ?_
          refine go_iconst (v := nI 1) (nx := 125) dX0_bringsAbout_124 (by decide) rfl ?_
          refine go_iload 3 (nx := 127) dX0_bringsAbout_125 rfl rfl ?_
          refine go_ishl (nx := 128) dX0_bringsAbout_127 rfl ?_
          refine go_ior (nx := 129) dX0_bringsAbout_128 rfl ?_
          refine go_Vv (nx := 132) [_, _] kc_X0_62 ⟨_, _, rfl⟩ (by omega) hN (s_setKnowers (w := col (kSet ν.1 b a) b ||| 2 ^ a) (by omega) ⟨hN, hkn, hct, hsi, hcr⟩ rfl hb8 (by rw [i_set _ (col_lt _ _) a ha8, col_ne (Ne.symm hab)]) (by rw [col, bits_set _ ha8]; exact bits_lt _)) dX0_bringsAbout_129 rfl rfl (Nat.le_of_ble_eq_true rfl) (Nat.le_of_ble_eq_true rfl) ⟨Nat.le_refl _, Nat.le_refl _⟩ rfl (fun h4 hqh4 => ?_)
          obtain ⟨hR1, hFh4⟩ := hqh4
          have H : oNow G (f + 2) (meetK ν.1 a b, ν.2) h4 := oNow_set (ν := (kSet ν.1 b a, ν.2)) ha8 hR1 hK hC hS hR
          obtain ⟨kn, ct, si, cr, ⟨hN, hkn, hct, hsi, hcr⟩, hK, hC, hS, hR⟩ := id H
          have HT := HT.fr hFh4 (by omega)
          have HF := HF.fr hFh4 (by omega)
          obtain ⟨hf, hrw, hru⟩ := id HF
          obtain ⟨tk, tc, ⟨hT, htk, htc⟩, hTk, hTc⟩ := id HT
          have hF := hF.tr (hFh4.wide (by omega) (by omega))
          refine go_aload_n 6 (nx := 133) dX0_bringsAbout_132 rfl rfl rfl ?_
          refine go_aload_n 7 (nx := 134) dX0_bringsAbout_133 rfl rfl rfl ?_
          refine go_iload_n 8 (nx := 135) dX0_bringsAbout_134 rfl rfl rfl ?_
          refine go_iload_n 9 (nx := 136) dX0_bringsAbout_135 rfl rfl rfl ?_
          refine go_iload 10 (nx := 138) dX0_bringsAbout_136 rfl rfl ?_
          refine go_iconst (v := nI 1) (nx := 139) dX0_bringsAbout_138 (by decide) rfl ?_
          refine go_isub (nx := 140) dX0_bringsAbout_139 rfl ?_
          rw [show nI (l + 1) - nI 1 = nI l from pk_sub (by omega)]
          refine go_iload 4 (nx := 142) dX0_bringsAbout_140 rfl rfl ?_
          refine go_iconst (v := nI 1) (nx := 143) dX0_bringsAbout_142 (by decide) rfl ?_
          refine go_iadd (nx := 144) dX0_bringsAbout_143 rfl ?_
          rw [nI_add]
          refine go_Si (nx := 147) [_, _, _, _, _, _] kc_X0_45 (ih0 (v + 1) (meetK ν.1 a b, ν.2) rw _ (by omega) (wK_meet hv (by omega) hbP hab) H HT HF) dX0_bringsAbout_144 rfl rfl (Nat.le_of_ble_eq_true rfl) (by show l + 3 + 1 ≤ l + 1 + 3; omega) ⟨Nat.le_refl _, Nat.le_refl _⟩ rfl (fun rh5 h5 hqh5 => ?_)
          obtain ⟨rfl, H, ⟨rw2, HF, hL2⟩, hFh5⟩ := hqh5
          obtain ⟨kn, ct, si, cr, ⟨hN, hkn, hct, hsi, hcr⟩, hK, hC, hS, hR⟩ := id H
          have HT := HT.fr hFh5 (by omega)
          obtain ⟨hf, hrw, hru⟩ := id HF
          obtain ⟨tk, tc, ⟨hT, htk, htc⟩, hTk, hTc⟩ := id HT
          have hF := hF.tr hFh5
          refine go_istore (lv' := [_, _, _, _, _, _, _, _, _, _, _, _, _]) (nx := 149) dX0_bringsAbout_147 (by decide) rfl rfl ?_
          refine go_aload 6 (nx := 151) dX0_bringsAbout_149 rfl rfl ?_
          refine go_iload 4 (nx := 153) dX0_bringsAbout_151 rfl rfl ?_
          refine go_iload 2 (nx := 155) dX0_bringsAbout_153 rfl rfl ?_
          refine go_Vv (nx := 158) [_, _] kc_X0_62 ⟨_, _, rfl⟩ (by omega) hN (s_setKnowers (w := col ν.1 a) (by omega) ⟨hN, hkn, hct, hsi, hcr⟩ rfl ha8 rfl (col_lt _ _)) dX0_bringsAbout_155 rfl rfl (Nat.le_of_ble_eq_true rfl) (Nat.le_of_ble_eq_true rfl) ⟨Nat.le_refl _, Nat.le_refl _⟩ rfl (fun h6 hqh6 => ?_)
          obtain ⟨hR1, hFh6⟩ := hqh6
          obtain ⟨hN, hkn, hct, hsi, hcr⟩ := id hR1
          have HT := HT.fr hFh6 (by omega)
          have HF := HF.fr hFh6 (by omega)
          obtain ⟨hf, hrw, hru⟩ := id HF
          obtain ⟨tk, tc, ⟨hT, htk, htc⟩, hTk, hTc⟩ := id HT
          have hF := hF.tr (hFh6.wide (by omega) (by omega))
          refine go_aload 6 (nx := 160) dX0_bringsAbout_158 rfl rfl ?_
          refine go_iload 3 (nx := 162) dX0_bringsAbout_160 rfl rfl ?_
          refine go_iload 1 (nx := 164) dX0_bringsAbout_162 rfl rfl ?_
          refine go_Vv (nx := 167) [_, _] kc_X0_62 ⟨_, _, rfl⟩ (by omega) hN (s_setKnowers (w := col ν.1 b) (by omega) ⟨hN, hkn, hct, hsi, hcr⟩ rfl hb8 rfl (col_lt _ _)) dX0_bringsAbout_164 rfl rfl (Nat.le_of_ble_eq_true rfl) (Nat.le_of_ble_eq_true rfl) ⟨Nat.le_refl _, Nat.le_refl _⟩ rfl (fun h7 hqh7 => ?_)
          obtain ⟨hR2, hFh7⟩ := hqh7
          have H : oNow G (f + 2) ν h7 := oNow_undo hR2 hK hC hS hR
          obtain ⟨kn, ct, si, cr, ⟨hN, hkn, hct, hsi, hcr⟩, hK, hC, hS, hR⟩ := id H
          have HT := HT.fr hFh7 (by omega)
          have HF := HF.fr hFh7 (by omega)
          obtain ⟨hf, hrw, hru⟩ := id HF
          obtain ⟨tk, tc, ⟨hT, htk, htc⟩, hTk, hTc⟩ := id HT
          have hF := hF.tr (hFh7.wide (by omega) (by omega))
          refine go_iload 0 (nx := 169) dX0_bringsAbout_167 rfl rfl ?_
          skip
          refine go_if_eq 180 (nx := 172) dX0_bringsAbout_169 rfl rfl (fun c169 => ?_) (fun c169 => ?_)
          · skip
            refine go_iinc 5 (v := nI (v + 1)) (lv' := [_, _, _, _, _, _, _, _, _, _, _, _, _]) (nx := 183) dX0_bringsAbout_180 rfl (nI_inc v) (by decide) rfl rfl ?_
            refine go_goto 40 dX0_bringsAbout_183 rfl ?_
            refine Go.sub [0, 6, 7, 8, 9, 10, 11, 12] rfl ?_
            have e0 : brg T ν.2.2.1 p wd l (v + 1) (meetK ν.1 a b) = none := Option.isNone_iff_eq_none.mp (by simpa using tb0 c169)
            refine ih (v + 1) _ _ (by omega) (by omega) H HT HF hF (hb.trans ?_)
            rw [show 68 - v = (68 - (v + 1)) + 1 by omega]
            exact ffo_none (by show (if _ then _ else _) = none; rw [if_pos hvp, ← ea, ← eb, e0]; rfl)
          · skip
            refine go_aload_n 7 (nx := 173) dX0_bringsAbout_172 rfl rfl rfl ?_
            refine go_iload 5 (nx := 175) dX0_bringsAbout_173 rfl rfl ?_
            refine go_Vv (nx := 178) [_] kc_X0_66 ⟨_, _, rfl⟩ (by omega) hf (s_note hf8 HF) dX0_bringsAbout_175 rfl rfl (Nat.le_of_ble_eq_true rfl) (Nat.le_of_ble_eq_true rfl) ⟨Nat.le_refl _, Nat.le_refl _⟩ rfl (fun h8 hqh8 => ?_)
            obtain ⟨⟨rw3, HF3, e0, e1, e2⟩, hFh8⟩ := hqh8
            have H := H.fr hFh8 (by omega)
            have hF := hF.tr (hFh8.wide (by omega) (by omega))
            refine go_iconst (v := nI 1) (nx := 179) dX0_bringsAbout_178 (by decide) rfl ?_
            refine go_reti dX0_bringsAbout_179 ⟨_, rfl, rfl⟩ ?_
            obtain ⟨L2, eL⟩ := Option.isSome_iff_exists.mp (tbn0 c169)
            have e : brg T ν.2.2.1 p wd (l + 1) fr ν.1 = some (v :: L2) := by
              rw [hb, show 68 - v = (68 - (v + 1)) + 1 by omega]
              refine ffo_some ?_
              show (if _ then _ else _) = _
              rw [if_pos hvp, ← ea, ← eb, eL]; rfl
            refine ⟨by rw [e]; rfl, H, ⟨rw3, HF3, fun L hL i hi => ?_⟩, hF⟩
            rw [e] at hL
            cases hL
            have k2 := hL2 L2 eL
            rcases (show i = 0 ∨ i = 1 ∨ i = 2 by omega) with rfl | rfl | rfl
            · exact e0
            · exact e1.trans (k2 0 (by omega))
            · exact e2.trans (k2 1 (by omega))
        · skip
          refine go_goto 180 dX0_bringsAbout_77 rfl ?_
          refine go_iinc 2 (v := nI (v + 1)) (lv' := [_, _, _, _, _, _, _, _, _, _]) (nx := 183) dX0_bringsAbout_180 rfl (nI_inc v) (by decide) rfl rfl ?_
          refine go_goto 40 dX0_bringsAbout_183 rfl ?_
          refine Go.sub [0, 3, 4, 5, 6, 7, 8, 9] rfl ?_
          have z := knlt c74 (by omega) (by omega)
          have hvp : vpB T.1 v = false := by simp [vpB]; omega
          refine ih (v + 1) _ _ (by omega) (by omega) H HT HF hF (hb.trans ?_)
          rw [show 68 - v = (68 - (v + 1)) + 1 by omega]
          exact ffo_none (by show (if _ then _ else _) = none; rw [hvp]; rfl)
theorem s_brings {G : kG} {n f t p : Nat} {T : mT} {ru : Nat → Int32} {fa : Int32} {wd : Bool} (hf8 : f + 8 ≤ n) (ht : t + 3 ≤ n) (hd0 : t + 3 ≤ f ∨ f + 8 ≤ t) (hw : wT T) (hp : p < T.1) : ∀ (l : Nat), l ≤ 3 → ∀ (fr : Nat) (ν : mN) (rw : Nat → Int32) (h : kH), fr ≤ 68 → wK T.1 ν.1 → oNow G (f + 2) ν h → oTown G t T h → rFore G f rw fa ru h → Spi G mX0_bringsAbout (l + 3) [.ref (kb G + f), .ref (kb G + t), .int (nI p), .int (bI wd), .int (nI l), .int (nI fr)] n h (fun v h' => v = bI (brg T ν.2.2.1 p wd (l) fr ν.1).isSome ∧ oNow G (f + 2) ν h' ∧ (∃ rw' : Nat → Int32, rFore G f rw' fa ru h' ∧ ∀ L, brg T ν.2.2.1 p wd (l) fr ν.1 = some L → ∀ i, i < (l) → rw' i = nI (L.getD i 0)) ∧ kFr (f + 1) (f + 7) h h') := by
  intro l
  have hP8 := hw.1
  induction l with
  | zero =>
    intro hl fr ν rw h hfr hv H HT HF
    obtain ⟨kn, ct, si, cr, ⟨hN, hkn, hct, hsi, hcr⟩, hK, hC, hS, hR⟩ := id H
    obtain ⟨tk, tc, ⟨hT, htk, htc⟩, hTk, hTc⟩ := id HT
    obtain ⟨hf, hrw, hru⟩ := id HF
    have hch := mChoose_lt (K := ν.1) (C := ν.2.2.1) (show 0 < T.1 by omega)
    refine Spi.of (by decide) (Nat.le_of_ble_eq_true rfl) ?_
    refine go_aload_n 0 (nx := 1) dX0_bringsAbout_0 rfl rfl rfl ?_
    refine go_gf (nx := 4) fg_X0_18 dX0_bringsAbout_1 (by omega) hf rfl rfl ?_
    refine go_astore (lv' := [_, _, _, _, _, _, _]) (nx := 6) dX0_bringsAbout_4 (by decide) rfl rfl ?_
    refine go_iload 5 (nx := 8) dX0_bringsAbout_6 rfl rfl ?_
    refine go_if_gt 36 (nx := 11) dX0_bringsAbout_8 rfl rfl (fun c8 => False.elim (absurd c8 (by decide))) (fun c8 => ?_)
    refine go_aload_n 2 (nx := 12) dX0_bringsAbout_11 rfl rfl rfl ?_
    refine go_aload 0 (nx := 14) dX0_bringsAbout_12 rfl rfl ?_
    refine go_Vi (nx := 17) [_] kc_X0_49 ⟨_, _, rfl⟩ (by omega) hT (s_choose (by omega) ht H HT hw hv (by omega)) dX0_bringsAbout_14 rfl rfl (Nat.le_of_ble_eq_true rfl) (Nat.le_of_ble_eq_true rfl) ⟨Nat.le_refl _, Nat.le_refl _⟩ rfl (fun rh1 h1 hqh1 => ?_)
    obtain ⟨rfl, rfl⟩ := hqh1
    refine go_iload_n 3 (nx := 18) dX0_bringsAbout_17 rfl rfl rfl ?_
    refine go_icmp_ne 25 (nx := 21) dX0_bringsAbout_18 rfl rfl (fun c18 => ?_) (fun c18 => ?_)
    · skip
      refine go_iconst (v := nI 0) (nx := 26) dX0_bringsAbout_25 (by decide) rfl ?_
      refine go_iload_n 4 (nx := 27) dX0_bringsAbout_26 rfl rfl rfl ?_
      refine go_icmp_ne 34 (nx := 30) dX0_bringsAbout_27 rfl rfl (fun c27 => ?_) (fun c27 => ?_)
      · skip
        refine go_iconst (v := nI 0) (nx := 35) dX0_bringsAbout_34 (by decide) rfl ?_
        refine go_reti dX0_bringsAbout_35 ⟨_, rfl, rfl⟩ ?_
        have e : (mChoose T ν.1 ν.2.2.1 == p) = false := by simp; intro e; exact c18 (by rw [e])
        have e2 : wd = true := by cases wd <;> first | rfl | (exact absurd rfl c27) | (exact absurd c27 (by decide))
        subst e2
        have e3 : brg T ν.2.2.1 p true 0 fr ν.1 = none := by simp only [brg]; rw [e]; rfl
        exact ⟨by rw [e3]; rfl, H, ⟨rw, HF, fun L _ i hi => absurd hi (Nat.not_lt_zero i)⟩, kFr.rf⟩
      · skip
        refine go_iconst (v := nI 1) (nx := 31) dX0_bringsAbout_30 (by decide) rfl ?_
        refine go_goto 35 dX0_bringsAbout_31 rfl ?_
        refine go_reti dX0_bringsAbout_35 ⟨_, rfl, rfl⟩ ?_
        have e : (mChoose T ν.1 ν.2.2.1 == p) = false := by simp; intro e; exact c18 (by rw [e])
        have e2 : wd = false := by cases wd <;> first | rfl | (exact absurd rfl c27) | (exact absurd c27 (by decide))
        subst e2
        have e3 : brg T ν.2.2.1 p false 0 fr ν.1 = some [] := by simp only [brg]; rw [e]; rfl
        exact ⟨by rw [e3]; rfl, H, ⟨rw, HF, fun L _ i hi => absurd hi (Nat.not_lt_zero i)⟩, kFr.rf⟩
    · skip
      refine go_iconst (v := nI 1) (nx := 22) dX0_bringsAbout_21 (by decide) rfl ?_
      refine go_goto 26 dX0_bringsAbout_22 rfl ?_
      refine go_iload_n 4 (nx := 27) dX0_bringsAbout_26 rfl rfl rfl ?_
      refine go_icmp_ne 34 (nx := 30) dX0_bringsAbout_27 rfl rfl (fun c27 => ?_) (fun c27 => ?_)
      · skip
        refine go_iconst (v := nI 0) (nx := 35) dX0_bringsAbout_34 (by decide) rfl ?_
        refine go_reti dX0_bringsAbout_35 ⟨_, rfl, rfl⟩ ?_
        have e : (mChoose T ν.1 ν.2.2.1 == p) = true := by simp; exact keq c18
        have e2 : wd = false := by cases wd <;> first | rfl | (exact absurd rfl c27) | (exact absurd c27 (by decide))
        subst e2
        have e3 : brg T ν.2.2.1 p false 0 fr ν.1 = none := by simp only [brg]; rw [e]; rfl
        exact ⟨by rw [e3]; rfl, H, ⟨rw, HF, fun L _ i hi => absurd hi (Nat.not_lt_zero i)⟩, kFr.rf⟩
      · skip
        refine go_iconst (v := nI 1) (nx := 31) dX0_bringsAbout_30 (by decide) rfl ?_
        refine go_goto 35 dX0_bringsAbout_31 rfl ?_
        refine go_reti dX0_bringsAbout_35 ⟨_, rfl, rfl⟩ ?_
        have e : (mChoose T ν.1 ν.2.2.1 == p) = true := by simp; exact keq c18
        have e2 : wd = true := by cases wd <;> first | rfl | (exact absurd rfl c27) | (exact absurd c27 (by decide))
        subst e2
        have e3 : brg T ν.2.2.1 p true 0 fr ν.1 = some [] := by simp only [brg]; rw [e]; rfl
        exact ⟨by rw [e3]; rfl, H, ⟨rw, HF, fun L _ i hi => absurd hi (Nat.not_lt_zero i)⟩, kFr.rf⟩
  | succ l ih =>
    intro hl fr ν rw h hfr hv H HT HF
    have H' := H
    obtain ⟨kn, ct, si, cr, ⟨hN, hkn, hct, hsi, hcr⟩, hK, hC, hS, hR⟩ := id H
    obtain ⟨hf, hrw, hru⟩ := id HF
    refine Spi.of (by decide) (Nat.le_of_ble_eq_true rfl) ?_
    refine go_aload_n 0 (nx := 1) dX0_bringsAbout_0 rfl rfl rfl ?_
    refine go_gf (nx := 4) fg_X0_18 dX0_bringsAbout_1 (by omega) hf rfl rfl ?_
    refine go_astore (lv' := [_, _, _, _, _, _, _]) (nx := 6) dX0_bringsAbout_4 (by decide) rfl rfl ?_
    refine go_iload 5 (nx := 8) dX0_bringsAbout_6 rfl rfl ?_
    refine go_if_gt 36 (nx := 11) dX0_bringsAbout_8 rfl rfl (fun c8 => ?_) (fun c8 => False.elim (c8 (nI_lt (Nat.succ_pos _) (by omega))))
    refine go_iload 6 (nx := 38) dX0_bringsAbout_36 rfl rfl ?_
    refine go_istore (lv' := [_, _, _, _, _, _, _, _]) (nx := 40) dX0_bringsAbout_38 (by decide) rfl rfl ?_
    refine Go.sub [0, 1, 2, 3, 4, 5, 6, 7] rfl ?_
    exact l_brings hf8 ht hd0 hw hp (by omega) hv (fun fr ν rw h q1 q2 q3 q4 q5 => ih (by omega) fr ν rw h q1 q2 q3 q4 q5) (69 - fr) fr rw h (by omega) hfr H HT HF kFr.rf rfl
/-- BRINGS: the first row of the fewest pairs -/
def mBr (T : mT) (C : Nat → Nat) (p : Nat) (wd : Bool) (K : mK) : Option (List Nat) := ffo (fun m => brg T C p wd m 1 K) 4 0
def lenI : Option (List Nat) → Int32
  | none => -9
  | some L => nI L.length
theorem l_few {G : kG} {n f t q p : Nat} {h0 : kH} {ν : mN} {T : mT} {ru : Nat → Int32} {fa : Int32} {wd : Bool} (hf8 : f + 8 ≤ n) (ht : t + 3 ≤ n) (hd0 : t + 3 ≤ f ∨ f + 8 ≤ t) (hw : wT T) (hp : p < T.1) (hv : wK T.1 ν.1) : ∀ (d m : Nat) (rw : Nat → Int32) (h : kH), 4 - m < d → m ≤ 4 → oNow G (f + 2) ν h → oTown G t T h → rFore G f rw fa ru h → kFr (f + 1) (f + 7) h0 h → mBr T ν.2.2.1 p wd ν.1 = ffo (fun m => brg T ν.2.2.1 p wd m 1 ν.1) (4 - m) m → Go G mX0_fewestPairs (7, 0, 0) 11 [(5, .int (nI m)), (0, .ref (kb G + f)), (1, .ref (kb G + t)), (2, .ref (kb G + q)), (3, .int (nI p)), (4, .int (bI wd))] [] (n, 0, 0) h (kQi mX0_fewestPairs n (fun v h' => v = lenI (mBr T ν.2.2.1 p wd ν.1) ∧ aNow G (f + 2) h' ∧ (∃ rw' : Nat → Int32, rFore G f rw' fa ru h' ∧ ∀ L, mBr T ν.2.2.1 p wd ν.1 = some L → L.length ≤ 3 ∧ ∀ i, i < L.length → rw' i = nI (L.getD i 0)) ∧ kFr (f + 1) (f + 7) h0 h')) := by
  intro d
  induction d with
  | zero => intro m rw h hd; omega
  | succ d ih =>
    intro m rw h hd hm H HT HF hF hb
    obtain ⟨hf, hrw, hru⟩ := id HF
    refine go_iload 0 (nx := 13) dX0_fewestPairs_11 rfl rfl ?_
    refine go_iconst (v := nI 3) (nx := 14) dX0_fewestPairs_13 (by decide) rfl ?_
    refine go_icmp_gt 40 (nx := 17) dX0_fewestPairs_14 rfl rfl (fun c14 => ?_) (fun c14 => ?_)
    · skip
      refine go_bipush (v := (-9)) (nx := 42) dX0_fewestPairs_40 (by decide) rfl ?_
      refine go_reti dX0_fewestPairs_42 ⟨_, rfl, rfl⟩ ?_
      have e8 : m = 4 := by have := klt c14; omega
      subst e8
      have e : mBr T ν.2.2.1 p wd ν.1 = none := hb
      exact ⟨by rw [e]; rfl, aNow.of H, ⟨rw, HF, fun L hL => by rw [e] at hL; cases hL⟩, hF⟩
    · skip
      have h4 := knlt c14
      refine go_aload_n 1 (nx := 18) dX0_fewestPairs_17 rfl rfl rfl ?_
      refine go_aload_n 2 (nx := 19) dX0_fewestPairs_18 rfl rfl rfl ?_
      refine go_iload_n 4 (nx := 20) dX0_fewestPairs_19 rfl rfl rfl ?_
      refine go_iload 5 (nx := 22) dX0_fewestPairs_20 rfl rfl ?_
      refine go_iload 0 (nx := 24) dX0_fewestPairs_22 rfl rfl ?_
      refine go_iconst (v := nI 1) (nx := 25) dX0_fewestPairs_24 (by decide) rfl ?_
      refine go_Si (nx := 28) [_, _, _, _, _, _] kc_X0_45 (s_brings hf8 ht hd0 hw hp m (by omega) 1 ν rw _ (by omega) hv H HT HF) dX0_fewestPairs_25 rfl rfl (Nat.le_of_ble_eq_true rfl) (by show m + 3 + 1 ≤ 7; omega) ⟨Nat.le_refl _, Nat.le_refl _⟩ rfl (fun rh1 h1 hqh1 => ?_)
      obtain ⟨rfl, H, ⟨rw2, HF, hL2⟩, hFh1⟩ := hqh1
      have HT := HT.fr hFh1 (by omega)
      obtain ⟨hf, hrw, hru⟩ := id HF
      have hF := hF.tr hFh1
      refine go_if_eq 34 (nx := 31) dX0_fewestPairs_28 rfl rfl (fun c28 => ?_) (fun c28 => ?_)
      · skip
        refine go_iinc 0 (v := nI (m + 1)) (lv' := [_, _, _, _, _, _]) (nx := 37) dX0_fewestPairs_34 rfl (nI_inc m) (by decide) rfl rfl ?_
        refine go_goto 11 dX0_fewestPairs_37 rfl ?_
        refine Go.sub [0, 1, 2, 3, 4, 5] rfl ?_
        refine ih (m + 1) _ _ (by omega) (by omega) H HT HF hF (hb.trans ?_)
        rw [show 4 - m = (4 - (m + 1)) + 1 by omega]
        exact ffo_none (Option.isNone_iff_eq_none.mp (by simpa using tb0 c28))
      · skip
        refine go_iload 0 (nx := 33) dX0_fewestPairs_31 rfl rfl ?_
        refine go_reti dX0_fewestPairs_33 ⟨_, rfl, rfl⟩ ?_
        obtain ⟨L2, eL⟩ := Option.isSome_iff_exists.mp (tbn0 c28)
        have e : mBr T ν.2.2.1 p wd ν.1 = some L2 := by
          rw [hb, show 4 - m = (4 - (m + 1)) + 1 by omega]
          exact ffo_some eL
        have el := brg_len eL
        refine ⟨by rw [e]; exact congrArg nI el.symm, aNow.of H, ⟨rw2, HF, fun L hL => ?_⟩, hF⟩
        rw [e] at hL
        cases hL
        exact ⟨by omega, fun i hi => hL2 L2 eL i (by omega)⟩
theorem s_few {G : kG} {n f t q p : Nat} {h : kH} {ν : mN} {T : mT} {rw ru : Nat → Int32} {fa x y : Int32} {wd : Bool} (hf8 : f + 8 ≤ n) (ht : t + 3 ≤ n) (hd0 : t + 3 ≤ f ∨ f + 8 ≤ t) (hw : wT T) (hp : p < T.1) (hv : wK T.1 ν.1) (hq2 : q + 5 ≤ n) (hdq : q + 5 ≤ f ∨ f + 8 ≤ q) (HF : rFore G f rw fa ru h) (HA : aNow G (f + 2) h) (Hq : oNow G q ν h) (HT : oTown G t T h) (hx : x = nI p) (hy : y = bI wd) : Spi G mX0_fewestPairs 7 [.ref (kb G + f), .ref (kb G + t), .ref (kb G + q), .int x, .int y] n h (fun v h' => v = lenI (mBr T ν.2.2.1 p wd ν.1) ∧ aNow G (f + 2) h' ∧ (∃ rw' : Nat → Int32, rFore G f rw' fa ru h' ∧ ∀ L, mBr T ν.2.2.1 p wd ν.1 = some L → L.length ≤ 3 ∧ ∀ i, i < L.length → rw' i = nI (L.getD i 0)) ∧ kFr (f + 1) (f + 7) h h') := by
  subst hx hy
  have HT' := HT
  obtain ⟨kn, ct, si, cr, rg, yr, la, HA⟩ := HA
  obtain ⟨hN, hkn, hct, hsi, hcr⟩ := id HA
  obtain ⟨hf, hrw, hru⟩ := id HF
  have hF : kFr (f + 2) (f + 7) h h := kFr.rf
  refine Spi.of (by decide) (Nat.le_of_ble_eq_true rfl) ?_
  refine go_aload_n 0 (nx := 1) dX0_fewestPairs_0 rfl rfl rfl ?_
  refine go_gf (nx := 4) fg_X0_18 dX0_fewestPairs_1 (by omega) hf rfl rfl ?_
  refine go_aload_n 2 (nx := 5) dX0_fewestPairs_4 rfl rfl rfl ?_
  refine go_Vv (nx := 8) [_] kc_X0_25 ⟨_, _, rfl⟩ (by omega) hN (s_copyFrom (by omega) hq2 (by omega) HA Hq) dX0_fewestPairs_5 rfl rfl (Nat.le_of_ble_eq_true rfl) (Nat.le_of_ble_eq_true rfl) ⟨Nat.le_refl _, Nat.le_refl _⟩ rfl (fun h1 hqh1 => ?_)
  obtain ⟨H, hFh1⟩ := hqh1
  have H' := H
  obtain ⟨kn, ct, si, cr, ⟨hN, hkn, hct, hsi, hcr⟩, hK, hC, hS, hR⟩ := H'
  have HT' := HT'.fr hFh1 (by omega)
  have HF := HF.fr hFh1 (by omega)
  obtain ⟨hf, hrw, hru⟩ := id HF
  have hF := hF.tr hFh1
  refine go_iconst (v := nI 0) (nx := 9) dX0_fewestPairs_8 (by decide) rfl ?_
  refine go_istore (lv' := [_, _, _, _, _, _]) (nx := 11) dX0_fewestPairs_9 (by decide) rfl rfl ?_
  refine Go.sub [0, 1, 2, 3, 4, 5] rfl ?_
  exact l_few hf8 ht hd0 hw hp hv 5 0 _ _ (by omega) (by omega) H HT' HF (hF.wide (by omega) (Nat.le_refl _)) rfl
