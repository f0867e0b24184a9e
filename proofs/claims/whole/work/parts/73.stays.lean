/-! what a state promises stays promised -/
theorem wN_anew {T : mT} (hw : wT T) : wN T.1 (nAnew T) := ⟨fun a b e => hw.2.1 a b e, fun _ _ => rfl, fun _ => Nat.le_refl _, fun _ => Or.inl rfl, Or.inl rfl⟩
theorem wS_0 : wS S0 := ⟨wT_0, wN_anew wT_0, Nat.zero_le _, fun μ e => (nomatch e), fun μ e => (nomatch e), Nat.zero_le _, fun _ => (by decide : 0 < 256)⟩
theorem wS_now {s : mS} (W : wS s) {ν : mN} (h : wN s.2.2.2.2.2.1.1 ν) (hy : ν.2.2.2.1 ≤ 99) : wS (s.1, s.2.1, ν, s.2.2.2) := ⟨W.1, h, hy, W.2.2.2⟩
section WS
variable {tx : Nat → Nat} {sz : Nat} {ν : mN} {i0 i1 : Option mN} {T : mT} {tr : Int64}
theorem ws_meet (W : wS (tx, sz, ν, i0, i1, T, tr)) (x y : Int32) : wS (tx, sz, nMeet T ν x y, i0, i1, T, tr) := by
  have hw : wT T := W.1
  have hv : wN T.1 ν := W.2.1
  have hY : ν.2.2.2.1 ≤ 99 := W.2.2.1
  unfold nMeet
  split
  · rename_i e
    obtain ⟨a, b, ha, hb, hab, rfl, rfl⟩ := pair_of hw.1 e
    have h8 := hw.1
    rw [cl_nI (by omega), cl_nI (by omega)]
    exact wS_now W (wN_learn (wN_learn hv ha hb hab) hb ha (Ne.symm hab)) hY
  · exact W
theorem ws_intro (W : wS (tx, sz, ν, i0, i1, T, tr)) (x y z : Int32) : wS (tx, sz, nIntro T ν x y z, i0, i1, T, tr) := by
  have hw : wT T := W.1
  have hv : wN T.1 ν := W.2.1
  have hY : ν.2.2.2.1 ≤ 99 := W.2.2.1
  unfold nIntro
  split
  · rename_i e
    simp only [triB, Bool.and_eq_true] at e
    obtain ⟨a, b, ha, hb, hab, rfl, rfl⟩ := pair_of hw.1 e.1.2
    have h8 := hw.1
    rw [cl_nI (by omega), cl_nI (by omega)]
    exact wS_now W (wN_learn hv ha hb hab) hY
  · exact W
theorem ws_moves (W : wS (tx, sz, ν, i0, i1, T, tr)) (x : Int32) : wS (tx, sz, nMoves T ν x, i0, i1, T, tr) := by
  have hv : wN T.1 ν := W.2.1
  have hY : ν.2.2.2.1 ≤ 99 := W.2.2.1
  unfold nMoves
  split
  · exact wS_now W ⟨wK_and hv.1 (fun _ y => !(y == cl x)), hv.2⟩ hY
  · exact W
theorem ws_anew (W : wS (tx, sz, ν, i0, i1, T, tr)) : wS (tx, sz, nAnew T, i0, i1, T, tr) := wS_now W (wN_anew W.1) (Nat.zero_le _)
theorem ws_rules (W : wS (tx, sz, ν, i0, i1, T, tr)) (x y : Int32) : wS (tx, sz, ν, i0, i1, tRules T x y, tr) := by
  unfold tRules
  split
  · rename_i e
    simp only [rulB, Bool.and_eq_true, decide_eq_true_eq] at e
    obtain ⟨⟨h1, h2⟩, h3, h4⟩ := e
    obtain ⟨m, hm, rfl⟩ := nI_of (x := x) (Int32.not_lt.mpr h1)
    obtain ⟨k, hk, rfl⟩ := nI_of (x := y) (Int32.not_lt.mpr h3)
    have hm3 := kle h2
    obtain ⟨w1, w2, w3, w4, w5, w6⟩ := W.1
    refine ⟨⟨w1, w2, w3, w4, ?_, ?_⟩, W.2⟩
    · show cl (nI m) ≤ 3
      rw [cl_nI hm]
      exact hm3
    · show (if nI m = nI 2 then cl (nI k) else T.2.2.2.2.2) ≤ 7
      split
      · rename_i e2
        rw [if_pos e2] at h4
        rw [cl_nI hk]
        exact kle h4
      · exact w6
  · exact W
theorem tyL_lt {v : Int64} : ∀ {r : Nat} {tx : Nat → Nat} {sz : Nat}, (∀ j, tx j < 256) → ∀ j, tyL v r tx sz j < 256
  | 0, tx, sz, h, j => h j
  | r + 1, tx, sz, h, j => tyL_lt (r := r) (tx := pushT tx sz (b8 v r)) (sz := sz + 1) (fun i => by
    unfold pushT
    split
    · exact b8_lt v r
    · exact h i) j
theorem ws_type (W : wS (tx, sz, ν, i0, i1, T, tr)) (v : Int64) (x : Int32) : wS (sType (tx, sz, ν, i0, i1, T, tr) v x) := by
  unfold sType
  split
  · rename_i e
    simp only [Bool.and_eq_true, decide_eq_true_eq] at e
    exact ⟨W.1, W.2.1, W.2.2.1, W.2.2.2.1, W.2.2.2.2.1, e.2, tyL_lt W.2.2.2.2.2.2⟩
  · exact W
theorem ws_clear (W : wS (tx, sz, ν, i0, i1, T, tr)) : wS (tx, 0, ν, i0, i1, T, tr) := ⟨W.1, W.2.1, W.2.2.1, W.2.2.2.1, W.2.2.2.2.1, Nat.zero_le _, W.2.2.2.2.2.2⟩
theorem ws_go (W : wS (tx, sz, ν, i0, i1, T, tr)) (x : Int32) : wS (tx, sz, nGo T ν x, i0, i1, T, tr) := by
  have hw : wT T := W.1
  have hv : wN T.1 ν := W.2.1
  have hY : ν.2.2.2.1 ≤ 99 := W.2.2.1
  unfold nGo
  split
  · split
    · exact W
    · rename_i e
      refine wS_now W (wN_sp hw hv (by omega) _) ?_
      rw [mSp_y]
      omega
  · exact W
theorem ws_back (W : wS (tx, sz, ν, i0, i1, T, tr)) (x : Int32) : wS (tx, sz, nBack ν i0 i1 x, i0, i1, T, tr) := by
  unfold nBack
  split
  · unfold iOf
    split
    · exact W
    · rename_i μ e
      split at e
      · exact wS_now W (W.2.2.2.1 μ e).1 (W.2.2.2.1 μ e).2
      · exact wS_now W (W.2.2.2.2.1 μ e).1 (W.2.2.2.2.1 μ e).2
  · exact W
theorem ws_keep (W : wS (tx, sz, ν, i0, i1, T, tr)) (x : Int32) : wS (sKeep (tx, sz, ν, i0, i1, T, tr) x) := by
  unfold sKeep
  split
  · exact ⟨W.1, W.2.1, W.2.2.1, fun μ e => by cases e; exact ⟨W.2.1, W.2.2.1⟩, W.2.2.2.2⟩
  · split
    · exact ⟨W.1, W.2.1, W.2.2.1, W.2.2.2.1, fun μ e => by cases e; exact ⟨W.2.1, W.2.2.1⟩, W.2.2.2.2.2⟩
    · exact W
theorem ws_town (W : wS (tx, sz, ν, i0, i1, T, tr)) : wS (sTown (tx, sz, ν, i0, i1, T, tr)) := by
  unfold sTown
  split
  · exact W
  · rename_i k T2 e
    have h := rdTown_w e
    exact ⟨h.1, wN_anew h.1, Nat.zero_le _, fun μ e => (nomatch e), fun μ e => (nomatch e), Nat.zero_le _, W.2.2.2.2.2.2⟩
end WS
