/-! what the tokens tell: items, faults, the new town. A reading stands at: cursor, town, was FORGETS told, was LAW told -/
abbrev RD := Nat × mT × Bool × Bool
def T0 : mT := (0, fun _ _ => false, fun _ => none, 0, 0, 2)
def rMay (σ : RD) (w : Nat) : Bool := if w = 0 then decide (σ.2.1.1 < 8) else if w = 1 ∨ w = 2 ∨ w = 3 then true else if w = 4 then !σ.2.2.1 else if w = 5 then !σ.2.2.2 else false
def rTell (w a b : Nat) (T : mT) : mT := (T.1, if w = 3 then T.2.1 else if w = 2 then kSet (kSet T.2.1 a b) b a else kSet T.2.1 a b, if w = 3 then (fun p => if p = a then some b else T.2.2.1 p) else T.2.2.1, T.2.2.2)
def rA (T : mT) (w a : Nat) : Bool := decide (100 ≤ a) && decide (a < 100 + T.1) && (!(w == 3) || (T.2.2.1 (a - 100)).isNone)
def rB (T : mT) (a b : Nat) : Bool := decide (100 ≤ b) && decide (b < 100 + T.1) && !(b == a)
def rN (n m : Nat) : Bool := decide (100 ≤ n) && decide (n ≤ 100 + m)
def rBody (s : Nat → Nat) (σ : RD) : Nat ⊕ RD :=
  if s σ.1 = 0 then .inr (σ.1 + 1, (σ.2.1.1 + 1, σ.2.1.2), σ.2.2)
  else if s σ.1 = 4 then (if rN (s (σ.1 + 1)) 9 = true then .inr (σ.1 + 2, (σ.2.1.1, σ.2.1.2.1, σ.2.1.2.2.1, s (σ.1 + 1) - 100, σ.2.1.2.2.2.2), true, σ.2.2.2) else .inl (σ.1 + 1))
  else if s σ.1 = 5 then (if 6 ≤ s (σ.1 + 1) ∧ s (σ.1 + 1) ≤ 9 then
      (if s (σ.1 + 1) = 8 then (if rN (s (σ.1 + 2)) 7 = true then .inr (σ.1 + 3, (σ.2.1.1, σ.2.1.2.1, σ.2.1.2.2.1, σ.2.1.2.2.2.1, 2, s (σ.1 + 2) - 100), σ.2.2.1, true) else .inl (σ.1 + 2))
      else .inr (σ.1 + 2, (σ.2.1.1, σ.2.1.2.1, σ.2.1.2.2.1, σ.2.1.2.2.2.1, s (σ.1 + 1) - 6, σ.2.1.2.2.2.2.2), σ.2.2.1, true)) else .inl (σ.1 + 1))
  else if rA σ.2.1 (s σ.1) (s (σ.1 + 1)) = true then (if rB σ.2.1 (s (σ.1 + 1)) (s (σ.1 + 2)) = true then .inr (σ.1 + 3, rTell (s σ.1) (s (σ.1 + 1) - 100) (s (σ.1 + 2) - 100) σ.2.1, σ.2.2) else .inl (σ.1 + 2)) else .inl (σ.1 + 1)
def rItem (s : Nat → Nat) (σ : RD) : Nat ⊕ RD :=
  if rMay σ (s σ.1) = true then (match rBody s σ with
    | .inl j => .inl j
    | .inr τ => if s τ.1 = 10 then .inr (τ.1 + 1, τ.2) else .inl τ.1)
  else .inl σ.1
def rAll (s : Nat → Nat) : Nat → Nat → RD → Nat ⊕ (Nat × mT)
  | 0, _, _ => .inl 0
  | f + 1, k, σ => if s σ.1 = 12 then .inr (k, σ.2.1) else match rItem s σ with
    | .inl j => .inl j
    | .inr τ => rAll s f (k + 1) τ
/-- what stays true of a reading: its town is well, and every token up to the cursor is one -/
def wR (s : Nat → Nat) (m : Nat) (σ : RD) : Prop := wT σ.2.1 ∧ σ.1 ≤ m
theorem rMay_w {s : Nat → Nat} {m : Nat} {σ : RD} (hs : ∀ i, m ≤ i → s i = 12) (hc : σ.1 ≤ m) (h : rMay σ (s σ.1) = true) : s σ.1 < 6 ∧ σ.1 < m := by
  have h1 : s σ.1 < 6 := by
    unfold rMay at h
    split at h
    · omega
    · split at h
      · omega
      · split at h
        · omega
        · split at h
          · omega
          · cases h
  refine ⟨h1, Nat.lt_of_not_le fun q => ?_⟩
  have := hs _ q
  omega
theorem lt_m {s : Nat → Nat} {m i : Nat} (hs : ∀ i, m ≤ i → s i = 12) (h : s i ≠ 12) : i < m := Nat.lt_of_not_le fun q => h (hs i q)
theorem wT_tell {w a b : Nat} {T : mT} (h : wT T) (ha : a < T.1) (hb : b < T.1) (hab : b ≠ a) : wT (rTell w a b T) := by
  obtain ⟨h1, h2, h3, h4⟩ := h
  refine ⟨h1, ?_, ?_, h4⟩
  · intro x y e
    replace e : (if w = 3 then T.2.1 else if w = 2 then kSet (kSet T.2.1 a b) b a else kSet T.2.1 a b) x y = true := e
    split at e
    · exact h2 x y e
    · split at e
      · exact wK_set (wK_set (P := T.1) h2 ha hb (Ne.symm hab)) hb ha hab x y e
      · exact wK_set (P := T.1) h2 ha hb (Ne.symm hab) x y e
  · intro p c e
    replace e : (if w = 3 then (fun p => if p = a then some b else T.2.2.1 p) else T.2.2.1) p = some c := e
    split at e
    · replace e : (if p = a then some b else T.2.2.1 p) = some c := e
      split at e
      · rename_i e2
        cases e
        exact ⟨by rw [e2]; exact ha, hb, by rw [e2]; exact hab⟩
      · exact h3 p c e
    · exact h3 p c e
theorem rBody_w {s : Nat → Nat} {m : Nat} {σ : RD} (hs : ∀ i, m ≤ i → s i = 12) (hw : wT σ.2.1) (hc : σ.1 < m) (hm : rMay σ (s σ.1) = true) : (∀ j, rBody s σ = .inl j → j ≤ m) ∧ (∀ τ, rBody s σ = .inr τ → wT τ.2.1 ∧ σ.1 + 1 ≤ τ.1 ∧ τ.1 ≤ m) := by
  have h1 := hw.1
  unfold rBody
  split
  · rename_i e0
    refine ⟨fun j h => (nomatch h), fun τ h => ?_⟩
    cases h
    have hP : σ.2.1.1 < 8 := by
      unfold rMay at hm
      rw [if_pos e0] at hm
      exact of_decide_eq_true hm
    refine ⟨⟨by show σ.2.1.1 + 1 ≤ 8; omega, fun a b e => ?_, fun p b e => ?_, hw.2.2.2⟩, Nat.le_refl _, hc⟩
    · have := hw.2.1 a b e
      exact ⟨Nat.lt_succ_of_lt this.1, Nat.lt_succ_of_lt this.2.1, this.2.2⟩
    · have := hw.2.2.1 p b e
      exact ⟨Nat.lt_succ_of_lt this.1, Nat.lt_succ_of_lt this.2.1, this.2.2⟩
  · split
    · split
      · rename_i e
        simp only [rN, Bool.and_eq_true, decide_eq_true_eq] at e
        have hl := lt_m hs (i := σ.1 + 1) (by omega)
        refine ⟨fun j h => (nomatch h), fun τ h => ?_⟩
        cases h
        exact ⟨⟨hw.1, hw.2.1, hw.2.2.1, by show s (σ.1 + 1) - 100 ≤ 9; omega, hw.2.2.2.2⟩, Nat.le_succ _, hl⟩
      · exact ⟨fun j h => by cases h; omega, fun τ h => (nomatch h)⟩
    · split
      · split
        · rename_i e
          have hl := lt_m hs (i := σ.1 + 1) (by omega)
          split
          · split
            · rename_i e2
              simp only [rN, Bool.and_eq_true, decide_eq_true_eq] at e2
              have hl := lt_m hs (i := σ.1 + 2) (by omega)
              refine ⟨fun j h => (nomatch h), fun τ h => ?_⟩
              cases h
              exact ⟨⟨hw.1, hw.2.1, hw.2.2.1, hw.2.2.2.1, (by decide : 2 ≤ 3), by show s (σ.1 + 2) - 100 ≤ 7; omega⟩, by show _ ≤ σ.1 + 3; omega, hl⟩
            · exact ⟨fun j h => by cases h; omega, fun τ h => (nomatch h)⟩
          · refine ⟨fun j h => (nomatch h), fun τ h => ?_⟩
            cases h
            exact ⟨⟨hw.1, hw.2.1, hw.2.2.1, hw.2.2.2.1, by show s (σ.1 + 1) - 6 ≤ 3; omega, hw.2.2.2.2.2⟩, by show _ ≤ σ.1 + 2; omega, hl⟩
        · exact ⟨fun j h => by cases h; omega, fun τ h => (nomatch h)⟩
      · split
        · rename_i ea
          simp only [rA, Bool.and_eq_true, decide_eq_true_eq] at ea
          have hl := lt_m hs (i := σ.1 + 1) (by omega)
          split
          · rename_i eb
            simp only [rB, Bool.and_eq_true, decide_eq_true_eq, Bool.not_eq_true', beq_eq_false_iff_ne] at eb
            have hl := lt_m hs (i := σ.1 + 2) (by omega)
            refine ⟨fun j h => (nomatch h), fun τ h => ?_⟩
            cases h
            exact ⟨wT_tell hw (by omega) (by omega) (by omega), by show _ ≤ σ.1 + 3; omega, hl⟩
          · exact ⟨fun j h => by cases h; omega, fun τ h => (nomatch h)⟩
        · exact ⟨fun j h => by cases h; omega, fun τ h => (nomatch h)⟩
theorem rItem_w {s : Nat → Nat} {m : Nat} {σ : RD} (hs : ∀ i, m ≤ i → s i = 12) (hw : wR s m σ) : (∀ j, rItem s σ = .inl j → j ≤ m) ∧ (∀ τ, rItem s σ = .inr τ → wR s m τ ∧ σ.1 + 2 ≤ τ.1) := by
  obtain ⟨hw, hc⟩ := hw
  unfold rItem
  split
  · rename_i hm
    have hl := (rMay_w hs hc hm).2
    have ⟨q1, q2⟩ := rBody_w hs hw hl hm
    split
    · rename_i j e
      exact ⟨fun i h => by cases h; exact q1 j e, fun τ h => (nomatch h)⟩
    · rename_i τ e
      have q := q2 τ e
      split
      · rename_i e2
        have hl2 := lt_m hs (i := τ.1) (by omega)
        refine ⟨fun j h => (nomatch h), fun τ' h => ?_⟩
        cases h
        exact ⟨⟨q.1, hl2⟩, by show σ.1 + 2 ≤ τ.1 + 1; omega⟩
      · exact ⟨fun i h => by cases h; exact q.2.2, fun τ' h => (nomatch h)⟩
  · exact ⟨fun i h => by cases h; exact hc, fun τ h => (nomatch h)⟩
/-- the reading of a text -/
def tSt (tx : Nat → Nat) (sz i : Nat) : Nat := ttk tx sz (tpl tx sz i)
theorem tpl_ge {tx : Nat → Nat} {sz : Nat} : ∀ i, tmn tx sz ≤ i → tpl tx sz i = sz
  | 0, h => by
    have e : tmn tx sz = 0 := by omega
    rw [← e]
    exact tpl_end
  | i + 1, h => by
    rcases Nat.lt_or_ge i (tmn tx sz) with q | q
    · have e : tmn tx sz = i + 1 := by omega
      rw [← e]
      exact tpl_end
    · show (if tpl tx sz i < sz then nxt tx sz (tpl tx sz i + 1) else sz) = sz
      rw [tpl_ge i q, if_neg (Nat.lt_irrefl sz)]
theorem tSt_end {tx : Nat → Nat} {sz i : Nat} (h : tmn tx sz ≤ i) : tSt tx sz i = 12 := by
  unfold tSt ttk
  rw [tpl_ge i h, if_neg (Nat.lt_irrefl sz)]
def rdTown (tx : Nat → Nat) (sz : Nat) : Nat ⊕ (Nat × mT) := rAll (tSt tx sz) 401 0 (0, T0, false, false)
def fTown (tx : Nat → Nat) (sz : Nat) : Int32 := match rdTown tx sz with
  | .inl j => -10 - nI (tpl tx sz j)
  | .inr (k, _) => nI k
def sTown (s : mS) : mS := match rdTown s.1 s.2.1 with
  | .inl _ => s
  | .inr (_, T) => (s.1, 0, nAnew T, none, none, T, s.2.2.2.2.2.2)
