/-! a text, and its tokens by place -/
section TK
variable {tx : Nat → Nat} {sz : Nat}
def tlt (tx : Nat → Nat) (sz k : Nat) : Bool := decide (k < sz) && decide (97 ≤ tx k) && decide (tx k ≤ 122)
def tdg (tx : Nat → Nat) (sz k : Nat) : Bool := decide (k < sz) && decide (48 ≤ tx k) && decide (tx k ≤ 57)
def tbl (tx : Nat → Nat) (sz k : Nat) : Bool := decide (k < sz) && decide (tx k = 32)
def tin (tx : Nat → Nat) (sz k : Nat) : Bool := decide (0 < k) && ((tlt tx sz (k - 1) && tlt tx sz k) || (tdg tx sz (k - 1) && tdg tx sz k))
def tbeg (tx : Nat → Nat) (sz k : Nat) : Bool := decide (k < sz) && !(tbl tx sz k) && !(tin tx sz k)
def nxC (tx : Nat → Nat) (sz : Nat) : Nat → Nat → Nat
  | 0, k => k
  | c + 1, k => if tbeg tx sz k = true then k else nxC tx sz c (k + 1)
def nxt (tx : Nat → Nat) (sz k : Nat) : Nat := nxC tx sz (sz - k) k
theorem nxt_hit {k : Nat} (h : tbeg tx sz k = true) : nxt tx sz k = k := by
  unfold nxt
  cases sz - k with
  | zero => rfl
  | succ c => simp only [nxC]; rw [if_pos h]
theorem nxt_skip {k : Nat} (hk : k < sz) (h : tbeg tx sz k = false) : nxt tx sz k = nxt tx sz (k + 1) := by
  unfold nxt
  rw [show sz - k = (sz - (k + 1)) + 1 by omega]
  simp only [nxC]
  rw [if_neg (by rw [h]; decide)]
theorem nxt_end {k : Nat} (h : sz ≤ k) : nxt tx sz k = k := by
  unfold nxt
  rw [show sz - k = 0 by omega]
  rfl
theorem nxt_b : ∀ d k, sz - k < d → k ≤ sz → k ≤ nxt tx sz k ∧ nxt tx sz k ≤ sz ∧ (nxt tx sz k < sz → tbeg tx sz (nxt tx sz k) = true) := by
  intro d
  induction d with
  | zero => intro k hd; omega
  | succ d ih =>
    intro k hd hk
    rcases Nat.lt_or_ge k sz with h | h
    · cases e : tbeg tx sz k with
      | true => rw [nxt_hit e]; exact ⟨Nat.le_refl _, hk, fun _ => e⟩
      | false =>
        rw [nxt_skip h e]
        have q := ih (k + 1) (by omega) (by omega)
        exact ⟨by omega, q.2.1, q.2.2⟩
    · rw [nxt_end h]
      exact ⟨Nat.le_refl _, hk, fun q => by omega⟩
/-- the place of a token -/
def tpl (tx : Nat → Nat) (sz : Nat) : Nat → Nat
  | 0 => nxt tx sz 0
  | i + 1 => if tpl tx sz i < sz then nxt tx sz (tpl tx sz i + 1) else sz
def tcb (tx : Nat → Nat) (sz : Nat) : Nat → Nat
  | 0 => 0
  | k + 1 => tcb tx sz k + (if tbeg tx sz k = true then 1 else 0)
theorem tpl_cb : ∀ k, k ≤ sz → tpl tx sz (tcb tx sz k) = nxt tx sz k
  | 0, _ => rfl
  | k + 1, hk => by
    have ih := tpl_cb k (by omega)
    simp only [tcb]
    split
    · rename_i e
      rw [nxt_hit e] at ih
      show (if tpl tx sz (tcb tx sz k) < sz then nxt tx sz (tpl tx sz (tcb tx sz k) + 1) else sz) = _
      rw [ih, if_pos (by omega)]
    · rename_i e
      rw [nxt_skip (by omega) (by simpa using e)] at ih
      exact ih
theorem tcb_le : ∀ k, tcb tx sz k ≤ k
  | 0 => Nat.le_refl _
  | k + 1 => by
    have := tcb_le k
    simp only [tcb]
    split <;> omega
/-- how many tokens there are -/
def tmn (tx : Nat → Nat) (sz : Nat) : Nat := tcb tx sz sz
theorem tpl_end : tpl tx sz (tmn tx sz) = sz := by
  rw [tmn, tpl_cb sz (Nat.le_refl _), nxt_end (Nat.le_refl _)]
theorem tpl_lt : ∀ k, k ≤ sz → ∀ i, i < tcb tx sz k → tpl tx sz i < k
  | 0, _, i, h => absurd h (Nat.not_lt_zero i)
  | k + 1, hk, i, h => by
    have ih := tpl_lt k (by omega) i
    have hc := tpl_cb (tx := tx) (sz := sz) k (by omega)
    simp only [tcb] at h
    split at h
    · rename_i e
      rcases Nat.lt_or_ge i (tcb tx sz k) with q | q
      · have := ih q; omega
      · have e2 : i = tcb tx sz k := by omega
        rw [e2, hc, nxt_hit e]
        omega
    · have := ih (by omega); omega
theorem tpl_lt' {i : Nat} (h : i < tmn tx sz) : tpl tx sz i < sz := tpl_lt sz (Nat.le_refl _) i h
theorem tmn_le : tmn tx sz ≤ sz := tcb_le sz
/-! words -/
def W80 : List Nat := [112, 101, 114, 115, 111, 110, 32, 32, 107, 110, 111, 119, 115, 32, 32, 32, 109, 117, 116, 117, 97, 108, 32, 32, 99, 97, 108, 108, 115, 32, 32, 32, 102, 111, 114, 103, 101, 116, 115, 32, 108, 97, 119, 32, 32, 32, 32, 32, 108, 101, 97, 115, 116, 32, 32, 32, 115, 101, 99, 111, 110, 100, 32, 32, 106, 117, 115, 116, 32, 32, 32, 32, 110, 101, 118, 101, 114, 32, 32, 32]
def W8 (j : Nat) : Nat := W80.getD j 32
def wln (w : Nat) : Nat := [6, 5, 6, 5, 7, 3, 5, 6, 4, 5].getD w 0
theorem W8_lt : ∀ w, w < 10 → ∀ i, i < wln w → 97 ≤ W8 (8 * w + i) ∧ W8 (8 * w + i) ≤ 122 := by decide +kernel
theorem W8_sp : ∀ w, w < 10 → W8 (8 * w + wln w) = 32 := by decide +kernel
theorem wln_le : ∀ w, w < 10 → wln w ≤ 7 := by decide +kernel
def rvF (a : Nat → Nat) : Nat → List Nat
  | 0 => []
  | k + 1 => a k :: rvF a k
theorem rvF_eq {a b : Nat → Nat} : ∀ {m k : Nat}, rvF a m = rvF b k ↔ m = k ∧ ∀ j, j < m → a j = b j
  | 0, 0 => ⟨fun _ => ⟨rfl, fun j h => absurd h (Nat.not_lt_zero j)⟩, fun _ => rfl⟩
  | 0, k + 1 => Iff.intro (fun h => (nomatch h)) (fun h => (nomatch h.1))
  | m + 1, 0 => Iff.intro (fun h => (nomatch h)) (fun h => (nomatch h.1))
  | m + 1, k + 1 => by
    have ih := rvF_eq (a := a) (b := b) (m := m) (k := k)
    simp only [rvF, List.cons.injEq, ih]
    constructor
    · rintro ⟨h1, h2, h3⟩
      subst h2
      refine ⟨rfl, fun j hj => ?_⟩
      by_cases e : j = m
      · rw [e]; exact h1
      · exact h3 j (by omega)
    · rintro ⟨h1, h2⟩
      have h1 : m = k := by omega
      subst h1
      exact ⟨h2 m (by omega), rfl, fun j hj => h2 j (by omega)⟩
def fvL : List Nat → Nat
  | [] => 0
  | c :: l => 256 * fvL l + c
theorem fvL_inj : ∀ {l k : List Nat}, (∀ c, c ∈ l → 0 < c ∧ c < 256) → (∀ c, c ∈ k → 0 < c ∧ c < 256) → fvL l = fvL k → l = k
  | [], [], _, _, _ => rfl
  | [], c :: k, _, h2, h => by
    have := (h2 c (by simp)).1
    simp only [fvL] at h
    omega
  | c :: l, [], h1, _, h => by
    have := (h1 c (by simp)).1
    simp only [fvL] at h
    omega
  | c :: l, e :: k, h1, h2, h => by
    have q1 := h1 c (by simp)
    have q2 := h2 e (by simp)
    simp only [fvL] at h
    have hc : c = e := by omega
    have hl : fvL l = fvL k := by omega
    rw [hc, fvL_inj (fun c hc => h1 c (by simp [hc])) (fun c hc => h2 c (by simp [hc])) hl]
/-- the letters in a row from a place -/
def trnC (tx : Nat → Nat) (sz : Nat) : Nat → Nat → Nat
  | 0, _ => 0
  | c + 1, k => if tlt tx sz k = true then trnC tx sz c (k + 1) + 1 else 0
def trn (tx : Nat → Nat) (sz k : Nat) : Nat := trnC tx sz (sz - k) k
theorem trnC_spec : ∀ c k, k + c = sz ∨ (sz < k ∧ c = 0) → (∀ j, j < trnC tx sz c k → tlt tx sz (k + j) = true) ∧ tlt tx sz (k + trnC tx sz c k) = false
  | 0, k, h => by
    refine ⟨fun j hj => absurd hj (Nat.not_lt_zero j), ?_⟩
    have e : ¬ k < sz := by omega
    simp [tlt, trnC, e]
  | c + 1, k, h => by
    have ih := trnC_spec c (k + 1) (by omega)
    simp only [trnC]
    split
    · rename_i e
      refine ⟨fun j hj => ?_, ?_⟩
      · cases j with
        | zero => exact e
        | succ j => rw [show k + (j + 1) = k + 1 + j by omega]; exact ih.1 j (by omega)
      · rw [show k + (trnC tx sz c (k + 1) + 1) = k + 1 + trnC tx sz c (k + 1) by omega]; exact ih.2
    · rename_i e
      exact ⟨fun j hj => absurd hj (Nat.not_lt_zero j), by simpa using e⟩
theorem trn_spec (k : Nat) : (∀ j, j < trn tx sz k → tlt tx sz (k + j) = true) ∧ tlt tx sz (k + trn tx sz k) = false := by
  refine trnC_spec _ _ ?_
  omega
theorem trn_is {k m : Nat} (h1 : ∀ j, j < m → tlt tx sz (k + j) = true) (h2 : tlt tx sz (k + m) = false) : trn tx sz k = m := by
  have ⟨q1, q2⟩ := trn_spec (tx := tx) (sz := sz) k
  rcases Nat.lt_trichotomy (trn tx sz k) m with e | e | e
  · rw [h1 _ e] at q2; cases q2
  · exact e
  · rw [q1 _ e] at h2; cases h2
def isWd (tx : Nat → Nat) (sz k w : Nat) : Bool := decide (rvF (fun j => tx (k + j)) (trn tx sz k) = rvF (fun j => W8 (8 * w + j)) (wln w))
def twd (tx : Nat → Nat) (sz k : Nat) : Nat := (ff (isWd tx sz k) 10).getD 11
def tnm (tx : Nat → Nat) (sz k : Nat) : Nat := if tdg tx sz (k + 1) = false then 100 + (tx k - 48) else if tx k = 48 ∨ tdg tx sz (k + 2) = true then 11 else 100 + (10 * (tx k - 48) + (tx (k + 1) - 48))
/-- the token that begins at a place: 0 to 9 a word, 10 the semicolon, 11 wrong, 12 the end, 100 and more a number -/
def ttk (tx : Nat → Nat) (sz k : Nat) : Nat := if k < sz then (if tlt tx sz k = true then twd tx sz k else if tdg tx sz k = true then tnm tx sz k else if tx k = 59 then 10 else 11) else 12
end TK
