/-! the reference's reading of tokens: where they end, what they are worth -/
section RT
variable {tx : Nat → Nat} {sz : Nat}
theorem tin_0 : tin tx sz 0 = false := rfl
theorem tin_no {k : Nat} (h1 : tlt tx sz k = false) (h2 : tdg tx sz k = false) : tin tx sz k = false := by simp [tin, h1, h2]
theorem tin_bh {k : Nat} (h1 : tlt tx sz k = false) (h2 : tdg tx sz k = false) : tin tx sz (k + 1) = false := by simp [tin, h1, h2]
theorem tlt_d {k : Nat} (h : tlt tx sz k = true) : k < sz ∧ 97 ≤ tx k ∧ tx k ≤ 122 := by
  simp only [tlt, Bool.and_eq_true, decide_eq_true_eq] at h
  exact ⟨h.1.1, h.1.2, h.2⟩
theorem tlt_tdg {k : Nat} (h : tlt tx sz k = true) : tdg tx sz k = false := by
  have h1 := tlt_d h
  cases e : tdg tx sz k with
  | false => rfl
  | true => have := tdg_d e; omega
theorem tbl_no {k : Nat} (h : tx k = 32) : tlt tx sz k = false ∧ tdg tx sz k = false := by simp [tlt, tdg, h]
theorem nxt_bl {k : Nat} (hk : k < sz) (h : tx k = 32) : nxt tx sz k = nxt tx sz (k + 1) := nxt_skip hk (by simp [tbeg, tbl, h, hk])
theorem nxt_at {k : Nat} (hk : k < sz) (h : ¬ tx k = 32) (ht : tin tx sz k = false) : nxt tx sz k = k := nxt_hit (by simp [tbeg, tbl, h, hk, ht])
theorem nxt_in {k : Nat} (hk : k < sz) (ht : tin tx sz k = true) : nxt tx sz k = nxt tx sz (k + 1) := nxt_skip hk (by simp [tbeg, ht])
theorem tin_ll {k : Nat} (h1 : tlt tx sz k = true) (h2 : tlt tx sz (k + 1) = true) : tin tx sz (k + 1) = true := by simp [tin, h1, h2]
theorem tin_dd {k : Nat} (h1 : tdg tx sz k = true) (h2 : tdg tx sz (k + 1) = true) : tin tx sz (k + 1) = true := by simp [tin, h1, h2]
theorem tin_le {k : Nat} (h1 : tlt tx sz k = true) (h2 : tlt tx sz (k + 1) = false) : tin tx sz (k + 1) = false := by simp [tin, h1, h2, tlt_tdg h1]
theorem tin_de {k : Nat} (h1 : tdg tx sz k = true) (h2 : tdg tx sz (k + 1) = false) : tin tx sz (k + 1) = false := by
  have h3 : tlt tx sz k = false := by
    cases e : tlt tx sz k with
    | false => rfl
    | true => rw [tlt_tdg e] at h1; cases h1
  simp [tin, h1, h2, h3]
theorem tpl_s {i : Nat} : tpl tx sz (i + 1) = if tpl tx sz i < sz then nxt tx sz (tpl tx sz i + 1) else sz := rfl
/-- a run of letters, its end -/
theorem run_l {k : Nat} : ∀ m, (∀ j, j ≤ m → tlt tx sz (k + j) = true) → nxt tx sz (k + 1) = nxt tx sz (k + m + 1)
  | 0, _ => rfl
  | m + 1, h => by
    have h1 := h (m + 1) (Nat.le_refl _)
    have h0 := h m (by omega)
    rw [run_l m (fun j hj => h j (by omega))]
    exact nxt_in (tlt_d h1).1 (tin_ll h0 h1)
theorem run_d {k : Nat} : ∀ m, (∀ j, j ≤ m → tdg tx sz (k + j) = true) → nxt tx sz (k + 1) = nxt tx sz (k + m + 1)
  | 0, _ => rfl
  | m + 1, h => by
    have h1 := h (m + 1) (Nat.le_refl _)
    have h0 := h m (by omega)
    rw [run_d m (fun j hj => h j (by omega))]
    exact nxt_in (tdg_d h1).1 (tin_dd h0 h1)
/-- what a row of digits is worth -/
def vdF (tx : Nat → Nat) (k : Nat) : Nat → Nat
  | 0 => 0
  | j + 1 => if 99 < vdF tx k j then vdF tx k j else 10 * vdF tx k j + (tx (k + j) - 48)
theorem vdF_b {k : Nat} : ∀ m, (∀ j, j < m → tdg tx sz (k + j) = true) → vdF tx k m < 1000
  | 0, _ => (by decide : 0 < 1000)
  | m + 1, h => by
    have ih := vdF_b m (fun j hj => h j (by omega))
    have h1 := tdg_d (h m (by omega))
    simp only [vdF]
    split <;> omega
theorem vdF_up {k : Nat} : ∀ {m j : Nat}, 99 < vdF tx k m → 99 < vdF tx k (m + j)
  | m, 0, h => h
  | m, j + 1, h => by
    have ih := vdF_up (j := j) h
    show 99 < vdF tx k (m + j + 1)
    simp only [vdF]
    rw [if_pos ih]
    exact ih
theorem tnm_v {k m : Nat} (hm : 1 ≤ m) (h : ∀ j, j < m → tdg tx sz (k + j) = true) (he : tdg tx sz (k + m) = false) : tnm tx sz k = if 99 < vdF tx k m ∨ (tx k = 48 ∧ 1 < m) then 11 else 100 + vdF tx k m := by
  have h0 := tdg_d (h 0 (by omega))
  have e1 : vdF tx k 1 = tx k - 48 := by simp [vdF]
  have h0' : 48 ≤ tx k ∧ tx k ≤ 57 := h0.2
  rcases (show m = 1 ∨ m = 2 ∨ 3 ≤ m by omega) with rfl | rfl | h3
  · rw [tnm, if_pos he, if_neg (by rw [e1]; omega), e1]
  · have h1 := h 1 (by omega)
    have h1' := tdg_d h1
    have e2 : vdF tx k 2 = 10 * (tx k - 48) + (tx (k + 1) - 48) := by
      show (if 99 < vdF tx k 1 then vdF tx k 1 else 10 * vdF tx k 1 + (tx (k + 1) - 48)) = _
      rw [e1, if_neg (by omega)]
    rw [tnm, if_neg (by rw [h1]; decide), e2]
    by_cases e : tx k = 48
    · rw [if_pos (Or.inl e), if_pos (Or.inr ⟨e, by decide⟩)]
    · rw [if_neg (fun q => q.elim e (fun q => by rw [he] at q; cases q)), if_neg (by omega)]
  · have h1 := h 1 (by omega)
    have h2 := h 2 (by omega)
    have h1' := tdg_d h1
    have h2' := tdg_d h2
    have e2 : vdF tx k 2 = 10 * (tx k - 48) + (tx (k + 1) - 48) := by
      show (if 99 < vdF tx k 1 then vdF tx k 1 else 10 * vdF tx k 1 + (tx (k + 1) - 48)) = _
      rw [e1, if_neg (by omega)]
    have e3 : vdF tx k 3 = 10 * (10 * (tx k - 48) + (tx (k + 1) - 48)) + (tx (k + 2) - 48) := by
      show (if 99 < vdF tx k 2 then vdF tx k 2 else 10 * vdF tx k 2 + (tx (k + 2) - 48)) = _
      rw [e2, if_neg (by omega)]
    rw [tnm, if_neg (by rw [h1]; decide), if_pos (Or.inr h2), if_pos]
    by_cases e : tx k = 48
    · exact Or.inr ⟨e, by omega⟩
    · have q : 99 < vdF tx k 3 := by rw [e3]; omega
      rw [show m = 3 + (m - 3) by omega]
      exact Or.inl (vdF_up q)
/-- a word's number, by what its letters are worth -/
def FV (w : Nat) : Nat := fvL (rvF (fun j => W8 (8 * w + j)) (wln w))
def wOf (V : Nat) : Option Nat := ff (fun w => V == FV w) 10
theorem ff_ext {s s2 : Nat → Bool} : ∀ {m : Nat}, (∀ w, w < m → s w = s2 w) → ff s m = ff s2 m
  | 0, _ => rfl
  | m + 1, h => by simp only [ff]; rw [ff_ext (fun w hw => h w (by omega)), h m (by omega)]
theorem ff_no {s : Nat → Bool} : ∀ {m : Nat}, (∀ w, w < m → s w = false) → ff s m = none
  | 0, _ => rfl
  | m + 1, h => by simp only [ff]; rw [ff_no (fun w hw => h w (by omega)), h m (by omega)]; rfl
theorem rvF_mem {a : Nat → Nat} : ∀ {m c : Nat}, c ∈ rvF a m → ∃ j, j < m ∧ c = a j
  | m + 1, c, h => by
    simp only [rvF, List.mem_cons] at h
    rcases h with h | h
    · exact ⟨m, by omega, h⟩
    · obtain ⟨j, hj, e⟩ := rvF_mem h
      exact ⟨j, by omega, e⟩
theorem isWd_V {k w : Nat} (hw : w < 10) : isWd tx sz k w = (fvL (rvF (fun j => tx (k + j)) (trn tx sz k)) == FV w) := by
  have h1 : ∀ c, c ∈ rvF (fun j => tx (k + j)) (trn tx sz k) → 0 < c ∧ c < 256 := by
    intro c hc
    obtain ⟨j, hj, rfl⟩ := rvF_mem hc
    have := tlt_d ((trn_spec (tx := tx) (sz := sz) k).1 j hj)
    exact ⟨by omega, by omega⟩
  have h2 : ∀ c, c ∈ rvF (fun j => W8 (8 * w + j)) (wln w) → 0 < c ∧ c < 256 := by
    intro c hc
    obtain ⟨j, hj, rfl⟩ := rvF_mem hc
    have := W8_lt w hw j hj
    exact ⟨by omega, by omega⟩
  unfold isWd
  rw [Bool.eq_iff_iff, decide_eq_true_eq, beq_iff_eq]
  exact ⟨fun q => by rw [q]; rfl, fun q => fvL_inj h1 h2 q⟩
theorem twd_V {k : Nat} : twd tx sz k = (wOf (fvL (rvF (fun j => tx (k + j)) (trn tx sz k)))).getD 11 := by
  rw [twd, wOf, ff_ext (fun w hw => isWd_V hw)]
theorem twd_long {k : Nat} (h : 7 < trn tx sz k) : twd tx sz k = 11 := by
  rw [twd, ff_no (fun w hw => ?_)]
  · rfl
  · unfold isWd
    refine decide_eq_false (fun q => ?_)
    have := (rvF_eq.mp q).1
    have := wln_le w hw
    omega
theorem fvL_lt {a : Nat → Nat} : ∀ {m : Nat}, (∀ j, j < m → a j < 256) → fvL (rvF a m) < 256 ^ m
  | 0, _ => (by decide : 0 < 1)
  | m + 1, h => by
    have ih := fvL_lt (m := m) (fun j hj => h j (by omega))
    have h1 := h m (by omega)
    simp only [rvF, fvL, Nat.pow_succ]
    omega
theorem fvL_56 {a : Nat → Nat} {m : Nat} (hm : m ≤ 7) (h : ∀ j, j < m → a j < 256) : fvL (rvF a m) < 2 ^ 56 :=
  Nat.lt_of_lt_of_le (fvL_lt h) (Nat.le_trans (Nat.pow_le_pow_right (by decide) hm) (by decide))
theorem wOf_lt {V w : Nat} (h : wOf V = some w) : w < 10 := (ff_lt h).1
/-- the token and its value, as the reference has them -/
def tkv (t : Nat) (tk va : Int32) : Prop := (t < 10 ∧ tk = nI 1 ∧ va = nI t) ∨ (t = 10 ∧ tk = nI 3) ∨ (t = 11 ∧ tk = nI 4) ∨ (t = 12 ∧ tk = nI 0) ∨ (100 ≤ t ∧ t < 200 ∧ tk = nI 2 ∧ va = nI (t - 100))
/-- the reference stands at token c -/
def pC (tx : Nat → Nat) (sz c : Nat) (nx tk pl va : Int32) : Prop := ∃ k, nx = nI k ∧ k ≤ sz ∧ tin tx sz k = false ∧ nxt tx sz k = tpl tx sz (c + 1) ∧ pl = nI (tpl tx sz c) ∧ tkv (tSt tx sz c) tk va
end RT
