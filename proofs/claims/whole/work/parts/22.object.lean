/-! THE OBJECT LeastKnown: what its cells hold. It stands at 0; text 1, 2; reader 3 .. 5; present 6 .. 10; images 11 .. 16, 17 .. 22; foretelling 23 .. 30 (its mind 25 .. 29); towns 31 .. 33, 34 .. 36 -/
def oText (G : kG) (tx : Nat → Nat) (sz : Nat) (h : kH) : Prop := h 1 = .inr (4, [.ref (kb G + 2), .int (nI sz)]) ∧ sz ≤ 400 ∧ ∃ a : Nat → Int32, h 2 = .inl (G.2.1, 400, .inl a) ∧ ∀ j, j < sz → a j = nI (tx j)
def oRead (G : kG) (h : kH) : Prop := ∃ (tk pl : Nat → Int32) (cu fa lt ft : Int32), h 3 = .inr (3, [.ref (kb G + 4), .ref (kb G + 5), .int cu, .int fa, .int lt, .int ft]) ∧ h 4 = .inl (G.2.1, 401, .inl tk) ∧ h 5 = .inl (G.2.1, 401, .inl pl)
def oImg (G : kG) (i : Nat) (o : Option mN) (h : kH) : Prop := match o with
  | none => h i = .inr (1, [.ref (kb G + (i + 1)), .int 0]) ∧ aNow G (i + 1) h
  | some ν => h i = .inr (1, [.ref (kb G + (i + 1)), .int 1]) ∧ oNow G (i + 1) ν h
def aTown (G : kG) (t : Nat) (h : kH) : Prop := ∃ (kn ca : Nat → Int32) (pe fo lw ju : Int32), rTown G t kn ca pe fo lw ju h
def oMain (G : kG) (t : Nat) (tr : Int64) (h : kH) : Prop := h 0 = .inr (6, [.ref (kb G + 1), .ref (kb G + 3), .ref (kb G + 6), .ref (kb G + 11), .ref (kb G + 17), .ref (kb G + 23), .ref (kb G + t), .ref (kb G + (65 - t)), .long tr])
def oFt (G : kG) (h : kH) : Prop := (∃ (rw : Nat → Int32) (fa : Int32) (ru : Nat → Int32), rFore G 23 rw fa ru h) ∧ aNow G 25 h
abbrev mS : Type := (Nat → Nat) × Nat × mN × Option mN × Option mN × mT × Int64
def oX (G : kG) (t : Nat) (s : mS) (h : kH) : Prop := (t = 31 ∨ t = 34) ∧ oMain G t s.2.2.2.2.2.2 h ∧ oText G s.1 s.2.1 h ∧ oRead G h ∧ oNow G 6 s.2.2.1 h ∧ oImg G 11 s.2.2.2.1 h ∧ oImg G 17 s.2.2.2.2.1 h ∧ oFt G h ∧ oTown G t s.2.2.2.2.2.1 h ∧ aTown G (65 - t) h
/-- what the state promises -/
def wS (s : mS) : Prop := wT s.2.2.2.2.2.1 ∧ wN s.2.2.2.2.2.1.1 s.2.2.1 ∧ s.2.2.1.2.2.2.1 ≤ 99 ∧ (∀ μ, s.2.2.2.1 = some μ → wN s.2.2.2.2.2.1.1 μ ∧ μ.2.2.2.1 ≤ 99) ∧ (∀ μ, s.2.2.2.2.1 = some μ → wN s.2.2.2.2.2.1.1 μ ∧ μ.2.2.2.1 ≤ 99) ∧ s.2.1 ≤ 400 ∧ (∀ j, s.1 j < 256)
theorem oText.fr {G : kG} {tx : Nat → Nat} {sz lo hi : Nat} {h h' : kH} (H : oText G tx sz h) (hF : kFr lo hi h h') (hd : 3 ≤ lo ∨ hi ≤ 1) : oText G tx sz h' := by
  obtain ⟨h1, h2, a, h3, h4⟩ := H
  exact ⟨(hF 1 (by omega)).trans h1, h2, a, (hF 2 (by omega)).trans h3, h4⟩
theorem oRead.fr {G : kG} {lo hi : Nat} {h h' : kH} (H : oRead G h) (hF : kFr lo hi h h') (hd : 6 ≤ lo ∨ hi ≤ 3) : oRead G h' := by
  obtain ⟨tk, pl, cu, fa, lt, ft, h1, h2, h3⟩ := H
  exact ⟨tk, pl, cu, fa, lt, ft, (hF 3 (by omega)).trans h1, (hF 4 (by omega)).trans h2, (hF 5 (by omega)).trans h3⟩
theorem oImg.fr {G : kG} {i lo hi : Nat} {o : Option mN} {h h' : kH} (H : oImg G i o h) (hF : kFr lo hi h h') (hd : i + 6 ≤ lo ∨ hi ≤ i) : oImg G i o h' := by
  cases o with
  | none => exact ⟨(hF i (by omega)).trans H.1, H.2.fr hF (by omega)⟩
  | some ν => exact ⟨(hF i (by omega)).trans H.1, H.2.fr hF (by omega)⟩
theorem aTown.fr {G : kG} {t lo hi : Nat} {h h' : kH} (H : aTown G t h) (hF : kFr lo hi h h') (hd : t + 3 ≤ lo ∨ hi ≤ t) : aTown G t h' := by
  obtain ⟨kn, ca, pe, fo, lw, ju, H⟩ := H
  exact ⟨kn, ca, pe, fo, lw, ju, H.fr hF hd⟩
theorem oMain.fr {G : kG} {t lo hi : Nat} {tr : Int64} {h h' : kH} (H : oMain G t tr h) (hF : kFr lo hi h h') (hd : 1 ≤ lo) : oMain G t tr h' := (hF 0 (by omega)).trans H
theorem oFt.fr {G : kG} {lo hi : Nat} {h h' : kH} (H : oFt G h) (hF : kFr lo hi h h') (hd : 31 ≤ lo ∨ hi ≤ 23) : oFt G h' := by
  obtain ⟨⟨rw, fa, ru, H1⟩, H2⟩ := H
  exact ⟨⟨rw, fa, ru, H1.fr hF (by omega)⟩, H2.fr hF (by omega)⟩
section OX
variable {G : kG} {t : Nat} {s : mS} {h h' : kH}
theorem oX.frAll {lo hi : Nat} (H : oX G t s h) (hF : kFr lo hi h h') (hd : 37 ≤ lo) : oX G t s h' := by
  obtain ⟨ht, h1, h2, h3, h4, h5, h6, h7, h8, h9⟩ := H
  exact ⟨ht, h1.fr hF (by omega), h2.fr hF (by omega), h3.fr hF (by omega), h4.fr hF (by omega), h5.fr hF (by omega), h6.fr hF (by omega), h7.fr hF (by omega), h8.fr hF (by omega), h9.fr hF (by omega)⟩
theorem oX.setNow {ν : mN} (H : oX G t s h) (hN : oNow G 6 ν h') (hF : kFr 6 11 h h') : oX G t (s.1, s.2.1, ν, s.2.2.2) h' := by
  obtain ⟨ht, h1, h2, h3, h4, h5, h6, h7, h8, h9⟩ := H
  exact ⟨ht, h1.fr hF (by omega), h2.fr hF (by omega), h3.fr hF (by omega), hN, h5.fr hF (by omega), h6.fr hF (by omega), h7.fr hF (by omega), h8.fr hF (by omega), h9.fr hF (by omega)⟩
theorem oX.setText {tx : Nat → Nat} {sz : Nat} (H : oX G t s h) (hN : oText G tx sz h') (hF : kFr 1 3 h h') : oX G t (tx, sz, s.2.2) h' := by
  obtain ⟨ht, h1, h2, h3, h4, h5, h6, h7, h8, h9⟩ := H
  exact ⟨ht, h1.fr hF (by omega), hN, h3.fr hF (by omega), h4.fr hF (by omega), h5.fr hF (by omega), h6.fr hF (by omega), h7.fr hF (by omega), h8.fr hF (by omega), h9.fr hF (by omega)⟩
theorem oX.setFt (H : oX G t s h) (hN : oFt G h') (hF : kFr 23 31 h h') : oX G t s h' := by
  obtain ⟨ht, h1, h2, h3, h4, h5, h6, h7, h8, h9⟩ := H
  exact ⟨ht, h1.fr hF (by omega), h2.fr hF (by omega), h3.fr hF (by omega), h4.fr hF (by omega), h5.fr hF (by omega), h6.fr hF (by omega), hN, h8.fr hF (by omega), h9.fr hF (by omega)⟩
theorem oX.setImg0 {o : Option mN} (H : oX G t s h) (hN : oImg G 11 o h') (hF : kFr 11 17 h h') : oX G t (s.1, s.2.1, s.2.2.1, o, s.2.2.2.2) h' := by
  obtain ⟨ht, h1, h2, h3, h4, h5, h6, h7, h8, h9⟩ := H
  exact ⟨ht, h1.fr hF (by omega), h2.fr hF (by omega), h3.fr hF (by omega), h4.fr hF (by omega), hN, h6.fr hF (by omega), h7.fr hF (by omega), h8.fr hF (by omega), h9.fr hF (by omega)⟩
theorem oX.setImg1 {o : Option mN} (H : oX G t s h) (hN : oImg G 17 o h') (hF : kFr 17 23 h h') : oX G t (s.1, s.2.1, s.2.2.1, s.2.2.2.1, o, s.2.2.2.2.2) h' := by
  obtain ⟨ht, h1, h2, h3, h4, h5, h6, h7, h8, h9⟩ := H
  exact ⟨ht, h1.fr hF (by omega), h2.fr hF (by omega), h3.fr hF (by omega), h4.fr hF (by omega), h5.fr hF (by omega), hN, h7.fr hF (by omega), h8.fr hF (by omega), h9.fr hF (by omega)⟩
theorem oX.setTown {T : mT} (H : oX G t s h) (hN : oTown G t T h') (hF : kFr t (t + 3) h h') : oX G t (s.1, s.2.1, s.2.2.1, s.2.2.2.1, s.2.2.2.2.1, T, s.2.2.2.2.2.2) h' := by
  obtain ⟨ht, h1, h2, h3, h4, h5, h6, h7, h8, h9⟩ := H
  exact ⟨ht, h1.fr hF (by omega), h2.fr hF (by omega), h3.fr hF (by omega), h4.fr hF (by omega), h5.fr hF (by omega), h6.fr hF (by omega), h7.fr hF (by omega), hN, h9.fr hF (by omega)⟩
theorem oX.setTr {tr : Int64} (H : oX G t s h) (hN : oMain G t tr h') (hF : kFr 0 1 h h') : oX G t (s.1, s.2.1, s.2.2.1, s.2.2.2.1, s.2.2.2.2.1, s.2.2.2.2.2.1, tr) h' := by
  obtain ⟨ht, h1, h2, h3, h4, h5, h6, h7, h8, h9⟩ := H
  exact ⟨ht, hN, h2.fr hF (by omega), h3.fr hF (by omega), h4.fr hF (by omega), h5.fr hF (by omega), h6.fr hF (by omega), h7.fr hF (by omega), h8.fr hF (by omega), h9.fr hF (by omega)⟩
end OX
/-! arguments -/
def perB (T : mT) (x : Int32) : Bool := decide (0 ≤ x) && decide (x < nI T.1)
def pairB (T : mT) (x y : Int32) : Bool := perB T x && perB T y && !decide (x = y)
def choB (x : Int32) : Bool := decide (x = 0) || decide (x = 1)
theorem per_of {T : mT} {x : Int32} (hP : T.1 ≤ 8) (h : perB T x = true) : ∃ p, p < T.1 ∧ x = nI p := by
  simp only [perB, Bool.and_eq_true, decide_eq_true_eq] at h
  obtain ⟨j, hj, rfl⟩ := nI_of (x := x) (fun q => by
    have h1 := Int32.le_iff_toInt_le.mp h.1
    have h2 := Int32.lt_iff_toInt_lt.mp q
    omega)
  exact ⟨j, klt h.2, rfl⟩
theorem pair_of {T : mT} {x y : Int32} (hP : T.1 ≤ 8) (h : pairB T x y = true) : ∃ a b, a < T.1 ∧ b < T.1 ∧ a ≠ b ∧ x = nI a ∧ y = nI b := by
  simp only [pairB, Bool.and_eq_true, Bool.not_eq_true', decide_eq_false_iff_not] at h
  obtain ⟨a, ha, rfl⟩ := per_of hP h.1.1
  obtain ⟨b, hb, rfl⟩ := per_of hP h.1.2
  exact ⟨a, b, ha, hb, fun e => h.2 (by rw [e]), rfl, rfl⟩
theorem cho_of {x : Int32} (h : choB x = true) : x = nI 0 ∨ x = nI 1 := by
  simp only [choB, Bool.or_eq_true, decide_eq_true_eq] at h
  exact h
