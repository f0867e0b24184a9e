/-! LeastKnown: the object behind a reading -/
theorem oX.setRead {G : kG} {t : Nat} {s : mS} {h h' : kH} (H : oX G t s h) (hR : oRead G h') (hA : aTown G (65 - t) h') (hF : tfr (65 - t) h h') : oX G t s h' := by
  obtain ⟨ht, h1, ⟨q1, q2, a, q3, q4⟩, h3, h4, h5, h6, h7, h8, h9⟩ := H
  have f0 : kFr 3 6 h (fun j => if 3 ≤ j ∧ j < 6 then h' j else h j) := fun j hj => by
    show (if 3 ≤ j ∧ j < 6 then h' j else h j) = h j
    rw [if_neg (by omega)]
  have f1 : kFr (65 - t) (65 - t + 3) (fun j => if 3 ≤ j ∧ j < 6 then h' j else h j) h' := fun j hj => by
    show h' j = (if 3 ≤ j ∧ j < 6 then h' j else h j)
    by_cases e : 3 ≤ j ∧ j < 6
    · rw [if_pos e]
    · rw [if_neg e]; exact hF j e (by omega)
  refine ⟨ht, (hF 0 (by omega) (by omega)).trans h1, ⟨(hF 1 (by omega) (by omega)).trans q1, q2, a, (hF 2 (by omega) (by omega)).trans q3, q4⟩, hR, (h4.fr f0 (by omega)).fr f1 (by omega), (h5.fr f0 (by omega)).fr f1 (by omega), (h6.fr f0 (by omega)).fr f1 (by omega), (h7.fr f0 (by omega)).fr f1 (by omega), (h8.fr f0 (by omega)).fr f1 (by omega), hA⟩
theorem oX.swap {G : kG} {t : Nat} {s : mS} {h h' : kH} {T : mT} (H : oX G t s h) (hD : oTown G (65 - t) T h) (hO : oMain G (65 - t) s.2.2.2.2.2.2 h') (hF : kFr 0 1 h h') : oX G (65 - t) (s.1, s.2.1, s.2.2.1, s.2.2.2.1, s.2.2.2.2.1, T, s.2.2.2.2.2.2) h' := by
  obtain ⟨ht, h1, h2, h3, h4, h5, h6, h7, h8, h9⟩ := H
  refine ⟨by omega, hO, h2.fr hF (by omega), h3.fr hF (by omega), h4.fr hF (by omega), h5.fr hF (by omega), h6.fr hF (by omega), h7.fr hF (by omega), hD.fr hF (by omega), ?_⟩
  rw [show 65 - (65 - t) = t by omega]
  exact (h8.a).fr hF (by omega)
