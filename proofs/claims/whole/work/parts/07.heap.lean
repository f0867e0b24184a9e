/-! THE RULES OF 'Go' THAT TOUCH THE HEAP, AND CALLS -/
def kW (w : Cond) : Prop := w ∈ lw_tbl ∧ goodWord w = true
/-- the class number ci: its words are there -/
def kCl (ci : Nat) (C : String) (T : u_T) (N : Nat) (ty : Nat → FieldType) : Prop :=
  vwCl[ci]? = some (C, T, N) ∧ (∀ w ∈ u_ws C T N, kW w) ∧ (∀ k, k < N → parseFieldDescriptor (T k).2.2.1 = some (ty k)) ∧ (∀ a, a < N → ∀ b, b < N → a ≠ b → (T a).2.1 ≠ (T b).2.1)
/-- a field instruction of the class own: field k of the class number ci -/
def kGet (own : String) (idx ci k : Nat) : Prop :=
  ∃ (C : String) (T : u_T) (N : Nat) (ty : Nat → FieldType), kCl ci C T N ty ∧ k < N ∧ kW (Cond.fieldLink own idx (T k).1 (T k).2.1 (T k).2.2.1)
def kPut (own name : String) (idx ci k : Nat) (ty0 : FieldType) : Prop :=
  ∃ (C : String) (T : u_T) (N : Nat) (ty : Nat → FieldType), kCl ci C T N ty ∧ k < N ∧ kW (Cond.fieldLink own idx (T k).1 (T k).2.1 (T k).2.2.1) ∧ ty k = ty0 ∧ ((T k).2.2.2 = false ∨ ((T k).2.2.2 = true ∧ name = "<init>" ∧ (T k).1 = own))
section KH
variable {G : kG} {M : kM} {κ z : kZ} {pc nx : Nat} {lv : List (Nat × Value)} {st : List Value} {h : kH} {Q : Option Value → kZ → kH → Prop}
theorem go_getfield {idx ci k i : Nat} {fs : List Value} {v : Value} (ce : kGet M.1.cls idx ci k) (hd : decode M.2.1 pc = .ok (.getfield idx, 3)) (hi : i < z.1) (hh : h i = .inr (ci, fs)) (hv : fs[k]? = some v) (hn : pc + 3 = nx) (kk : Go G M κ nx lv (v :: st) z h Q) : Go G M κ pc lv (.ref (kb G + i) :: st) z h Q := by
  intro p l e R s m args below meth c H locs ls Qm hG hC hW hl hr
  subst hn
  obtain ⟨C, T, N, ty, ⟨hc, hin, -, -⟩, hk, hli⟩ := ce
  obtain ⟨hx, hb, -, hown, -, hWm, -⟩ := id hC
  exact va_get hx hb (Ts := u_ws C T N) (fun w hw => kword hG hWm (hin w hw) args) (fun _ h => h) hown (kK hG hWm) hW.2.1 i (by rw [kws_get hi, hh]) hc k hk (kword hG hWm hli args) (fun _ q => q) hv hd (kk p l e R s m args below meth c H locs ls Qm hG hC hW hl hr)
theorem go_putfield {idx ci k i : Nat} {fs : List Value} {v : Value} {ty0 : FieldType} (ce : kPut M.1.cls M.1.name idx ci k ty0) (hd : decode M.2.1 pc = .ok (.putfield idx, 3)) (hi : i < z.1) (hh : h i = .inr (ci, fs)) (hl0 : k < fs.length) (hty : narrow ty0 v = v ∧ fits ty0 v = true) (hn : pc + 3 = nx) (kk : Go G M κ nx lv st z (hu h i (.inr (ci, fs.set k v))) Q) : Go G M κ pc lv (v :: .ref (kb G + i) :: st) z h Q := by
  intro p l e R s m args below meth c H locs ls Qm hG hC hW hl hr
  subst hn
  obtain ⟨C, T, N, ty, ⟨hc, hin, hpt, hnm⟩, hk, hli, hte, hfin⟩ := ce
  obtain ⟨hx, hb, -, hown, hname, hWm, -⟩ := id hC
  have he : (kws G z.1 h)[i]? = some (kb G + i, .inr (ci, fs)) := by rw [kws_get hi, hh]
  have hd0 : parseFieldDescriptor (T k).2.2.1 = some ty0 := by rw [hpt k hk, hte]
  have kx : ∀ (H1 : Heap) (locs1 : List Loc), H1.size = H.size → va_P G.1 vwCl ((kws G z.1 h).set i (kb G + i, .inr (ci, fs.set k v))) H1 → va_S (kA G) G.2.2.2.heap H1 locs1 → W p l e R s m args below meth c H1 locs1 z.2.1 z.2.2 Qm (F0 m (pc + 3) ls st) := by
    intro H1 locs1 hz hP1 hS1
    rw [kws_set hi] at hP1
    exact kk p l e R s m args below meth c H1 locs1 ls Qm hG hC ⟨hz.trans hW.1, hP1, hS1⟩ hl hr
  have hap := va_apart (own := M.1.cls) (Ts := u_ws C T N) (args := args) (fun w hw => kword hG hWm (hin w hw) args) (fun _ h => h) ty hpt hnm (kK hG hWm) hc
  obtain ⟨r, h1, cell, q1, q2, q3, q4⟩ := hW.2.1 i _ he
  have hr2 : r = (C, T, N) := Option.some.inj (h1.symm.trans hc)
  subst hr2
  obtain ⟨hS, hfc, kC0, hkC, hkind⟩ := (kK hG hWm).1 ci _ hc
  obtain ⟨cf, kf, fi, f, hi2, hsl⟩ := hS k hk
  have hts : ∀ w ∈ u_ws C T N, w.before args s = true := fun w hw => kword hG hWm (hin w hw) args
  have hlay := hts _ (u_in_lay hk)
  have hst := (u_facts hfc hkC (u_lays hts (fun _ h => h) hk) hi2).1
  unfold u_lay at hlay
  rcases hfin with hfin | ⟨hfin, hini, hdecl⟩
  · rw [if_neg (by rw [hfin]; decide)] at hlay
    have h6 := u_store hfc hkC hkind hlay hi2 hd0 hty.1 hty.2
    refine W.putK hx hb (f := f) ⟨hown, kword hG hWm hli args, ⟨_, _, _, hi2⟩, hst⟩ (by rw [q2]; exact h6) q1 q3 (by rw [hsl]; exact k2_hasslot (q4 k hk)) rfl rfl hd fun H' e1 e2 e3 => ?_
    rw [hsl] at e1 ⊢
    exact kx H' _ e2 (hW.2.1.set kws_D he ⟨_, hc, t_OB.to (V := updV (vp_V fs) k v) ⟨_, e1, q2, q3, t_set q4 hap hk v⟩ (fun j _ => vp_updV_set hl0 v j)⟩ e3) (hW.2.2.put e2 e3 (Nat.le_add_right _ _))
  · rw [if_pos hfin] at hlay
    have hcf : m.cls = cf := by
      obtain ⟨_, _, c', _, _, _, -, -, hf', -, -, -, hown2, -⟩ := Cond.laysFinal_spec hlay
      have e1 : c' = cf := by have := hi2.symm.trans hf'; simp at this; exact this.1.symm
      rw [hdecl] at hown2
      rw [← e1]; exact Option.some.inj (hown.symm.trans hown2)
    have h6 := u_fits hfc hkC hkind (Or.inr hlay) hi2 hd0 hty.1 hty.2
    refine W.putFinK hx hb hown (kword hG hWm hli args) hi2 hst hcf (hname.trans hini) (by rw [q2]; exact h6) q1 q3 (by rw [hsl]; exact k2_hasslot (q4 k hk)) rfl rfl hd fun H' e1 e2 e3 => ?_
    rw [hsl] at e1 ⊢
    exact kx H' _ e2 (hW.2.1.set kws_D he ⟨_, hc, t_OB.to (V := updV (vp_V fs) k v) ⟨_, e1, q2, q3, t_set q4 hap hk v⟩ (fun j _ => vp_updV_set hl0 v j)⟩ e3) (hW.2.2.put e2 e3 (Nat.le_add_right _ _))
theorem go_iaload (j : Nat) {i len : Nat} {f : Nat → Int32} {x : Int32} (hd : decode M.2.1 pc = .ok (.iaload, 1)) (hi : i < z.1) (hh : h i = .inl (G.2.1, len, .inl f)) (hx0 : x = nI j) (hj : j < len) (hlen : len < 2 ^ 31) (hn : pc + 1 = nx) (kk : Go G M κ nx lv (.int (f j) :: st) z h Q) : Go G M κ pc lv (.int x :: .ref (kb G + i) :: st) z h Q := by
  intro p l e R s m args below meth c H locs ls Qm hG hC hW hl hr
  subst hn
  subst hx0
  obtain ⟨hx, hb, -, hown, -, hWm, -⟩ := id hC
  have k2 := kk p l e R s m args below meth c H locs ls Qm hG hC hW hl hr
  rw [show f j = f (nI j).toNatClampNeg by rw [nI_clamp (by omega)]] at k2
  exact va_iald hx hb (kK hG hWm) hW.2.1 i 0 (by rw [kws_get hi, hh]) rfl (vp_in_nI hj hlen) hd k2
theorem go_iastore (j : Nat) {i len : Nat} {f : Nat → Int32} {x v : Int32} (hd : decode M.2.1 pc = .ok (.iastore, 1)) (hi : i < z.1) (hh : h i = .inl (G.2.1, len, .inl f)) (hx0 : x = nI j) (hj : j < len) (hlen : len < 2 ^ 31) (hn : pc + 1 = nx) (kk : Go G M κ nx lv st z (hu h i (.inl (G.2.1, len, .inl (upd f j v)))) Q) : Go G M κ pc lv (.int v :: .int x :: .ref (kb G + i) :: st) z h Q := by
  intro p l e R s m args below meth c H locs ls Qm hG hC hW hl hr
  subst hn
  subst hx0
  obtain ⟨hx, hb, -, hown, -, hWm, -⟩ := id hC
  have he : (kws G z.1 h)[i]? = some (kb G + i, .inl (G.2.1, len, .inl f)) := by rw [kws_get hi, hh]
  refine W.iast hx hb (hW.2.1 i _ he) (((kK hG hWm).2 0 _ rfl).1 len (fun j => .int (f j))) (fun q => by cases q) (by show ¬ (nI j < 0 ∨ (arrV _ _ _).slots.size ≤ _); rw [arrV_size]; exact vp_in_nI hj hlen) rfl rfl hd fun H1 e1 e2 e3 => ?_
  refine kk p l e R s m args below meth c H1 _ ls Qm hG hC ⟨e2.trans hW.1, ?_, hW.2.2.put e2 e3 (Nat.le_add_right _ _)⟩ hl hr
  rw [← kws_set hi]
  refine hW.2.1.set kws_D he ?_ e3
  show H1[kb G + i]? = some (vp_cell _ _)
  rw [e1, vp_cell_i, vp_cell_i, arrV_store, nI_clamp (by omega)]
  congr 2
  funext q
  by_cases hq : q = j
  · subst hq
    simp [updV, upd]
  · simp [updV, upd, hq]
theorem go_baload (j : Nat) {i len : Nat} {f : Nat → Int32} {x : Int32} (hd : decode M.2.1 pc = .ok (.baload, 1)) (hi : i < z.1) (hh : h i = .inl (G.2.2.1, len, .inl f)) (hx0 : x = nI j) (hj : j < len) (hlen : len < 2 ^ 31) (hn : pc + 1 = nx) (kk : Go G M κ nx lv (.int (f j) :: st) z h Q) : Go G M κ pc lv (.int x :: .ref (kb G + i) :: st) z h Q := by
  intro p l e R s m args below meth c H locs ls Qm hG hC hW hl hr
  subst hn
  subst hx0
  obtain ⟨hx, hb, -, hown, -, hWm, -⟩ := id hC
  have k2 := kk p l e R s m args below meth c H locs ls Qm hG hC hW hl hr
  rw [show f j = f (nI j).toNatClampNeg by rw [nI_clamp (by omega)]] at k2
  exact va_zald hx hb (kK hG hWm) hW.2.1 i 1 (by rw [kws_get hi, hh]) rfl (vp_in_nI hj hlen) hd k2
theorem go_bastore (j : Nat) {i len : Nat} {f : Nat → Int32} {x v : Int32} (hd : decode M.2.1 pc = .ok (.bastore, 1)) (hi : i < z.1) (hh : h i = .inl (G.2.2.1, len, .inl f)) (hx0 : x = nI j) (hj : j < len) (hlen : len < 2 ^ 31) (hv : narrow .boolean (.int v) = .int v) (hn : pc + 1 = nx) (kk : Go G M κ nx lv st z (hu h i (.inl (G.2.2.1, len, .inl (upd f j v)))) Q) : Go G M κ pc lv (.int v :: .int x :: .ref (kb G + i) :: st) z h Q := by
  intro p l e R s m args below meth c H locs ls Qm hG hC hW hl hr
  subst hn
  subst hx0
  obtain ⟨hx, hb, -, hown, -, hWm, -⟩ := id hC
  have he : (kws G z.1 h)[i]? = some (kb G + i, .inl (G.2.2.1, len, .inl f)) := by rw [kws_get hi, hh]
  refine W.zast hx hb (hW.2.1 i _ he) (((kK hG hWm).2 1 _ rfl).1 len (fun j => .int (f j))) (fun q => by cases q) (by show ¬ (nI j < 0 ∨ (arrV _ _ _).slots.size ≤ _); rw [arrV_size]; exact vp_in_nI hj hlen) rfl rfl hd fun H1 e1 e2 e3 => ?_
  refine kk p l e R s m args below meth c H1 _ ls Qm hG hC ⟨e2.trans hW.1, ?_, hW.2.2.put e2 e3 (Nat.le_add_right _ _)⟩ hl hr
  rw [← kws_set hi]
  refine hW.2.1.set kws_D he ?_ e3
  show H1[kb G + i]? = some (vp_cell _ _)
  rw [e1, vp_cell_i, vp_cell_i, arrV_store, nI_clamp (by omega)]
  congr 2
  funext q
  by_cases hq : q = j
  · subst hq
    simp [updV, upd, hv]
  · simp [updV, upd, hq]
theorem go_arraylength {i len : Nat} {f : Nat → Int32} {v : Int32} (hd : decode M.2.1 pc = .ok (.arraylength, 1)) (hi : i < z.1) (hh : h i = .inl (G.2.1, len, .inl f)) (hv : nI len = v) (hn : pc + 1 = nx) (kk : Go G M κ nx lv (.int v :: st) z h Q) : Go G M κ pc lv (.ref (kb G + i) :: st) z h Q := by
  intro p l e R s m args below meth c H locs ls Qm hG hC hW hl hr
  subst hn
  obtain ⟨hx, hb, -, hown, -, hWm, -⟩ := id hC
  exact va_alen (x := (len, .inl f)) hx hb (kK hG hWm) hW.2.1 i 0 (by rw [kws_get hi, hh]) rfl hv hd (kk p l e R s m args below meth c H locs ls Qm hG hC hW hl hr)
/-- a class that an instruction makes -/
def kNew (own : String) (idx ci : Nat) (N : Nat) (fs : List Value) : Prop :=
  ∃ (C : String) (T : u_T) (ty : Nat → FieldType), kCl ci C T N ty ∧ kW (Cond.classLink own idx C) ∧ kW (Cond.instantiable C N) ∧ kW (Cond.initialized C) ∧ ∀ j, j < N → defaultValue (ty j) = vp_V fs j
theorem go_new {idx ci N : Nat} {fs : List Value} (ce : kNew M.1.cls idx ci N fs) (hd : decode M.2.1 pc = .ok (.new idx, 3)) (hc1 : z.2.1 + 1 ≤ κ.2.1) (hs1 : z.2.2 + N ≤ κ.2.2) (hn : pc + 3 = nx) (kk : Go G M κ nx lv (.ref (kb G + z.1) :: st) (z.1 + 1, z.2.1 + 1, z.2.2 + N) (hu h z.1 (.inr (ci, fs))) Q) : Go G M κ pc lv st z h Q := by
  intro p l e R s m args below meth c H locs ls Qm hG hC hW hl hr
  subst hn
  obtain ⟨C, T, ty, ⟨hc, hin, hpt, hnm⟩, hcl, hinst, hini, hfs⟩ := ce
  obtain ⟨hx, hb, -, hown, hname, hWm, -, -, hrc, hrs⟩ := id hC
  have hKn := (kK hG hWm).1 ci _ hc
  refine W.newcK hx hb hown (kword hG hWm hcl args) (kword hG hWm hinst args) (kword hG hWm hini args) rfl hd (by omega) (by omega) hKn.2.1 hW.1 fun H1 kC0 hkC e1 z1 o1 => ?_
  have hk : ∀ (k : Nat) (x : Nat × va_E), (kws G z.1 h)[k]? = some x → H1[x.1]? = H[x.1]? := fun k x hx => o1 x.1 (by have := (hW.2.1 k x hx).lt; rw [hW.1] at this; exact this)
  have hP1 : va_P G.1 vwCl (kws G (z.1 + 1) (hu h z.1 (.inr (ci, fs)))) H1 := by
    rw [← kws_push]
    refine (hW.2.1.kept hk).app (fun k x hx => ?_)
    have hz : k < 1 := (List.getElem?_eq_some_iff.mp hx).1
    rw [show k = 0 by omega] at hx
    cases hx
    exact ⟨_, hc, (u_born ty (ws := u_ws C T N) (fun w hw => kword hG hWm (hin w hw) args) (fun _ h => h) hKn hkC e1 hpt).to hfs⟩
  have hS := hW.2.2
  have hB : kb G = G.2.2.2.heap.size := rfl
  exact kk p l e R s m args below meth c H1 locs ls Qm hG hC ⟨by rw [z1]; show _ = kb G + (z.1 + 1); omega, hP1, Nat.le_trans hS.1 (by have := hW.1; omega), fun x h1 h2 => (o1 x (by omega)).trans (hS.2.1 x h1 h2), hS.2.2⟩ hl hr
theorem go_newarray {at0 : ArrayType} {ty : FieldType} {cA : ClassId} {n : Int32} (N : Nat) (hat : newarray.typeOf at0 = ty) (hca : (ty = .int ∧ cA = G.2.1) ∨ (ty = .boolean ∧ cA = G.2.2.1)) (hw : kW (Cond.arrayClass ty)) (hd : decode M.2.1 pc = .ok (.newarray at0, 2)) (hn0 : n = nI N) (hN : N ≤ 100000) (hc1 : z.2.1 + 1 ≤ κ.2.1) (hs1 : z.2.2 + N ≤ κ.2.2) (hn : pc + 2 = nx) (kk : Go G M κ nx lv (.ref (kb G + z.1) :: st) (z.1 + 1, z.2.1 + 1, z.2.2 + N) (hu h z.1 (.inl (cA, N, .inl fun _ => 0))) Q) : Go G M κ pc lv (.int n :: st) z h Q := by
  intro p l e R s m args below meth c H locs ls Qm hG hC hW hl hr
  subst hn
  subst hat
  subst hn0
  obtain ⟨hx, hb, -, hown, hname, hWm, -, -, hrc, hrs⟩ := id hC
  have hbytes : N * componentBytes (newarray.typeOf at0) ≤ 536870912 := by
    have h8 : componentBytes (newarray.typeOf at0) ≤ 8 := by cases at0 <;> decide
    calc N * componentBytes (newarray.typeOf at0) ≤ 100000 * 8 := Nat.mul_le_mul hN h8
      _ ≤ _ := by decide
  refine va_newaK hx hb (kword hG hWm hw args) rfl hd rfl (nI_pos (by omega)) (nI_clamp (by omega)) hbytes (by omega) (by omega) hW.1 fun H1 cA' e1 z1 o1 hAr hNm => ?_
  have hk : ∀ (k : Nat) (x : Nat × va_E), (kws G z.1 h)[k]? = some x → H1[x.1]? = H[x.1]? := fun k x hx => o1 x.1 (by have := (hW.2.1 k x hx).lt; rw [hW.1] at this; exact this)
  have hcell : H1[kb G + z.1]? = some (vp_cell cA (N, .inl fun _ => 0)) := by
    rw [e1, vp_cell_i]
    have hf := hWm.alike
    rcases hca with ⟨h1, h2⟩ | ⟨h1, h2⟩
    · have h3 := hG.2.2.1
      rw [← hf.findClass, ← h1, hNm] at h3
      rw [h2, ← Option.some.inj h3, h1]
      rfl
    · have h3 := hG.2.2.2
      rw [← hf.findClass, ← h1, hNm] at h3
      rw [h2, ← Option.some.inj h3, h1]
      rfl
  have hP1 : va_P G.1 vwCl (kws G (z.1 + 1) (hu h z.1 (.inl (cA, N, .inl fun _ => 0)))) H1 := by
    rw [← kws_push]
    refine (hW.2.1.kept hk).app (fun k x hx => ?_)
    have hz : k < 1 := (List.getElem?_eq_some_iff.mp hx).1
    rw [show k = 0 by omega] at hx
    cases hx
    exact hcell
  have hS := hW.2.2
  have hB : kb G = G.2.2.2.heap.size := rfl
  exact kk p l e R s m args below meth c H1 locs ls Qm hG hC ⟨by rw [z1]; show _ = kb G + (z.1 + 1); omega, hP1, Nat.le_trans hS.1 (by have := hW.1; omega), fun x h1 h2 => (o1 x (by omega)).trans (hS.2.1 x h1 h2), hS.2.2⟩ hl hr
end KH
/-! CALLS -/
/-- what is known of a method that is called, n parameters -/
def kMe (M : kM) (n : Nat) : Prop := kW (Cond.code M.1 M.2.1 M.2.2.1 M.2.2.2) ∧ kW (Cond.initialized M.1.cls) ∧ (M.1.cls ≠ "java/lang/invoke/MethodHandle" ∧ M.1.cls ≠ "java/lang/invoke/VarHandle" ∧ (parseMethodDescriptor M.1.desc).map (fun d => d.parameters.length) = some n) ∧ M.2.2.1 ≤ 20
def kCS (own : String) (idx : Nat) (M : kM) (n : Nat) : Prop := kMe M n ∧ kW (Cond.methodLink own idx M.1) ∧ kW (Cond.static M.1)
def kCV (own : String) (idx : Nat) (M : kM) (n : Nat) : Prop := kMe M n ∧ kW (Cond.methodLink own idx M.1) ∧ kW (Cond.instanceMethod M.1) ∧ kW (Cond.selects M.1.cls M.1 M.1)
def kCI (own : String) (idx : Nat) (M : kM) (n : Nat) : Prop := kMe M n ∧ kW (Cond.methodLink own idx M.1) ∧ kW (Cond.instanceMethod M.1) ∧ M.1.name = "<init>" ∧ M.2.2.2 = none
def kCSN (own : String) (idx : Nat) (M : kM) (n : Nat) : Prop := kMe M n ∧ (∃ host, Cond.methodLinkNest own idx M.1 host ∈ lw_tbl) ∧ kW (Cond.static M.1)
def kCIN (own : String) (idx : Nat) (M : kM) (n : Nat) : Prop := kMe M n ∧ (∃ host, Cond.methodLinkNest own idx M.1 host ∈ lw_tbl) ∧ kW (Cond.instanceMethod M.1) ∧ M.1.name = "<init>" ∧ M.2.2.2 = none
section KCALL
variable {G : kG} {M M' : kM} {κ κ' z : kZ} {pc nx idx na : Nat} {lv : List (Nat × Value)} {st rest : List Value} {h : kH} {Q : Option Value → kZ → kH → Prop} {Q' : Option Value → Nat → kH → Prop}
def kPreC (G : kG) (as : List Value) (n : Nat) (h : kH) : Array Value → State → Prop := fun v U => v = as.toArray ∧ G.2.2.2.WarmedH U.vm ∧ kWd G n h U.heap []
def kPostC (G : kG) (Q : Option Value → Nat → kH → Prop) : Array Value → State → Outcome → State → Prop := fun _ _ o t => ∃ (r : Option Value) (n' : Nat) (h' : kH), o = .returned r ∧ Q r n' h' ∧ kWd G n' h' t.heap []
theorem kPreC.blind {as : List Value} {n : Nat} : FrameBlind (kPreC G as n h) := fun _ _ _ _ q => q
theorem kBoth {as : List Value} {s : State} {H : Heap} {locs : List Loc} {n : Nat} (hWm : G.2.2.2.WarmedH s.vm) (hW : kWd G n h H locs) : ∀ U : State, U.heap = H → s.WarmedH U.vm → kPreC G as n h as.toArray U := fun U hU hW2 => ⟨rfl, State.WarmedH.trans hWm hW2, by rw [hU]; exact hW.noLocs⟩
/-- behind a call -/
theorem kBehind {p : Program} {l : Launch} {e : Env} {R : Room} {s : State} {m : MethodId} {args : Array Value} {below : List Frame} {meth : Method} {c : Code} {H : Heap} {locs : List Loc} {ls : Array Slot} {Qm : State → Prop} {a : Array Value} {mc ms cells slots n : Nat}
    (hr : va_Run p l e R s m args below meth c H locs cells slots mc ms (F0 m pc ls st) rest (kPostC G Q' a) (kA G)) (hW : kWd G n h H locs)
    (kk : ∀ (r : Option Value) (n' : Nat) (h' : kH) (H' : Heap) (locs' : List Loc), Q' r n' h' → kWd G n' h' H' locs' → W p l e R s m args below meth c H' locs' (cells + mc) (slots + ms) Qm (F0 m (pc + 3) ls (r.toList ++ rest))) :
    W p l e R s m args below meth c H locs cells slots Qm (F0 m pc ls st) := by
  intro T hT X
  obtain ⟨v, st₀, t, T', L, h0, X', hL, e1, e2, ⟨r, n', h', hv, hQ, hWd⟩, hst⟩ := hr T hT X
  cases hv
  obtain ⟨t2, a1, b1⟩ := kk v n' h' T'.heap (locs ++ L) hQ (by
    rw [e1]
    refine ⟨hWd.1, hWd.2.1, hWd.2.2.1, hWd.2.2.2.1, fun q hq => ?_⟩
    rcases List.mem_append.mp hq with h | h
    · exact hW.2.2.2.2 q h
    · exact hL q h) T' rfl X'
  exact ⟨t2, hst t2 a1, b1⟩
theorem kCallB {R : Room} {s : State} {args : Array Value} {own : String} (hG : kOK G) (hWm : G.2.2.2.WarmedH s.vm) (me : kMe M' na) (hκ : κ'.1 + 1 ≤ κ.1) (hfr : κ.1 + 1 ≤ R.frames) (hlo : 40 * (κ.1 + 1) ≤ R.locals) (hl : kW (Cond.methodLink own idx M'.1)) :
    CallB R s args own idx M'.1 M'.2.1 M'.2.2.1 M'.2.2.2 [Cond.code M'.1 M'.2.1 M'.2.2.1 M'.2.2.2] ({ frames := κ'.1 + 1, cells := κ'.2.1, slots := κ'.2.2, locals := 40 * (κ'.1 + 1) } : Room) κ'.2.1 κ'.2.2 na := by
  obtain ⟨hco, hin, ⟨h1, h2, h3⟩, hmx⟩ := me
  refine ⟨rfl, rfl, by show κ'.1 + 1 + 1 ≤ _; omega, by show 8 + (M'.2.2.1 + 11) + 40 * (κ'.1 + 1) ≤ _; omega, fun w hw a' U hU => ?_, List.mem_cons_self, kword hG hWm hco args, kword hG hWm hin args, ⟨h1, h2⟩, fun sig h => ?_, kword hG hWm hl args⟩
  · rcases List.mem_cons.mp hw with rfl | hw
    · exact kword hG (State.WarmedH.trans hWm hU) hco a'
    · cases hw
  · rw [h] at h3
    exact (Option.some.inj h3).symm
theorem kCallN {R : Room} {s : State} {args : Array Value} {own host : String} (hG : kOK G) (hWm : G.2.2.2.WarmedH s.vm) (me : kMe M' na) (hκ : κ'.1 + 1 ≤ κ.1) (hfr : κ.1 + 1 ≤ R.frames) (hlo : 40 * (κ.1 + 1) ≤ R.locals) (hl : Cond.methodLinkNest own idx M'.1 host ∈ lw_tbl) :
    va_CN R s args own idx M'.1 host M'.2.1 M'.2.2.1 M'.2.2.2 [Cond.code M'.1 M'.2.1 M'.2.2.1 M'.2.2.2] ({ frames := κ'.1 + 1, cells := κ'.2.1, slots := κ'.2.2, locals := 40 * (κ'.1 + 1) } : Room) κ'.2.1 κ'.2.2 na := by
  obtain ⟨hco, hin, ⟨h1, h2, h3⟩, hmx⟩ := me
  refine ⟨⟨rfl, rfl, by show κ'.1 + 1 + 1 ≤ _; omega, by show 8 + (M'.2.2.1 + 11) + 40 * (κ'.1 + 1) ≤ _; omega, fun w hw a' U hU => ?_, List.mem_cons_self⟩, kword hG hWm hco args, kword hG hWm hin args, ⟨h1, h2⟩, fun sig h => ?_, va_Nw.use rfl (kwordN hG hWm hl)⟩
  · rcases List.mem_cons.mp hw with rfl | hw
    · exact kword hG (State.WarmedH.trans hWm hU) hco a'
    · cases hw
  · rw [h] at h3
    exact (Option.some.inj h3).symm
theorem go_callS (as : List Value) (ce : kCS M.1.cls idx M' na) (hsp : Sp G M' κ' as z.1 h Q') (hd : decode M.2.1 pc = .ok (.invokestatic idx, 3)) (hst : st = as.reverse ++ rest) (hna : as.length = na) (hcat : (rest.map fun v => v.category).sum ≤ 8) (hκ : κ'.1 + 1 ≤ κ.1 ∧ z.2.1 + κ'.2.1 ≤ κ.2.1 ∧ z.2.2 + κ'.2.2 ≤ κ.2.2) (hn : pc + 3 = nx)
    (kk : ∀ r n' h', Q' r n' h' → Go G M κ nx lv (r.toList ++ rest) (n', z.2.1 + κ'.2.1, z.2.2 + κ'.2.2) h' Q) : Go G M κ pc lv st z h Q := by
  intro p l e R s m args below meth c H locs ls Qm hG hC hW hl hr
  subst hn
  subst hst
  obtain ⟨hx, hb, hml, hown, hname, hWm, hfr, hlo, hrc, hrs⟩ := id hC
  refine kBehind (va_runS (own := M.1.cls) (Ts := []) ⟨hx, hb, hml, hown, fun _ h => by cases h⟩ (hsp l hG) ⟨kCallB (κ := κ) hG hWm ce.1 hκ.1 hfr hlo ce.2.1, kword hG hWm ce.2.2 args⟩ ⟨kPreC.blind, kBoth hWm hW⟩ rfl hna hl.1 rfl (lv_room hcat) hd ⟨Nat.le_trans hκ.2.1 hrc, Nat.le_trans hκ.2.2 hrs⟩) hW fun r n' h' H' locs' hQ hW' => ?_
  exact kk r n' h' hQ p l e R s m args below meth c H' locs' ls Qm hG hC hW' hl hr
theorem go_callSN (as : List Value) (ce : kCSN M.1.cls idx M' na) (hsp : Sp G M' κ' as z.1 h Q') (hd : decode M.2.1 pc = .ok (.invokestatic idx, 3)) (hst : st = as.reverse ++ rest) (hna : as.length = na) (hcat : (rest.map fun v => v.category).sum ≤ 8) (hκ : κ'.1 + 1 ≤ κ.1 ∧ z.2.1 + κ'.2.1 ≤ κ.2.1 ∧ z.2.2 + κ'.2.2 ≤ κ.2.2) (hn : pc + 3 = nx)
    (kk : ∀ r n' h', Q' r n' h' → Go G M κ nx lv (r.toList ++ rest) (n', z.2.1 + κ'.2.1, z.2.2 + κ'.2.2) h' Q) : Go G M κ pc lv st z h Q := by
  intro p l e R s m args below meth c H locs ls Qm hG hC hW hl hr
  subst hn
  subst hst
  obtain ⟨hx, hb, hml, hown, hname, hWm, hfr, hlo, hrc, hrs⟩ := id hC
  obtain ⟨me, ⟨host, hli⟩, hsta⟩ := ce
  refine kBehind (va_runSN (own := M.1.cls) (Ts := []) ⟨hx, hb, hml, hown, fun _ h => by cases h⟩ (hsp l hG) ⟨kCallN (κ := κ) hG hWm me hκ.1 hfr hlo hli, kword hG hWm hsta args, trivial⟩ ⟨kPreC.blind, kBoth hWm hW⟩ rfl hna hl.1 rfl (lv_room hcat) hd ⟨Nat.le_trans hκ.2.1 hrc, Nat.le_trans hκ.2.2 hrs⟩) hW fun r n' h' H' locs' hQ hW' => ?_
  exact kk r n' h' hQ p l e R s m args below meth c H' locs' ls Qm hG hC hW' hl hr
theorem go_callV {ci i : Nat} {fs : List Value} (as : List Value) (ce : kCV M.1.cls idx M' na) (hcl : ∃ T N, vwCl[ci]? = some (M'.1.cls, T, N)) (hi : i < z.1) (hh : h i = .inr (ci, fs)) (hsp : Sp G M' κ' (.ref (kb G + i) :: as) z.1 h Q') (hd : decode M.2.1 pc = .ok (.invokevirtual idx, 3)) (hst : st = as.reverse ++ .ref (kb G + i) :: rest) (hna : as.length = na) (hcat : (rest.map fun v => v.category).sum ≤ 8) (hκ : κ'.1 + 1 ≤ κ.1 ∧ z.2.1 + κ'.2.1 ≤ κ.2.1 ∧ z.2.2 + κ'.2.2 ≤ κ.2.2) (hn : pc + 3 = nx)
    (kk : ∀ r n' h', Q' r n' h' → Go G M κ nx lv (r.toList ++ rest) (n', z.2.1 + κ'.2.1, z.2.2 + κ'.2.2) h' Q) : Go G M κ pc lv st z h Q := by
  intro p l e R s m args below meth c H locs ls Qm hG hC hW hl hr
  subst hn
  subst hst
  obtain ⟨hx, hb, hml, hown, hname, hWm, hfr, hlo, hrc, hrs⟩ := id hC
  obtain ⟨me, hli, hin, hse⟩ := ce
  obtain ⟨T0, N0, hcl⟩ := hcl
  refine kBehind (va_runV (own := M.1.cls) (C := M'.1.cls) (Ts := []) ⟨hx, hb, hml, hown, fun _ h => by cases h⟩ (hsp l hG) ⟨kCallB (κ := κ) hG hWm me hκ.1 hfr hlo hli, kword hG hWm hin args, kword hG hWm hse args⟩ ⟨kPreC.blind, va_recv (kK hG hWm) hW.2.1 hcl (by rw [kws_get hi, hh]), kBoth hWm hW⟩ rfl hna hl.1 rfl (lv_room hcat) hd ⟨Nat.le_trans hκ.2.1 hrc, Nat.le_trans hκ.2.2 hrs⟩) hW fun r n' h' H' locs' hQ hW' => ?_
  exact kk r n' h' hQ p l e R s m args below meth c H' locs' ls Qm hG hC hW' hl hr
theorem go_callI {i : Nat} (as : List Value) (ce : kCI M.1.cls idx M' na) (hsp : Sp G M' κ' (.ref (kb G + i) :: as) z.1 h Q') (hd : decode M.2.1 pc = .ok (.invokespecial idx, 3)) (hst : st = as.reverse ++ .ref (kb G + i) :: rest) (hna : as.length = na) (hcat : (rest.map fun v => v.category).sum ≤ 8) (hκ : κ'.1 + 1 ≤ κ.1 ∧ z.2.1 + κ'.2.1 ≤ κ.2.1 ∧ z.2.2 + κ'.2.2 ≤ κ.2.2) (hn : pc + 3 = nx)
    (kk : ∀ r n' h', Q' r n' h' → Go G M κ nx lv (r.toList ++ rest) (n', z.2.1 + κ'.2.1, z.2.2 + κ'.2.2) h' Q) : Go G M κ pc lv st z h Q := by
  intro p l e R s m args below meth c H locs ls Qm hG hC hW hl hr
  subst hn
  subst hst
  obtain ⟨hx, hb, hml, hown, hname, hWm, hfr, hlo, hrc, hrs⟩ := id hC
  obtain ⟨me, hli, hin, hini, hno⟩ := ce
  have cb := kCallB (R := R) (s := s) (args := args) (own := M.1.cls) (idx := idx) (κ := κ) (κ' := κ') hG hWm me hκ.1 hfr hlo hli
  have hM := hsp l hG
  rw [hno] at cb hM
  refine kBehind (va_runI (own := M.1.cls) (Ts := []) ⟨hx, hb, hml, hown, fun _ h => by cases h⟩ hM ⟨cb, hini, kword hG hWm hin args⟩ ⟨kPreC.blind, kBoth hWm hW⟩ rfl hna hl.1 rfl (lv_room hcat) hd ⟨Nat.le_trans hκ.2.1 hrc, Nat.le_trans hκ.2.2 hrs⟩) hW fun r n' h' H' locs' hQ hW' => ?_
  exact kk r n' h' hQ p l e R s m args below meth c H' locs' ls Qm hG hC hW' hl hr
theorem go_callIN {i : Nat} (as : List Value) (ce : kCIN M.1.cls idx M' na) (hsp : Sp G M' κ' (.ref (kb G + i) :: as) z.1 h Q') (hd : decode M.2.1 pc = .ok (.invokespecial idx, 3)) (hst : st = as.reverse ++ .ref (kb G + i) :: rest) (hna : as.length = na) (hcat : (rest.map fun v => v.category).sum ≤ 8) (hκ : κ'.1 + 1 ≤ κ.1 ∧ z.2.1 + κ'.2.1 ≤ κ.2.1 ∧ z.2.2 + κ'.2.2 ≤ κ.2.2) (hn : pc + 3 = nx)
    (kk : ∀ r n' h', Q' r n' h' → Go G M κ nx lv (r.toList ++ rest) (n', z.2.1 + κ'.2.1, z.2.2 + κ'.2.2) h' Q) : Go G M κ pc lv st z h Q := by
  intro p l e R s m args below meth c H locs ls Qm hG hC hW hl hr
  subst hn
  subst hst
  obtain ⟨hx, hb, hml, hown, hname, hWm, hfr, hlo, hrc, hrs⟩ := id hC
  obtain ⟨me, ⟨host, hli⟩, hin, hini, hno⟩ := ce
  have cb := kCallN (R := R) (s := s) (args := args) (own := M.1.cls) (idx := idx) (κ := κ) (κ' := κ') hG hWm me hκ.1 hfr hlo hli
  have hM := hsp l hG
  rw [hno] at cb hM
  refine kBehind (va_runIN (own := M.1.cls) (Ts := []) ⟨hx, hb, hml, hown, fun _ h => by cases h⟩ hM ⟨cb, hini, kword hG hWm hin args⟩ ⟨kPreC.blind, kBoth hWm hW⟩ rfl hna hl.1 rfl (lv_room hcat) hd ⟨Nat.le_trans hκ.2.1 hrc, Nat.le_trans hκ.2.2 hrs⟩) hW fun r n' h' H' locs' hQ hW' => ?_
  exact kk r n' h' hQ p l e R s m args below meth c H' locs' ls Qm hG hC hW' hl hr
/-- Object.<init> -/
theorem go_objInit {a : Nat} (hli : kW (Cond.methodLink M.1.cls idx Lib.objectInit) ∧ kW (Cond.instanceMethod Lib.objectInit) ∧ kW (Cond.code Lib.objectInit ⟨#[0xb1]⟩ 1 none)) (hd : decode M.2.1 pc = .ok (.invokespecial idx, 3)) (hcat : (st.map fun v => v.category).sum ≤ 8) (hn : pc + 3 = nx) (kk : Go G M κ nx lv st z h Q) : Go G M κ pc lv (.ref a :: st) z h Q := by
  intro p l e R s m args below meth c H locs ls Qm hG hC hW hl hr
  subst hn
  obtain ⟨hx, hb, hml, hown, hname, hWm, hfr, hlo, hrc, hrs⟩ := id hC
  exact W.objInit hx hb hown (kword hG hWm hli.1 args) (kword hG hWm hli.2.1 args) (kword hG hWm hli.2.2 args) rfl (hl.1.trans hml.symm) rfl hd (by omega) (by have := lv_room (m := m) (pc := pc) (ls := ls) (rest := .ref a :: st) hcat; omega) (kk p l e R s m args below meth c H locs ls Qm hG hC hW hl hr)
end KCALL
