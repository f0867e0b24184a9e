/-! CONTRACTS OF METHODS THAT MAKE NOTHING; heap rules with a fresh heap -/
def Sp0 (G : kG) (M : kM) (k : Nat) (as : List Value) (n : Nat) (h : kH) (Q : Option Value → kH → Prop) : Prop := Sp G M (k, 0, 0) as n h (fun r n' h' => n' = n ∧ Q r h')
def kQ (M : kM) (z : kZ) (Q : Option Value → kH → Prop) : Option Value → kZ → kH → Prop := fun r z' h' => z' = z ∧ kTy M r ∧ Q r h'
theorem Sp0.of {G : kG} {M : kM} {k : Nat} {as : List Value} {n : Nat} {h : kH} {Q : Option Value → kH → Prop} (hy : plainName M.1.cls = true) (hlen : (lg_sl as).length ≤ M.2.2.1)
    (H : Go G M (k, 0, 0) 0 (lv_args 0 as) [] (n, 0, 0) h (kQ M (n, 0, 0) Q)) : Sp0 G M k as n h Q := by
  refine Sp.of hy hlen (H.mono ?_)
  rintro r z' h' ⟨rfl, h2, h3⟩
  exact ⟨Nat.le_refl _, Nat.le_refl _, h2, rfl, h3⟩
theorem Sp0.mono {G : kG} {M : kM} {k : Nat} {as : List Value} {n : Nat} {h : kH} {Q Q' : Option Value → kH → Prop} (H : Sp0 G M k as n h Q) (hq : ∀ r h', Q r h' → Q' r h') : Sp0 G M k as n h Q' :=
  Sp.mono H (fun r n' h' q => ⟨q.1, hq _ _ q.2⟩)
/-- what stands outside of [lo, hi) stays -/
def kFr (lo hi : Nat) (h h' : kH) : Prop := ∀ j, (j < lo ∨ hi ≤ j) → h' j = h j
theorem kFr.rf {lo hi : Nat} {h : kH} : kFr lo hi h h := fun _ _ => rfl
theorem kFr.tr {lo hi : Nat} {h h1 h2 : kH} (a : kFr lo hi h h1) (b : kFr lo hi h1 h2) : kFr lo hi h h2 := fun j hj => (b j hj).trans (a j hj)
theorem kFr.wide {lo hi lo' hi' : Nat} {h h1 : kH} (a : kFr lo hi h h1) (u : lo' ≤ lo) (v : hi ≤ hi') : kFr lo' hi' h h1 := fun j hj => a j (by omega)
section K0
variable {G : kG} {M M' : kM} {κ : kZ} {n cs sl : Nat} {k' pc nx idx na : Nat} {lv : List (Nat × Value)} {st rest : List Value} {h : kH} {Q : Option Value → kZ → kH → Prop} {Q' : Option Value → kH → Prop}
theorem go_gf {ci k i : Nat} {fs : List Value} {v : Value} (ce : kGet M.1.cls idx ci k) (hd : decode M.2.1 pc = .ok (.getfield idx, 3)) (hi : i < n) (hh : h i = .inr (ci, fs)) (hv : fs[k]? = some v) (hn : pc + 3 = nx) (kk : Go G M κ nx lv (v :: st) (n, cs, sl) h Q) : Go G M κ pc lv (.ref (kb G + i) :: st) (n, cs, sl) h Q :=
  go_getfield ce hd hi hh hv hn kk
theorem go_pf {ci k i : Nat} {fs fs' : List Value} {v : Value} {ty0 : FieldType} (ce : kPut M.1.cls M.1.name idx ci k ty0) (hd : decode M.2.1 pc = .ok (.putfield idx, 3)) (hi : i < n) (hh : h i = .inr (ci, fs)) (hl0 : k < fs.length) (hty : narrow ty0 v = v ∧ fits ty0 v = true) (hfs : fs.set k v = fs') (hn : pc + 3 = nx)
    (kk : ∀ h' : kH, h' i = .inr (ci, fs') → (∀ j, j ≠ i → h' j = h j) → Go G M κ nx lv st (n, cs, sl) h' Q) : Go G M κ pc lv (v :: .ref (kb G + i) :: st) (n, cs, sl) h Q := by
  subst hfs
  exact go_putfield ce hd hi hh hl0 hty hn (kk _ (hu_self _ _ _) fun _ hj => hu_ne _ _ hj)
theorem go_ial (j : Nat) {i len : Nat} {f : Nat → Int32} {x : Int32} (hd : decode M.2.1 pc = .ok (.iaload, 1)) (hi : i < n) (hh : h i = .inl (G.2.1, len, .inl f)) (hx0 : x = nI j) (hj : j < len) (hlen : len < 2 ^ 31) (hn : pc + 1 = nx) (kk : Go G M κ nx lv (.int (f j) :: st) (n, cs, sl) h Q) : Go G M κ pc lv (.int x :: .ref (kb G + i) :: st) (n, cs, sl) h Q :=
  go_iaload j hd hi hh hx0 hj hlen hn kk
theorem go_bal (j : Nat) {i len : Nat} {f : Nat → Int32} {x : Int32} (hd : decode M.2.1 pc = .ok (.baload, 1)) (hi : i < n) (hh : h i = .inl (G.2.2.1, len, .inl f)) (hx0 : x = nI j) (hj : j < len) (hlen : len < 2 ^ 31) (hn : pc + 1 = nx) (kk : Go G M κ nx lv (.int (f j) :: st) (n, cs, sl) h Q) : Go G M κ pc lv (.int x :: .ref (kb G + i) :: st) (n, cs, sl) h Q :=
  go_baload j hd hi hh hx0 hj hlen hn kk
theorem go_ias (j : Nat) {i len : Nat} {f : Nat → Int32} {x v : Int32} (hd : decode M.2.1 pc = .ok (.iastore, 1)) (hi : i < n) (hh : h i = .inl (G.2.1, len, .inl f)) (hx0 : x = nI j) (hj : j < len) (hlen : len < 2 ^ 31) (hn : pc + 1 = nx)
    (kk : ∀ h' : kH, h' i = .inl (G.2.1, len, .inl (upd f j v)) → (∀ j', j' ≠ i → h' j' = h j') → Go G M κ nx lv st (n, cs, sl) h' Q) : Go G M κ pc lv (.int v :: .int x :: .ref (kb G + i) :: st) (n, cs, sl) h Q :=
  go_iastore j hd hi hh hx0 hj hlen hn (kk _ (hu_self _ _ _) fun _ hj => hu_ne _ _ hj)
theorem go_bas (j : Nat) {i len : Nat} {f : Nat → Int32} {x v : Int32} (hd : decode M.2.1 pc = .ok (.bastore, 1)) (hi : i < n) (hh : h i = .inl (G.2.2.1, len, .inl f)) (hx0 : x = nI j) (hj : j < len) (hlen : len < 2 ^ 31) (hv : narrow .boolean (.int v) = .int v) (hn : pc + 1 = nx)
    (kk : ∀ h' : kH, h' i = .inl (G.2.2.1, len, .inl (upd f j v)) → (∀ j', j' ≠ i → h' j' = h j') → Go G M κ nx lv st (n, cs, sl) h' Q) : Go G M κ pc lv (.int v :: .int x :: .ref (kb G + i) :: st) (n, cs, sl) h Q :=
  go_bastore j hd hi hh hx0 hj hlen hv hn (kk _ (hu_self _ _ _) fun _ hj => hu_ne _ _ hj)
theorem go_aln {i len : Nat} {f : Nat → Int32} (hd : decode M.2.1 pc = .ok (.arraylength, 1)) (hi : i < n) (hh : h i = .inl (G.2.1, len, .inl f)) (hn : pc + 1 = nx) (kk : Go G M κ nx lv (.int (nI len) :: st) (n, cs, sl) h Q) : Go G M κ pc lv (.ref (kb G + i) :: st) (n, cs, sl) h Q :=
  go_arraylength hd hi hh rfl hn kk
theorem go_S (as : List Value) (ce : kCS M.1.cls idx M' na) (hsp : Sp0 G M' k' as n h Q') (hd : decode M.2.1 pc = .ok (.invokestatic idx, 3)) (hst : st = as.reverse ++ rest) (hna : as.length = na) (hcat : (rest.map fun v => v.category).sum ≤ 8) (hk : k' + 1 ≤ κ.1) (hc : cs ≤ κ.2.1 ∧ sl ≤ κ.2.2) (hn : pc + 3 = nx)
    (kk : ∀ r h', Q' r h' → Go G M κ nx lv (r.toList ++ rest) (n, cs, sl) h' Q) : Go G M κ pc lv st (n, cs, sl) h Q := by
  refine go_callS (κ' := (k', 0, 0)) as ce hsp hd hst hna hcat ⟨hk, hc⟩ hn ?_
  rintro r n' h' ⟨rfl, hq⟩
  exact kk r h' hq
theorem go_SN (as : List Value) (ce : kCSN M.1.cls idx M' na) (hsp : Sp0 G M' k' as n h Q') (hd : decode M.2.1 pc = .ok (.invokestatic idx, 3)) (hst : st = as.reverse ++ rest) (hna : as.length = na) (hcat : (rest.map fun v => v.category).sum ≤ 8) (hk : k' + 1 ≤ κ.1) (hc : cs ≤ κ.2.1 ∧ sl ≤ κ.2.2) (hn : pc + 3 = nx)
    (kk : ∀ r h', Q' r h' → Go G M κ nx lv (r.toList ++ rest) (n, cs, sl) h' Q) : Go G M κ pc lv st (n, cs, sl) h Q := by
  refine go_callSN (κ' := (k', 0, 0)) as ce hsp hd hst hna hcat ⟨hk, hc⟩ hn ?_
  rintro r n' h' ⟨rfl, hq⟩
  exact kk r h' hq
theorem go_V {ci i : Nat} {fs : List Value} (as : List Value) (ce : kCV M.1.cls idx M' na) (hcl : ∃ T N, vwCl[ci]? = some (M'.1.cls, T, N)) (hi : i < n) (hh : h i = .inr (ci, fs)) (hsp : Sp0 G M' k' (.ref (kb G + i) :: as) n h Q') (hd : decode M.2.1 pc = .ok (.invokevirtual idx, 3)) (hst : st = as.reverse ++ .ref (kb G + i) :: rest) (hna : as.length = na) (hcat : (rest.map fun v => v.category).sum ≤ 8) (hk : k' + 1 ≤ κ.1) (hc : cs ≤ κ.2.1 ∧ sl ≤ κ.2.2) (hn : pc + 3 = nx)
    (kk : ∀ r h', Q' r h' → Go G M κ nx lv (r.toList ++ rest) (n, cs, sl) h' Q) : Go G M κ pc lv st (n, cs, sl) h Q := by
  refine go_callV (κ' := (k', 0, 0)) as ce hcl hi hh hsp hd hst hna hcat ⟨hk, hc⟩ hn ?_
  rintro r n' h' ⟨rfl, hq⟩
  exact kk r h' hq
theorem go_I {i : Nat} (as : List Value) (ce : kCI M.1.cls idx M' na) (hsp : Sp0 G M' k' (.ref (kb G + i) :: as) n h Q') (hd : decode M.2.1 pc = .ok (.invokespecial idx, 3)) (hst : st = as.reverse ++ .ref (kb G + i) :: rest) (hna : as.length = na) (hcat : (rest.map fun v => v.category).sum ≤ 8) (hk : k' + 1 ≤ κ.1) (hc : cs ≤ κ.2.1 ∧ sl ≤ κ.2.2) (hn : pc + 3 = nx)
    (kk : ∀ r h', Q' r h' → Go G M κ nx lv (r.toList ++ rest) (n, cs, sl) h' Q) : Go G M κ pc lv st (n, cs, sl) h Q := by
  refine go_callI (κ' := (k', 0, 0)) as ce hsp hd hst hna hcat ⟨hk, hc⟩ hn ?_
  rintro r n' h' ⟨rfl, hq⟩
  exact kk r h' hq
end K0
def Spi (G : kG) (M : kM) (k : Nat) (as : List Value) (n : Nat) (h : kH) (Q : Int32 → kH → Prop) : Prop := Sp0 G M k as n h (fun r h' => ∃ v, r = some (.int v) ∧ Q v h')
def Spl (G : kG) (M : kM) (k : Nat) (as : List Value) (n : Nat) (h : kH) (Q : Int64 → kH → Prop) : Prop := Sp0 G M k as n h (fun r h' => ∃ v, r = some (.long v) ∧ Q v h')
def Spr (G : kG) (M : kM) (k : Nat) (as : List Value) (n : Nat) (h : kH) (Q : Nat → kH → Prop) : Prop := Sp0 G M k as n h (fun r h' => ∃ i, r = some (.ref (kb G + i)) ∧ Q i h')
def Spv (G : kG) (M : kM) (k : Nat) (as : List Value) (n : Nat) (h : kH) (Q : kH → Prop) : Prop := Sp0 G M k as n h (fun r h' => r = none ∧ Q h')
def kQi (M : kM) (n : Nat) (Q : Int32 → kH → Prop) : Option Value → kZ → kH → Prop := kQ M (n, 0, 0) (fun r h' => ∃ v, r = some (.int v) ∧ Q v h')
def kQl (M : kM) (n : Nat) (Q : Int64 → kH → Prop) : Option Value → kZ → kH → Prop := kQ M (n, 0, 0) (fun r h' => ∃ v, r = some (.long v) ∧ Q v h')
def kQr (G : kG) (M : kM) (n : Nat) (Q : Nat → kH → Prop) : Option Value → kZ → kH → Prop := kQ M (n, 0, 0) (fun r h' => ∃ i, r = some (.ref (kb G + i)) ∧ Q i h')
def kQv (M : kM) (n : Nat) (Q : kH → Prop) : Option Value → kZ → kH → Prop := kQ M (n, 0, 0) (fun r h' => r = none ∧ Q h')
theorem Spi.of {G : kG} {M : kM} {k : Nat} {as : List Value} {n : Nat} {h : kH} {Q : Int32 → kH → Prop} (hy : plainName M.1.cls = true) (hlen : (lg_sl as).length ≤ M.2.2.1) (H : Go G M (k, 0, 0) 0 (lv_args 0 as) [] (n, 0, 0) h (kQi M n Q)) : Spi G M k as n h Q := Sp0.of hy hlen H
theorem Spl.of {G : kG} {M : kM} {k : Nat} {as : List Value} {n : Nat} {h : kH} {Q : Int64 → kH → Prop} (hy : plainName M.1.cls = true) (hlen : (lg_sl as).length ≤ M.2.2.1) (H : Go G M (k, 0, 0) 0 (lv_args 0 as) [] (n, 0, 0) h (kQl M n Q)) : Spl G M k as n h Q := Sp0.of hy hlen H
theorem Spr.of {G : kG} {M : kM} {k : Nat} {as : List Value} {n : Nat} {h : kH} {Q : Nat → kH → Prop} (hy : plainName M.1.cls = true) (hlen : (lg_sl as).length ≤ M.2.2.1) (H : Go G M (k, 0, 0) 0 (lv_args 0 as) [] (n, 0, 0) h (kQr G M n Q)) : Spr G M k as n h Q := Sp0.of hy hlen H
theorem Spv.of {G : kG} {M : kM} {k : Nat} {as : List Value} {n : Nat} {h : kH} {Q : kH → Prop} (hy : plainName M.1.cls = true) (hlen : (lg_sl as).length ≤ M.2.2.1) (H : Go G M (k, 0, 0) 0 (lv_args 0 as) [] (n, 0, 0) h (kQv M n Q)) : Spv G M k as n h Q := Sp0.of hy hlen H
theorem Spi.mono {G : kG} {M : kM} {k : Nat} {as : List Value} {n : Nat} {h : kH} {Q Q' : Int32 → kH → Prop} (H : Spi G M k as n h Q) (hq : ∀ v h', Q v h' → Q' v h') : Spi G M k as n h Q' := Sp0.mono H (fun _ h' ⟨v, e, q⟩ => ⟨v, e, hq v h' q⟩)
theorem Spv.mono {G : kG} {M : kM} {k : Nat} {as : List Value} {n : Nat} {h : kH} {Q Q' : kH → Prop} (H : Spv G M k as n h Q) (hq : ∀ h', Q h' → Q' h') : Spv G M k as n h Q' := Sp0.mono H (fun _ h' ⟨e, q⟩ => ⟨e, hq h' q⟩)
section K1
variable {G : kG} {M M' : kM} {κ : kZ} {n cs sl : Nat} {k' pc nx idx na : Nat} {lv : List (Nat × Value)} {st rest : List Value} {h : kH} {Q : Option Value → kZ → kH → Prop}
theorem go_reti {v : Int32} {Q : Int32 → kH → Prop} (hd : decode M.2.1 pc = .ok (.ireturn, 1)) (hty : ∃ ty, M.2.2.2 = some ty ∧ narrow ty (.int v) = .int v) (hq : Q v h) : Go G M κ pc lv [.int v] (n, 0, 0) h (kQi M n Q) := go_ireturn hd ⟨rfl, hty, v, rfl, hq⟩
theorem go_retl {v : Int64} {Q : Int64 → kH → Prop} (hd : decode M.2.1 pc = .ok (.lreturn, 1)) (hty : M.2.2.2 = some .long) (hq : Q v h) : Go G M κ pc lv [.long v] (n, 0, 0) h (kQl M n Q) := go_lreturn hd ⟨rfl, hty, v, rfl, hq⟩
theorem go_retr {i : Nat} {Q : Nat → kH → Prop} (hd : decode M.2.1 pc = .ok (.areturn, 1)) (hty : ∃ rt, M.2.2.2 = some rt ∧ ((∃ n, rt = .object n) ∨ ∃ t, rt = .array t)) (hq : Q i h) : Go G M κ pc lv [.ref (kb G + i)] (n, 0, 0) h (kQr G M n Q) := go_areturn hd ⟨rfl, hty, i, rfl, hq⟩
theorem go_retv {Q : kH → Prop} (hd : decode M.2.1 pc = .ok (.return_, 1)) (hty : M.2.2.2 = none) (hq : Q h) : Go G M κ pc lv [] (n, 0, 0) h (kQv M n Q) := go_return hd ⟨rfl, hty, rfl, hq⟩
theorem go_Si {Q' : Int32 → kH → Prop} (as : List Value) (ce : kCS M.1.cls idx M' na) (hsp : Spi G M' k' as n h Q') (hd : decode M.2.1 pc = .ok (.invokestatic idx, 3)) (hst : st = as.reverse ++ rest) (hna : as.length = na) (hcat : (rest.map fun v => v.category).sum ≤ 8) (hk : k' + 1 ≤ κ.1) (hc : cs ≤ κ.2.1 ∧ sl ≤ κ.2.2) (hn : pc + 3 = nx)
    (kk : ∀ v h', Q' v h' → Go G M κ nx lv (.int v :: rest) (n, cs, sl) h' Q) : Go G M κ pc lv st (n, cs, sl) h Q := by
  refine go_S as ce hsp hd hst hna hcat hk hc hn ?_
  rintro r h' ⟨v, rfl, hq⟩
  exact kk v h' hq
theorem go_Sl {Q' : Int64 → kH → Prop} (as : List Value) (ce : kCS M.1.cls idx M' na) (hsp : Spl G M' k' as n h Q') (hd : decode M.2.1 pc = .ok (.invokestatic idx, 3)) (hst : st = as.reverse ++ rest) (hna : as.length = na) (hcat : (rest.map fun v => v.category).sum ≤ 8) (hk : k' + 1 ≤ κ.1) (hc : cs ≤ κ.2.1 ∧ sl ≤ κ.2.2) (hn : pc + 3 = nx)
    (kk : ∀ v h', Q' v h' → Go G M κ nx lv (.long v :: rest) (n, cs, sl) h' Q) : Go G M κ pc lv st (n, cs, sl) h Q := by
  refine go_S as ce hsp hd hst hna hcat hk hc hn ?_
  rintro r h' ⟨v, rfl, hq⟩
  exact kk v h' hq
theorem go_Sr {Q' : Nat → kH → Prop} (as : List Value) (ce : kCS M.1.cls idx M' na) (hsp : Spr G M' k' as n h Q') (hd : decode M.2.1 pc = .ok (.invokestatic idx, 3)) (hst : st = as.reverse ++ rest) (hna : as.length = na) (hcat : (rest.map fun v => v.category).sum ≤ 8) (hk : k' + 1 ≤ κ.1) (hc : cs ≤ κ.2.1 ∧ sl ≤ κ.2.2) (hn : pc + 3 = nx)
    (kk : ∀ j h', Q' j h' → Go G M κ nx lv (.ref (kb G + j) :: rest) (n, cs, sl) h' Q) : Go G M κ pc lv st (n, cs, sl) h Q := by
  refine go_S as ce hsp hd hst hna hcat hk hc hn ?_
  rintro r h' ⟨v, rfl, hq⟩
  exact kk v h' hq
theorem go_Sv {Q' : kH → Prop} (as : List Value) (ce : kCS M.1.cls idx M' na) (hsp : Spv G M' k' as n h Q') (hd : decode M.2.1 pc = .ok (.invokestatic idx, 3)) (hst : st = as.reverse ++ rest) (hna : as.length = na) (hcat : (rest.map fun v => v.category).sum ≤ 8) (hk : k' + 1 ≤ κ.1) (hc : cs ≤ κ.2.1 ∧ sl ≤ κ.2.2) (hn : pc + 3 = nx)
    (kk : ∀ h', Q' h' → Go G M κ nx lv rest (n, cs, sl) h' Q) : Go G M κ pc lv st (n, cs, sl) h Q := by
  refine go_S as ce hsp hd hst hna hcat hk hc hn ?_
  rintro r h' ⟨rfl, hq⟩
  exact kk h' hq
theorem go_SNi {Q' : Int32 → kH → Prop} (as : List Value) (ce : kCSN M.1.cls idx M' na) (hsp : Spi G M' k' as n h Q') (hd : decode M.2.1 pc = .ok (.invokestatic idx, 3)) (hst : st = as.reverse ++ rest) (hna : as.length = na) (hcat : (rest.map fun v => v.category).sum ≤ 8) (hk : k' + 1 ≤ κ.1) (hc : cs ≤ κ.2.1 ∧ sl ≤ κ.2.2) (hn : pc + 3 = nx)
    (kk : ∀ v h', Q' v h' → Go G M κ nx lv (.int v :: rest) (n, cs, sl) h' Q) : Go G M κ pc lv st (n, cs, sl) h Q := by
  refine go_SN as ce hsp hd hst hna hcat hk hc hn ?_
  rintro r h' ⟨v, rfl, hq⟩
  exact kk v h' hq
theorem go_SNl {Q' : Int64 → kH → Prop} (as : List Value) (ce : kCSN M.1.cls idx M' na) (hsp : Spl G M' k' as n h Q') (hd : decode M.2.1 pc = .ok (.invokestatic idx, 3)) (hst : st = as.reverse ++ rest) (hna : as.length = na) (hcat : (rest.map fun v => v.category).sum ≤ 8) (hk : k' + 1 ≤ κ.1) (hc : cs ≤ κ.2.1 ∧ sl ≤ κ.2.2) (hn : pc + 3 = nx)
    (kk : ∀ v h', Q' v h' → Go G M κ nx lv (.long v :: rest) (n, cs, sl) h' Q) : Go G M κ pc lv st (n, cs, sl) h Q := by
  refine go_SN as ce hsp hd hst hna hcat hk hc hn ?_
  rintro r h' ⟨v, rfl, hq⟩
  exact kk v h' hq
theorem go_SNr {Q' : Nat → kH → Prop} (as : List Value) (ce : kCSN M.1.cls idx M' na) (hsp : Spr G M' k' as n h Q') (hd : decode M.2.1 pc = .ok (.invokestatic idx, 3)) (hst : st = as.reverse ++ rest) (hna : as.length = na) (hcat : (rest.map fun v => v.category).sum ≤ 8) (hk : k' + 1 ≤ κ.1) (hc : cs ≤ κ.2.1 ∧ sl ≤ κ.2.2) (hn : pc + 3 = nx)
    (kk : ∀ j h', Q' j h' → Go G M κ nx lv (.ref (kb G + j) :: rest) (n, cs, sl) h' Q) : Go G M κ pc lv st (n, cs, sl) h Q := by
  refine go_SN as ce hsp hd hst hna hcat hk hc hn ?_
  rintro r h' ⟨v, rfl, hq⟩
  exact kk v h' hq
theorem go_SNv {Q' : kH → Prop} (as : List Value) (ce : kCSN M.1.cls idx M' na) (hsp : Spv G M' k' as n h Q') (hd : decode M.2.1 pc = .ok (.invokestatic idx, 3)) (hst : st = as.reverse ++ rest) (hna : as.length = na) (hcat : (rest.map fun v => v.category).sum ≤ 8) (hk : k' + 1 ≤ κ.1) (hc : cs ≤ κ.2.1 ∧ sl ≤ κ.2.2) (hn : pc + 3 = nx)
    (kk : ∀ h', Q' h' → Go G M κ nx lv rest (n, cs, sl) h' Q) : Go G M κ pc lv st (n, cs, sl) h Q := by
  refine go_SN as ce hsp hd hst hna hcat hk hc hn ?_
  rintro r h' ⟨rfl, hq⟩
  exact kk h' hq
theorem go_Vi {ci i : Nat} {fs : List Value} {Q' : Int32 → kH → Prop} (as : List Value) (ce : kCV M.1.cls idx M' na) (hcl : ∃ T N, vwCl[ci]? = some (M'.1.cls, T, N)) (hi : i < n) (hh : h i = .inr (ci, fs)) (hsp : Spi G M' k' (.ref (kb G + i) :: as) n h Q') (hd : decode M.2.1 pc = .ok (.invokevirtual idx, 3)) (hst : st = as.reverse ++ .ref (kb G + i) :: rest) (hna : as.length = na) (hcat : (rest.map fun v => v.category).sum ≤ 8) (hk : k' + 1 ≤ κ.1) (hc : cs ≤ κ.2.1 ∧ sl ≤ κ.2.2) (hn : pc + 3 = nx)
    (kk : ∀ v h', Q' v h' → Go G M κ nx lv (.int v :: rest) (n, cs, sl) h' Q) : Go G M κ pc lv st (n, cs, sl) h Q := by
  refine go_V as ce hcl hi hh hsp hd hst hna hcat hk hc hn ?_
  rintro r h' ⟨v, rfl, hq⟩
  exact kk v h' hq
theorem go_Vl {ci i : Nat} {fs : List Value} {Q' : Int64 → kH → Prop} (as : List Value) (ce : kCV M.1.cls idx M' na) (hcl : ∃ T N, vwCl[ci]? = some (M'.1.cls, T, N)) (hi : i < n) (hh : h i = .inr (ci, fs)) (hsp : Spl G M' k' (.ref (kb G + i) :: as) n h Q') (hd : decode M.2.1 pc = .ok (.invokevirtual idx, 3)) (hst : st = as.reverse ++ .ref (kb G + i) :: rest) (hna : as.length = na) (hcat : (rest.map fun v => v.category).sum ≤ 8) (hk : k' + 1 ≤ κ.1) (hc : cs ≤ κ.2.1 ∧ sl ≤ κ.2.2) (hn : pc + 3 = nx)
    (kk : ∀ v h', Q' v h' → Go G M κ nx lv (.long v :: rest) (n, cs, sl) h' Q) : Go G M κ pc lv st (n, cs, sl) h Q := by
  refine go_V as ce hcl hi hh hsp hd hst hna hcat hk hc hn ?_
  rintro r h' ⟨v, rfl, hq⟩
  exact kk v h' hq
theorem go_Vr {ci i : Nat} {fs : List Value} {Q' : Nat → kH → Prop} (as : List Value) (ce : kCV M.1.cls idx M' na) (hcl : ∃ T N, vwCl[ci]? = some (M'.1.cls, T, N)) (hi : i < n) (hh : h i = .inr (ci, fs)) (hsp : Spr G M' k' (.ref (kb G + i) :: as) n h Q') (hd : decode M.2.1 pc = .ok (.invokevirtual idx, 3)) (hst : st = as.reverse ++ .ref (kb G + i) :: rest) (hna : as.length = na) (hcat : (rest.map fun v => v.category).sum ≤ 8) (hk : k' + 1 ≤ κ.1) (hc : cs ≤ κ.2.1 ∧ sl ≤ κ.2.2) (hn : pc + 3 = nx)
    (kk : ∀ j h', Q' j h' → Go G M κ nx lv (.ref (kb G + j) :: rest) (n, cs, sl) h' Q) : Go G M κ pc lv st (n, cs, sl) h Q := by
  refine go_V as ce hcl hi hh hsp hd hst hna hcat hk hc hn ?_
  rintro r h' ⟨v, rfl, hq⟩
  exact kk v h' hq
theorem go_Vv {ci i : Nat} {fs : List Value} {Q' : kH → Prop} (as : List Value) (ce : kCV M.1.cls idx M' na) (hcl : ∃ T N, vwCl[ci]? = some (M'.1.cls, T, N)) (hi : i < n) (hh : h i = .inr (ci, fs)) (hsp : Spv G M' k' (.ref (kb G + i) :: as) n h Q') (hd : decode M.2.1 pc = .ok (.invokevirtual idx, 3)) (hst : st = as.reverse ++ .ref (kb G + i) :: rest) (hna : as.length = na) (hcat : (rest.map fun v => v.category).sum ≤ 8) (hk : k' + 1 ≤ κ.1) (hc : cs ≤ κ.2.1 ∧ sl ≤ κ.2.2) (hn : pc + 3 = nx)
    (kk : ∀ h', Q' h' → Go G M κ nx lv rest (n, cs, sl) h' Q) : Go G M κ pc lv st (n, cs, sl) h Q := by
  refine go_V as ce hcl hi hh hsp hd hst hna hcat hk hc hn ?_
  rintro r h' ⟨rfl, hq⟩
  exact kk h' hq
end K1
/-- an index that was looked at -/
theorem ix_of {x : Int32} {len : Nat} (hlen : len < 2 ^ 31) (h1 : ¬ x < 0) (h2 : ¬ nI len ≤ x) : ∃ j, j < len ∧ x = nI j := by
  obtain ⟨j, hj, rfl⟩ := nI_of h1
  refine ⟨j, ?_, rfl⟩
  rcases Nat.lt_or_ge j len with q | q
  · exact q
  · exact absurd (nI_le q hj) h2
def bI (b : Bool) : Int32 := if b then 1 else 0
theorem nar_bI (b : Bool) : narrow .boolean (.int (bI b)) = .int (bI b) := by cases b <;> rfl
theorem bI_t {c : Prop} [Decidable c] (h : c) : (1 : Int32) = bI (decide c) := by simp [bI, h]
theorem bI_f {c : Prop} [Decidable c] (h : ¬ c) : (0 : Int32) = bI (decide c) := by simp [bI, h]
theorem bI_eq0 (b : Bool) : bI b = 0 ↔ b = false := by cases b <;> decide
theorem bI_eq1 (b : Bool) : bI b = 1 ↔ b = true := by cases b <;> decide
/-- LeastKnown.at -/
def atF (f : Nat → Int32) (len : Nat) (x : Int32) : Int32 := if 0 ≤ x ∧ x < nI len then f x.toNatClampNeg else 0
theorem atF_in {f : Nat → Int32} {len j : Nat} (hj : j < len) (hl : len < 2 ^ 31) : atF f len (nI j) = f j := by
  unfold atF
  rw [if_pos ⟨nI_pos' (by omega), nI_lt hj hl⟩, nI_clamp (by omega)]
theorem atF_out {f : Nat → Int32} {len : Nat} {x : Int32} (h : ¬ (0 ≤ x ∧ x < nI len)) : atF f len x = 0 := by
  unfold atF
  rw [if_neg h]
