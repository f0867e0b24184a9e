section KR
variable {G : kG} {M : kM} {κ z : kZ} {pc nx : Nat} {lv : List (Nat × Value)} {st : List Value} {h : kH} {Q : Option Value → kZ → kH → Prop}
theorem Go.mono {Q' : Option Value → kZ → kH → Prop} (k : Go G M κ pc lv st z h Q') (hq : ∀ r z' h', Q' r z' h' → Q r z' h') : Go G M κ pc lv st z h Q := by
  intro p l e R s m args below meth c H locs ls Qm hG hC hW hl hr
  exact k p l e R s m args below meth c H locs ls Qm hG hC hW hl (fun r z' h' H' locs' ls' pc' hQ => hr r z' h' H' locs' ls' pc' (hq _ _ _ hQ))
theorem Go.sub (ks : List Nat) {lv' : List (Nat × Value)} (hl' : lv_pick lv ks = lv') (k : Go G M κ pc lv' st z h Q) : Go G M κ pc lv st z h Q := by
  intro p l e R s m args below meth c H locs ls Qm hG hC hW hl hr
  exact k p l e R s m args below meth c H locs ls Qm hG hC hW (lv_sub hl ks hl') hr
theorem Go.heap {h' : kH} (e : h = h') (k : Go G M κ pc lv st z h' Q) : Go G M κ pc lv st z h Q := e ▸ k
theorem Go.stk {st' : List Value} (e : st = st') (k : Go G M κ pc lv st' z h Q) : Go G M κ pc lv st z h Q := e ▸ k
theorem Go.loc {lv' : List (Nat × Value)} (e : lv = lv') (k : Go G M κ pc lv' st z h Q) : Go G M κ pc lv st z h Q := e ▸ k
theorem Go.ok (k : kOK G → Go G M κ pc lv st z h Q) : Go G M κ pc lv st z h Q := fun p l e R s m args below meth c H locs ls Qm hG => k hG p l e R s m args below meth c H locs ls Qm hG
theorem go_iconst {n : Int} {v : Int32} (hd : decode M.2.1 pc = .ok (.iconst n, 1)) (hv : Int32.ofInt n = v) (hn : pc + 1 = nx) (k : Go G M κ nx lv (.int v :: st) z h Q) : Go G M κ pc lv (st) z h Q := by
  intro p l e R s m args below meth c H locs ls Qm hG hC hW hl hr
  have hx := hC.1
  have hb := hC.2.1
  subst hn
  exact lv_iconst hx hb hd hv (k p l e R s m args below meth c H locs ls Qm hG hC hW hl hr)
theorem go_bipush {n : Int} {v : Int32} (hd : decode M.2.1 pc = .ok (.bipush n, 2)) (hv : (Int8.ofInt n).toInt32 = v) (hn : pc + 2 = nx) (k : Go G M κ nx lv (.int v :: st) z h Q) : Go G M κ pc lv (st) z h Q := by
  intro p l e R s m args below meth c H locs ls Qm hG hC hW hl hr
  have hx := hC.1
  have hb := hC.2.1
  subst hn
  exact lv_bipush hx hb hd hv (k p l e R s m args below meth c H locs ls Qm hG hC hW hl hr)
theorem go_sipush {n : Int} {v : Int32} (hd : decode M.2.1 pc = .ok (.sipush n, 3)) (hv : (Int16.ofInt n).toInt32 = v) (hn : pc + 3 = nx) (k : Go G M κ nx lv (.int v :: st) z h Q) : Go G M κ pc lv (st) z h Q := by
  intro p l e R s m args below meth c H locs ls Qm hG hC hW hl hr
  have hx := hC.1
  have hb := hC.2.1
  subst hn
  exact lv_sipush hx hb hd hv (k p l e R s m args below meth c H locs ls Qm hG hC hW hl hr)
theorem go_lconst {n : Fin 2} {v : Int64} (hd : decode M.2.1 pc = .ok (.lconst n, 1)) (hv : Int64.ofNat (n : Nat) = v) (hn : pc + 1 = nx) (k : Go G M κ nx lv (.long v :: st) z h Q) : Go G M κ pc lv (st) z h Q := by
  intro p l e R s m args below meth c H locs ls Qm hG hC hW hl hr
  have hx := hC.1
  have hb := hC.2.1
  subst hn
  exact lv_lconst hx hb hd hv (k p l e R s m args below meth c H locs ls Qm hG hC hW hl hr)
theorem go_iload_n (k0 : Nat) {k : Fin 4} {i : Nat} {x : Int32} (hd : decode M.2.1 pc = .ok (.iload_n k, 1)) (hi : (k : Nat) = i) (hk : lv[k0]? = some (i, .int x)) (hn : pc + 1 = nx) (kk : Go G M κ nx lv (.int x :: st) z h Q) : Go G M κ pc lv st z h Q := by
  intro p l e R s m args below meth c H locs ls Qm hG hC hW hl hr
  have hx := hC.1
  have hb := hC.2.1
  subst hn
  exact lv_iload_n hx hb hd hi (lv_at hl k0 hk) (kk p l e R s m args below meth c H locs ls Qm hG hC hW hl hr)
theorem go_iload (k0 : Nat) {i : Nat} {x : Int32} (hd : decode M.2.1 pc = .ok (.iload i, 2)) (hk : lv[k0]? = some (i, .int x)) (hn : pc + 2 = nx) (kk : Go G M κ nx lv (.int x :: st) z h Q) : Go G M κ pc lv st z h Q := by
  intro p l e R s m args below meth c H locs ls Qm hG hC hW hl hr
  have hx := hC.1
  have hb := hC.2.1
  subst hn
  exact lv_iload hx hb hd (lv_at hl k0 hk) (kk p l e R s m args below meth c H locs ls Qm hG hC hW hl hr)
theorem go_istore_n {lv' : List (Nat × Value)} {k : Fin 4} {i : Nat} {x : Int32} (hd : decode M.2.1 pc = .ok (.istore_n k, 1)) (hi : (k : Nat) = i) (hlt : i < M.2.2.1) (hl' : (i, Value.int x) :: lv.filter (fun q => !(q.1 == i) && !(q.1 + 1 == i && q.2.category == 2)) = lv') (hn : pc + 1 = nx) (kk : Go G M κ nx lv' st z h Q) : Go G M κ pc lv (.int x :: st) z h Q := by
  intro p l e R s m args below meth c H locs ls Qm hG hC hW hl hr
  have hx := hC.1
  have hb := hC.2.1
  subst hn
  exact lv_istore_n hx hb hd hi hl hlt hl' (fun ls' hls => kk p l e R s m args below meth c H locs ls' Qm hG hC hW hls hr)
theorem go_istore {lv' : List (Nat × Value)} {i : Nat} {x : Int32} (hd : decode M.2.1 pc = .ok (.istore i, 2)) (hlt : i < M.2.2.1) (hl' : (i, Value.int x) :: lv.filter (fun q => !(q.1 == i) && !(q.1 + 1 == i && q.2.category == 2)) = lv') (hn : pc + 2 = nx) (kk : Go G M κ nx lv' st z h Q) : Go G M κ pc lv (.int x :: st) z h Q := by
  intro p l e R s m args below meth c H locs ls Qm hG hC hW hl hr
  have hx := hC.1
  have hb := hC.2.1
  subst hn
  exact lv_istore hx hb hd hl hlt hl' (fun ls' hls => kk p l e R s m args below meth c H locs ls' Qm hG hC hW hls hr)
theorem go_lload_n (k0 : Nat) {k : Fin 4} {i : Nat} {x : Int64} (hd : decode M.2.1 pc = .ok (.lload_n k, 1)) (hi : (k : Nat) = i) (hk : lv[k0]? = some (i, .long x)) (hn : pc + 1 = nx) (kk : Go G M κ nx lv (.long x :: st) z h Q) : Go G M κ pc lv st z h Q := by
  intro p l e R s m args below meth c H locs ls Qm hG hC hW hl hr
  have hx := hC.1
  have hb := hC.2.1
  subst hn
  exact lv_lload_n hx hb hd hi (lv_at hl k0 hk) (kk p l e R s m args below meth c H locs ls Qm hG hC hW hl hr)
theorem go_lload (k0 : Nat) {i : Nat} {x : Int64} (hd : decode M.2.1 pc = .ok (.lload i, 2)) (hk : lv[k0]? = some (i, .long x)) (hn : pc + 2 = nx) (kk : Go G M κ nx lv (.long x :: st) z h Q) : Go G M κ pc lv st z h Q := by
  intro p l e R s m args below meth c H locs ls Qm hG hC hW hl hr
  have hx := hC.1
  have hb := hC.2.1
  subst hn
  exact lv_lload hx hb hd (lv_at hl k0 hk) (kk p l e R s m args below meth c H locs ls Qm hG hC hW hl hr)
theorem go_lstore_n {lv' : List (Nat × Value)} {k : Fin 4} {i : Nat} {x : Int64} (hd : decode M.2.1 pc = .ok (.lstore_n k, 1)) (hi : (k : Nat) = i) (hlt : i + 1 < M.2.2.1) (hl' : (i, Value.long x) :: lv.filter (fun q => !(q.1 == i) && (!(q.1 == i + 1) && !(q.1 + 1 == i && q.2.category == 2))) = lv') (hn : pc + 1 = nx) (kk : Go G M κ nx lv' st z h Q) : Go G M κ pc lv (.long x :: st) z h Q := by
  intro p l e R s m args below meth c H locs ls Qm hG hC hW hl hr
  have hx := hC.1
  have hb := hC.2.1
  subst hn
  exact lv_lstore_n hx hb hd hi hl hlt hl' (fun ls' hls => kk p l e R s m args below meth c H locs ls' Qm hG hC hW hls hr)
theorem go_lstore {lv' : List (Nat × Value)} {i : Nat} {x : Int64} (hd : decode M.2.1 pc = .ok (.lstore i, 2)) (hlt : i + 1 < M.2.2.1) (hl' : (i, Value.long x) :: lv.filter (fun q => !(q.1 == i) && (!(q.1 == i + 1) && !(q.1 + 1 == i && q.2.category == 2))) = lv') (hn : pc + 2 = nx) (kk : Go G M κ nx lv' st z h Q) : Go G M κ pc lv (.long x :: st) z h Q := by
  intro p l e R s m args below meth c H locs ls Qm hG hC hW hl hr
  have hx := hC.1
  have hb := hC.2.1
  subst hn
  exact lv_lstore hx hb hd hl hlt hl' (fun ls' hls => kk p l e R s m args below meth c H locs ls' Qm hG hC hW hls hr)
theorem go_aload_n (k0 : Nat) {k : Fin 4} {i : Nat} {x : Nat} (hd : decode M.2.1 pc = .ok (.aload_n k, 1)) (hi : (k : Nat) = i) (hk : lv[k0]? = some (i, .ref x)) (hn : pc + 1 = nx) (kk : Go G M κ nx lv (.ref x :: st) z h Q) : Go G M κ pc lv st z h Q := by
  intro p l e R s m args below meth c H locs ls Qm hG hC hW hl hr
  have hx := hC.1
  have hb := hC.2.1
  subst hn
  exact lv_aload_n hx hb hd hi (lv_at hl k0 hk) (kk p l e R s m args below meth c H locs ls Qm hG hC hW hl hr)
theorem go_aload (k0 : Nat) {i : Nat} {x : Nat} (hd : decode M.2.1 pc = .ok (.aload i, 2)) (hk : lv[k0]? = some (i, .ref x)) (hn : pc + 2 = nx) (kk : Go G M κ nx lv (.ref x :: st) z h Q) : Go G M κ pc lv st z h Q := by
  intro p l e R s m args below meth c H locs ls Qm hG hC hW hl hr
  have hx := hC.1
  have hb := hC.2.1
  subst hn
  exact lv_aload hx hb hd (lv_at hl k0 hk) (kk p l e R s m args below meth c H locs ls Qm hG hC hW hl hr)
theorem go_astore_n {lv' : List (Nat × Value)} {k : Fin 4} {i : Nat} {x : Nat} (hd : decode M.2.1 pc = .ok (.astore_n k, 1)) (hi : (k : Nat) = i) (hlt : i < M.2.2.1) (hl' : (i, Value.ref x) :: lv.filter (fun q => !(q.1 == i) && !(q.1 + 1 == i && q.2.category == 2)) = lv') (hn : pc + 1 = nx) (kk : Go G M κ nx lv' st z h Q) : Go G M κ pc lv (.ref x :: st) z h Q := by
  intro p l e R s m args below meth c H locs ls Qm hG hC hW hl hr
  have hx := hC.1
  have hb := hC.2.1
  subst hn
  exact lv_astore_n hx hb hd hi hl hlt hl' (fun ls' hls => kk p l e R s m args below meth c H locs ls' Qm hG hC hW hls hr)
theorem go_astore {lv' : List (Nat × Value)} {i : Nat} {x : Nat} (hd : decode M.2.1 pc = .ok (.astore i, 2)) (hlt : i < M.2.2.1) (hl' : (i, Value.ref x) :: lv.filter (fun q => !(q.1 == i) && !(q.1 + 1 == i && q.2.category == 2)) = lv') (hn : pc + 2 = nx) (kk : Go G M κ nx lv' st z h Q) : Go G M κ pc lv (.ref x :: st) z h Q := by
  intro p l e R s m args below meth c H locs ls Qm hG hC hW hl hr
  have hx := hC.1
  have hb := hC.2.1
  subst hn
  exact lv_astore hx hb hd hl hlt hl' (fun ls' hls => kk p l e R s m args below meth c H locs ls' Qm hG hC hW hls hr)
theorem go_iinc (k0 : Nat) {lv' : List (Nat × Value)} {i : Nat} {n : Int} {x v : Int32} (hd : decode M.2.1 pc = .ok (.iinc i n, 3)) (hk : lv[k0]? = some (i, .int x)) (hv : x + Int32.ofInt n = v) (hlt : i < M.2.2.1) (hl' : (i, Value.int v) :: lv.filter (fun q => !(q.1 == i) && !(q.1 + 1 == i && q.2.category == 2)) = lv') (hn : pc + 3 = nx) (kk : Go G M κ nx lv' st z h Q) : Go G M κ pc lv st z h Q := by
  intro p l e R s m args below meth c H locs ls Qm hG hC hW hl hr
  have hx := hC.1
  have hb := hC.2.1
  subst hn
  exact lv_iinc hx hb hd hl hk hv hlt hl' (fun ls' hls => kk p l e R s m args below meth c H locs ls' Qm hG hC hW hls hr)
theorem go_iadd {x y : Int32} (hd : decode M.2.1 pc = .ok (.iadd, 1)) (hn : pc + 1 = nx) (k : Go G M κ nx lv (.int (x + y) :: st) z h Q) : Go G M κ pc lv (.int y :: .int x :: st) z h Q := by
  intro p l e R s m args below meth c H locs ls Qm hG hC hW hl hr
  have hx := hC.1
  have hb := hC.2.1
  subst hn
  exact lv_iadd hx hb hd (k p l e R s m args below meth c H locs ls Qm hG hC hW hl hr)
theorem go_isub {x y : Int32} (hd : decode M.2.1 pc = .ok (.isub, 1)) (hn : pc + 1 = nx) (k : Go G M κ nx lv (.int (x - y) :: st) z h Q) : Go G M κ pc lv (.int y :: .int x :: st) z h Q := by
  intro p l e R s m args below meth c H locs ls Qm hG hC hW hl hr
  have hx := hC.1
  have hb := hC.2.1
  subst hn
  exact lv_isub hx hb hd (k p l e R s m args below meth c H locs ls Qm hG hC hW hl hr)
theorem go_imul {x y : Int32} (hd : decode M.2.1 pc = .ok (.imul, 1)) (hn : pc + 1 = nx) (k : Go G M κ nx lv (.int (x * y) :: st) z h Q) : Go G M κ pc lv (.int y :: .int x :: st) z h Q := by
  intro p l e R s m args below meth c H locs ls Qm hG hC hW hl hr
  have hx := hC.1
  have hb := hC.2.1
  subst hn
  exact lv_imul hx hb hd (k p l e R s m args below meth c H locs ls Qm hG hC hW hl hr)
theorem go_iand {x y : Int32} (hd : decode M.2.1 pc = .ok (.iand, 1)) (hn : pc + 1 = nx) (k : Go G M κ nx lv (.int (x &&& y) :: st) z h Q) : Go G M κ pc lv (.int y :: .int x :: st) z h Q := by
  intro p l e R s m args below meth c H locs ls Qm hG hC hW hl hr
  have hx := hC.1
  have hb := hC.2.1
  subst hn
  exact lv_iand hx hb hd (k p l e R s m args below meth c H locs ls Qm hG hC hW hl hr)
theorem go_ior {x y : Int32} (hd : decode M.2.1 pc = .ok (.ior, 1)) (hn : pc + 1 = nx) (k : Go G M κ nx lv (.int (x ||| y) :: st) z h Q) : Go G M κ pc lv (.int y :: .int x :: st) z h Q := by
  intro p l e R s m args below meth c H locs ls Qm hG hC hW hl hr
  have hx := hC.1
  have hb := hC.2.1
  subst hn
  exact lv_ior hx hb hd (k p l e R s m args below meth c H locs ls Qm hG hC hW hl hr)
theorem go_ixor {x y : Int32} (hd : decode M.2.1 pc = .ok (.ixor, 1)) (hn : pc + 1 = nx) (k : Go G M κ nx lv (.int (x ^^^ y) :: st) z h Q) : Go G M κ pc lv (.int y :: .int x :: st) z h Q := by
  intro p l e R s m args below meth c H locs ls Qm hG hC hW hl hr
  have hx := hC.1
  have hb := hC.2.1
  subst hn
  exact lv_ixor hx hb hd (k p l e R s m args below meth c H locs ls Qm hG hC hW hl hr)
theorem go_ishl {x y : Int32} (hd : decode M.2.1 pc = .ok (.ishl, 1)) (hn : pc + 1 = nx) (k : Go G M κ nx lv (.int (x <<< (y &&& 31)) :: st) z h Q) : Go G M κ pc lv (.int y :: .int x :: st) z h Q := by
  intro p l e R s m args below meth c H locs ls Qm hG hC hW hl hr
  have hx := hC.1
  have hb := hC.2.1
  subst hn
  exact lv_ishl hx hb hd (k p l e R s m args below meth c H locs ls Qm hG hC hW hl hr)
theorem go_ishr {x y : Int32} (hd : decode M.2.1 pc = .ok (.ishr, 1)) (hn : pc + 1 = nx) (k : Go G M κ nx lv (.int (x >>> (y &&& 31)) :: st) z h Q) : Go G M κ pc lv (.int y :: .int x :: st) z h Q := by
  intro p l e R s m args below meth c H locs ls Qm hG hC hW hl hr
  have hx := hC.1
  have hb := hC.2.1
  subst hn
  exact lv_ishr hx hb hd (k p l e R s m args below meth c H locs ls Qm hG hC hW hl hr)
theorem go_idiv {x y : Int32} (hd : decode M.2.1 pc = .ok (.idiv, 1)) (hne : ¬ y = 0) (hn : pc + 1 = nx) (k : Go G M κ nx lv (.int (x / y) :: st) z h Q) : Go G M κ pc lv (.int y :: .int x :: st) z h Q := by
  intro p l e R s m args below meth c H locs ls Qm hG hC hW hl hr
  have hx := hC.1
  have hb := hC.2.1
  subst hn
  exact lv_idiv hx hb hd hne (k p l e R s m args below meth c H locs ls Qm hG hC hW hl hr)
theorem go_irem {x y : Int32} (hd : decode M.2.1 pc = .ok (.irem, 1)) (hne : ¬ y = 0) (hn : pc + 1 = nx) (k : Go G M κ nx lv (.int (x - x / y * y) :: st) z h Q) : Go G M κ pc lv (.int y :: .int x :: st) z h Q := by
  intro p l e R s m args below meth c H locs ls Qm hG hC hW hl hr
  have hx := hC.1
  have hb := hC.2.1
  subst hn
  exact lv_irem hx hb hd hne (k p l e R s m args below meth c H locs ls Qm hG hC hW hl hr)
theorem go_ladd {x y : Int64} (hd : decode M.2.1 pc = .ok (.ladd, 1)) (hn : pc + 1 = nx) (k : Go G M κ nx lv (.long (x + y) :: st) z h Q) : Go G M κ pc lv (.long y :: .long x :: st) z h Q := by
  intro p l e R s m args below meth c H locs ls Qm hG hC hW hl hr
  have hx := hC.1
  have hb := hC.2.1
  subst hn
  exact lv_ladd hx hb hd (k p l e R s m args below meth c H locs ls Qm hG hC hW hl hr)
theorem go_lmul {x y : Int64} (hd : decode M.2.1 pc = .ok (.lmul, 1)) (hn : pc + 1 = nx) (k : Go G M κ nx lv (.long (x * y) :: st) z h Q) : Go G M κ pc lv (.long y :: .long x :: st) z h Q := by
  intro p l e R s m args below meth c H locs ls Qm hG hC hW hl hr
  have hx := hC.1
  have hb := hC.2.1
  subst hn
  exact lv_lmul hx hb hd (k p l e R s m args below meth c H locs ls Qm hG hC hW hl hr)
theorem go_land {x y : Int64} (hd : decode M.2.1 pc = .ok (.land, 1)) (hn : pc + 1 = nx) (k : Go G M κ nx lv (.long (x &&& y) :: st) z h Q) : Go G M κ pc lv (.long y :: .long x :: st) z h Q := by
  intro p l e R s m args below meth c H locs ls Qm hG hC hW hl hr
  have hx := hC.1
  have hb := hC.2.1
  subst hn
  exact lv_land hx hb hd (k p l e R s m args below meth c H locs ls Qm hG hC hW hl hr)
theorem go_lor {x y : Int64} (hd : decode M.2.1 pc = .ok (.lor, 1)) (hn : pc + 1 = nx) (k : Go G M κ nx lv (.long (x ||| y) :: st) z h Q) : Go G M κ pc lv (.long y :: .long x :: st) z h Q := by
  intro p l e R s m args below meth c H locs ls Qm hG hC hW hl hr
  have hx := hC.1
  have hb := hC.2.1
  subst hn
  exact lv_lor hx hb hd (k p l e R s m args below meth c H locs ls Qm hG hC hW hl hr)
theorem go_lshl {x : Int64} {y : Int32} (hd : decode M.2.1 pc = .ok (.lshl, 1)) (hn : pc + 1 = nx) (k : Go G M κ nx lv (.long (x <<< (y.toInt64 &&& 63)) :: st) z h Q) : Go G M κ pc lv (.int y :: .long x :: st) z h Q := by
  intro p l e R s m args below meth c H locs ls Qm hG hC hW hl hr
  have hx := hC.1
  have hb := hC.2.1
  subst hn
  exact lv_lshl hx hb hd rfl (k p l e R s m args below meth c H locs ls Qm hG hC hW hl hr)
theorem go_lshr {x : Int64} {y : Int32} (hd : decode M.2.1 pc = .ok (.lshr, 1)) (hn : pc + 1 = nx) (k : Go G M κ nx lv (.long (x >>> (y.toInt64 &&& 63)) :: st) z h Q) : Go G M κ pc lv (.int y :: .long x :: st) z h Q := by
  intro p l e R s m args below meth c H locs ls Qm hG hC hW hl hr
  have hx := hC.1
  have hb := hC.2.1
  subst hn
  exact lv_lshr hx hb hd rfl (k p l e R s m args below meth c H locs ls Qm hG hC hW hl hr)
theorem go_iushr {x y : Int32} (hd : decode M.2.1 pc = .ok (.iushr, 1)) (hn : pc + 1 = nx) (k : Go G M κ nx lv (.int ((x.toUInt32 >>> (y.toUInt32 &&& Int32.toUInt32 31)).toInt32) :: st) z h Q) : Go G M κ pc lv (.int y :: .int x :: st) z h Q := by
  intro p l e R s m args below meth c H locs ls Qm hG hC hW hl hr
  have hx := hC.1
  have hb := hC.2.1
  subst hn
  exact lv_iushr hx hb hd rfl (k p l e R s m args below meth c H locs ls Qm hG hC hW hl hr)
theorem go_i2l {x : Int32} (hd : decode M.2.1 pc = .ok (.i2l, 1)) (hn : pc + 1 = nx) (k : Go G M κ nx lv (.long x.toInt64 :: st) z h Q) : Go G M κ pc lv (.int x :: st) z h Q := by
  intro p l e R s m args below meth c H locs ls Qm hG hC hW hl hr
  have hx := hC.1
  have hb := hC.2.1
  subst hn
  exact lv_i2l hx hb hd rfl (k p l e R s m args below meth c H locs ls Qm hG hC hW hl hr)
theorem go_l2i {x : Int64} (hd : decode M.2.1 pc = .ok (.l2i, 1)) (hn : pc + 1 = nx) (k : Go G M κ nx lv (.int x.toInt32 :: st) z h Q) : Go G M κ pc lv (.long x :: st) z h Q := by
  intro p l e R s m args below meth c H locs ls Qm hG hC hW hl hr
  have hx := hC.1
  have hb := hC.2.1
  subst hn
  exact lv_l2i hx hb hd rfl (k p l e R s m args below meth c H locs ls Qm hG hC hW hl hr)
theorem go_i2c {x : Int32} (hd : decode M.2.1 pc = .ok (.i2c, 1)) (hn : pc + 1 = nx) (k : Go G M κ nx lv (.int (x.toUInt32 % 65536).toInt32 :: st) z h Q) : Go G M κ pc lv (.int x :: st) z h Q := by
  intro p l e R s m args below meth c H locs ls Qm hG hC hW hl hr
  have hx := hC.1
  have hb := hC.2.1
  subst hn
  exact lv_i2c hx hb hd rfl (k p l e R s m args below meth c H locs ls Qm hG hC hW hl hr)
theorem go_dup {a : Value} (hd : decode M.2.1 pc = .ok (.dup, 1)) (hc : a.category = 1) (hn : pc + 1 = nx) (k : Go G M κ nx lv (a :: a :: st) z h Q) : Go G M κ pc lv (a :: st) z h Q := by
  intro p l e R s m args below meth c H locs ls Qm hG hC hW hl hr
  have hx := hC.1
  have hb := hC.2.1
  subst hn
  exact lv_dup hx hb hd hc (k p l e R s m args below meth c H locs ls Qm hG hC hW hl hr)
theorem go_pop {a : Value} (hd : decode M.2.1 pc = .ok (.pop, 1)) (hc : a.category = 1) (hn : pc + 1 = nx) (k : Go G M κ nx lv (st) z h Q) : Go G M κ pc lv (a :: st) z h Q := by
  intro p l e R s m args below meth c H locs ls Qm hG hC hW hl hr
  have hx := hC.1
  have hb := hC.2.1
  subst hn
  exact lv_pop hx hb hd hc (k p l e R s m args below meth c H locs ls Qm hG hC hW hl hr)
theorem go_dup2_11 {a b : Value} (hd : decode M.2.1 pc = .ok (.dup2, 1)) (hc : a.category = 1) (hc2 : b.category = 1) (hn : pc + 1 = nx) (k : Go G M κ nx lv (a :: b :: a :: b :: st) z h Q) : Go G M κ pc lv (a :: b :: st) z h Q := by
  intro p l e R s m args below meth c H locs ls Qm hG hC hW hl hr
  have hx := hC.1
  have hb := hC.2.1
  subst hn
  exact lv_dup2_11 hx hb hd hc hc2 (k p l e R s m args below meth c H locs ls Qm hG hC hW hl hr)
theorem go_if_eq (tgt : Nat) {x : Int32} {off : Int} (hd : decode M.2.1 pc = .ok (.ifCond .eq off, 3)) (ht : (pc : Int) + off = (tgt : Int)) (hn : pc + 3 = nx) (kt : x = 0 → Go G M κ tgt lv st z h Q) (kf : ¬ x = 0 → Go G M κ nx lv st z h Q) : Go G M κ pc lv (.int x :: st) z h Q := by
  intro p l e R s m args below meth c H locs ls Qm hG hC hW hl hr
  have hx := hC.1
  have hb := hC.2.1
  subst hn
  exact lv_if_eq hx hb hd ht (fun q => kt q p l e R s m args below meth c H locs ls Qm hG hC hW hl hr) (fun q => kf q p l e R s m args below meth c H locs ls Qm hG hC hW hl hr)
theorem go_icmp_eq (tgt : Nat) {x y : Int32} {off : Int} (hd : decode M.2.1 pc = .ok (.if_icmp .eq off, 3)) (ht : (pc : Int) + off = (tgt : Int)) (hn : pc + 3 = nx) (kt : x = y → Go G M κ tgt lv st z h Q) (kf : ¬ x = y → Go G M κ nx lv st z h Q) : Go G M κ pc lv (.int y :: .int x :: st) z h Q := by
  intro p l e R s m args below meth c H locs ls Qm hG hC hW hl hr
  have hx := hC.1
  have hb := hC.2.1
  subst hn
  exact lv_icmp_eq hx hb hd ht (fun q => kt q p l e R s m args below meth c H locs ls Qm hG hC hW hl hr) (fun q => kf q p l e R s m args below meth c H locs ls Qm hG hC hW hl hr)
theorem go_if_ne (tgt : Nat) {x : Int32} {off : Int} (hd : decode M.2.1 pc = .ok (.ifCond .ne off, 3)) (ht : (pc : Int) + off = (tgt : Int)) (hn : pc + 3 = nx) (kt : ¬ x = 0 → Go G M κ tgt lv st z h Q) (kf : x = 0 → Go G M κ nx lv st z h Q) : Go G M κ pc lv (.int x :: st) z h Q := by
  intro p l e R s m args below meth c H locs ls Qm hG hC hW hl hr
  have hx := hC.1
  have hb := hC.2.1
  subst hn
  exact lv_if_ne hx hb hd ht (fun q => kt q p l e R s m args below meth c H locs ls Qm hG hC hW hl hr) (fun q => kf q p l e R s m args below meth c H locs ls Qm hG hC hW hl hr)
theorem go_icmp_ne (tgt : Nat) {x y : Int32} {off : Int} (hd : decode M.2.1 pc = .ok (.if_icmp .ne off, 3)) (ht : (pc : Int) + off = (tgt : Int)) (hn : pc + 3 = nx) (kt : ¬ x = y → Go G M κ tgt lv st z h Q) (kf : x = y → Go G M κ nx lv st z h Q) : Go G M κ pc lv (.int y :: .int x :: st) z h Q := by
  intro p l e R s m args below meth c H locs ls Qm hG hC hW hl hr
  have hx := hC.1
  have hb := hC.2.1
  subst hn
  exact lv_icmp_ne hx hb hd ht (fun q => kt q p l e R s m args below meth c H locs ls Qm hG hC hW hl hr) (fun q => kf q p l e R s m args below meth c H locs ls Qm hG hC hW hl hr)
theorem go_if_lt (tgt : Nat) {x : Int32} {off : Int} (hd : decode M.2.1 pc = .ok (.ifCond .lt off, 3)) (ht : (pc : Int) + off = (tgt : Int)) (hn : pc + 3 = nx) (kt : x < 0 → Go G M κ tgt lv st z h Q) (kf : ¬ x < 0 → Go G M κ nx lv st z h Q) : Go G M κ pc lv (.int x :: st) z h Q := by
  intro p l e R s m args below meth c H locs ls Qm hG hC hW hl hr
  have hx := hC.1
  have hb := hC.2.1
  subst hn
  exact lv_if_lt hx hb hd ht (fun q => kt q p l e R s m args below meth c H locs ls Qm hG hC hW hl hr) (fun q => kf q p l e R s m args below meth c H locs ls Qm hG hC hW hl hr)
theorem go_icmp_lt (tgt : Nat) {x y : Int32} {off : Int} (hd : decode M.2.1 pc = .ok (.if_icmp .lt off, 3)) (ht : (pc : Int) + off = (tgt : Int)) (hn : pc + 3 = nx) (kt : x < y → Go G M κ tgt lv st z h Q) (kf : ¬ x < y → Go G M κ nx lv st z h Q) : Go G M κ pc lv (.int y :: .int x :: st) z h Q := by
  intro p l e R s m args below meth c H locs ls Qm hG hC hW hl hr
  have hx := hC.1
  have hb := hC.2.1
  subst hn
  exact lv_icmp_lt hx hb hd ht (fun q => kt q p l e R s m args below meth c H locs ls Qm hG hC hW hl hr) (fun q => kf q p l e R s m args below meth c H locs ls Qm hG hC hW hl hr)
theorem go_if_ge (tgt : Nat) {x : Int32} {off : Int} (hd : decode M.2.1 pc = .ok (.ifCond .ge off, 3)) (ht : (pc : Int) + off = (tgt : Int)) (hn : pc + 3 = nx) (kt : 0 ≤ x → Go G M κ tgt lv st z h Q) (kf : ¬ 0 ≤ x → Go G M κ nx lv st z h Q) : Go G M κ pc lv (.int x :: st) z h Q := by
  intro p l e R s m args below meth c H locs ls Qm hG hC hW hl hr
  have hx := hC.1
  have hb := hC.2.1
  subst hn
  exact lv_if_ge hx hb hd ht (fun q => kt q p l e R s m args below meth c H locs ls Qm hG hC hW hl hr) (fun q => kf q p l e R s m args below meth c H locs ls Qm hG hC hW hl hr)
theorem go_icmp_ge (tgt : Nat) {x y : Int32} {off : Int} (hd : decode M.2.1 pc = .ok (.if_icmp .ge off, 3)) (ht : (pc : Int) + off = (tgt : Int)) (hn : pc + 3 = nx) (kt : y ≤ x → Go G M κ tgt lv st z h Q) (kf : ¬ y ≤ x → Go G M κ nx lv st z h Q) : Go G M κ pc lv (.int y :: .int x :: st) z h Q := by
  intro p l e R s m args below meth c H locs ls Qm hG hC hW hl hr
  have hx := hC.1
  have hb := hC.2.1
  subst hn
  exact lv_icmp_ge hx hb hd ht (fun q => kt q p l e R s m args below meth c H locs ls Qm hG hC hW hl hr) (fun q => kf q p l e R s m args below meth c H locs ls Qm hG hC hW hl hr)
theorem go_if_gt (tgt : Nat) {x : Int32} {off : Int} (hd : decode M.2.1 pc = .ok (.ifCond .gt off, 3)) (ht : (pc : Int) + off = (tgt : Int)) (hn : pc + 3 = nx) (kt : 0 < x → Go G M κ tgt lv st z h Q) (kf : ¬ 0 < x → Go G M κ nx lv st z h Q) : Go G M κ pc lv (.int x :: st) z h Q := by
  intro p l e R s m args below meth c H locs ls Qm hG hC hW hl hr
  have hx := hC.1
  have hb := hC.2.1
  subst hn
  exact lv_if_gt hx hb hd ht (fun q => kt q p l e R s m args below meth c H locs ls Qm hG hC hW hl hr) (fun q => kf q p l e R s m args below meth c H locs ls Qm hG hC hW hl hr)
theorem go_icmp_gt (tgt : Nat) {x y : Int32} {off : Int} (hd : decode M.2.1 pc = .ok (.if_icmp .gt off, 3)) (ht : (pc : Int) + off = (tgt : Int)) (hn : pc + 3 = nx) (kt : y < x → Go G M κ tgt lv st z h Q) (kf : ¬ y < x → Go G M κ nx lv st z h Q) : Go G M κ pc lv (.int y :: .int x :: st) z h Q := by
  intro p l e R s m args below meth c H locs ls Qm hG hC hW hl hr
  have hx := hC.1
  have hb := hC.2.1
  subst hn
  exact lv_icmp_gt hx hb hd ht (fun q => kt q p l e R s m args below meth c H locs ls Qm hG hC hW hl hr) (fun q => kf q p l e R s m args below meth c H locs ls Qm hG hC hW hl hr)
theorem go_if_le (tgt : Nat) {x : Int32} {off : Int} (hd : decode M.2.1 pc = .ok (.ifCond .le off, 3)) (ht : (pc : Int) + off = (tgt : Int)) (hn : pc + 3 = nx) (kt : x ≤ 0 → Go G M κ tgt lv st z h Q) (kf : ¬ x ≤ 0 → Go G M κ nx lv st z h Q) : Go G M κ pc lv (.int x :: st) z h Q := by
  intro p l e R s m args below meth c H locs ls Qm hG hC hW hl hr
  have hx := hC.1
  have hb := hC.2.1
  subst hn
  exact lv_if_le hx hb hd ht (fun q => kt q p l e R s m args below meth c H locs ls Qm hG hC hW hl hr) (fun q => kf q p l e R s m args below meth c H locs ls Qm hG hC hW hl hr)
theorem go_icmp_le (tgt : Nat) {x y : Int32} {off : Int} (hd : decode M.2.1 pc = .ok (.if_icmp .le off, 3)) (ht : (pc : Int) + off = (tgt : Int)) (hn : pc + 3 = nx) (kt : x ≤ y → Go G M κ tgt lv st z h Q) (kf : ¬ x ≤ y → Go G M κ nx lv st z h Q) : Go G M κ pc lv (.int y :: .int x :: st) z h Q := by
  intro p l e R s m args below meth c H locs ls Qm hG hC hW hl hr
  have hx := hC.1
  have hb := hC.2.1
  subst hn
  exact lv_icmp_le hx hb hd ht (fun q => kt q p l e R s m args below meth c H locs ls Qm hG hC hW hl hr) (fun q => kf q p l e R s m args below meth c H locs ls Qm hG hC hW hl hr)
theorem go_goto (tgt : Nat) {off : Int} (hd : decode M.2.1 pc = .ok (.goto off, 3)) (ht : (pc : Int) + off = (tgt : Int)) (k : Go G M κ tgt lv st z h Q) : Go G M κ pc lv st z h Q := by
  intro p l e R s m args below meth c H locs ls Qm hG hC hW hl hr
  have hx := hC.1
  have hb := hC.2.1
  exact lv_goto hx hb hd ht (k p l e R s m args below meth c H locs ls Qm hG hC hW hl hr)
theorem go_tableOut (tgt : Nat) {dflt lo hi : Int} {offs : Array Int} {len : Nat} {x : Int32} (hd : decode M.2.1 pc = .ok (.tableswitch dflt lo hi offs, len)) (hout : x.toInt < lo ∨ hi < x.toInt) (ht : (pc : Int) + dflt = (tgt : Int)) (k : Go G M κ tgt lv st z h Q) : Go G M κ pc lv (.int x :: st) z h Q := by
  intro p l e R s m args below meth c H locs ls Qm hG hC hW hl hr
  have hx := hC.1
  have hb := hC.2.1
  exact lv_tableOut hx hb hd hout ht (k p l e R s m args below meth c H locs ls Qm hG hC hW hl hr)
theorem go_tableIn (tgt : Nat) {dflt lo hi off : Int} {offs : Array Int} {len : Nat} {x : Int32} (hd : decode M.2.1 pc = .ok (.tableswitch dflt lo hi offs, len)) (h1 : ¬ x.toInt < lo) (h2 : ¬ hi < x.toInt) (ho : offs[(x.toInt - lo).toNat]? = some off) (ht : (pc : Int) + off = (tgt : Int)) (k : Go G M κ tgt lv st z h Q) : Go G M κ pc lv (.int x :: st) z h Q := by
  intro p l e R s m args below meth c H locs ls Qm hG hC hW hl hr
  have hx := hC.1
  have hb := hC.2.1
  exact lv_tableIn hx hb hd h1 h2 ho ht (k p l e R s m args below meth c H locs ls Qm hG hC hW hl hr)
theorem go_lcmp {x y : Int64} (hd : decode M.2.1 pc = .ok (.lcmp, 1)) (hn : pc + 1 = nx) (k : Go G M κ nx lv (.int (lg_cmp x y) :: st) z h Q) : Go G M κ pc lv (.long y :: .long x :: st) z h Q := by
  intro p l e R s m args below meth c H locs ls Qm hG hC hW hl hr
  have hx := hC.1
  have hb := hC.2.1
  subst hn
  exact W.lcmp hx hb hd (k p l e R s m args below meth c H locs ls Qm hG hC hW hl hr)
theorem go_ldc {idx : Nat} {v : Int32} (hc : Cond.constant M.1.cls idx v ∈ lw_tbl ∧ goodWord (Cond.constant M.1.cls idx v) = true) (hd : decode M.2.1 pc = .ok (.ldc idx, 2)) (hn : pc + 2 = nx) (k : Go G M κ nx lv (.int v :: st) z h Q) : Go G M κ pc lv st z h Q := by
  intro p l e R s m args below meth c H locs ls Qm hG hC hW hl hr
  have hx := hC.1
  have hb := hC.2.1
  subst hn
  exact lv_ldc hx hb hC.2.2.2.1 (kword hG hC.2.2.2.2.2.1 hc args) hd (k p l e R s m args below meth c H locs ls Qm hG hC hW hl hr)
theorem go_ldcw {idx : Nat} {v : Int32} (hc : Cond.constant M.1.cls idx v ∈ lw_tbl ∧ goodWord (Cond.constant M.1.cls idx v) = true) (hd : decode M.2.1 pc = .ok (.ldc_w idx, 3)) (hn : pc + 3 = nx) (k : Go G M κ nx lv (.int v :: st) z h Q) : Go G M κ pc lv st z h Q := by
  intro p l e R s m args below meth c H locs ls Qm hG hC hW hl hr
  have hx := hC.1
  have hb := hC.2.1
  subst hn
  exact lv_ldcw hx hb hC.2.2.2.1 (kword hG hC.2.2.2.2.2.1 hc args) hd (k p l e R s m args below meth c H locs ls Qm hG hC hW hl hr)
theorem go_ldc2 {idx : Nat} {v : Int64} (hc : Cond.constantLong M.1.cls idx v ∈ lw_tbl ∧ goodWord (Cond.constantLong M.1.cls idx v) = true) (hd : decode M.2.1 pc = .ok (.ldc2_w idx, 3)) (hn : pc + 3 = nx) (k : Go G M κ nx lv (.long v :: st) z h Q) : Go G M κ pc lv st z h Q := by
  intro p l e R s m args below meth c H locs ls Qm hG hC hW hl hr
  have hx := hC.1
  have hb := hC.2.1
  subst hn
  exact lv_ldc2 hx hb hC.2.2.2.1 (kword hG hC.2.2.2.2.2.1 hc args) hd (k p l e R s m args below meth c H locs ls Qm hG hC hW hl hr)
theorem go_ireturn {v : Int32} (hd : decode M.2.1 pc = .ok (.ireturn, 1)) (hq : Q (some (.int v)) z h) : Go G M κ pc lv [.int v] z h Q := by
  intro p l e R s m args below meth c H locs ls Qm hG hC hW hl hr
  exact hr _ z h H locs ls pc hq hW hd
theorem go_lreturn {v : Int64} (hd : decode M.2.1 pc = .ok (.lreturn, 1)) (hq : Q (some (.long v)) z h) : Go G M κ pc lv [.long v] z h Q := by
  intro p l e R s m args below meth c H locs ls Qm hG hC hW hl hr
  exact hr _ z h H locs ls pc hq hW hd
theorem go_areturn {v : Nat} (hd : decode M.2.1 pc = .ok (.areturn, 1)) (hq : Q (some (.ref v)) z h) : Go G M κ pc lv [.ref v] z h Q := by
  intro p l e R s m args below meth c H locs ls Qm hG hC hW hl hr
  exact hr _ z h H locs ls pc hq hW hd
theorem go_return (hd : decode M.2.1 pc = .ok (.return_, 1)) (hq : Q none z h) : Go G M κ pc lv [] z h Q := by
  intro p l e R s m args below meth c H locs ls Qm hG hC hW hl hr
  exact hr _ z h H locs ls pc hq hW hd
end KR
