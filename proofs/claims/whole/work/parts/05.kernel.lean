/-! A JUDGEMENT OF ITS OWN OVER THE KIT: all cells of ours stand one behind another from the law's start on; a heap is a function from their numbers. 'Go' is a walk inside a method, 'Sp' a method's contract. -/
abbrev kM : Type := MethodName × ByteArray × Nat × Option FieldType
abbrev kG : Type := va_G × ClassId × ClassId × State
abbrev kH : Type := Nat → va_E
abbrev kZ : Type := Nat × Nat × Nat
def kb (G : kG) : Nat := G.2.2.2.heap.size
def kws (G : kG) (n : Nat) (h : kH) : va_W := (List.range n).map (fun i => (kb G + i, h i))
def kA (G : kG) : Nat → Prop := fun q => kb G ≤ q
def kty (G : kG) : List (ClassId × FieldType) := [(G.2.1, .int), (G.2.2.1, .boolean)]
def kOK (G : kG) : Prop := (∃ b : Nat, (∀ w ∈ lw_tbl, w.before #[Value.ref b] G.2.2.2 = true) ∧ (Jvm.Cond.and given_1 narrow_1).before #[Value.ref b] G.2.2.2 = true) ∧ va_K G.1 vwCl (kty G) G.2.2.2 ∧ G.2.2.2.vm.findClass ("[" ++ FieldType.int.toString) = some G.2.1 ∧ G.2.2.2.vm.findClass ("[" ++ FieldType.boolean.toString) = some G.2.2.1
def hu (h : kH) (i : Nat) (e : va_E) : kH := fun j => if j = i then e else h j
def kWd (G : kG) (n : Nat) (h : kH) (H : Heap) (locs : List Loc) : Prop := H.size = kb G + n ∧ va_P G.1 vwCl (kws G n h) H ∧ va_S (kA G) G.2.2.2.heap H locs
theorem kws_get {G : kG} {n : Nat} {h : kH} {i : Nat} (hi : i < n) : (kws G n h)[i]? = some (kb G + i, h i) := by
  simp [kws, List.getElem?_range hi]
theorem kws_of {G : kG} {n : Nat} {h : kH} {i : Nat} {q : Nat × va_E} (hq : (kws G n h)[i]? = some q) : i < n ∧ q = (kb G + i, h i) := by
  have hl : i < (kws G n h).length := (List.getElem?_eq_some_iff.mp hq).1
  have hi : i < n := by simpa [kws] using hl
  rw [kws_get hi] at hq
  exact ⟨hi, (Option.some.inj hq).symm⟩
theorem hu_self (h : kH) (i : Nat) (e : va_E) : hu h i e i = e := by simp [hu]
theorem hu_ne (h : kH) {i j : Nat} (e : va_E) (hj : j ≠ i) : hu h i e j = h j := by simp [hu, hj]
theorem kws_set {G : kG} {n : Nat} {h : kH} {i : Nat} {e : va_E} (hi : i < n) : (kws G n h).set i (kb G + i, e) = kws G n (hu h i e) := by
  have hl : i < (kws G n h).length := by simpa [kws] using hi
  apply List.ext_getElem?
  intro j
  by_cases hj : j = i
  · subst hj
    rw [List.getElem?_set_self hl, kws_get hi, hu_self]
  · rw [List.getElem?_set_ne (Ne.symm hj)]
    by_cases hn : j < n
    · rw [kws_get hn, kws_get hn, hu_ne _ _ hj]
    · rw [List.getElem?_eq_none (by simp [kws]; omega), List.getElem?_eq_none (by simp [kws]; omega)]
theorem kws_push {G : kG} {n : Nat} {h : kH} {e : va_E} : kws G n h ++ [(kb G + n, e)] = kws G (n + 1) (hu h n e) := by
  apply List.ext_getElem?
  intro j
  by_cases hj : j < n
  · rw [List.getElem?_append_left (by simp [kws]; omega), kws_get hj, kws_get (by omega), hu_ne _ _ (by omega)]
  · rw [List.getElem?_append_right (by simp [kws]; omega)]
    by_cases hn : j = n
    · subst hn
      have e1 : j - (kws G j h).length = 0 := by simp [kws]
      rw [e1, kws_get (by omega), hu_self]
      rfl
    · have e1 : 0 < j - (kws G n h).length := by simp [kws]; omega
      rw [List.getElem?_eq_none (by simp only [List.length_cons, List.length_nil]; omega), List.getElem?_eq_none (by simp [kws]; omega)]
theorem kws_D {G : kG} {n : Nat} {h : kH} : va_D (kA G) (kws G n h) := by
  refine ⟨fun i j p q hi hj e => ?_, fun k q hk => ?_⟩
  · obtain ⟨-, rfl⟩ := kws_of hi
    obtain ⟨-, rfl⟩ := kws_of hj
    have e' : kb G + i = kb G + j := e
    omega
  · obtain ⟨-, rfl⟩ := kws_of hk
    exact Nat.le_add_right _ _
/-- the words at any place of the run -/
theorem kword {G : kG} (hG : kOK G) {s : State} (hW : G.2.2.2.WarmedH s.vm) {w : Cond} (hw : w ∈ lw_tbl ∧ goodWord w = true) (args : Array Value) : w.before args s = true := by
  obtain ⟨⟨b, hts, -⟩, -⟩ := hG
  exact word_at hW (good_of_word hw.2) (hts w hw.1)
theorem kwordN {G : kG} (hG : kOK G) {s : State} (hW : G.2.2.2.WarmedH s.vm) {own : String} {idx : Nat} {y : MethodName} {host : String} (hw : Cond.methodLinkNest own idx y host ∈ lw_tbl) : va_Nw (.methodLinkNest own idx y host) s := by
  obtain ⟨⟨b, hts, -⟩, -⟩ := hG
  exact va_Nw.warmM hW (va_Nw.of rfl (hts _ hw))
theorem kK {G : kG} (hG : kOK G) {s : State} (hW : G.2.2.2.WarmedH s.vm) : va_K G.1 vwCl (kty G) s := va_K.moved hW.alike hG.2.1
/-- a frame of the method M; how deep it may call, what it may make -/
def kC (G : kG) (M : kM) (κ : kZ) (p : Program) (R : Room) (s : State) (m : MethodId) (meth : Method) (c : Code) : Prop :=
  p.tables.exec = Jvm.exec ∧ c.code = M.2.1 ∧ c.maxLocals = M.2.2.1 ∧ s.vm.findClass M.1.cls = some m.cls ∧ meth.name = M.1.name ∧ G.2.2.2.WarmedH s.vm ∧ κ.1 + 1 ≤ R.frames ∧ 40 * (κ.1 + 1) ≤ R.locals ∧ κ.2.1 ≤ R.cells ∧ κ.2.2 ≤ R.slots
def kRet (M : kM) (pc : Nat) : Option Value → Prop
  | none => decode M.2.1 pc = .ok (.return_, 1)
  | some (.int _) => decode M.2.1 pc = .ok (.ireturn, 1)
  | some (.long _) => decode M.2.1 pc = .ok (.lreturn, 1)
  | some (.ref _) => decode M.2.1 pc = .ok (.areturn, 1)
  | _ => False
def Go (G : kG) (M : kM) (κ : kZ) (pc : Nat) (lv : List (Nat × Value)) (st : List Value) (z : kZ) (h : kH) (Q : Option Value → kZ → kH → Prop) : Prop :=
  ∀ (p : Program) (l : Launch) (e : Env) (R : Room) (s : State) (m : MethodId) (args : Array Value) (below : List Frame) (meth : Method) (c : Code) (H : Heap) (locs : List Loc) (ls : Array Slot) (Qm : State → Prop),
    kOK G → kC G M κ p R s m meth c → kWd G z.1 h H locs → lv_has ls M.2.2.1 lv →
    (∀ (r : Option Value) (z' : kZ) (h' : kH) (H' : Heap) (locs' : List Loc) (ls' : Array Slot) (pc' : Nat), Q r z' h' → kWd G z'.1 h' H' locs' → kRet M pc' r → W p l e R s m args below meth c H' locs' z'.2.1 z'.2.2 Qm (F0 m pc' ls' r.toList)) →
    W p l e R s m args below meth c H locs z.2.1 z.2.2 Qm (F0 m pc ls st)
def Sp (G : kG) (M : kM) (κ : kZ) (as : List Value) (n : Nat) (h : kH) (Q : Option Value → Nat → kH → Prop) : Prop :=
  ∀ l : Launch, kOK G → Met l M.1 [Cond.code M.1 M.2.1 M.2.2.1 M.2.2.2] ({ frames := κ.1 + 1, cells := κ.2.1, slots := κ.2.2, locals := 40 * (κ.1 + 1) } : Room)
    (fun v U => v = as.toArray ∧ G.2.2.2.WarmedH U.vm ∧ kWd G n h U.heap [])
    (fun _ _ o t => ∃ (r : Option Value) (n' : Nat) (h' : kH), o = .returned r ∧ Q r n' h' ∧ kWd G n' h' t.heap []) κ.2.1 κ.2.2 (kA G)
/-- an answer is of the method's type -/
def kTy (M : kM) : Option Value → Prop
  | none => M.2.2.2 = none
  | some (.int v) => ∃ ty, M.2.2.2 = some ty ∧ narrow ty (.int v) = .int v
  | some (.long _) => M.2.2.2 = some .long
  | some (.ref _) => ∃ rt, M.2.2.2 = some rt ∧ ((∃ n, rt = .object n) ∨ ∃ t, rt = .array t)
  | _ => False
theorem kWd.noLocs {G : kG} {n : Nat} {h : kH} {H : Heap} {locs : List Loc} (w : kWd G n h H locs) : kWd G n h H [] := ⟨w.1, w.2.1, w.2.2.1, w.2.2.2.1, fun _ h => by cases h⟩
theorem Sp.mono {G : kG} {M : kM} {κ : kZ} {as : List Value} {n : Nat} {h : kH} {Q Q' : Option Value → Nat → kH → Prop} (H : Sp G M κ as n h Q) (hq : ∀ r n' h', Q r n' h' → Q' r n' h') : Sp G M κ as n h Q' := by
  intro l hG
  have k := H l hG
  unfold Met at k ⊢
  exact k.mono (fun _ _ h => h) (fun _ _ _ _ _ h => h) fun a st o t _ ⟨⟨r, n', h', e1, e2, e3⟩, hf⟩ => ⟨⟨r, n', h', e1, hq _ _ _ e2, e3⟩, hf⟩
set_option maxHeartbeats 1000000 in
theorem Sp.of {G : kG} {M : kM} {κ : kZ} {as : List Value} {n : Nat} {h : kH} {Q : Option Value → Nat → kH → Prop} (hy : plainName M.1.cls = true) (hlen : (lg_sl as).length ≤ M.2.2.1)
    (H : Go G M κ 0 (lv_args 0 as) [] (n, 0, 0) h (fun r z h' => z.2.1 ≤ κ.2.1 ∧ z.2.2 ≤ κ.2.2 ∧ kTy M r ∧ Q r z.1 h')) : Sp G M κ as n h Q := by
  intro l hG
  refine Met.ofW (cc := M.2.1) (maxL := M.2.2.1) (ret := M.2.2.2) hy rfl ?_
  intro p e s m args below meth c s₁ B hml hv
  obtain ⟨rfl, hW, hWd⟩ := hv
  have hx := B.exec
  have hb := B.bytes
  have hr := B.returns
  have hown : s.vm.findClass M.1.cls = some m.cls := findClass_of_methodNamed B.named
  have hlocks := B.notSynchronized
  have hin : meth.name = M.1.name := (name_of_methodNamed B.named B.method).1
  have hl := lv_entry as (n := M.2.2.1) hlen
  rw [lg_entry_eq]
  refine H p l e _ s m _ below meth c s.heap [] _ _ hG ⟨hx, hb, hml, hown, hin, hW, Nat.le_refl _, Nat.le_refl _, Nat.le_refl _, Nat.le_refl _⟩ hWd hl ?_
  rintro r z' h' H' locs' ls' pc' ⟨hz1, hz2, hty, hQ⟩ hWd' hret
  refine W.widen hz1 hz2 ?_
  have hf : ∀ q ∈ locs', kA G q.base := hWd'.2.2.2.2
  have key : ∀ t : State, t.heap = H' → (fun _ _ o t => ∃ (r : Option Value) (n' : Nat) (h' : kH), o = .returned r ∧ Q r n' h' ∧ kWd G n' h' t.heap [] : Array Value → State → Outcome → State → Prop) as.toArray s (.returned r) t := fun t ht => ⟨r, z'.1, h', rfl, hQ, by rw [ht]; exact hWd'.noLocs⟩
  match r, hret, hty with
  | none, hret, hty => exact W.vret hx hb (hr.trans hty) (fun t ht _ => key t ht) hf hret
  | some (.int v), hret, ⟨ty, e1, e2⟩ => exact W.zret hx hb (hr.trans e1) e2 (fun t ht _ => key t ht) hf hret
  | some (.long v), hret, hty => exact W.lret hx hb (hr.trans hty) (fun t ht _ => key t ht) hf hret
  | some (.ref v), hret, ⟨rt, e1, e2⟩ => exact W.aret hx hb (hr.trans e1) e2 (Or.inr ⟨v, rfl⟩) (fun t ht _ => key t ht) hf hret
