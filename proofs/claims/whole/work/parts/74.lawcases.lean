/-! THE LAW: the script, and a case for each call -/
theorem oX.c0 {G : kG} {t : Nat} {s : mS} {h : kH} (H : oX G t s h) : ∃ fs, h 0 = .inr (6, fs) := ⟨_, H.2.1⟩
theorem oM.c37 {G : kG} {s : mS} {h : kH} (H : oM G s h) : ∃ fs, h 37 = .inr (7, fs) := by
  obtain ⟨⟨F, h1⟩, -⟩ := H
  exact ⟨_, h1⟩
abbrev kL (nm : String) : kM := (⟨RL, nm, "([I)Z"⟩, cL_law, 4, (some .boolean))
def QL : Option Value → kZ → kH → Prop := fun r z _ => r = some (.int 1) ∧ z.2.1 ≤ 600000 ∧ z.2.2 ≤ 7302250
abbrev LV (G : kG) (b i : Nat) : List (Nat × Value) := [(3, .int (nI i)), (0, .ref b), (1, .ref (kb G + 0)), (2, .ref (kb G + 37))]
section KSC
variable {G : kG} {M : kM} {κ z : kZ} {pc nx : Nat} {lv : List (Nat × Value)} {st : List Value} {h : kH} {Q : Option Value → kZ → kH → Prop} {b L : Nat} {xs : Nat → Int32}
theorem go_sld {x : Int32} (j : Nat) (hX : va_X b L xs (kg G) (kg G).heap) (hbl : b < (kg G).heap.size) (hj : j < L) (hL : L < 2 ^ 31) (hx0 : x = nI j) (hd : decode M.2.1 pc = .ok (.iaload, 1)) (hn : pc + 1 = nx) (k : Go G M κ nx lv (.int (xs j) :: st) z h Q) : Go G M κ pc lv (.int x :: .ref b :: st) z h Q := by
  intro p l e R s m args below meth c H locs ls Qm hG hC hW hl hr
  subst hn
  subst hx0
  obtain ⟨hx, hb, hml, hown, hname, hWm, -⟩ := id hC
  have hbA : ¬ kA G b := fun q => absurd (show (kg G).heap.size ≤ b from q) (by omega)
  refine va_sld hx hb (va_X.moved hWm.alike hX) hbl hbA hW.2.2 (vp_in_nI hj (by omega)) hd ?_
  rw [nI_clamp (by omega)]
  exact k p l e R s m args below meth c H locs ls Qm hG hC hW hl hr
theorem go_slen (hX : va_X b L xs (kg G) (kg G).heap) (hbl : b < (kg G).heap.size) (hd : decode M.2.1 pc = .ok (.arraylength, 1)) (hn : pc + 1 = nx) (k : Go G M κ nx lv (.int (nI L) :: st) z h Q) : Go G M κ pc lv (.ref b :: st) z h Q := by
  intro p l e R s m args below meth c H locs ls Qm hG hC hW hl hr
  subst hn
  obtain ⟨hx, hb, hml, hown, hname, hWm, -⟩ := id hC
  have hbA : ¬ kA G b := fun q => absurd (show (kg G).heap.size ≤ b from q) (by omega)
  exact va_slen hx hb (va_X.moved hWm.alike hX) hbl hbA hW.2.2 hd (k p l e R s m args below meth c H locs ls Qm hG hC hW hl hr)
end KSC
theorem law_type {G : kG} {nm : String} {b L i t sz : Nat} {xs : Nat → Int32} {h : kH} {tx : Nat → Nat} {ν : mN} {i0 i1 : Option mN} {T : mT} {tr : Int64} (hXs : va_X b L xs (kg G) (kg G).heap) (hbl : b < (kg G).heap.size) (hL : L < 2 ^ 31) (hi5 : i + 5 ≤ L) (HX : oX G t (tx, sz, ν, i0, i1, T, tr) h) (HM : oM G (tx, sz, ν, i0, i1, T, tr) h) (W : wS (tx, sz, ν, i0, i1, T, tr))
    (kk : ∀ (t : Nat) (S : mS) (h : kH), oX G t S h → oM G S h → wS S → Go G (kL nm) (11, 49, 2535) 898 (LV G b i) [] (49, 49, 2535) h QL) : Go G (kL nm) (11, 49, 2535) 156 (LV G b i) [] (49, 49, 2535) h QL := by
  refine go_aload_n 2 (nx := 157) dL_law_156 rfl rfl rfl ?_
  refine go_aload_n 1 (nx := 158) dL_law_157 rfl rfl rfl ?_
  refine go_iload_n 0 (nx := 159) dL_law_158 rfl rfl rfl ?_
  refine go_iconst (v := nI 1) (nx := 160) dL_law_159 (by decide) rfl ?_
  refine go_iadd (nx := 161) dL_law_160 rfl ?_
  refine go_sld (i + 1) (nx := 162) hXs hbl (by omega) hL (by rw [nI_add]) dL_law_161 rfl ?_
  refine go_i2l (nx := 163) dL_law_162 rfl ?_
  refine go_bipush (v := nI 32) (nx := 165) dL_law_163 (by decide) rfl ?_
  refine go_lshl (nx := 166) dL_law_165 rfl ?_
  refine go_aload_n 1 (nx := 167) dL_law_166 rfl rfl rfl ?_
  refine go_iload_n 0 (nx := 168) dL_law_167 rfl rfl rfl ?_
  refine go_iconst (v := nI 2) (nx := 169) dL_law_168 (by decide) rfl ?_
  refine go_iadd (nx := 170) dL_law_169 rfl ?_
  refine go_sld (i + 2) (nx := 171) hXs hbl (by omega) hL (by rw [nI_add]) dL_law_170 rfl ?_
  refine go_i2l (nx := 172) dL_law_171 rfl ?_
  refine go_ldc2 (nx := 175) kl_L_13 dL_law_172 rfl ?_
  refine go_land (nx := 176) dL_law_175 rfl ?_
  refine go_lor (nx := 177) dL_law_176 rfl ?_
  refine go_aload_n 1 (nx := 178) dL_law_177 rfl rfl rfl ?_
  refine go_iload_n 0 (nx := 179) dL_law_178 rfl rfl rfl ?_
  refine go_iconst (v := nI 3) (nx := 180) dL_law_179 (by decide) rfl ?_
  refine go_iadd (nx := 181) dL_law_180 rfl ?_
  refine go_sld (i + 3) (nx := 182) hXs hbl (by omega) hL (by rw [nI_add]) dL_law_181 rfl ?_
  obtain ⟨fsX, hX⟩ := HX.c0
  refine go_Vi (nx := 185) [_, _] kc_L_15 ⟨_, _, rfl⟩ (by omega) hX (x_type (by omega) HX W) dL_law_182 rfl rfl (Nat.le_of_ble_eq_true rfl) (Nat.le_of_ble_eq_true rfl) ⟨Nat.le_refl _, Nat.le_refl _⟩ rfl (fun rh1 h1 hqh1 => ?_)
  obtain ⟨rfl, HX, hFh1⟩ := hqh1
  have HM := HM.frAll hFh1 (by omega)
  refine go_aload_n 3 (nx := 186) dL_law_185 rfl rfl rfl ?_
  refine go_aload_n 1 (nx := 187) dL_law_186 rfl rfl rfl ?_
  refine go_iload_n 0 (nx := 188) dL_law_187 rfl rfl rfl ?_
  refine go_iconst (v := nI 1) (nx := 189) dL_law_188 (by decide) rfl ?_
  refine go_iadd (nx := 190) dL_law_189 rfl ?_
  refine go_sld (i + 1) (nx := 191) hXs hbl (by omega) hL (by rw [nI_add]) dL_law_190 rfl ?_
  refine go_i2l (nx := 192) dL_law_191 rfl ?_
  refine go_bipush (v := nI 32) (nx := 194) dL_law_192 (by decide) rfl ?_
  refine go_lshl (nx := 195) dL_law_194 rfl ?_
  refine go_aload_n 1 (nx := 196) dL_law_195 rfl rfl rfl ?_
  refine go_iload_n 0 (nx := 197) dL_law_196 rfl rfl rfl ?_
  refine go_iconst (v := nI 2) (nx := 198) dL_law_197 (by decide) rfl ?_
  refine go_iadd (nx := 199) dL_law_198 rfl ?_
  refine go_sld (i + 2) (nx := 200) hXs hbl (by omega) hL (by rw [nI_add]) dL_law_199 rfl ?_
  refine go_i2l (nx := 201) dL_law_200 rfl ?_
  refine go_ldc2 (nx := 204) kl_L_13 dL_law_201 rfl ?_
  refine go_land (nx := 205) dL_law_204 rfl ?_
  refine go_lor (nx := 206) dL_law_205 rfl ?_
  refine go_aload_n 1 (nx := 207) dL_law_206 rfl rfl rfl ?_
  refine go_iload_n 0 (nx := 208) dL_law_207 rfl rfl rfl ?_
  refine go_iconst (v := nI 3) (nx := 209) dL_law_208 (by decide) rfl ?_
  refine go_iadd (nx := 210) dL_law_209 rfl ?_
  refine go_sld (i + 3) (nx := 211) hXs hbl (by omega) hL (by rw [nI_add]) dL_law_210 rfl ?_
  obtain ⟨fsM, hM⟩ := HM.c37
  refine go_Vi (nx := 214) [_, _] kc_L_19 ⟨_, _, rfl⟩ (by omega) hM (m_type (by omega) HM W) dL_law_211 rfl rfl (Nat.le_of_ble_eq_true rfl) (Nat.le_of_ble_eq_true rfl) ⟨Nat.le_refl _, Nat.le_refl _⟩ rfl (fun rh2 h2 hqh2 => ?_)
  obtain ⟨rfl, HM, hFh2⟩ := hqh2
  have HX := HX.frAll hFh2 (by omega)
  refine go_icmp_eq 898 (nx := 217) dL_law_214 rfl rfl (fun c214 => ?_) (fun c214 => False.elim (absurd rfl c214))
  exact kk _ _ _ HX HM (ws_type W _ _)
theorem law_clear {G : kG} {nm : String} {b L i t sz : Nat} {xs : Nat → Int32} {h : kH} {tx : Nat → Nat} {ν : mN} {i0 i1 : Option mN} {T : mT} {tr : Int64} (hXs : va_X b L xs (kg G) (kg G).heap) (hbl : b < (kg G).heap.size) (hL : L < 2 ^ 31) (hi5 : i + 5 ≤ L) (HX : oX G t (tx, sz, ν, i0, i1, T, tr) h) (HM : oM G (tx, sz, ν, i0, i1, T, tr) h) (W : wS (tx, sz, ν, i0, i1, T, tr))
    (kk : ∀ (t : Nat) (S : mS) (h : kH), oX G t S h → oM G S h → wS S → Go G (kL nm) (11, 49, 2535) 898 (LV G b i) [] (49, 49, 2535) h QL) : Go G (kL nm) (11, 49, 2535) 219 (LV G b i) [] (49, 49, 2535) h QL := by
  refine go_aload_n 2 (nx := 220) dL_law_219 rfl rfl rfl ?_
  obtain ⟨fsX, hX⟩ := HX.c0
  refine go_Vi (nx := 223) [] kc_L_20 ⟨_, _, rfl⟩ (by omega) hX (x_clear (by omega) HX W) dL_law_220 rfl rfl (Nat.le_of_ble_eq_true rfl) (Nat.le_of_ble_eq_true rfl) ⟨Nat.le_refl _, Nat.le_refl _⟩ rfl (fun rh1 h1 hqh1 => ?_)
  obtain ⟨rfl, HX, hFh1⟩ := hqh1
  have HM := HM.frAll hFh1 (by omega)
  refine go_aload_n 3 (nx := 224) dL_law_223 rfl rfl rfl ?_
  obtain ⟨fsM, hM⟩ := HM.c37
  refine go_Vi (nx := 227) [] kc_L_24 ⟨_, _, rfl⟩ (by omega) hM (m_clear (by omega) HM W) dL_law_224 rfl rfl (Nat.le_of_ble_eq_true rfl) (Nat.le_of_ble_eq_true rfl) ⟨Nat.le_refl _, Nat.le_refl _⟩ rfl (fun rh2 h2 hqh2 => ?_)
  obtain ⟨rfl, HM, hFh2⟩ := hqh2
  have HX := HX.frAll hFh2 (by omega)
  refine go_icmp_eq 898 (nx := 230) dL_law_227 rfl rfl (fun c227 => ?_) (fun c227 => False.elim (absurd rfl c227))
  exact kk _ _ _ HX HM (ws_clear W)
theorem law_town {G : kG} {nm : String} {b L i t sz : Nat} {xs : Nat → Int32} {h : kH} {tx : Nat → Nat} {ν : mN} {i0 i1 : Option mN} {T : mT} {tr : Int64} (hXs : va_X b L xs (kg G) (kg G).heap) (hbl : b < (kg G).heap.size) (hL : L < 2 ^ 31) (hi5 : i + 5 ≤ L) (HX : oX G t (tx, sz, ν, i0, i1, T, tr) h) (HM : oM G (tx, sz, ν, i0, i1, T, tr) h) (W : wS (tx, sz, ν, i0, i1, T, tr))
    (kk : ∀ (t : Nat) (S : mS) (h : kH), oX G t S h → oM G S h → wS S → Go G (kL nm) (11, 49, 2535) 898 (LV G b i) [] (49, 49, 2535) h QL) : Go G (kL nm) (11, 49, 2535) 232 (LV G b i) [] (49, 49, 2535) h QL := by
  refine go_aload_n 2 (nx := 233) dL_law_232 rfl rfl rfl ?_
  obtain ⟨fsX, hX⟩ := HX.c0
  refine go_Vi (nx := 236) [] kc_L_25 ⟨_, _, rfl⟩ (by omega) hX (x_town WD_ok (by omega) HX W) dL_law_233 rfl rfl (Nat.le_of_ble_eq_true rfl) (Nat.le_of_ble_eq_true rfl) ⟨Nat.le_refl _, Nat.le_refl _⟩ rfl (fun rh1 h1 hqh1 => ?_)
  obtain ⟨rfl, ⟨u, HX⟩, hFh1⟩ := hqh1
  have HM := HM.frAll hFh1 (by omega)
  refine go_aload_n 3 (nx := 237) dL_law_236 rfl rfl rfl ?_
  obtain ⟨fsM, hM⟩ := HM.c37
  refine go_Vi (nx := 240) [] kc_L_28 ⟨_, _, rfl⟩ (by omega) hM (m_town (by omega) HM W) dL_law_237 rfl rfl (Nat.le_of_ble_eq_true rfl) (Nat.le_of_ble_eq_true rfl) ⟨Nat.le_refl _, Nat.le_refl _⟩ rfl (fun rh2 h2 hqh2 => ?_)
  obtain ⟨rfl, HM, hFh2⟩ := hqh2
  have HX := HX.frAll hFh2 (by omega)
  refine go_icmp_eq 898 (nx := 243) dL_law_240 rfl rfl (fun c240 => ?_) (fun c240 => False.elim (absurd rfl c240))
  exact kk _ _ _ HX HM (ws_town W)
theorem law_knows {G : kG} {nm : String} {b L i t sz : Nat} {xs : Nat → Int32} {h : kH} {tx : Nat → Nat} {ν : mN} {i0 i1 : Option mN} {T : mT} {tr : Int64} (hXs : va_X b L xs (kg G) (kg G).heap) (hbl : b < (kg G).heap.size) (hL : L < 2 ^ 31) (hi5 : i + 5 ≤ L) (HX : oX G t (tx, sz, ν, i0, i1, T, tr) h) (HM : oM G (tx, sz, ν, i0, i1, T, tr) h) (W : wS (tx, sz, ν, i0, i1, T, tr))
    (kk : ∀ (t : Nat) (S : mS) (h : kH), oX G t S h → oM G S h → wS S → Go G (kL nm) (11, 49, 2535) 898 (LV G b i) [] (49, 49, 2535) h QL) : Go G (kL nm) (11, 49, 2535) 245 (LV G b i) [] (49, 49, 2535) h QL := by
  refine go_aload_n 2 (nx := 246) dL_law_245 rfl rfl rfl ?_
  refine go_aload_n 1 (nx := 247) dL_law_246 rfl rfl rfl ?_
  refine go_iload_n 0 (nx := 248) dL_law_247 rfl rfl rfl ?_
  refine go_iconst (v := nI 1) (nx := 249) dL_law_248 (by decide) rfl ?_
  refine go_iadd (nx := 250) dL_law_249 rfl ?_
  refine go_sld (i + 1) (nx := 251) hXs hbl (by omega) hL (by rw [nI_add]) dL_law_250 rfl ?_
  refine go_aload_n 1 (nx := 252) dL_law_251 rfl rfl rfl ?_
  refine go_iload_n 0 (nx := 253) dL_law_252 rfl rfl rfl ?_
  refine go_iconst (v := nI 2) (nx := 254) dL_law_253 (by decide) rfl ?_
  refine go_iadd (nx := 255) dL_law_254 rfl ?_
  refine go_sld (i + 2) (nx := 256) hXs hbl (by omega) hL (by rw [nI_add]) dL_law_255 rfl ?_
  obtain ⟨fsX, hX⟩ := HX.c0
  refine go_Vi (nx := 259) [_, _] kc_L_29 ⟨_, _, rfl⟩ (by omega) hX (x_knows (by omega) HX W) dL_law_256 rfl rfl (Nat.le_of_ble_eq_true rfl) (Nat.le_of_ble_eq_true rfl) ⟨Nat.le_refl _, Nat.le_refl _⟩ rfl (fun rh1 h1 hqh1 => ?_)
  obtain ⟨rfl, rfl⟩ := hqh1
  refine go_aload_n 3 (nx := 260) dL_law_259 rfl rfl rfl ?_
  refine go_aload_n 1 (nx := 261) dL_law_260 rfl rfl rfl ?_
  refine go_iload_n 0 (nx := 262) dL_law_261 rfl rfl rfl ?_
  refine go_iconst (v := nI 1) (nx := 263) dL_law_262 (by decide) rfl ?_
  refine go_iadd (nx := 264) dL_law_263 rfl ?_
  refine go_sld (i + 1) (nx := 265) hXs hbl (by omega) hL (by rw [nI_add]) dL_law_264 rfl ?_
  refine go_aload_n 1 (nx := 266) dL_law_265 rfl rfl rfl ?_
  refine go_iload_n 0 (nx := 267) dL_law_266 rfl rfl rfl ?_
  refine go_iconst (v := nI 2) (nx := 268) dL_law_267 (by decide) rfl ?_
  refine go_iadd (nx := 269) dL_law_268 rfl ?_
  refine go_sld (i + 2) (nx := 270) hXs hbl (by omega) hL (by rw [nI_add]) dL_law_269 rfl ?_
  obtain ⟨fsM, hM⟩ := HM.c37
  refine go_Vi (nx := 273) [_, _] kc_L_33 ⟨_, _, rfl⟩ (by omega) hM (m_knows (by omega) HM W) dL_law_270 rfl rfl (Nat.le_of_ble_eq_true rfl) (Nat.le_of_ble_eq_true rfl) ⟨Nat.le_refl _, Nat.le_refl _⟩ rfl (fun rh2 h2 hqh2 => ?_)
  obtain ⟨rfl, HM, hFh2⟩ := hqh2
  have HX := HX.frAll hFh2 (by omega)
  refine go_icmp_eq 898 (nx := 276) dL_law_273 rfl rfl (fun c273 => ?_) (fun c273 => False.elim (absurd rfl c273))
  exact kk _ _ _ HX HM (W)
theorem law_seen {G : kG} {nm : String} {b L i t sz : Nat} {xs : Nat → Int32} {h : kH} {tx : Nat → Nat} {ν : mN} {i0 i1 : Option mN} {T : mT} {tr : Int64} (hXs : va_X b L xs (kg G) (kg G).heap) (hbl : b < (kg G).heap.size) (hL : L < 2 ^ 31) (hi5 : i + 5 ≤ L) (HX : oX G t (tx, sz, ν, i0, i1, T, tr) h) (HM : oM G (tx, sz, ν, i0, i1, T, tr) h) (W : wS (tx, sz, ν, i0, i1, T, tr))
    (kk : ∀ (t : Nat) (S : mS) (h : kH), oX G t S h → oM G S h → wS S → Go G (kL nm) (11, 49, 2535) 898 (LV G b i) [] (49, 49, 2535) h QL) : Go G (kL nm) (11, 49, 2535) 278 (LV G b i) [] (49, 49, 2535) h QL := by
  refine go_aload_n 2 (nx := 279) dL_law_278 rfl rfl rfl ?_
  refine go_aload_n 1 (nx := 280) dL_law_279 rfl rfl rfl ?_
  refine go_iload_n 0 (nx := 281) dL_law_280 rfl rfl rfl ?_
  refine go_iconst (v := nI 1) (nx := 282) dL_law_281 (by decide) rfl ?_
  refine go_iadd (nx := 283) dL_law_282 rfl ?_
  refine go_sld (i + 1) (nx := 284) hXs hbl (by omega) hL (by rw [nI_add]) dL_law_283 rfl ?_
  refine go_aload_n 1 (nx := 285) dL_law_284 rfl rfl rfl ?_
  refine go_iload_n 0 (nx := 286) dL_law_285 rfl rfl rfl ?_
  refine go_iconst (v := nI 2) (nx := 287) dL_law_286 (by decide) rfl ?_
  refine go_iadd (nx := 288) dL_law_287 rfl ?_
  refine go_sld (i + 2) (nx := 289) hXs hbl (by omega) hL (by rw [nI_add]) dL_law_288 rfl ?_
  obtain ⟨fsX, hX⟩ := HX.c0
  refine go_Vi (nx := 292) [_, _] kc_L_34 ⟨_, _, rfl⟩ (by omega) hX (x_seen (by omega) HX W) dL_law_289 rfl rfl (Nat.le_of_ble_eq_true rfl) (Nat.le_of_ble_eq_true rfl) ⟨Nat.le_refl _, Nat.le_refl _⟩ rfl (fun rh1 h1 hqh1 => ?_)
  obtain ⟨rfl, rfl⟩ := hqh1
  refine go_aload_n 3 (nx := 293) dL_law_292 rfl rfl rfl ?_
  refine go_aload_n 1 (nx := 294) dL_law_293 rfl rfl rfl ?_
  refine go_iload_n 0 (nx := 295) dL_law_294 rfl rfl rfl ?_
  refine go_iconst (v := nI 1) (nx := 296) dL_law_295 (by decide) rfl ?_
  refine go_iadd (nx := 297) dL_law_296 rfl ?_
  refine go_sld (i + 1) (nx := 298) hXs hbl (by omega) hL (by rw [nI_add]) dL_law_297 rfl ?_
  refine go_aload_n 1 (nx := 299) dL_law_298 rfl rfl rfl ?_
  refine go_iload_n 0 (nx := 300) dL_law_299 rfl rfl rfl ?_
  refine go_iconst (v := nI 2) (nx := 301) dL_law_300 (by decide) rfl ?_
  refine go_iadd (nx := 302) dL_law_301 rfl ?_
  refine go_sld (i + 2) (nx := 303) hXs hbl (by omega) hL (by rw [nI_add]) dL_law_302 rfl ?_
  obtain ⟨fsM, hM⟩ := HM.c37
  refine go_Vi (nx := 306) [_, _] kc_L_37 ⟨_, _, rfl⟩ (by omega) hM (m_seen (by omega) HM W) dL_law_303 rfl rfl (Nat.le_of_ble_eq_true rfl) (Nat.le_of_ble_eq_true rfl) ⟨Nat.le_refl _, Nat.le_refl _⟩ rfl (fun rh2 h2 hqh2 => ?_)
  obtain ⟨rfl, HM, hFh2⟩ := hqh2
  have HX := HX.frAll hFh2 (by omega)
  refine go_icmp_eq 898 (nx := 309) dL_law_306 rfl rfl (fun c306 => ?_) (fun c306 => False.elim (absurd rfl c306))
  exact kk _ _ _ HX HM (W)
theorem law_person {G : kG} {nm : String} {b L i t sz : Nat} {xs : Nat → Int32} {h : kH} {tx : Nat → Nat} {ν : mN} {i0 i1 : Option mN} {T : mT} {tr : Int64} (hXs : va_X b L xs (kg G) (kg G).heap) (hbl : b < (kg G).heap.size) (hL : L < 2 ^ 31) (hi5 : i + 5 ≤ L) (HX : oX G t (tx, sz, ν, i0, i1, T, tr) h) (HM : oM G (tx, sz, ν, i0, i1, T, tr) h) (W : wS (tx, sz, ν, i0, i1, T, tr))
    (kk : ∀ (t : Nat) (S : mS) (h : kH), oX G t S h → oM G S h → wS S → Go G (kL nm) (11, 49, 2535) 898 (LV G b i) [] (49, 49, 2535) h QL) : Go G (kL nm) (11, 49, 2535) 311 (LV G b i) [] (49, 49, 2535) h QL := by
  refine go_aload_n 2 (nx := 312) dL_law_311 rfl rfl rfl ?_
  refine go_aload_n 1 (nx := 313) dL_law_312 rfl rfl rfl ?_
  refine go_iload_n 0 (nx := 314) dL_law_313 rfl rfl rfl ?_
  refine go_iconst (v := nI 1) (nx := 315) dL_law_314 (by decide) rfl ?_
  refine go_iadd (nx := 316) dL_law_315 rfl ?_
  refine go_sld (i + 1) (nx := 317) hXs hbl (by omega) hL (by rw [nI_add]) dL_law_316 rfl ?_
  refine go_aload_n 1 (nx := 318) dL_law_317 rfl rfl rfl ?_
  refine go_iload_n 0 (nx := 319) dL_law_318 rfl rfl rfl ?_
  refine go_iconst (v := nI 2) (nx := 320) dL_law_319 (by decide) rfl ?_
  refine go_iadd (nx := 321) dL_law_320 rfl ?_
  refine go_sld (i + 2) (nx := 322) hXs hbl (by omega) hL (by rw [nI_add]) dL_law_321 rfl ?_
  obtain ⟨fsX, hX⟩ := HX.c0
  refine go_Vi (nx := 325) [_, _] kc_L_38 ⟨_, _, rfl⟩ (by omega) hX (x_person (by omega) HX W) dL_law_322 rfl rfl (Nat.le_of_ble_eq_true rfl) (Nat.le_of_ble_eq_true rfl) ⟨Nat.le_refl _, Nat.le_refl _⟩ rfl (fun rh1 h1 hqh1 => ?_)
  obtain ⟨rfl, rfl⟩ := hqh1
  refine go_aload_n 3 (nx := 326) dL_law_325 rfl rfl rfl ?_
  refine go_aload_n 1 (nx := 327) dL_law_326 rfl rfl rfl ?_
  refine go_iload_n 0 (nx := 328) dL_law_327 rfl rfl rfl ?_
  refine go_iconst (v := nI 1) (nx := 329) dL_law_328 (by decide) rfl ?_
  refine go_iadd (nx := 330) dL_law_329 rfl ?_
  refine go_sld (i + 1) (nx := 331) hXs hbl (by omega) hL (by rw [nI_add]) dL_law_330 rfl ?_
  refine go_aload_n 1 (nx := 332) dL_law_331 rfl rfl rfl ?_
  refine go_iload_n 0 (nx := 333) dL_law_332 rfl rfl rfl ?_
  refine go_iconst (v := nI 2) (nx := 334) dL_law_333 (by decide) rfl ?_
  refine go_iadd (nx := 335) dL_law_334 rfl ?_
  refine go_sld (i + 2) (nx := 336) hXs hbl (by omega) hL (by rw [nI_add]) dL_law_335 rfl ?_
  obtain ⟨fsM, hM⟩ := HM.c37
  refine go_Vi (nx := 339) [_, _] kc_L_41 ⟨_, _, rfl⟩ (by omega) hM (m_person (by omega) HM W) dL_law_336 rfl rfl (Nat.le_of_ble_eq_true rfl) (Nat.le_of_ble_eq_true rfl) ⟨Nat.le_refl _, Nat.le_refl _⟩ rfl (fun rh2 h2 hqh2 => ?_)
  obtain ⟨rfl, HM, hFh2⟩ := hqh2
  have HX := HX.frAll hFh2 (by omega)
  refine go_icmp_eq 898 (nx := 342) dL_law_339 rfl rfl (fun c339 => ?_) (fun c339 => False.elim (absurd rfl c339))
  exact kk _ _ _ HX HM (W)
theorem law_law {G : kG} {nm : String} {b L i t sz : Nat} {xs : Nat → Int32} {h : kH} {tx : Nat → Nat} {ν : mN} {i0 i1 : Option mN} {T : mT} {tr : Int64} (hXs : va_X b L xs (kg G) (kg G).heap) (hbl : b < (kg G).heap.size) (hL : L < 2 ^ 31) (hi5 : i + 5 ≤ L) (HX : oX G t (tx, sz, ν, i0, i1, T, tr) h) (HM : oM G (tx, sz, ν, i0, i1, T, tr) h) (W : wS (tx, sz, ν, i0, i1, T, tr))
    (kk : ∀ (t : Nat) (S : mS) (h : kH), oX G t S h → oM G S h → wS S → Go G (kL nm) (11, 49, 2535) 898 (LV G b i) [] (49, 49, 2535) h QL) : Go G (kL nm) (11, 49, 2535) 344 (LV G b i) [] (49, 49, 2535) h QL := by
  refine go_aload_n 2 (nx := 345) dL_law_344 rfl rfl rfl ?_
  refine go_aload_n 1 (nx := 346) dL_law_345 rfl rfl rfl ?_
  refine go_iload_n 0 (nx := 347) dL_law_346 rfl rfl rfl ?_
  refine go_iconst (v := nI 1) (nx := 348) dL_law_347 (by decide) rfl ?_
  refine go_iadd (nx := 349) dL_law_348 rfl ?_
  refine go_sld (i + 1) (nx := 350) hXs hbl (by omega) hL (by rw [nI_add]) dL_law_349 rfl ?_
  obtain ⟨fsX, hX⟩ := HX.c0
  refine go_Vi (nx := 353) [_] kc_L_42 ⟨_, _, rfl⟩ (by omega) hX (x_law (by omega) HX W) dL_law_350 rfl rfl (Nat.le_of_ble_eq_true rfl) (Nat.le_of_ble_eq_true rfl) ⟨Nat.le_refl _, Nat.le_refl _⟩ rfl (fun rh1 h1 hqh1 => ?_)
  obtain ⟨rfl, rfl⟩ := hqh1
  refine go_aload_n 3 (nx := 354) dL_law_353 rfl rfl rfl ?_
  refine go_aload_n 1 (nx := 355) dL_law_354 rfl rfl rfl ?_
  refine go_iload_n 0 (nx := 356) dL_law_355 rfl rfl rfl ?_
  refine go_iconst (v := nI 1) (nx := 357) dL_law_356 (by decide) rfl ?_
  refine go_iadd (nx := 358) dL_law_357 rfl ?_
  refine go_sld (i + 1) (nx := 359) hXs hbl (by omega) hL (by rw [nI_add]) dL_law_358 rfl ?_
  obtain ⟨fsM, hM⟩ := HM.c37
  refine go_Vi (nx := 362) [_] kc_L_46 ⟨_, _, rfl⟩ (by omega) hM (m_law (by omega) HM W) dL_law_359 rfl rfl (Nat.le_of_ble_eq_true rfl) (Nat.le_of_ble_eq_true rfl) ⟨Nat.le_refl _, Nat.le_refl _⟩ rfl (fun rh2 h2 hqh2 => ?_)
  obtain ⟨rfl, HM, hFh2⟩ := hqh2
  have HX := HX.frAll hFh2 (by omega)
  refine go_icmp_eq 898 (nx := 365) dL_law_362 rfl rfl (fun c362 => ?_) (fun c362 => False.elim (absurd rfl c362))
  exact kk _ _ _ HX HM (W)
theorem law_rules {G : kG} {nm : String} {b L i t sz : Nat} {xs : Nat → Int32} {h : kH} {tx : Nat → Nat} {ν : mN} {i0 i1 : Option mN} {T : mT} {tr : Int64} (hXs : va_X b L xs (kg G) (kg G).heap) (hbl : b < (kg G).heap.size) (hL : L < 2 ^ 31) (hi5 : i + 5 ≤ L) (HX : oX G t (tx, sz, ν, i0, i1, T, tr) h) (HM : oM G (tx, sz, ν, i0, i1, T, tr) h) (W : wS (tx, sz, ν, i0, i1, T, tr))
    (kk : ∀ (t : Nat) (S : mS) (h : kH), oX G t S h → oM G S h → wS S → Go G (kL nm) (11, 49, 2535) 898 (LV G b i) [] (49, 49, 2535) h QL) : Go G (kL nm) (11, 49, 2535) 367 (LV G b i) [] (49, 49, 2535) h QL := by
  refine go_aload_n 2 (nx := 368) dL_law_367 rfl rfl rfl ?_
  refine go_aload_n 1 (nx := 369) dL_law_368 rfl rfl rfl ?_
  refine go_iload_n 0 (nx := 370) dL_law_369 rfl rfl rfl ?_
  refine go_iconst (v := nI 1) (nx := 371) dL_law_370 (by decide) rfl ?_
  refine go_iadd (nx := 372) dL_law_371 rfl ?_
  refine go_sld (i + 1) (nx := 373) hXs hbl (by omega) hL (by rw [nI_add]) dL_law_372 rfl ?_
  refine go_aload_n 1 (nx := 374) dL_law_373 rfl rfl rfl ?_
  refine go_iload_n 0 (nx := 375) dL_law_374 rfl rfl rfl ?_
  refine go_iconst (v := nI 2) (nx := 376) dL_law_375 (by decide) rfl ?_
  refine go_iadd (nx := 377) dL_law_376 rfl ?_
  refine go_sld (i + 2) (nx := 378) hXs hbl (by omega) hL (by rw [nI_add]) dL_law_377 rfl ?_
  obtain ⟨fsX, hX⟩ := HX.c0
  refine go_Vi (nx := 381) [_, _] kc_L_47 ⟨_, _, rfl⟩ (by omega) hX (x_rules (by omega) HX W) dL_law_378 rfl rfl (Nat.le_of_ble_eq_true rfl) (Nat.le_of_ble_eq_true rfl) ⟨Nat.le_refl _, Nat.le_refl _⟩ rfl (fun rh1 h1 hqh1 => ?_)
  obtain ⟨rfl, HX, hFh1⟩ := hqh1
  have HM := HM.frAll hFh1 (by omega)
  refine go_aload_n 3 (nx := 382) dL_law_381 rfl rfl rfl ?_
  refine go_aload_n 1 (nx := 383) dL_law_382 rfl rfl rfl ?_
  refine go_iload_n 0 (nx := 384) dL_law_383 rfl rfl rfl ?_
  refine go_iconst (v := nI 1) (nx := 385) dL_law_384 (by decide) rfl ?_
  refine go_iadd (nx := 386) dL_law_385 rfl ?_
  refine go_sld (i + 1) (nx := 387) hXs hbl (by omega) hL (by rw [nI_add]) dL_law_386 rfl ?_
  refine go_aload_n 1 (nx := 388) dL_law_387 rfl rfl rfl ?_
  refine go_iload_n 0 (nx := 389) dL_law_388 rfl rfl rfl ?_
  refine go_iconst (v := nI 2) (nx := 390) dL_law_389 (by decide) rfl ?_
  refine go_iadd (nx := 391) dL_law_390 rfl ?_
  refine go_sld (i + 2) (nx := 392) hXs hbl (by omega) hL (by rw [nI_add]) dL_law_391 rfl ?_
  obtain ⟨fsM, hM⟩ := HM.c37
  refine go_Vi (nx := 395) [_, _] kc_L_50 ⟨_, _, rfl⟩ (by omega) hM (m_rules (by omega) HM W) dL_law_392 rfl rfl (Nat.le_of_ble_eq_true rfl) (Nat.le_of_ble_eq_true rfl) ⟨Nat.le_refl _, Nat.le_refl _⟩ rfl (fun rh2 h2 hqh2 => ?_)
  obtain ⟨rfl, HM, hFh2⟩ := hqh2
  have HX := HX.frAll hFh2 (by omega)
  refine go_icmp_eq 898 (nx := 398) dL_law_395 rfl rfl (fun c395 => ?_) (fun c395 => False.elim (absurd rfl c395))
  exact kk _ _ _ HX HM (ws_rules W _ _)
theorem law_chosen {G : kG} {nm : String} {b L i t sz : Nat} {xs : Nat → Int32} {h : kH} {tx : Nat → Nat} {ν : mN} {i0 i1 : Option mN} {T : mT} {tr : Int64} (hXs : va_X b L xs (kg G) (kg G).heap) (hbl : b < (kg G).heap.size) (hL : L < 2 ^ 31) (hi5 : i + 5 ≤ L) (HX : oX G t (tx, sz, ν, i0, i1, T, tr) h) (HM : oM G (tx, sz, ν, i0, i1, T, tr) h) (W : wS (tx, sz, ν, i0, i1, T, tr))
    (kk : ∀ (t : Nat) (S : mS) (h : kH), oX G t S h → oM G S h → wS S → Go G (kL nm) (11, 49, 2535) 898 (LV G b i) [] (49, 49, 2535) h QL) : Go G (kL nm) (11, 49, 2535) 400 (LV G b i) [] (49, 49, 2535) h QL := by
  refine go_aload_n 2 (nx := 401) dL_law_400 rfl rfl rfl ?_
  obtain ⟨fsX, hX⟩ := HX.c0
  refine go_Vi (nx := 404) [] kc_L_51 ⟨_, _, rfl⟩ (by omega) hX (x_chosen (by omega) HX W) dL_law_401 rfl rfl (Nat.le_of_ble_eq_true rfl) (Nat.le_of_ble_eq_true rfl) ⟨Nat.le_refl _, Nat.le_refl _⟩ rfl (fun rh1 h1 hqh1 => ?_)
  obtain ⟨rfl, rfl⟩ := hqh1
  refine go_aload_n 3 (nx := 405) dL_law_404 rfl rfl rfl ?_
  obtain ⟨fsM, hM⟩ := HM.c37
  refine go_Vi (nx := 408) [] kc_L_54 ⟨_, _, rfl⟩ (by omega) hM (m_chosen (by omega) HM W) dL_law_405 rfl rfl (Nat.le_of_ble_eq_true rfl) (Nat.le_of_ble_eq_true rfl) ⟨Nat.le_refl _, Nat.le_refl _⟩ rfl (fun rh2 h2 hqh2 => ?_)
  obtain ⟨rfl, HM, hFh2⟩ := hqh2
  have HX := HX.frAll hFh2 (by omega)
  refine go_icmp_eq 898 (nx := 411) dL_law_408 rfl rfl (fun c408 => ?_) (fun c408 => False.elim (absurd rfl c408))
  exact kk _ _ _ HX HM (W)
theorem law_meet {G : kG} {nm : String} {b L i t sz : Nat} {xs : Nat → Int32} {h : kH} {tx : Nat → Nat} {ν : mN} {i0 i1 : Option mN} {T : mT} {tr : Int64} (hXs : va_X b L xs (kg G) (kg G).heap) (hbl : b < (kg G).heap.size) (hL : L < 2 ^ 31) (hi5 : i + 5 ≤ L) (HX : oX G t (tx, sz, ν, i0, i1, T, tr) h) (HM : oM G (tx, sz, ν, i0, i1, T, tr) h) (W : wS (tx, sz, ν, i0, i1, T, tr))
    (kk : ∀ (t : Nat) (S : mS) (h : kH), oX G t S h → oM G S h → wS S → Go G (kL nm) (11, 49, 2535) 898 (LV G b i) [] (49, 49, 2535) h QL) : Go G (kL nm) (11, 49, 2535) 413 (LV G b i) [] (49, 49, 2535) h QL := by
  refine go_aload_n 2 (nx := 414) dL_law_413 rfl rfl rfl ?_
  refine go_aload_n 1 (nx := 415) dL_law_414 rfl rfl rfl ?_
  refine go_iload_n 0 (nx := 416) dL_law_415 rfl rfl rfl ?_
  refine go_iconst (v := nI 1) (nx := 417) dL_law_416 (by decide) rfl ?_
  refine go_iadd (nx := 418) dL_law_417 rfl ?_
  refine go_sld (i + 1) (nx := 419) hXs hbl (by omega) hL (by rw [nI_add]) dL_law_418 rfl ?_
  refine go_aload_n 1 (nx := 420) dL_law_419 rfl rfl rfl ?_
  refine go_iload_n 0 (nx := 421) dL_law_420 rfl rfl rfl ?_
  refine go_iconst (v := nI 2) (nx := 422) dL_law_421 (by decide) rfl ?_
  refine go_iadd (nx := 423) dL_law_422 rfl ?_
  refine go_sld (i + 2) (nx := 424) hXs hbl (by omega) hL (by rw [nI_add]) dL_law_423 rfl ?_
  obtain ⟨fsX, hX⟩ := HX.c0
  refine go_Vi (nx := 427) [_, _] kc_L_55 ⟨_, _, rfl⟩ (by omega) hX (x_meet (by omega) HX W) dL_law_424 rfl rfl (Nat.le_of_ble_eq_true rfl) (Nat.le_of_ble_eq_true rfl) ⟨Nat.le_refl _, Nat.le_refl _⟩ rfl (fun rh1 h1 hqh1 => ?_)
  obtain ⟨rfl, HX, hFh1⟩ := hqh1
  have HM := HM.frAll hFh1 (by omega)
  refine go_aload_n 3 (nx := 428) dL_law_427 rfl rfl rfl ?_
  refine go_aload_n 1 (nx := 429) dL_law_428 rfl rfl rfl ?_
  refine go_iload_n 0 (nx := 430) dL_law_429 rfl rfl rfl ?_
  refine go_iconst (v := nI 1) (nx := 431) dL_law_430 (by decide) rfl ?_
  refine go_iadd (nx := 432) dL_law_431 rfl ?_
  refine go_sld (i + 1) (nx := 433) hXs hbl (by omega) hL (by rw [nI_add]) dL_law_432 rfl ?_
  refine go_aload_n 1 (nx := 434) dL_law_433 rfl rfl rfl ?_
  refine go_iload_n 0 (nx := 435) dL_law_434 rfl rfl rfl ?_
  refine go_iconst (v := nI 2) (nx := 436) dL_law_435 (by decide) rfl ?_
  refine go_iadd (nx := 437) dL_law_436 rfl ?_
  refine go_sld (i + 2) (nx := 438) hXs hbl (by omega) hL (by rw [nI_add]) dL_law_437 rfl ?_
  obtain ⟨fsM, hM⟩ := HM.c37
  refine go_Vi (nx := 441) [_, _] kc_L_58 ⟨_, _, rfl⟩ (by omega) hM (m_meet (by omega) HM W) dL_law_438 rfl rfl (Nat.le_of_ble_eq_true rfl) (Nat.le_of_ble_eq_true rfl) ⟨Nat.le_refl _, Nat.le_refl _⟩ rfl (fun rh2 h2 hqh2 => ?_)
  obtain ⟨rfl, HM, hFh2⟩ := hqh2
  have HX := HX.frAll hFh2 (by omega)
  refine go_icmp_eq 898 (nx := 444) dL_law_441 rfl rfl (fun c441 => ?_) (fun c441 => False.elim (absurd rfl c441))
  exact kk _ _ _ HX HM (ws_meet W _ _)
theorem law_introduce {G : kG} {nm : String} {b L i t sz : Nat} {xs : Nat → Int32} {h : kH} {tx : Nat → Nat} {ν : mN} {i0 i1 : Option mN} {T : mT} {tr : Int64} (hXs : va_X b L xs (kg G) (kg G).heap) (hbl : b < (kg G).heap.size) (hL : L < 2 ^ 31) (hi5 : i + 5 ≤ L) (HX : oX G t (tx, sz, ν, i0, i1, T, tr) h) (HM : oM G (tx, sz, ν, i0, i1, T, tr) h) (W : wS (tx, sz, ν, i0, i1, T, tr))
    (kk : ∀ (t : Nat) (S : mS) (h : kH), oX G t S h → oM G S h → wS S → Go G (kL nm) (11, 49, 2535) 898 (LV G b i) [] (49, 49, 2535) h QL) : Go G (kL nm) (11, 49, 2535) 446 (LV G b i) [] (49, 49, 2535) h QL := by
  refine go_aload_n 2 (nx := 447) dL_law_446 rfl rfl rfl ?_
  refine go_aload_n 1 (nx := 448) dL_law_447 rfl rfl rfl ?_
  refine go_iload_n 0 (nx := 449) dL_law_448 rfl rfl rfl ?_
  refine go_iconst (v := nI 1) (nx := 450) dL_law_449 (by decide) rfl ?_
  refine go_iadd (nx := 451) dL_law_450 rfl ?_
  refine go_sld (i + 1) (nx := 452) hXs hbl (by omega) hL (by rw [nI_add]) dL_law_451 rfl ?_
  refine go_aload_n 1 (nx := 453) dL_law_452 rfl rfl rfl ?_
  refine go_iload_n 0 (nx := 454) dL_law_453 rfl rfl rfl ?_
  refine go_iconst (v := nI 2) (nx := 455) dL_law_454 (by decide) rfl ?_
  refine go_iadd (nx := 456) dL_law_455 rfl ?_
  refine go_sld (i + 2) (nx := 457) hXs hbl (by omega) hL (by rw [nI_add]) dL_law_456 rfl ?_
  refine go_aload_n 1 (nx := 458) dL_law_457 rfl rfl rfl ?_
  refine go_iload_n 0 (nx := 459) dL_law_458 rfl rfl rfl ?_
  refine go_iconst (v := nI 3) (nx := 460) dL_law_459 (by decide) rfl ?_
  refine go_iadd (nx := 461) dL_law_460 rfl ?_
  refine go_sld (i + 3) (nx := 462) hXs hbl (by omega) hL (by rw [nI_add]) dL_law_461 rfl ?_
  obtain ⟨fsX, hX⟩ := HX.c0
  refine go_Vi (nx := 465) [_, _, _] kc_L_59 ⟨_, _, rfl⟩ (by omega) hX (x_introduce (by omega) HX W) dL_law_462 rfl rfl (Nat.le_of_ble_eq_true rfl) (Nat.le_of_ble_eq_true rfl) ⟨Nat.le_refl _, Nat.le_refl _⟩ rfl (fun rh1 h1 hqh1 => ?_)
  obtain ⟨rfl, HX, hFh1⟩ := hqh1
  have HM := HM.frAll hFh1 (by omega)
  refine go_aload_n 3 (nx := 466) dL_law_465 rfl rfl rfl ?_
  refine go_aload_n 1 (nx := 467) dL_law_466 rfl rfl rfl ?_
  refine go_iload_n 0 (nx := 468) dL_law_467 rfl rfl rfl ?_
  refine go_iconst (v := nI 1) (nx := 469) dL_law_468 (by decide) rfl ?_
  refine go_iadd (nx := 470) dL_law_469 rfl ?_
  refine go_sld (i + 1) (nx := 471) hXs hbl (by omega) hL (by rw [nI_add]) dL_law_470 rfl ?_
  refine go_aload_n 1 (nx := 472) dL_law_471 rfl rfl rfl ?_
  refine go_iload_n 0 (nx := 473) dL_law_472 rfl rfl rfl ?_
  refine go_iconst (v := nI 2) (nx := 474) dL_law_473 (by decide) rfl ?_
  refine go_iadd (nx := 475) dL_law_474 rfl ?_
  refine go_sld (i + 2) (nx := 476) hXs hbl (by omega) hL (by rw [nI_add]) dL_law_475 rfl ?_
  refine go_aload_n 1 (nx := 477) dL_law_476 rfl rfl rfl ?_
  refine go_iload_n 0 (nx := 478) dL_law_477 rfl rfl rfl ?_
  refine go_iconst (v := nI 3) (nx := 479) dL_law_478 (by decide) rfl ?_
  refine go_iadd (nx := 480) dL_law_479 rfl ?_
  refine go_sld (i + 3) (nx := 481) hXs hbl (by omega) hL (by rw [nI_add]) dL_law_480 rfl ?_
  obtain ⟨fsM, hM⟩ := HM.c37
  refine go_Vi (nx := 484) [_, _, _] kc_L_63 ⟨_, _, rfl⟩ (by omega) hM (m_introduce (by omega) HM W) dL_law_481 rfl rfl (Nat.le_of_ble_eq_true rfl) (Nat.le_of_ble_eq_true rfl) ⟨Nat.le_refl _, Nat.le_refl _⟩ rfl (fun rh2 h2 hqh2 => ?_)
  obtain ⟨rfl, HM, hFh2⟩ := hqh2
  have HX := HX.frAll hFh2 (by omega)
  refine go_icmp_eq 898 (nx := 487) dL_law_484 rfl rfl (fun c484 => ?_) (fun c484 => False.elim (absurd rfl c484))
  exact kk _ _ _ HX HM (ws_intro W _ _ _)
theorem law_moves {G : kG} {nm : String} {b L i t sz : Nat} {xs : Nat → Int32} {h : kH} {tx : Nat → Nat} {ν : mN} {i0 i1 : Option mN} {T : mT} {tr : Int64} (hXs : va_X b L xs (kg G) (kg G).heap) (hbl : b < (kg G).heap.size) (hL : L < 2 ^ 31) (hi5 : i + 5 ≤ L) (HX : oX G t (tx, sz, ν, i0, i1, T, tr) h) (HM : oM G (tx, sz, ν, i0, i1, T, tr) h) (W : wS (tx, sz, ν, i0, i1, T, tr))
    (kk : ∀ (t : Nat) (S : mS) (h : kH), oX G t S h → oM G S h → wS S → Go G (kL nm) (11, 49, 2535) 898 (LV G b i) [] (49, 49, 2535) h QL) : Go G (kL nm) (11, 49, 2535) 489 (LV G b i) [] (49, 49, 2535) h QL := by
  refine go_aload_n 2 (nx := 490) dL_law_489 rfl rfl rfl ?_
  refine go_aload_n 1 (nx := 491) dL_law_490 rfl rfl rfl ?_
  refine go_iload_n 0 (nx := 492) dL_law_491 rfl rfl rfl ?_
  refine go_iconst (v := nI 1) (nx := 493) dL_law_492 (by decide) rfl ?_
  refine go_iadd (nx := 494) dL_law_493 rfl ?_
  refine go_sld (i + 1) (nx := 495) hXs hbl (by omega) hL (by rw [nI_add]) dL_law_494 rfl ?_
  obtain ⟨fsX, hX⟩ := HX.c0
  refine go_Vi (nx := 498) [_] kc_L_64 ⟨_, _, rfl⟩ (by omega) hX (x_moves (by omega) HX W) dL_law_495 rfl rfl (Nat.le_of_ble_eq_true rfl) (Nat.le_of_ble_eq_true rfl) ⟨Nat.le_refl _, Nat.le_refl _⟩ rfl (fun rh1 h1 hqh1 => ?_)
  obtain ⟨rfl, HX, hFh1⟩ := hqh1
  have HM := HM.frAll hFh1 (by omega)
  refine go_aload_n 3 (nx := 499) dL_law_498 rfl rfl rfl ?_
  refine go_aload_n 1 (nx := 500) dL_law_499 rfl rfl rfl ?_
  refine go_iload_n 0 (nx := 501) dL_law_500 rfl rfl rfl ?_
  refine go_iconst (v := nI 1) (nx := 502) dL_law_501 (by decide) rfl ?_
  refine go_iadd (nx := 503) dL_law_502 rfl ?_
  refine go_sld (i + 1) (nx := 504) hXs hbl (by omega) hL (by rw [nI_add]) dL_law_503 rfl ?_
  obtain ⟨fsM, hM⟩ := HM.c37
  refine go_Vi (nx := 507) [_] kc_L_67 ⟨_, _, rfl⟩ (by omega) hM (m_moves (by omega) HM W) dL_law_504 rfl rfl (Nat.le_of_ble_eq_true rfl) (Nat.le_of_ble_eq_true rfl) ⟨Nat.le_refl _, Nat.le_refl _⟩ rfl (fun rh2 h2 hqh2 => ?_)
  obtain ⟨rfl, HM, hFh2⟩ := hqh2
  have HX := HX.frAll hFh2 (by omega)
  refine go_icmp_eq 898 (nx := 510) dL_law_507 rfl rfl (fun c507 => ?_) (fun c507 => False.elim (absurd rfl c507))
  exact kk _ _ _ HX HM (ws_moves W _)
theorem law_go {G : kG} {nm : String} {b L i t sz : Nat} {xs : Nat → Int32} {h : kH} {tx : Nat → Nat} {ν : mN} {i0 i1 : Option mN} {T : mT} {tr : Int64} (hXs : va_X b L xs (kg G) (kg G).heap) (hbl : b < (kg G).heap.size) (hL : L < 2 ^ 31) (hi5 : i + 5 ≤ L) (HX : oX G t (tx, sz, ν, i0, i1, T, tr) h) (HM : oM G (tx, sz, ν, i0, i1, T, tr) h) (W : wS (tx, sz, ν, i0, i1, T, tr))
    (kk : ∀ (t : Nat) (S : mS) (h : kH), oX G t S h → oM G S h → wS S → Go G (kL nm) (11, 49, 2535) 898 (LV G b i) [] (49, 49, 2535) h QL) : Go G (kL nm) (11, 49, 2535) 512 (LV G b i) [] (49, 49, 2535) h QL := by
  refine go_aload_n 2 (nx := 513) dL_law_512 rfl rfl rfl ?_
  refine go_aload_n 1 (nx := 514) dL_law_513 rfl rfl rfl ?_
  refine go_iload_n 0 (nx := 515) dL_law_514 rfl rfl rfl ?_
  refine go_iconst (v := nI 1) (nx := 516) dL_law_515 (by decide) rfl ?_
  refine go_iadd (nx := 517) dL_law_516 rfl ?_
  refine go_sld (i + 1) (nx := 518) hXs hbl (by omega) hL (by rw [nI_add]) dL_law_517 rfl ?_
  obtain ⟨fsX, hX⟩ := HX.c0
  refine go_Vi (nx := 521) [_] kc_L_68 ⟨_, _, rfl⟩ (by omega) hX (x_go (by omega) HX W) dL_law_518 rfl rfl (Nat.le_of_ble_eq_true rfl) (Nat.le_of_ble_eq_true rfl) ⟨Nat.le_refl _, Nat.le_refl _⟩ rfl (fun rh1 h1 hqh1 => ?_)
  obtain ⟨rfl, HX, hFh1⟩ := hqh1
  have HM := HM.frAll hFh1 (by omega)
  refine go_aload_n 3 (nx := 522) dL_law_521 rfl rfl rfl ?_
  refine go_aload_n 1 (nx := 523) dL_law_522 rfl rfl rfl ?_
  refine go_iload_n 0 (nx := 524) dL_law_523 rfl rfl rfl ?_
  refine go_iconst (v := nI 1) (nx := 525) dL_law_524 (by decide) rfl ?_
  refine go_iadd (nx := 526) dL_law_525 rfl ?_
  refine go_sld (i + 1) (nx := 527) hXs hbl (by omega) hL (by rw [nI_add]) dL_law_526 rfl ?_
  obtain ⟨fsM, hM⟩ := HM.c37
  refine go_Vi (nx := 530) [_] kc_L_71 ⟨_, _, rfl⟩ (by omega) hM (m_go (by omega) HM W) dL_law_527 rfl rfl (Nat.le_of_ble_eq_true rfl) (Nat.le_of_ble_eq_true rfl) ⟨Nat.le_refl _, Nat.le_refl _⟩ rfl (fun rh2 h2 hqh2 => ?_)
  obtain ⟨rfl, HM, hFh2⟩ := hqh2
  have HX := HX.frAll hFh2 (by omega)
  refine go_icmp_eq 898 (nx := 533) dL_law_530 rfl rfl (fun c530 => ?_) (fun c530 => False.elim (absurd rfl c530))
  exact kk _ _ _ HX HM (ws_go W _)
theorem law_now {G : kG} {nm : String} {b L i t sz : Nat} {xs : Nat → Int32} {h : kH} {tx : Nat → Nat} {ν : mN} {i0 i1 : Option mN} {T : mT} {tr : Int64} (hXs : va_X b L xs (kg G) (kg G).heap) (hbl : b < (kg G).heap.size) (hL : L < 2 ^ 31) (hi5 : i + 5 ≤ L) (HX : oX G t (tx, sz, ν, i0, i1, T, tr) h) (HM : oM G (tx, sz, ν, i0, i1, T, tr) h) (W : wS (tx, sz, ν, i0, i1, T, tr))
    (kk : ∀ (t : Nat) (S : mS) (h : kH), oX G t S h → oM G S h → wS S → Go G (kL nm) (11, 49, 2535) 898 (LV G b i) [] (49, 49, 2535) h QL) : Go G (kL nm) (11, 49, 2535) 535 (LV G b i) [] (49, 49, 2535) h QL := by
  refine go_aload_n 2 (nx := 536) dL_law_535 rfl rfl rfl ?_
  refine go_aload_n 1 (nx := 537) dL_law_536 rfl rfl rfl ?_
  refine go_iload_n 0 (nx := 538) dL_law_537 rfl rfl rfl ?_
  refine go_iconst (v := nI 1) (nx := 539) dL_law_538 (by decide) rfl ?_
  refine go_iadd (nx := 540) dL_law_539 rfl ?_
  refine go_sld (i + 1) (nx := 541) hXs hbl (by omega) hL (by rw [nI_add]) dL_law_540 rfl ?_
  obtain ⟨fsX, hX⟩ := HX.c0
  refine go_Vi (nx := 544) [_] kc_L_72 ⟨_, _, rfl⟩ (by omega) hX (x_now (by omega) HX W) dL_law_541 rfl rfl (Nat.le_of_ble_eq_true rfl) (Nat.le_of_ble_eq_true rfl) ⟨Nat.le_refl _, Nat.le_refl _⟩ rfl (fun rh1 h1 hqh1 => ?_)
  obtain ⟨rfl, rfl⟩ := hqh1
  refine go_aload_n 3 (nx := 545) dL_law_544 rfl rfl rfl ?_
  refine go_aload_n 1 (nx := 546) dL_law_545 rfl rfl rfl ?_
  refine go_iload_n 0 (nx := 547) dL_law_546 rfl rfl rfl ?_
  refine go_iconst (v := nI 1) (nx := 548) dL_law_547 (by decide) rfl ?_
  refine go_iadd (nx := 549) dL_law_548 rfl ?_
  refine go_sld (i + 1) (nx := 550) hXs hbl (by omega) hL (by rw [nI_add]) dL_law_549 rfl ?_
  obtain ⟨fsM, hM⟩ := HM.c37
  refine go_Vi (nx := 553) [_] kc_L_75 ⟨_, _, rfl⟩ (by omega) hM (m_now (by omega) HM W) dL_law_550 rfl rfl (Nat.le_of_ble_eq_true rfl) (Nat.le_of_ble_eq_true rfl) ⟨Nat.le_refl _, Nat.le_refl _⟩ rfl (fun rh2 h2 hqh2 => ?_)
  obtain ⟨rfl, HM, hFh2⟩ := hqh2
  have HX := HX.frAll hFh2 (by omega)
  refine go_icmp_eq 898 (nx := 556) dL_law_553 rfl rfl (fun c553 => ?_) (fun c553 => False.elim (absurd rfl c553))
  exact kk _ _ _ HX HM (W)
theorem law_anew {G : kG} {nm : String} {b L i t sz : Nat} {xs : Nat → Int32} {h : kH} {tx : Nat → Nat} {ν : mN} {i0 i1 : Option mN} {T : mT} {tr : Int64} (hXs : va_X b L xs (kg G) (kg G).heap) (hbl : b < (kg G).heap.size) (hL : L < 2 ^ 31) (hi5 : i + 5 ≤ L) (HX : oX G t (tx, sz, ν, i0, i1, T, tr) h) (HM : oM G (tx, sz, ν, i0, i1, T, tr) h) (W : wS (tx, sz, ν, i0, i1, T, tr))
    (kk : ∀ (t : Nat) (S : mS) (h : kH), oX G t S h → oM G S h → wS S → Go G (kL nm) (11, 49, 2535) 898 (LV G b i) [] (49, 49, 2535) h QL) : Go G (kL nm) (11, 49, 2535) 558 (LV G b i) [] (49, 49, 2535) h QL := by
  refine go_aload_n 2 (nx := 559) dL_law_558 rfl rfl rfl ?_
  obtain ⟨fsX, hX⟩ := HX.c0
  refine go_Vi (nx := 562) [] kc_L_76 ⟨_, _, rfl⟩ (by omega) hX (x_anew (by omega) HX W) dL_law_559 rfl rfl (Nat.le_of_ble_eq_true rfl) (Nat.le_of_ble_eq_true rfl) ⟨Nat.le_refl _, Nat.le_refl _⟩ rfl (fun rh1 h1 hqh1 => ?_)
  obtain ⟨rfl, HX, hFh1⟩ := hqh1
  have HM := HM.frAll hFh1 (by omega)
  refine go_aload_n 3 (nx := 563) dL_law_562 rfl rfl rfl ?_
  obtain ⟨fsM, hM⟩ := HM.c37
  refine go_Vi (nx := 566) [] kc_L_79 ⟨_, _, rfl⟩ (by omega) hM (m_anew (by omega) HM W) dL_law_563 rfl rfl (Nat.le_of_ble_eq_true rfl) (Nat.le_of_ble_eq_true rfl) ⟨Nat.le_refl _, Nat.le_refl _⟩ rfl (fun rh2 h2 hqh2 => ?_)
  obtain ⟨rfl, HM, hFh2⟩ := hqh2
  have HX := HX.frAll hFh2 (by omega)
  refine go_icmp_eq 898 (nx := 569) dL_law_566 rfl rfl (fun c566 => ?_) (fun c566 => False.elim (absurd rfl c566))
  exact kk _ _ _ HX HM (ws_anew W)
theorem law_reigns {G : kG} {nm : String} {b L i t sz : Nat} {xs : Nat → Int32} {h : kH} {tx : Nat → Nat} {ν : mN} {i0 i1 : Option mN} {T : mT} {tr : Int64} (hXs : va_X b L xs (kg G) (kg G).heap) (hbl : b < (kg G).heap.size) (hL : L < 2 ^ 31) (hi5 : i + 5 ≤ L) (HX : oX G t (tx, sz, ν, i0, i1, T, tr) h) (HM : oM G (tx, sz, ν, i0, i1, T, tr) h) (W : wS (tx, sz, ν, i0, i1, T, tr))
    (kk : ∀ (t : Nat) (S : mS) (h : kH), oX G t S h → oM G S h → wS S → Go G (kL nm) (11, 49, 2535) 898 (LV G b i) [] (49, 49, 2535) h QL) : Go G (kL nm) (11, 49, 2535) 571 (LV G b i) [] (49, 49, 2535) h QL := by
  refine go_aload_n 2 (nx := 572) dL_law_571 rfl rfl rfl ?_
  refine go_aload_n 1 (nx := 573) dL_law_572 rfl rfl rfl ?_
  refine go_iload_n 0 (nx := 574) dL_law_573 rfl rfl rfl ?_
  refine go_iconst (v := nI 1) (nx := 575) dL_law_574 (by decide) rfl ?_
  refine go_iadd (nx := 576) dL_law_575 rfl ?_
  refine go_sld (i + 1) (nx := 577) hXs hbl (by omega) hL (by rw [nI_add]) dL_law_576 rfl ?_
  obtain ⟨fsX, hX⟩ := HX.c0
  refine go_Vi (nx := 580) [_] kc_L_80 ⟨_, _, rfl⟩ (by omega) hX (x_reigns (by omega) HX W) dL_law_577 rfl rfl (Nat.le_of_ble_eq_true rfl) (Nat.le_of_ble_eq_true rfl) ⟨Nat.le_refl _, Nat.le_refl _⟩ rfl (fun rh1 h1 hqh1 => ?_)
  obtain ⟨rfl, HX, hFh1⟩ := hqh1
  have HM := HM.frAll hFh1 (by omega)
  refine go_aload_n 3 (nx := 581) dL_law_580 rfl rfl rfl ?_
  refine go_aload_n 1 (nx := 582) dL_law_581 rfl rfl rfl ?_
  refine go_iload_n 0 (nx := 583) dL_law_582 rfl rfl rfl ?_
  refine go_iconst (v := nI 1) (nx := 584) dL_law_583 (by decide) rfl ?_
  refine go_iadd (nx := 585) dL_law_584 rfl ?_
  refine go_sld (i + 1) (nx := 586) hXs hbl (by omega) hL (by rw [nI_add]) dL_law_585 rfl ?_
  obtain ⟨fsM, hM⟩ := HM.c37
  refine go_Vi (nx := 589) [_] kc_L_83 ⟨_, _, rfl⟩ (by omega) hM (m_reigns (by omega) HM W) dL_law_586 rfl rfl (Nat.le_of_ble_eq_true rfl) (Nat.le_of_ble_eq_true rfl) ⟨Nat.le_refl _, Nat.le_refl _⟩ rfl (fun rh2 h2 hqh2 => ?_)
  obtain ⟨rfl, HM, hFh2⟩ := hqh2
  have HX := HX.frAll hFh2 (by omega)
  refine go_icmp_eq 898 (nx := 592) dL_law_589 rfl rfl (fun c589 => ?_) (fun c589 => False.elim (absurd rfl c589))
  exact kk _ _ _ HX HM (W)
theorem law_ring {G : kG} {nm : String} {b L i t sz : Nat} {xs : Nat → Int32} {h : kH} {tx : Nat → Nat} {ν : mN} {i0 i1 : Option mN} {T : mT} {tr : Int64} (hXs : va_X b L xs (kg G) (kg G).heap) (hbl : b < (kg G).heap.size) (hL : L < 2 ^ 31) (hi5 : i + 5 ≤ L) (HX : oX G t (tx, sz, ν, i0, i1, T, tr) h) (HM : oM G (tx, sz, ν, i0, i1, T, tr) h) (W : wS (tx, sz, ν, i0, i1, T, tr))
    (kk : ∀ (t : Nat) (S : mS) (h : kH), oX G t S h → oM G S h → wS S → Go G (kL nm) (11, 49, 2535) 898 (LV G b i) [] (49, 49, 2535) h QL) : Go G (kL nm) (11, 49, 2535) 594 (LV G b i) [] (49, 49, 2535) h QL := by
  refine go_aload_n 2 (nx := 595) dL_law_594 rfl rfl rfl ?_
  obtain ⟨fsX, hX⟩ := HX.c0
  refine go_Vi (nx := 598) [] kc_L_84 ⟨_, _, rfl⟩ (by omega) hX (x_ring (by omega) HX W) dL_law_595 rfl rfl (Nat.le_of_ble_eq_true rfl) (Nat.le_of_ble_eq_true rfl) ⟨Nat.le_refl _, Nat.le_refl _⟩ rfl (fun rh1 h1 hqh1 => ?_)
  obtain ⟨rfl, HX, hFh1⟩ := hqh1
  have HM := HM.frAll hFh1 (by omega)
  refine go_aload_n 3 (nx := 599) dL_law_598 rfl rfl rfl ?_
  obtain ⟨fsM, hM⟩ := HM.c37
  refine go_Vi (nx := 602) [] kc_L_87 ⟨_, _, rfl⟩ (by omega) hM (m_ring (by omega) HM W) dL_law_599 rfl rfl (Nat.le_of_ble_eq_true rfl) (Nat.le_of_ble_eq_true rfl) ⟨Nat.le_refl _, Nat.le_refl _⟩ rfl (fun rh2 h2 hqh2 => ?_)
  obtain ⟨rfl, HM, hFh2⟩ := hqh2
  have HX := HX.frAll hFh2 (by omega)
  refine go_icmp_eq 898 (nx := 605) dL_law_602 rfl rfl (fun c602 => ?_) (fun c602 => False.elim (absurd rfl c602))
  exact kk _ _ _ HX HM (W)
theorem law_brings {G : kG} {nm : String} {b L i t sz : Nat} {xs : Nat → Int32} {h : kH} {tx : Nat → Nat} {ν : mN} {i0 i1 : Option mN} {T : mT} {tr : Int64} (hXs : va_X b L xs (kg G) (kg G).heap) (hbl : b < (kg G).heap.size) (hL : L < 2 ^ 31) (hi5 : i + 5 ≤ L) (HX : oX G t (tx, sz, ν, i0, i1, T, tr) h) (HM : oM G (tx, sz, ν, i0, i1, T, tr) h) (W : wS (tx, sz, ν, i0, i1, T, tr))
    (kk : ∀ (t : Nat) (S : mS) (h : kH), oX G t S h → oM G S h → wS S → Go G (kL nm) (11, 49, 2535) 898 (LV G b i) [] (49, 49, 2535) h QL) : Go G (kL nm) (11, 49, 2535) 607 (LV G b i) [] (49, 49, 2535) h QL := by
  refine go_aload_n 2 (nx := 608) dL_law_607 rfl rfl rfl ?_
  refine go_aload_n 1 (nx := 609) dL_law_608 rfl rfl rfl ?_
  refine go_iload_n 0 (nx := 610) dL_law_609 rfl rfl rfl ?_
  refine go_iconst (v := nI 1) (nx := 611) dL_law_610 (by decide) rfl ?_
  refine go_iadd (nx := 612) dL_law_611 rfl ?_
  refine go_sld (i + 1) (nx := 613) hXs hbl (by omega) hL (by rw [nI_add]) dL_law_612 rfl ?_
  refine go_aload_n 1 (nx := 614) dL_law_613 rfl rfl rfl ?_
  refine go_iload_n 0 (nx := 615) dL_law_614 rfl rfl rfl ?_
  refine go_iconst (v := nI 2) (nx := 616) dL_law_615 (by decide) rfl ?_
  refine go_iadd (nx := 617) dL_law_616 rfl ?_
  refine go_sld (i + 2) (nx := 618) hXs hbl (by omega) hL (by rw [nI_add]) dL_law_617 rfl ?_
  refine go_aload_n 1 (nx := 619) dL_law_618 rfl rfl rfl ?_
  refine go_iload_n 0 (nx := 620) dL_law_619 rfl rfl rfl ?_
  refine go_iconst (v := nI 3) (nx := 621) dL_law_620 (by decide) rfl ?_
  refine go_iadd (nx := 622) dL_law_621 rfl ?_
  refine go_sld (i + 3) (nx := 623) hXs hbl (by omega) hL (by rw [nI_add]) dL_law_622 rfl ?_
  obtain ⟨fsX, hX⟩ := HX.c0
  refine go_Vi (nx := 626) [_, _, _] kc_L_88 ⟨_, _, rfl⟩ (by omega) hX (x_brings (by omega) HX W) dL_law_623 rfl rfl (Nat.le_of_ble_eq_true rfl) (Nat.le_of_ble_eq_true rfl) ⟨Nat.le_refl _, Nat.le_refl _⟩ rfl (fun rh1 h1 hqh1 => ?_)
  obtain ⟨rfl, HX, hFh1⟩ := hqh1
  have HM := HM.frAll hFh1 (by omega)
  refine go_aload_n 3 (nx := 627) dL_law_626 rfl rfl rfl ?_
  refine go_aload_n 1 (nx := 628) dL_law_627 rfl rfl rfl ?_
  refine go_iload_n 0 (nx := 629) dL_law_628 rfl rfl rfl ?_
  refine go_iconst (v := nI 1) (nx := 630) dL_law_629 (by decide) rfl ?_
  refine go_iadd (nx := 631) dL_law_630 rfl ?_
  refine go_sld (i + 1) (nx := 632) hXs hbl (by omega) hL (by rw [nI_add]) dL_law_631 rfl ?_
  refine go_aload_n 1 (nx := 633) dL_law_632 rfl rfl rfl ?_
  refine go_iload_n 0 (nx := 634) dL_law_633 rfl rfl rfl ?_
  refine go_iconst (v := nI 2) (nx := 635) dL_law_634 (by decide) rfl ?_
  refine go_iadd (nx := 636) dL_law_635 rfl ?_
  refine go_sld (i + 2) (nx := 637) hXs hbl (by omega) hL (by rw [nI_add]) dL_law_636 rfl ?_
  refine go_aload_n 1 (nx := 638) dL_law_637 rfl rfl rfl ?_
  refine go_iload_n 0 (nx := 639) dL_law_638 rfl rfl rfl ?_
  refine go_iconst (v := nI 3) (nx := 640) dL_law_639 (by decide) rfl ?_
  refine go_iadd (nx := 641) dL_law_640 rfl ?_
  refine go_sld (i + 3) (nx := 642) hXs hbl (by omega) hL (by rw [nI_add]) dL_law_641 rfl ?_
  obtain ⟨fsM, hM⟩ := HM.c37
  refine go_Vi (nx := 645) [_, _, _] kc_L_91 ⟨_, _, rfl⟩ (by omega) hM (m_brings (by omega) HM W) dL_law_642 rfl rfl (Nat.le_of_ble_eq_true rfl) (Nat.le_of_ble_eq_true rfl) ⟨Nat.le_refl _, Nat.le_refl _⟩ rfl (fun rh2 h2 hqh2 => ?_)
  obtain ⟨rfl, HM, hFh2⟩ := hqh2
  have HX := HX.frAll hFh2 (by omega)
  refine go_icmp_eq 898 (nx := 648) dL_law_645 rfl rfl (fun c645 => ?_) (fun c645 => False.elim (absurd rfl c645))
  exact kk _ _ _ HX HM (W)
theorem law_days {G : kG} {nm : String} {b L i t sz : Nat} {xs : Nat → Int32} {h : kH} {tx : Nat → Nat} {ν : mN} {i0 i1 : Option mN} {T : mT} {tr : Int64} (hXs : va_X b L xs (kg G) (kg G).heap) (hbl : b < (kg G).heap.size) (hL : L < 2 ^ 31) (hi5 : i + 5 ≤ L) (HX : oX G t (tx, sz, ν, i0, i1, T, tr) h) (HM : oM G (tx, sz, ν, i0, i1, T, tr) h) (W : wS (tx, sz, ν, i0, i1, T, tr))
    (kk : ∀ (t : Nat) (S : mS) (h : kH), oX G t S h → oM G S h → wS S → Go G (kL nm) (11, 49, 2535) 898 (LV G b i) [] (49, 49, 2535) h QL) : Go G (kL nm) (11, 49, 2535) 650 (LV G b i) [] (49, 49, 2535) h QL := by
  refine go_aload_n 2 (nx := 651) dL_law_650 rfl rfl rfl ?_
  refine go_aload_n 1 (nx := 652) dL_law_651 rfl rfl rfl ?_
  refine go_iload_n 0 (nx := 653) dL_law_652 rfl rfl rfl ?_
  refine go_iconst (v := nI 1) (nx := 654) dL_law_653 (by decide) rfl ?_
  refine go_iadd (nx := 655) dL_law_654 rfl ?_
  refine go_sld (i + 1) (nx := 656) hXs hbl (by omega) hL (by rw [nI_add]) dL_law_655 rfl ?_
  refine go_aload_n 1 (nx := 657) dL_law_656 rfl rfl rfl ?_
  refine go_iload_n 0 (nx := 658) dL_law_657 rfl rfl rfl ?_
  refine go_iconst (v := nI 2) (nx := 659) dL_law_658 (by decide) rfl ?_
  refine go_iadd (nx := 660) dL_law_659 rfl ?_
  refine go_sld (i + 2) (nx := 661) hXs hbl (by omega) hL (by rw [nI_add]) dL_law_660 rfl ?_
  refine go_aload_n 1 (nx := 662) dL_law_661 rfl rfl rfl ?_
  refine go_iload_n 0 (nx := 663) dL_law_662 rfl rfl rfl ?_
  refine go_iconst (v := nI 3) (nx := 664) dL_law_663 (by decide) rfl ?_
  refine go_iadd (nx := 665) dL_law_664 rfl ?_
  refine go_sld (i + 3) (nx := 666) hXs hbl (by omega) hL (by rw [nI_add]) dL_law_665 rfl ?_
  refine go_aload_n 1 (nx := 667) dL_law_666 rfl rfl rfl ?_
  refine go_iload_n 0 (nx := 668) dL_law_667 rfl rfl rfl ?_
  refine go_iconst (v := nI 4) (nx := 669) dL_law_668 (by decide) rfl ?_
  refine go_iadd (nx := 670) dL_law_669 rfl ?_
  refine go_sld (i + 4) (nx := 671) hXs hbl (by omega) hL (by rw [nI_add]) dL_law_670 rfl ?_
  obtain ⟨fsX, hX⟩ := HX.c0
  refine go_Vi (nx := 674) [_, _, _, _] kc_L_92 ⟨_, _, rfl⟩ (by omega) hX (x_days (by omega) HX W) dL_law_671 rfl rfl (Nat.le_of_ble_eq_true rfl) (Nat.le_of_ble_eq_true rfl) ⟨Nat.le_refl _, Nat.le_refl _⟩ rfl (fun rh1 h1 hqh1 => ?_)
  obtain ⟨rfl, HX, hFh1⟩ := hqh1
  have HM := HM.frAll hFh1 (by omega)
  refine go_aload_n 3 (nx := 675) dL_law_674 rfl rfl rfl ?_
  refine go_aload_n 1 (nx := 676) dL_law_675 rfl rfl rfl ?_
  refine go_iload_n 0 (nx := 677) dL_law_676 rfl rfl rfl ?_
  refine go_iconst (v := nI 1) (nx := 678) dL_law_677 (by decide) rfl ?_
  refine go_iadd (nx := 679) dL_law_678 rfl ?_
  refine go_sld (i + 1) (nx := 680) hXs hbl (by omega) hL (by rw [nI_add]) dL_law_679 rfl ?_
  refine go_aload_n 1 (nx := 681) dL_law_680 rfl rfl rfl ?_
  refine go_iload_n 0 (nx := 682) dL_law_681 rfl rfl rfl ?_
  refine go_iconst (v := nI 2) (nx := 683) dL_law_682 (by decide) rfl ?_
  refine go_iadd (nx := 684) dL_law_683 rfl ?_
  refine go_sld (i + 2) (nx := 685) hXs hbl (by omega) hL (by rw [nI_add]) dL_law_684 rfl ?_
  refine go_aload_n 1 (nx := 686) dL_law_685 rfl rfl rfl ?_
  refine go_iload_n 0 (nx := 687) dL_law_686 rfl rfl rfl ?_
  refine go_iconst (v := nI 3) (nx := 688) dL_law_687 (by decide) rfl ?_
  refine go_iadd (nx := 689) dL_law_688 rfl ?_
  refine go_sld (i + 3) (nx := 690) hXs hbl (by omega) hL (by rw [nI_add]) dL_law_689 rfl ?_
  refine go_aload_n 1 (nx := 691) dL_law_690 rfl rfl rfl ?_
  refine go_iload_n 0 (nx := 692) dL_law_691 rfl rfl rfl ?_
  refine go_iconst (v := nI 4) (nx := 693) dL_law_692 (by decide) rfl ?_
  refine go_iadd (nx := 694) dL_law_693 rfl ?_
  refine go_sld (i + 4) (nx := 695) hXs hbl (by omega) hL (by rw [nI_add]) dL_law_694 rfl ?_
  obtain ⟨fsM, hM⟩ := HM.c37
  refine go_Vi (nx := 698) [_, _, _, _] kc_L_96 ⟨_, _, rfl⟩ (by omega) hM (m_days (by omega) HM W) dL_law_695 rfl rfl (Nat.le_of_ble_eq_true rfl) (Nat.le_of_ble_eq_true rfl) ⟨Nat.le_refl _, Nat.le_refl _⟩ rfl (fun rh2 h2 hqh2 => ?_)
  obtain ⟨rfl, HM, hFh2⟩ := hqh2
  have HX := HX.frAll hFh2 (by omega)
  refine go_icmp_eq 898 (nx := 701) dL_law_698 rfl rfl (fun c698 => ?_) (fun c698 => False.elim (absurd rfl c698))
  exact kk _ _ _ HX HM (W)
theorem law_asks {G : kG} {nm : String} {b L i t sz : Nat} {xs : Nat → Int32} {h : kH} {tx : Nat → Nat} {ν : mN} {i0 i1 : Option mN} {T : mT} {tr : Int64} (hXs : va_X b L xs (kg G) (kg G).heap) (hbl : b < (kg G).heap.size) (hL : L < 2 ^ 31) (hi5 : i + 5 ≤ L) (HX : oX G t (tx, sz, ν, i0, i1, T, tr) h) (HM : oM G (tx, sz, ν, i0, i1, T, tr) h) (W : wS (tx, sz, ν, i0, i1, T, tr))
    (kk : ∀ (t : Nat) (S : mS) (h : kH), oX G t S h → oM G S h → wS S → Go G (kL nm) (11, 49, 2535) 898 (LV G b i) [] (49, 49, 2535) h QL) : Go G (kL nm) (11, 49, 2535) 703 (LV G b i) [] (49, 49, 2535) h QL := by
  refine go_aload_n 2 (nx := 704) dL_law_703 rfl rfl rfl ?_
  refine go_aload_n 1 (nx := 705) dL_law_704 rfl rfl rfl ?_
  refine go_iload_n 0 (nx := 706) dL_law_705 rfl rfl rfl ?_
  refine go_iconst (v := nI 1) (nx := 707) dL_law_706 (by decide) rfl ?_
  refine go_iadd (nx := 708) dL_law_707 rfl ?_
  refine go_sld (i + 1) (nx := 709) hXs hbl (by omega) hL (by rw [nI_add]) dL_law_708 rfl ?_
  refine go_aload_n 1 (nx := 710) dL_law_709 rfl rfl rfl ?_
  refine go_iload_n 0 (nx := 711) dL_law_710 rfl rfl rfl ?_
  refine go_iconst (v := nI 2) (nx := 712) dL_law_711 (by decide) rfl ?_
  refine go_iadd (nx := 713) dL_law_712 rfl ?_
  refine go_sld (i + 2) (nx := 714) hXs hbl (by omega) hL (by rw [nI_add]) dL_law_713 rfl ?_
  obtain ⟨fsX, hX⟩ := HX.c0
  refine go_Vi (nx := 717) [_, _] kc_L_97 ⟨_, _, rfl⟩ (by omega) hX (x_asks (by omega) HX W) dL_law_714 rfl rfl (Nat.le_of_ble_eq_true rfl) (Nat.le_of_ble_eq_true rfl) ⟨Nat.le_refl _, Nat.le_refl _⟩ rfl (fun rh1 h1 hqh1 => ?_)
  obtain ⟨rfl, rfl⟩ := hqh1
  refine go_aload_n 3 (nx := 718) dL_law_717 rfl rfl rfl ?_
  refine go_aload_n 1 (nx := 719) dL_law_718 rfl rfl rfl ?_
  refine go_iload_n 0 (nx := 720) dL_law_719 rfl rfl rfl ?_
  refine go_iconst (v := nI 1) (nx := 721) dL_law_720 (by decide) rfl ?_
  refine go_iadd (nx := 722) dL_law_721 rfl ?_
  refine go_sld (i + 1) (nx := 723) hXs hbl (by omega) hL (by rw [nI_add]) dL_law_722 rfl ?_
  refine go_aload_n 1 (nx := 724) dL_law_723 rfl rfl rfl ?_
  refine go_iload_n 0 (nx := 725) dL_law_724 rfl rfl rfl ?_
  refine go_iconst (v := nI 2) (nx := 726) dL_law_725 (by decide) rfl ?_
  refine go_iadd (nx := 727) dL_law_726 rfl ?_
  refine go_sld (i + 2) (nx := 728) hXs hbl (by omega) hL (by rw [nI_add]) dL_law_727 rfl ?_
  obtain ⟨fsM, hM⟩ := HM.c37
  refine go_Vi (nx := 731) [_, _] kc_L_100 ⟨_, _, rfl⟩ (by omega) hM (m_asks (by omega) HM W) dL_law_728 rfl rfl (Nat.le_of_ble_eq_true rfl) (Nat.le_of_ble_eq_true rfl) ⟨Nat.le_refl _, Nat.le_refl _⟩ rfl (fun rh2 h2 hqh2 => ?_)
  obtain ⟨rfl, HM, hFh2⟩ := hqh2
  have HX := HX.frAll hFh2 (by omega)
  refine go_icmp_eq 898 (nx := 734) dL_law_731 rfl rfl (fun c731 => ?_) (fun c731 => False.elim (absurd rfl c731))
  exact kk _ _ _ HX HM (W)
theorem law_party {G : kG} {nm : String} {b L i t sz : Nat} {xs : Nat → Int32} {h : kH} {tx : Nat → Nat} {ν : mN} {i0 i1 : Option mN} {T : mT} {tr : Int64} (hXs : va_X b L xs (kg G) (kg G).heap) (hbl : b < (kg G).heap.size) (hL : L < 2 ^ 31) (hi5 : i + 5 ≤ L) (HX : oX G t (tx, sz, ν, i0, i1, T, tr) h) (HM : oM G (tx, sz, ν, i0, i1, T, tr) h) (W : wS (tx, sz, ν, i0, i1, T, tr))
    (kk : ∀ (t : Nat) (S : mS) (h : kH), oX G t S h → oM G S h → wS S → Go G (kL nm) (11, 49, 2535) 898 (LV G b i) [] (49, 49, 2535) h QL) : Go G (kL nm) (11, 49, 2535) 736 (LV G b i) [] (49, 49, 2535) h QL := by
  refine go_aload_n 2 (nx := 737) dL_law_736 rfl rfl rfl ?_
  refine go_aload_n 1 (nx := 738) dL_law_737 rfl rfl rfl ?_
  refine go_iload_n 0 (nx := 739) dL_law_738 rfl rfl rfl ?_
  refine go_iconst (v := nI 1) (nx := 740) dL_law_739 (by decide) rfl ?_
  refine go_iadd (nx := 741) dL_law_740 rfl ?_
  refine go_sld (i + 1) (nx := 742) hXs hbl (by omega) hL (by rw [nI_add]) dL_law_741 rfl ?_
  obtain ⟨fsX, hX⟩ := HX.c0
  refine go_Vi (nx := 745) [_] kc_L_101 ⟨_, _, rfl⟩ (by omega) hX (x_party (by omega) HX W) dL_law_742 rfl rfl (Nat.le_of_ble_eq_true rfl) (Nat.le_of_ble_eq_true rfl) ⟨Nat.le_refl _, Nat.le_refl _⟩ rfl (fun rh1 h1 hqh1 => ?_)
  obtain ⟨rfl, rfl⟩ := hqh1
  refine go_aload_n 3 (nx := 746) dL_law_745 rfl rfl rfl ?_
  refine go_aload_n 1 (nx := 747) dL_law_746 rfl rfl rfl ?_
  refine go_iload_n 0 (nx := 748) dL_law_747 rfl rfl rfl ?_
  refine go_iconst (v := nI 1) (nx := 749) dL_law_748 (by decide) rfl ?_
  refine go_iadd (nx := 750) dL_law_749 rfl ?_
  refine go_sld (i + 1) (nx := 751) hXs hbl (by omega) hL (by rw [nI_add]) dL_law_750 rfl ?_
  obtain ⟨fsM, hM⟩ := HM.c37
  refine go_Vi (nx := 754) [_] kc_L_104 ⟨_, _, rfl⟩ (by omega) hM (m_party (by omega) HM W) dL_law_751 rfl rfl (Nat.le_of_ble_eq_true rfl) (Nat.le_of_ble_eq_true rfl) ⟨Nat.le_refl _, Nat.le_refl _⟩ rfl (fun rh2 h2 hqh2 => ?_)
  obtain ⟨rfl, HM, hFh2⟩ := hqh2
  have HX := HX.frAll hFh2 (by omega)
  refine go_icmp_eq 898 (nx := 757) dL_law_754 rfl rfl (fun c754 => ?_) (fun c754 => False.elim (absurd rfl c754))
  exact kk _ _ _ HX HM (W)
theorem law_parties {G : kG} {nm : String} {b L i t sz : Nat} {xs : Nat → Int32} {h : kH} {tx : Nat → Nat} {ν : mN} {i0 i1 : Option mN} {T : mT} {tr : Int64} (hXs : va_X b L xs (kg G) (kg G).heap) (hbl : b < (kg G).heap.size) (hL : L < 2 ^ 31) (hi5 : i + 5 ≤ L) (HX : oX G t (tx, sz, ν, i0, i1, T, tr) h) (HM : oM G (tx, sz, ν, i0, i1, T, tr) h) (W : wS (tx, sz, ν, i0, i1, T, tr))
    (kk : ∀ (t : Nat) (S : mS) (h : kH), oX G t S h → oM G S h → wS S → Go G (kL nm) (11, 49, 2535) 898 (LV G b i) [] (49, 49, 2535) h QL) : Go G (kL nm) (11, 49, 2535) 759 (LV G b i) [] (49, 49, 2535) h QL := by
  refine go_aload_n 2 (nx := 760) dL_law_759 rfl rfl rfl ?_
  refine go_aload_n 1 (nx := 761) dL_law_760 rfl rfl rfl ?_
  refine go_iload_n 0 (nx := 762) dL_law_761 rfl rfl rfl ?_
  refine go_iconst (v := nI 1) (nx := 763) dL_law_762 (by decide) rfl ?_
  refine go_iadd (nx := 764) dL_law_763 rfl ?_
  refine go_sld (i + 1) (nx := 765) hXs hbl (by omega) hL (by rw [nI_add]) dL_law_764 rfl ?_
  obtain ⟨fsX, hX⟩ := HX.c0
  refine go_Vi (nx := 768) [_] kc_L_105 ⟨_, _, rfl⟩ (by omega) hX (x_parties (by omega) HX W) dL_law_765 rfl rfl (Nat.le_of_ble_eq_true rfl) (Nat.le_of_ble_eq_true rfl) ⟨Nat.le_refl _, Nat.le_refl _⟩ rfl (fun rh1 h1 hqh1 => ?_)
  obtain ⟨rfl, rfl⟩ := hqh1
  refine go_aload_n 3 (nx := 769) dL_law_768 rfl rfl rfl ?_
  refine go_aload_n 1 (nx := 770) dL_law_769 rfl rfl rfl ?_
  refine go_iload_n 0 (nx := 771) dL_law_770 rfl rfl rfl ?_
  refine go_iconst (v := nI 1) (nx := 772) dL_law_771 (by decide) rfl ?_
  refine go_iadd (nx := 773) dL_law_772 rfl ?_
  refine go_sld (i + 1) (nx := 774) hXs hbl (by omega) hL (by rw [nI_add]) dL_law_773 rfl ?_
  obtain ⟨fsM, hM⟩ := HM.c37
  refine go_Vi (nx := 777) [_] kc_L_108 ⟨_, _, rfl⟩ (by omega) hM (m_parties (by omega) HM W) dL_law_774 rfl rfl (Nat.le_of_ble_eq_true rfl) (Nat.le_of_ble_eq_true rfl) ⟨Nat.le_refl _, Nat.le_refl _⟩ rfl (fun rh2 h2 hqh2 => ?_)
  obtain ⟨rfl, HM, hFh2⟩ := hqh2
  have HX := HX.frAll hFh2 (by omega)
  refine go_icmp_eq 898 (nx := 780) dL_law_777 rfl rfl (fun c777 => ?_) (fun c777 => False.elim (absurd rfl c777))
  exact kk _ _ _ HX HM (W)
theorem law_rate {G : kG} {nm : String} {b L i t sz : Nat} {xs : Nat → Int32} {h : kH} {tx : Nat → Nat} {ν : mN} {i0 i1 : Option mN} {T : mT} {tr : Int64} (hXs : va_X b L xs (kg G) (kg G).heap) (hbl : b < (kg G).heap.size) (hL : L < 2 ^ 31) (hi5 : i + 5 ≤ L) (HX : oX G t (tx, sz, ν, i0, i1, T, tr) h) (HM : oM G (tx, sz, ν, i0, i1, T, tr) h) (W : wS (tx, sz, ν, i0, i1, T, tr))
    (kk : ∀ (t : Nat) (S : mS) (h : kH), oX G t S h → oM G S h → wS S → Go G (kL nm) (11, 49, 2535) 898 (LV G b i) [] (49, 49, 2535) h QL) : Go G (kL nm) (11, 49, 2535) 782 (LV G b i) [] (49, 49, 2535) h QL := by
  refine go_aload_n 2 (nx := 783) dL_law_782 rfl rfl rfl ?_
  refine go_aload_n 1 (nx := 784) dL_law_783 rfl rfl rfl ?_
  refine go_iload_n 0 (nx := 785) dL_law_784 rfl rfl rfl ?_
  refine go_iconst (v := nI 1) (nx := 786) dL_law_785 (by decide) rfl ?_
  refine go_iadd (nx := 787) dL_law_786 rfl ?_
  refine go_sld (i + 1) (nx := 788) hXs hbl (by omega) hL (by rw [nI_add]) dL_law_787 rfl ?_
  refine go_aload_n 1 (nx := 789) dL_law_788 rfl rfl rfl ?_
  refine go_iload_n 0 (nx := 790) dL_law_789 rfl rfl rfl ?_
  refine go_iconst (v := nI 2) (nx := 791) dL_law_790 (by decide) rfl ?_
  refine go_iadd (nx := 792) dL_law_791 rfl ?_
  refine go_sld (i + 2) (nx := 793) hXs hbl (by omega) hL (by rw [nI_add]) dL_law_792 rfl ?_
  obtain ⟨fsX, hX⟩ := HX.c0
  refine go_Vi (nx := 796) [_, _] kc_L_109 ⟨_, _, rfl⟩ (by omega) hX (x_rate (by omega) HX W) dL_law_793 rfl rfl (Nat.le_of_ble_eq_true rfl) (Nat.le_of_ble_eq_true rfl) ⟨Nat.le_refl _, Nat.le_refl _⟩ rfl (fun rh1 h1 hqh1 => ?_)
  obtain ⟨rfl, HX, hFh1⟩ := hqh1
  have HM := HM.frAll hFh1 (by omega)
  refine go_aload_n 3 (nx := 797) dL_law_796 rfl rfl rfl ?_
  refine go_aload_n 1 (nx := 798) dL_law_797 rfl rfl rfl ?_
  refine go_iload_n 0 (nx := 799) dL_law_798 rfl rfl rfl ?_
  refine go_iconst (v := nI 1) (nx := 800) dL_law_799 (by decide) rfl ?_
  refine go_iadd (nx := 801) dL_law_800 rfl ?_
  refine go_sld (i + 1) (nx := 802) hXs hbl (by omega) hL (by rw [nI_add]) dL_law_801 rfl ?_
  refine go_aload_n 1 (nx := 803) dL_law_802 rfl rfl rfl ?_
  refine go_iload_n 0 (nx := 804) dL_law_803 rfl rfl rfl ?_
  refine go_iconst (v := nI 2) (nx := 805) dL_law_804 (by decide) rfl ?_
  refine go_iadd (nx := 806) dL_law_805 rfl ?_
  refine go_sld (i + 2) (nx := 807) hXs hbl (by omega) hL (by rw [nI_add]) dL_law_806 rfl ?_
  obtain ⟨fsM, hM⟩ := HM.c37
  refine go_Vi (nx := 810) [_, _] kc_L_112 ⟨_, _, rfl⟩ (by omega) hM (m_rate (by omega) HM W) dL_law_807 rfl rfl (Nat.le_of_ble_eq_true rfl) (Nat.le_of_ble_eq_true rfl) ⟨Nat.le_refl _, Nat.le_refl _⟩ rfl (fun rh2 h2 hqh2 => ?_)
  obtain ⟨rfl, HM, hFh2⟩ := hqh2
  have HX := HX.frAll hFh2 (by omega)
  refine go_icmp_eq 898 (nx := 813) dL_law_810 rfl rfl (fun c810 => ?_) (fun c810 => False.elim (absurd rfl c810))
  exact kk _ _ _ HX HM (W)
theorem law_keep {G : kG} {nm : String} {b L i t sz : Nat} {xs : Nat → Int32} {h : kH} {tx : Nat → Nat} {ν : mN} {i0 i1 : Option mN} {T : mT} {tr : Int64} (hXs : va_X b L xs (kg G) (kg G).heap) (hbl : b < (kg G).heap.size) (hL : L < 2 ^ 31) (hi5 : i + 5 ≤ L) (HX : oX G t (tx, sz, ν, i0, i1, T, tr) h) (HM : oM G (tx, sz, ν, i0, i1, T, tr) h) (W : wS (tx, sz, ν, i0, i1, T, tr))
    (kk : ∀ (t : Nat) (S : mS) (h : kH), oX G t S h → oM G S h → wS S → Go G (kL nm) (11, 49, 2535) 898 (LV G b i) [] (49, 49, 2535) h QL) : Go G (kL nm) (11, 49, 2535) 815 (LV G b i) [] (49, 49, 2535) h QL := by
  refine go_aload_n 2 (nx := 816) dL_law_815 rfl rfl rfl ?_
  refine go_aload_n 1 (nx := 817) dL_law_816 rfl rfl rfl ?_
  refine go_iload_n 0 (nx := 818) dL_law_817 rfl rfl rfl ?_
  refine go_iconst (v := nI 1) (nx := 819) dL_law_818 (by decide) rfl ?_
  refine go_iadd (nx := 820) dL_law_819 rfl ?_
  refine go_sld (i + 1) (nx := 821) hXs hbl (by omega) hL (by rw [nI_add]) dL_law_820 rfl ?_
  obtain ⟨fsX, hX⟩ := HX.c0
  refine go_Vi (nx := 824) [_] kc_L_113 ⟨_, _, rfl⟩ (by omega) hX (x_keep (by omega) HX W) dL_law_821 rfl rfl (Nat.le_of_ble_eq_true rfl) (Nat.le_of_ble_eq_true rfl) ⟨Nat.le_refl _, Nat.le_refl _⟩ rfl (fun rh1 h1 hqh1 => ?_)
  obtain ⟨rfl, HX, hFh1⟩ := hqh1
  have HM := HM.frAll hFh1 (by omega)
  refine go_aload_n 3 (nx := 825) dL_law_824 rfl rfl rfl ?_
  refine go_aload_n 1 (nx := 826) dL_law_825 rfl rfl rfl ?_
  refine go_iload_n 0 (nx := 827) dL_law_826 rfl rfl rfl ?_
  refine go_iconst (v := nI 1) (nx := 828) dL_law_827 (by decide) rfl ?_
  refine go_iadd (nx := 829) dL_law_828 rfl ?_
  refine go_sld (i + 1) (nx := 830) hXs hbl (by omega) hL (by rw [nI_add]) dL_law_829 rfl ?_
  obtain ⟨fsM, hM⟩ := HM.c37
  refine go_Vi (nx := 833) [_] kc_L_116 ⟨_, _, rfl⟩ (by omega) hM (m_keep (by omega) HM W) dL_law_830 rfl rfl (Nat.le_of_ble_eq_true rfl) (Nat.le_of_ble_eq_true rfl) ⟨Nat.le_refl _, Nat.le_refl _⟩ rfl (fun rh2 h2 hqh2 => ?_)
  obtain ⟨rfl, HM, hFh2⟩ := hqh2
  have HX := HX.frAll hFh2 (by omega)
  refine go_icmp_eq 898 (nx := 836) dL_law_833 rfl rfl (fun c833 => ?_) (fun c833 => False.elim (absurd rfl c833))
  exact kk _ _ _ HX HM (ws_keep W _)
theorem law_back {G : kG} {nm : String} {b L i t sz : Nat} {xs : Nat → Int32} {h : kH} {tx : Nat → Nat} {ν : mN} {i0 i1 : Option mN} {T : mT} {tr : Int64} (hXs : va_X b L xs (kg G) (kg G).heap) (hbl : b < (kg G).heap.size) (hL : L < 2 ^ 31) (hi5 : i + 5 ≤ L) (HX : oX G t (tx, sz, ν, i0, i1, T, tr) h) (HM : oM G (tx, sz, ν, i0, i1, T, tr) h) (W : wS (tx, sz, ν, i0, i1, T, tr))
    (kk : ∀ (t : Nat) (S : mS) (h : kH), oX G t S h → oM G S h → wS S → Go G (kL nm) (11, 49, 2535) 898 (LV G b i) [] (49, 49, 2535) h QL) : Go G (kL nm) (11, 49, 2535) 838 (LV G b i) [] (49, 49, 2535) h QL := by
  refine go_aload_n 2 (nx := 839) dL_law_838 rfl rfl rfl ?_
  refine go_aload_n 1 (nx := 840) dL_law_839 rfl rfl rfl ?_
  refine go_iload_n 0 (nx := 841) dL_law_840 rfl rfl rfl ?_
  refine go_iconst (v := nI 1) (nx := 842) dL_law_841 (by decide) rfl ?_
  refine go_iadd (nx := 843) dL_law_842 rfl ?_
  refine go_sld (i + 1) (nx := 844) hXs hbl (by omega) hL (by rw [nI_add]) dL_law_843 rfl ?_
  obtain ⟨fsX, hX⟩ := HX.c0
  refine go_Vi (nx := 847) [_] kc_L_117 ⟨_, _, rfl⟩ (by omega) hX (x_back (by omega) HX W) dL_law_844 rfl rfl (Nat.le_of_ble_eq_true rfl) (Nat.le_of_ble_eq_true rfl) ⟨Nat.le_refl _, Nat.le_refl _⟩ rfl (fun rh1 h1 hqh1 => ?_)
  obtain ⟨rfl, HX, hFh1⟩ := hqh1
  have HM := HM.frAll hFh1 (by omega)
  refine go_aload_n 3 (nx := 848) dL_law_847 rfl rfl rfl ?_
  refine go_aload_n 1 (nx := 849) dL_law_848 rfl rfl rfl ?_
  refine go_iload_n 0 (nx := 850) dL_law_849 rfl rfl rfl ?_
  refine go_iconst (v := nI 1) (nx := 851) dL_law_850 (by decide) rfl ?_
  refine go_iadd (nx := 852) dL_law_851 rfl ?_
  refine go_sld (i + 1) (nx := 853) hXs hbl (by omega) hL (by rw [nI_add]) dL_law_852 rfl ?_
  obtain ⟨fsM, hM⟩ := HM.c37
  refine go_Vi (nx := 856) [_] kc_L_120 ⟨_, _, rfl⟩ (by omega) hM (m_back (by omega) HM W) dL_law_853 rfl rfl (Nat.le_of_ble_eq_true rfl) (Nat.le_of_ble_eq_true rfl) ⟨Nat.le_refl _, Nat.le_refl _⟩ rfl (fun rh2 h2 hqh2 => ?_)
  obtain ⟨rfl, HM, hFh2⟩ := hqh2
  have HX := HX.frAll hFh2 (by omega)
  refine go_icmp_eq 898 (nx := 859) dL_law_856 rfl rfl (fun c856 => ?_) (fun c856 => False.elim (absurd rfl c856))
  exact kk _ _ _ HX HM (ws_back W _)
theorem law_count {G : kG} {nm : String} {b L i t sz : Nat} {xs : Nat → Int32} {h : kH} {tx : Nat → Nat} {ν : mN} {i0 i1 : Option mN} {T : mT} {tr : Int64} (hXs : va_X b L xs (kg G) (kg G).heap) (hbl : b < (kg G).heap.size) (hL : L < 2 ^ 31) (hi5 : i + 5 ≤ L) (HX : oX G t (tx, sz, ν, i0, i1, T, tr) h) (HM : oM G (tx, sz, ν, i0, i1, T, tr) h) (W : wS (tx, sz, ν, i0, i1, T, tr))
    (kk : ∀ (t : Nat) (S : mS) (h : kH), oX G t S h → oM G S h → wS S → Go G (kL nm) (11, 49, 2535) 898 (LV G b i) [] (49, 49, 2535) h QL) : Go G (kL nm) (11, 49, 2535) 861 (LV G b i) [] (49, 49, 2535) h QL := by
  refine go_aload_n 2 (nx := 862) dL_law_861 rfl rfl rfl ?_
  refine go_aload_n 1 (nx := 863) dL_law_862 rfl rfl rfl ?_
  refine go_iload_n 0 (nx := 864) dL_law_863 rfl rfl rfl ?_
  refine go_iconst (v := nI 1) (nx := 865) dL_law_864 (by decide) rfl ?_
  refine go_iadd (nx := 866) dL_law_865 rfl ?_
  refine go_sld (i + 1) (nx := 867) hXs hbl (by omega) hL (by rw [nI_add]) dL_law_866 rfl ?_
  obtain ⟨fsX, hX⟩ := HX.c0
  refine go_Vi (nx := 870) [_] kc_L_121 ⟨_, _, rfl⟩ (by omega) hX (x_count (by omega) HX W) dL_law_867 rfl rfl (Nat.le_of_ble_eq_true rfl) (Nat.le_of_ble_eq_true rfl) ⟨Nat.le_refl _, Nat.le_refl _⟩ rfl (fun rh1 h1 hqh1 => ?_)
  obtain ⟨rfl, rfl⟩ := hqh1
  refine go_aload_n 3 (nx := 871) dL_law_870 rfl rfl rfl ?_
  refine go_aload_n 1 (nx := 872) dL_law_871 rfl rfl rfl ?_
  refine go_iload_n 0 (nx := 873) dL_law_872 rfl rfl rfl ?_
  refine go_iconst (v := nI 1) (nx := 874) dL_law_873 (by decide) rfl ?_
  refine go_iadd (nx := 875) dL_law_874 rfl ?_
  refine go_sld (i + 1) (nx := 876) hXs hbl (by omega) hL (by rw [nI_add]) dL_law_875 rfl ?_
  obtain ⟨fsM, hM⟩ := HM.c37
  refine go_Vi (nx := 879) [_] kc_L_124 ⟨_, _, rfl⟩ (by omega) hM (m_count (by omega) HM W) dL_law_876 rfl rfl (Nat.le_of_ble_eq_true rfl) (Nat.le_of_ble_eq_true rfl) ⟨Nat.le_refl _, Nat.le_refl _⟩ rfl (fun rh2 h2 hqh2 => ?_)
  obtain ⟨rfl, HM, hFh2⟩ := hqh2
  have HX := HX.frAll hFh2 (by omega)
  refine go_icmp_eq 898 (nx := 882) dL_law_879 rfl rfl (fun c879 => ?_) (fun c879 => False.elim (absurd rfl c879))
  exact kk _ _ _ HX HM (W)
theorem law_trace {G : kG} {nm : String} {b L i t sz : Nat} {xs : Nat → Int32} {h : kH} {tx : Nat → Nat} {ν : mN} {i0 i1 : Option mN} {T : mT} {tr : Int64} (hXs : va_X b L xs (kg G) (kg G).heap) (hbl : b < (kg G).heap.size) (hL : L < 2 ^ 31) (hi5 : i + 5 ≤ L) (HX : oX G t (tx, sz, ν, i0, i1, T, tr) h) (HM : oM G (tx, sz, ν, i0, i1, T, tr) h) (W : wS (tx, sz, ν, i0, i1, T, tr))
    (kk : ∀ (t : Nat) (S : mS) (h : kH), oX G t S h → oM G S h → wS S → Go G (kL nm) (11, 49, 2535) 898 (LV G b i) [] (49, 49, 2535) h QL) : Go G (kL nm) (11, 49, 2535) 884 (LV G b i) [] (49, 49, 2535) h QL := by
  refine go_aload_n 2 (nx := 885) dL_law_884 rfl rfl rfl ?_
  obtain ⟨fsX, hX⟩ := HX.c0
  refine go_Vl (nx := 888) [] kc_L_125 ⟨_, _, rfl⟩ (by omega) hX (x_trace (by omega) HX W) dL_law_885 rfl rfl (Nat.le_of_ble_eq_true rfl) (Nat.le_of_ble_eq_true rfl) ⟨Nat.le_refl _, Nat.le_refl _⟩ rfl (fun rh1 h1 hqh1 => ?_)
  obtain ⟨rfl, rfl⟩ := hqh1
  refine go_aload_n 3 (nx := 889) dL_law_888 rfl rfl rfl ?_
  obtain ⟨fsM, hM⟩ := HM.c37
  refine go_Vl (nx := 892) [] kc_L_129 ⟨_, _, rfl⟩ (by omega) hM (m_trace (by omega) HM W) dL_law_889 rfl rfl (Nat.le_of_ble_eq_true rfl) (Nat.le_of_ble_eq_true rfl) ⟨Nat.le_refl _, Nat.le_refl _⟩ rfl (fun rh2 h2 hqh2 => ?_)
  obtain ⟨rfl, HM, hFh2⟩ := hqh2
  have HX := HX.frAll hFh2 (by omega)
  refine go_lcmp (nx := 893) dL_law_892 rfl ?_
  refine go_if_eq 898 (nx := 896) dL_law_893 rfl rfl (fun c893 => ?_) (fun c893 => False.elim (c893 ((lg_cmp_eq _ _).mpr rfl)))
  exact kk _ _ _ HX HM (W)
