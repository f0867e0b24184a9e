/-! the reference: the draft becomes the town -/
theorem l_tcopy {G : kG} {n sz : Nat} {tx : Nat → Nat} {ν : mN} {i0 i1 : Option mN} {T D : mT} {tr : Int64} {h0 : kH} {th nx tk pl va fa dP dF dL dJ wF wL : Int32} {k : Nat} {b7 : Nat → Int32} (hn : 49 ≤ n) (hw : wT D) (H0 : oM G (tx, sz, ν, i0, i1, T, tr) h0) (hik : h0 44 = .inl (G.2.2.1, 2, .inl b7)) (hv : fTown tx sz = nI k) (hs : sTown (tx, sz, ν, i0, i1, T, tr) = (tx, 0, nAnew D, none, none, D, tr)) : ∀ (d p : Nat) (h : kH) (ka ba : Nat → Int32), 8 - p < d → p ≤ 8 → pO G tr sz D th nx tk pl va fa dP dF dL dJ wF wL h → h 39 = .inl (G.2.1, 16, .inl ka) → h 40 = .inl (G.2.1, 16, .inl ba) → (∀ j, j < p → ka j = nI (row D.2.1 j)) → (∀ j, j < p → ba j = hab (D.2.2.1 j)) → (∀ j, j < D.1 → ka (8 + j) = nI (row D.2.1 j)) → (∀ j, j < D.1 → ba (8 + j) = hab (D.2.2.1 j)) → tmr h0 h → Go G mX7_town (7, 0, 0) 256 [(2, .int (nI p)), (0, .ref (kb G + 37)), (1, .int (nI k))] [] (n, 0, 0) h (kQi mX7_town n (fun v h' => v = fTown tx sz ∧ oM G (sTown (tx, sz, ν, i0, i1, T, tr)) h' ∧ kFr 37 49 h0 h')) := by
  intro d
  induction d with
  | zero => intro p h ka ba hd; omega
  | succ d ih =>
    intro p h ka ba hd hp HO hkt hhb hj1 hj2 hk2 hb2 hR
    have hM := HO
    unfold pO at hM
    have hik := (hR 44 (by decide) (by decide) (by decide)).trans hik
    have hP := hw.1
    have hh0 : tmr h h := tmr.rf
    refine go_iload_n 0 (nx := 257) dX7_town_256 rfl rfl rfl ?_
    refine go_bipush (v := nI 8) (nx := 259) dX7_town_257 (by decide) rfl ?_
    refine go_icmp_ge 323 (nx := 262) dX7_town_259 rfl rfl (fun c259 => ?_) (fun c259 => ?_)
    · skip
      refine go_aload_n 1 (nx := 324) dX7_town_323 rfl rfl rfl ?_
      refine go_iconst (v := nI 0) (nx := 325) dX7_town_324 (by decide) rfl ?_
      refine go_pf (fs' := [_, _, _, _, _, _, _, _, _, _, _, _, _, _, _, _, _, _, _, _, _, _, _, _, _, _, _, _, _]) (nx := 328) (fp_X7_58 _) dX7_town_325 (by omega) hM (Nat.le_of_ble_eq_true rfl) ⟨rfl, rfl⟩ rfl rfl (fun h1 eh1 fh1 => ?_)
      have hkt := (fh1 (39) (by omega)).trans hkt
      have hhb := (fh1 (40) (by omega)).trans hhb
      have hik := (fh1 (44) (by omega)).trans hik
      have hM := eh1
      refine go_aload_n 1 (nx := 329) dX7_town_328 rfl rfl rfl ?_
      refine go_gf (nx := 332) fg_X7_28 dX7_town_329 (by omega) hM rfl rfl ?_
      refine go_iconst (v := nI 0) (nx := 333) dX7_town_332 (by decide) rfl ?_
      refine go_iconst (v := nI 0) (nx := 334) dX7_town_333 (by decide) rfl ?_
      refine go_bas (0) (nx := 335) dX7_town_334 (by omega) hik rfl (by decide) (by omega) rfl rfl (fun h2 eh2 fh2 => ?_)
      have hM := (fh2 (37) (by omega)).trans hM
      have hkt := (fh2 (39) (by omega)).trans hkt
      have hhb := (fh2 (40) (by omega)).trans hhb
      have hik := eh2
      refine go_aload_n 1 (nx := 336) dX7_town_335 rfl rfl rfl ?_
      refine go_gf (nx := 339) fg_X7_28 dX7_town_336 (by omega) hM rfl rfl ?_
      refine go_iconst (v := nI 1) (nx := 340) dX7_town_339 (by decide) rfl ?_
      refine go_iconst (v := nI 0) (nx := 341) dX7_town_340 (by decide) rfl ?_
      refine go_bas (1) (nx := 342) dX7_town_341 (by omega) hik rfl (by decide) (by omega) rfl rfl (fun h3 eh3 fh3 => ?_)
      have hM := (fh3 (37) (by omega)).trans hM
      have hkt := (fh3 (39) (by omega)).trans hkt
      have hhb := (fh3 (40) (by omega)).trans hhb
      have hik := eh3
      have e8 : p = 8 := by have := kle c259 (by decide) (by omega); omega
      subst e8
      have HO2 : mO G (fun i => if i = 0 then th else if i = 4 then nx else if i = 5 then tk else if i = 6 then pl else if i = 7 then va else if i = 8 then fa else if i = 12 then dP else if i = 14 then dF else if i = 16 then dL else if i = 18 then dJ else if i = 19 then wF else wL) tr 0 D h3 := hM
      have hx41 : xArr G 41 82 h3 := by
        obtain ⟨-, -, -, -, ⟨a5, q5, -⟩, -⟩ := id H0
        exact ⟨a5, (by rw [fh3 41 (by decide), fh2 41 (by decide), fh1 41 (by decide)]; exact (hR 41 (by decide) (by decide) (by decide)).trans q5)⟩
      refine go_aload_n 1 (nx := 343) dX7_town_342 rfl rfl rfl ?_
      refine go_Vv (nx := 346) [] kc_X7_48 ⟨_, _, rfl⟩ (by omega) hM (m_begins (tx := tx) (ν := ν) (i0 := i0) (i1 := i1) hn HO2 ⟨_, hkt, hj1⟩ hx41) dX7_town_343 rfl rfl (Nat.le_of_ble_eq_true rfl) (Nat.le_of_ble_eq_true rfl) ⟨Nat.le_refl _, Nat.le_refl _⟩ rfl (fun h4 hqh4 => ?_)
      obtain ⟨hSn, hFh4⟩ := hqh4
      refine go_iload_n 2 (nx := 347) dX7_town_346 rfl rfl rfl ?_
      refine go_reti dX7_town_347 ⟨_, rfl, rfl⟩ ?_
      obtain ⟨-, ⟨ta, q2, -⟩, -, -, -, ⟨a6, q6⟩, ⟨a7, b8, q7, -⟩, ⟨a8, q8⟩, ⟨a9, q9⟩, ⟨a10, q10⟩, ⟨a11, q11⟩⟩ := H0
      have hO2 := HO2.fr hFh4 (by omega)
      have fx : ∀ j, j ≠ 37 → j ≠ 44 → j ≠ 41 → h4 j = h j := fun j g1 g2 g3 => by rw [hFh4 j (by omega), fh3 j (by omega), fh2 j (by omega), fh1 j (by omega)]
      have f0 : ∀ j, j ≠ 37 → j ≠ 39 → j ≠ 40 → j ≠ 44 → j ≠ 41 → h4 j = h0 j := fun j g1 g2 g3 g4 g5 => (fx j g1 g4 g5).trans (hR j g1 g2 g3)
      refine ⟨hv.symm, ?_, fun i hi => f0 i (by omega) (by omega) (by omega) (by omega) (by omega)⟩
      rw [hs]
      exact ⟨⟨_, hO2⟩, ⟨ta, (f0 38 (by decide) (by decide) (by decide) (by decide) (by decide)).trans q2, fun j hj => absurd hj (Nat.not_lt_zero j)⟩, ⟨_, (hFh4 39 (by omega)).trans hkt, hj1⟩, ⟨_, (hFh4 40 (by omega)).trans hhb, hj2⟩, hSn,
        ⟨a6, (f0 42 (by decide) (by decide) (by decide) (by decide) (by decide)).trans q6⟩, ⟨a7, _, (f0 43 (by decide) (by decide) (by decide) (by decide) (by decide)).trans q7, (hFh4 44 (by omega)).trans hik, by rw [pk_un (by decide), pk_us]; rfl, by rw [pk_us]; rfl, fun μ e => (nomatch e), fun μ e => (nomatch e)⟩,
        ⟨a8, (f0 45 (by decide) (by decide) (by decide) (by decide) (by decide)).trans q8⟩, ⟨a9, (f0 46 (by decide) (by decide) (by decide) (by decide) (by decide)).trans q9⟩, ⟨a10, (f0 47 (by decide) (by decide) (by decide) (by decide) (by decide)).trans q10⟩, ⟨a11, (f0 48 (by decide) (by decide) (by decide) (by decide) (by decide)).trans q11⟩⟩
    · skip
      have h8 := knle c259
      refine go_aload_n 1 (nx := 263) dX7_town_262 rfl rfl rfl ?_
      refine go_gf (nx := 266) fg_X7_13 dX7_town_263 (by omega) hM rfl rfl ?_
      refine go_iload_n 0 (nx := 267) dX7_town_266 rfl rfl rfl ?_
      refine go_iload_n 0 (nx := 268) dX7_town_267 rfl rfl rfl ?_
      refine go_aload_n 1 (nx := 269) dX7_town_268 rfl rfl rfl ?_
      refine go_gf (nx := 272) fg_X7_137 dX7_town_269 (by omega) hM rfl rfl ?_
      refine go_icmp_ge 287 (nx := 275) dX7_town_272 rfl rfl (fun c272 => ?_) (fun c272 => ?_)
      · skip
        refine go_iconst (v := nI 0) (nx := 288) dX7_town_287 (by decide) rfl ?_
        refine go_ias (p) (nx := 289) dX7_town_288 (by omega) hkt rfl (by omega) (by omega) rfl (fun h1 eh1 fh1 => ?_)
        have hM := (fh1 (37) (by omega)).trans hM
        have hhb := (fh1 (40) (by omega)).trans hhb
        have hik := (fh1 (44) (by omega)).trans hik
        have hkt := eh1
        refine go_aload_n 1 (nx := 290) dX7_town_289 rfl rfl rfl ?_
        refine go_gf (nx := 293) fg_X7_16 dX7_town_290 (by omega) hM rfl rfl ?_
        refine go_iload_n 0 (nx := 294) dX7_town_293 rfl rfl rfl ?_
        refine go_iload_n 0 (nx := 295) dX7_town_294 rfl rfl rfl ?_
        refine go_aload_n 1 (nx := 296) dX7_town_295 rfl rfl rfl ?_
        refine go_gf (nx := 299) fg_X7_137 dX7_town_296 (by omega) hM rfl rfl ?_
        refine go_icmp_ge 314 (nx := 302) dX7_town_299 rfl rfl (fun c299 => ?_) (fun c299 => False.elim (c299 c272))
        refine go_bipush (v := (-9)) (nx := 316) dX7_town_314 (by decide) rfl ?_
        refine go_ias (p) (nx := 317) dX7_town_316 (by omega) hhb rfl (by omega) (by omega) rfl (fun h2 eh2 fh2 => ?_)
        have hM := (fh2 (37) (by omega)).trans hM
        have hkt := (fh2 (39) (by omega)).trans hkt
        have hik := (fh2 (44) (by omega)).trans hik
        have hhb := eh2
        refine go_iinc 0 (v := nI (p + 1)) (lv' := [_, _, _]) (nx := 320) dX7_town_317 rfl (nI_inc p) (by decide) rfl rfl ?_
        refine go_goto 256 dX7_town_320 rfl ?_
        refine Go.sub [0, 1, 2] rfl ?_
        refine ih (p + 1) _ _ _ (by omega) (by omega) hM hkt hhb (fun j hj => ?_) (fun j hj => ?_) (fun j hj => ?_) (fun j hj => ?_) (fun j q1 q2 q3 => by rw [fh2 j (by omega), fh1 j (by omega)]; exact hR j q1 q2 q3)
        · by_cases e : j = p
          · subst e
            rw [pk_us]
            rw [show row D.2.1 j = 0 from bits_zero.mpr fun i _ => by
              cases e : D.2.1 j i
              · rfl
              · have := (hw.2.1 j i e).1; have := kle c272; omega]
          · rw [pk_un e]; exact hj1 j (by omega)
        · by_cases e : j = p
          · subst e
            rw [pk_us]
            rw [show D.2.2.1 j = none from by
              cases e : D.2.2.1 j with
              | none => rfl
              | some b => have := (hw.2.2.1 j b e).1; have := kle c272; omega]
            rfl
          · rw [pk_un e]; exact hj2 j (by omega)
        · rw [pk_un (by omega)]; exact hk2 j hj
        · rw [pk_un (by omega)]; exact hb2 j hj
      · skip
        refine go_aload_n 1 (nx := 276) dX7_town_275 rfl rfl rfl ?_
        refine go_gf (nx := 279) fg_X7_13 dX7_town_276 (by omega) hM rfl rfl ?_
        refine go_bipush (v := nI 8) (nx := 281) dX7_town_279 (by decide) rfl ?_
        refine go_iload_n 0 (nx := 282) dX7_town_281 rfl rfl rfl ?_
        refine go_iadd (nx := 283) dX7_town_282 rfl ?_
        refine go_ial (8 + p) (nx := 284) dX7_town_283 (by omega) hkt (by rw [nI_add]) (by omega) (by omega) rfl ?_
        rw [hk2 p (by have := knle c272; omega)]
        refine go_goto 288 dX7_town_284 rfl ?_
        refine go_ias (p) (nx := 289) dX7_town_288 (by omega) hkt rfl (by omega) (by omega) rfl (fun h1 eh1 fh1 => ?_)
        have hM := (fh1 (37) (by omega)).trans hM
        have hhb := (fh1 (40) (by omega)).trans hhb
        have hik := (fh1 (44) (by omega)).trans hik
        have hkt := eh1
        refine go_aload_n 1 (nx := 290) dX7_town_289 rfl rfl rfl ?_
        refine go_gf (nx := 293) fg_X7_16 dX7_town_290 (by omega) hM rfl rfl ?_
        refine go_iload_n 0 (nx := 294) dX7_town_293 rfl rfl rfl ?_
        refine go_iload_n 0 (nx := 295) dX7_town_294 rfl rfl rfl ?_
        refine go_aload_n 1 (nx := 296) dX7_town_295 rfl rfl rfl ?_
        refine go_gf (nx := 299) fg_X7_137 dX7_town_296 (by omega) hM rfl rfl ?_
        refine go_icmp_ge 314 (nx := 302) dX7_town_299 rfl rfl (fun c299 => False.elim (c272 c299)) (fun c299 => ?_)
        refine go_aload_n 1 (nx := 303) dX7_town_302 rfl rfl rfl ?_
        refine go_gf (nx := 306) fg_X7_16 dX7_town_303 (by omega) hM rfl rfl ?_
        refine go_bipush (v := nI 8) (nx := 308) dX7_town_306 (by decide) rfl ?_
        refine go_iload_n 0 (nx := 309) dX7_town_308 rfl rfl rfl ?_
        refine go_iadd (nx := 310) dX7_town_309 rfl ?_
        refine go_ial (8 + p) (nx := 311) dX7_town_310 (by omega) hhb (by rw [nI_add]) (by omega) (by omega) rfl ?_
        rw [hb2 p (by have := knle c272; omega)]
        refine go_goto 316 dX7_town_311 rfl ?_
        refine go_ias (p) (nx := 317) dX7_town_316 (by omega) hhb rfl (by omega) (by omega) rfl (fun h2 eh2 fh2 => ?_)
        have hM := (fh2 (37) (by omega)).trans hM
        have hkt := (fh2 (39) (by omega)).trans hkt
        have hik := (fh2 (44) (by omega)).trans hik
        have hhb := eh2
        refine go_iinc 0 (v := nI (p + 1)) (lv' := [_, _, _]) (nx := 320) dX7_town_317 rfl (nI_inc p) (by decide) rfl rfl ?_
        refine go_goto 256 dX7_town_320 rfl ?_
        refine Go.sub [0, 1, 2] rfl ?_
        refine ih (p + 1) _ _ _ (by omega) (by omega) hM hkt hhb (fun j hj => ?_) (fun j hj => ?_) (fun j hj => ?_) (fun j hj => ?_) (fun j q1 q2 q3 => by rw [fh2 j (by omega), fh1 j (by omega)]; exact hR j q1 q2 q3)
        · by_cases e : j = p
          · subst e
            rw [pk_us]
            skip
          · rw [pk_un e]; exact hj1 j (by omega)
        · by_cases e : j = p
          · subst e
            rw [pk_us]
            skip
          · rw [pk_un e]; exact hj2 j (by omega)
        · rw [pk_un (by omega)]; exact hk2 j hj
        · rw [pk_un (by omega)]; exact hb2 j hj
theorem l_town222 {G : kG} {n sz : Nat} {tx : Nat → Nat} {ν : mN} {i0 i1 : Option mN} {T D : mT} {tr : Int64} {h0 : kH} {k c : Nat} {wF wL : Int32} {h : kH} (hn : 49 ≤ n) (hw : wT D) (H0 : oM G (tx, sz, ν, i0, i1, T, tr) h0) (hv : fTown tx sz = nI k) (hs : sTown (tx, sz, ν, i0, i1, T, tr) = (tx, 0, nAnew D, none, none, D, tr)) (HE : pE G tx sz tr T (.inr c) (nI D.1) (nI D.2.2.2.1) (nI D.2.2.2.2.1) (nI D.2.2.2.2.2) wF wL h) (HD : pD G T D h) (hR : tmr h0 h) : Go G mX7_town (7, 0, 0) 222 [(1, .int (nI k)), (0, .ref (kb G + 37))] [] (n, 0, 0) h (kQi mX7_town n (fun v h' => v = fTown tx sz ∧ oM G (sTown (tx, sz, ν, i0, i1, T, tr)) h' ∧ kFr 37 49 h0 h')) := by
  obtain ⟨th, nx, tk, pl, va, HO, HC⟩ := id HE
  have hM := HO
  unfold pO at hM
  obtain ⟨ka, ba, hkt, hhb, hk1, hb1, hk2, hb2⟩ := id HD
  obtain ⟨-, -, -, -, -, -, ⟨a7, b7, -, q7', -⟩, -⟩ := id H0
  refine go_aload_n 1 (nx := 223) dX7_town_222 rfl rfl rfl ?_
  refine go_aload_n 1 (nx := 224) dX7_town_223 rfl rfl rfl ?_
  refine go_gf (nx := 227) fg_X7_107 dX7_town_224 (by omega) hM rfl rfl ?_
  refine go_pf (fs' := [_, _, _, _, _, _, _, _, _, _, _, _, _, _, _, _, _, _, _, _, _, _, _, _, _, _, _, _, _]) (nx := 230) (fp_X7_137 _) dX7_town_227 (by omega) hM (Nat.le_of_ble_eq_true rfl) ⟨rfl, rfl⟩ rfl rfl (fun h1 eh1 fh1 => ?_)
  have hkt := (fh1 (39) (by omega)).trans hkt
  have hhb := (fh1 (40) (by omega)).trans hhb
  have hM := eh1
  refine go_aload_n 1 (nx := 231) dX7_town_230 rfl rfl rfl ?_
  refine go_aload_n 1 (nx := 232) dX7_town_231 rfl rfl rfl ?_
  refine go_gf (nx := 235) fg_X7_114 dX7_town_232 (by omega) hM rfl rfl ?_
  refine go_pf (fs' := [_, _, _, _, _, _, _, _, _, _, _, _, _, _, _, _, _, _, _, _, _, _, _, _, _, _, _, _, _]) (nx := 238) (fp_X7_140 _) dX7_town_235 (by omega) hM (Nat.le_of_ble_eq_true rfl) ⟨rfl, rfl⟩ rfl rfl (fun h2 eh2 fh2 => ?_)
  have hkt := (fh2 (39) (by omega)).trans hkt
  have hhb := (fh2 (40) (by omega)).trans hhb
  have hM := eh2
  refine go_aload_n 1 (nx := 239) dX7_town_238 rfl rfl rfl ?_
  refine go_aload_n 1 (nx := 240) dX7_town_239 rfl rfl rfl ?_
  refine go_gf (nx := 243) fg_X7_121 dX7_town_240 (by omega) hM rfl rfl ?_
  refine go_pf (fs' := [_, _, _, _, _, _, _, _, _, _, _, _, _, _, _, _, _, _, _, _, _, _, _, _, _, _, _, _, _]) (nx := 246) (fp_X7_143 _) dX7_town_243 (by omega) hM (Nat.le_of_ble_eq_true rfl) ⟨rfl, rfl⟩ rfl rfl (fun h3 eh3 fh3 => ?_)
  have hkt := (fh3 (39) (by omega)).trans hkt
  have hhb := (fh3 (40) (by omega)).trans hhb
  have hM := eh3
  refine go_aload_n 1 (nx := 247) dX7_town_246 rfl rfl rfl ?_
  refine go_aload_n 1 (nx := 248) dX7_town_247 rfl rfl rfl ?_
  refine go_gf (nx := 251) fg_X7_124 dX7_town_248 (by omega) hM rfl rfl ?_
  refine go_pf (fs' := [_, _, _, _, _, _, _, _, _, _, _, _, _, _, _, _, _, _, _, _, _, _, _, _, _, _, _, _, _]) (nx := 254) (fp_X7_44 _) dX7_town_251 (by omega) hM (Nat.le_of_ble_eq_true rfl) ⟨rfl, rfl⟩ rfl rfl (fun h4 eh4 fh4 => ?_)
  have hkt := (fh4 (39) (by omega)).trans hkt
  have hhb := (fh4 (40) (by omega)).trans hhb
  have hM := eh4
  refine go_iconst (v := nI 0) (nx := 255) dX7_town_254 (by decide) rfl ?_
  refine go_istore_n (lv' := [_, _, _]) (nx := 256) dX7_town_255 rfl (by decide) rfl rfl ?_
  refine Go.sub [0, 2, 1] rfl ?_
  exact l_tcopy hn hw H0 q7' hv hs 9 0 _ _ _ (by omega) (by omega) hM hkt hhb (fun j hj => absurd hj (Nat.not_lt_zero j)) (fun j hj => absurd hj (Nat.not_lt_zero j)) hk2 hb2 (fun j g1 g2 g3 => by rw [fh4 j (by omega), fh3 j (by omega), fh2 j (by omega), fh1 j (by omega)]; exact hR j g1 g2 g3)
