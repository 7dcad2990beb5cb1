set_option maxRecDepth 100000 in
set_option maxHeartbeats 2000000 in
theorem L_hill {g : mh_G} {f : mh_F} {d cl sl b0 L : Nat} {xs : Nat → Int32} (hd : 80 ≤ d) (F : mh_Fr g f RL cL_law 4 d) (hX : mh_scr g f b0 L xs) (hc : cl ≤ (mh_R f).cells ∧ sl ≤ (mh_R f).slots) {i : Int} (hi : 0 ≤ i ∧ i + 6 ≤ (L : Int)) {h : Nat → Int → Int} (H : LI i h) (K : ∀ h2, LI (i + 6) h2 → mh_V g f 4 96 cl sl 1452 [some (.ref 1000009), some (.ref 0), some (.ref 81), some (.int (Int32.ofInt (i)))] [] h2) : mh_V g f 4 96 cl sl 204 [some (.ref 1000009), some (.ref 0), some (.ref 81), some (.int (Int32.ofInt (i)))] [] h := by
  obtain ⟨s, er, o, kp, b, z, u, v, hF, ⟨r82, r85, r81, r83, r91, r92, r93, r94⟩, C, A, AK, h22, hU, ho4⟩ := H
  obtain ⟨hV, hE, hKN, hXc, hKP, hI, hK, hS, hTr⟩ := id C
  have hL3 := hX.2.2.2.2
  have h3x : 0 ≤ o 3 ∧ o 3 ≤ 1 := by have := hI.2.2; omega
  have h3o : o 3 = 0 ∨ o 3 = 1 := by omega
  have hsb : sx_by s := ⟨A.2.1.2.1, A.2.1.2.2.2.1⟩
  have hbz : ∀ j, 0 ≤ j → j < 4 → (b j = 0 ∨ b j = 8 ∨ b j = 16 ∨ b j = 32) ∧ (0 ≤ z j ∧ z j ≤ 40) := fun j j0 j1 => ⟨(hS j j0 j1).1, (hS j j0 j1).2.1⟩
  refine mh_aload1 (pc := 204) F dL_law_204 ?_
  refine mh_aload0 (pc := 205) F dL_law_205 ?_
  refine mh_iload3 (pc := 206) F dL_law_206 ?_
  refine mh_iconst (pc := 207) F dL_law_207 ?_
  refine mh_iadd (pc := 208) F dL_law_208 ?_
  refine mh_sld (pc := 209) F hX (by omega) dL_law_209 ?_
  refine mh_aload0 (pc := 210) F dL_law_210 ?_
  refine mh_iload3 (pc := 211) F dL_law_211 ?_
  refine mh_iconst (pc := 212) F dL_law_212 ?_
  refine mh_iadd (pc := 213) F dL_law_213 ?_
  refine mh_sld (pc := 214) F hX (by omega) dL_law_214 ?_
  refine mh_aload0 (pc := 215) F dL_law_215 ?_
  refine mh_iload3 (pc := 216) F dL_law_216 ?_
  refine mh_iconst (pc := 217) F dL_law_217 ?_
  refine mh_iadd (pc := 218) F dL_law_218 ?_
  refine mh_sld (pc := 219) F hX (by omega) dL_law_219 ?_
  refine mh_callV0 (pc := 220) (As := [.int (Int32.ofInt (mh_cx xs (i + 1))), .int (Int32.ofInt (mh_cx xs (i + 2))), .int (Int32.ofInt (mh_cx xs (i + 3)))]) (st := []) F (by omega) (q_hill (by omega) hF (mh_cxR _ _) (mh_cxR _ _) (mh_cxR _ _) A.1 hV hE hKN) wv_RL_13_yX11_hill dL_law_220 sh_0 rfl (by decide) rfl rfl (Nat.le_of_ble_eq_true rfl) hc (fun r1 h1 q1 => ?_)
  obtain ⟨vv, tt, ee, hs1, rfl, F2, fr2, hV2, hE2⟩ := q1
  have r82 : h1 82 = s := (fr2 82 (by decide)).trans r82
  have r85 : h1 85 = er := (fr2 85 (by decide)).trans r85
  have r81 : h1 81 = o := (fr2 81 (by decide)).trans r81
  have r83 : h1 83 = kp := (fr2 83 (by decide)).trans r83
  have r91 : h1 91 = v := (fr2 91 (by decide)).trans r91
  have r92 : h1 92 = b := (fr2 92 (by decide)).trans r92
  have r93 : h1 93 = z := (fr2 93 (by decide)).trans r93
  have r94 : h1 94 = u := (fr2 94 (by decide)).trans r94
  refine mh_aload2 (pc := 223) F dL_law_223 ?_
  refine mh_aload0 (pc := 224) F dL_law_224 ?_
  refine mh_iload3 (pc := 225) F dL_law_225 ?_
  refine mh_iconst (pc := 226) F dL_law_226 ?_
  refine mh_iadd (pc := 227) F dL_law_227 ?_
  refine mh_sld (pc := 228) F hX (by omega) dL_law_228 ?_
  refine mh_aload0 (pc := 229) F dL_law_229 ?_
  refine mh_iload3 (pc := 230) F dL_law_230 ?_
  refine mh_iconst (pc := 231) F dL_law_231 ?_
  refine mh_iadd (pc := 232) F dL_law_232 ?_
  refine mh_sld (pc := 233) F hX (by omega) dL_law_233 ?_
  refine mh_aload0 (pc := 234) F dL_law_234 ?_
  refine mh_iload3 (pc := 235) F dL_law_235 ?_
  refine mh_iconst (pc := 236) F dL_law_236 ?_
  refine mh_iadd (pc := 237) F dL_law_237 ?_
  refine mh_sld (pc := 238) F hX (by omega) dL_law_238 ?_
  refine mh_callV0 (pc := 239) (As := [.int (Int32.ofInt (mh_cx xs (i + 1))), .int (Int32.ofInt (mh_cx xs (i + 2))), .int (Int32.ofInt (mh_cx xs (i + 3)))]) (st := [.int (Int32.ofInt (vv))]) F (by omega) (p_hill (by omega) F2 r82 r85 (mh_cxR _ _) (mh_cxR _ _) (mh_cxR _ _) A.1) wv_RL_17_yX12_hill dL_law_239 sh_81 rfl (by decide) rfl rfl (Nat.le_of_ble_eq_true rfl) hc (fun r2 h2 q2 => ?_)
  obtain ⟨vv2, z0, z1, hs2, rfl, F3, fr3, t82, t85⟩ := q2
  have hz := hs2.trans hs1.symm
  simp only [Prod.mk.injEq] at hz
  obtain ⟨ev, g0, g1⟩ := hz
  rw [ev]
  refine mh_same (pc := 242) (tgt := 1452) F dL_law_242 rfl ?_
  have h4x := A.2.1.2.1
  have h5x := A.2.1.2.2.1
  have hA : sl_A tt ∧ sl_X s tt := by
    have q : sl_A (sp_hill (mh_cx xs (i + 1)) (mh_cx xs (i + 2)) (mh_cx xs (i + 3)) s er).2.1 ∧ sl_X s (sp_hill (mh_cx xs (i + 1)) (mh_cx xs (i + 2)) (mh_cx xs (i + 3)) s er).2.1 := sl_hill A
    rw [← hs1] at q; exact q
  have hX2 : sc_X h1 tt := sc_X_of hXc (fr2 32 (by decide)) (fr2 43 (by decide)) hA.2 h4x.2 h5x.2
  have hC2 : sl_C h1 tt ee o kp b z u v := C.step (fun a ha => fr2 a (by simp; omega)) hV2 hE2 hX2
  have hC3 := hC2.fr (h2 := h2) (fun a ha => fr3 a (by simp; omega))
  exact K h2 ⟨tt, ee, o, kp, b, z, u, v, F3, ⟨(t82.trans g0), (t85.trans g1), ((fr3 81 (by decide)).trans r81), ((fr3 83 (by decide)).trans r83), ((fr3 91 (by decide)).trans r91), ((fr3 92 (by decide)).trans r92), ((fr3 93 (by decide)).trans r93), ((fr3 94 (by decide)).trans r94)⟩, hC3, hA.1, AK, h22, hU, (by omega)⟩

set_option maxRecDepth 100000 in
set_option maxHeartbeats 2000000 in
theorem L_ofHill {g : mh_G} {f : mh_F} {d cl sl b0 L : Nat} {xs : Nat → Int32} (hd : 80 ≤ d) (F : mh_Fr g f RL cL_law 4 d) (hX : mh_scr g f b0 L xs) (hc : cl ≤ (mh_R f).cells ∧ sl ≤ (mh_R f).slots) {i : Int} (hi : 0 ≤ i ∧ i + 6 ≤ (L : Int)) {h : Nat → Int → Int} (H : LI i h) (K : ∀ h2, LI (i + 6) h2 → mh_V g f 4 96 cl sl 1452 [some (.ref 1000009), some (.ref 0), some (.ref 81), some (.int (Int32.ofInt (i)))] [] h2) : mh_V g f 4 96 cl sl 247 [some (.ref 1000009), some (.ref 0), some (.ref 81), some (.int (Int32.ofInt (i)))] [] h := by
  obtain ⟨s, er, o, kp, b, z, u, v, hF, ⟨r82, r85, r81, r83, r91, r92, r93, r94⟩, C, A, AK, h22, hU, ho4⟩ := H
  obtain ⟨hV, hE, hKN, hXc, hKP, hI, hK, hS, hTr⟩ := id C
  have hL3 := hX.2.2.2.2
  have h3x : 0 ≤ o 3 ∧ o 3 ≤ 1 := by have := hI.2.2; omega
  have h3o : o 3 = 0 ∨ o 3 = 1 := by omega
  have hsb : sx_by s := ⟨A.2.1.2.1, A.2.1.2.2.2.1⟩
  have hbz : ∀ j, 0 ≤ j → j < 4 → (b j = 0 ∨ b j = 8 ∨ b j = 16 ∨ b j = 32) ∧ (0 ≤ z j ∧ z j ≤ 40) := fun j j0 j1 => ⟨(hS j j0 j1).1, (hS j j0 j1).2.1⟩
  refine mh_aload1 (pc := 247) F dL_law_247 ?_
  refine mh_aload0 (pc := 248) F dL_law_248 ?_
  refine mh_iload3 (pc := 249) F dL_law_249 ?_
  refine mh_iconst (pc := 250) F dL_law_250 ?_
  refine mh_iadd (pc := 251) F dL_law_251 ?_
  refine mh_sld (pc := 252) F hX (by omega) dL_law_252 ?_
  refine mh_aload0 (pc := 253) F dL_law_253 ?_
  refine mh_iload3 (pc := 254) F dL_law_254 ?_
  refine mh_iconst (pc := 255) F dL_law_255 ?_
  refine mh_iadd (pc := 256) F dL_law_256 ?_
  refine mh_sld (pc := 257) F hX (by omega) dL_law_257 ?_
  refine mh_callV0 (pc := 258) (As := [.int (Int32.ofInt (mh_cx xs (i + 1))), .int (Int32.ofInt (mh_cx xs (i + 2)))]) (st := []) F (by omega) (q_ofHill (by omega) hF (mh_cxR _ _) (mh_cxR _ _) A.1 hV hE hKN) wv_RL_18_yX11_ofHill dL_law_258 sh_0 rfl (by decide) rfl rfl (Nat.le_of_ble_eq_true rfl) hc (fun r1 h1 q1 => ?_)
  obtain ⟨vv, tt, ee, hs1, rfl, F2, fr2, hV2, hE2⟩ := q1
  have r82 : h1 82 = s := (fr2 82 (by decide)).trans r82
  have r85 : h1 85 = er := (fr2 85 (by decide)).trans r85
  have r81 : h1 81 = o := (fr2 81 (by decide)).trans r81
  have r83 : h1 83 = kp := (fr2 83 (by decide)).trans r83
  have r91 : h1 91 = v := (fr2 91 (by decide)).trans r91
  have r92 : h1 92 = b := (fr2 92 (by decide)).trans r92
  have r93 : h1 93 = z := (fr2 93 (by decide)).trans r93
  have r94 : h1 94 = u := (fr2 94 (by decide)).trans r94
  refine mh_aload2 (pc := 261) F dL_law_261 ?_
  refine mh_aload0 (pc := 262) F dL_law_262 ?_
  refine mh_iload3 (pc := 263) F dL_law_263 ?_
  refine mh_iconst (pc := 264) F dL_law_264 ?_
  refine mh_iadd (pc := 265) F dL_law_265 ?_
  refine mh_sld (pc := 266) F hX (by omega) dL_law_266 ?_
  refine mh_aload0 (pc := 267) F dL_law_267 ?_
  refine mh_iload3 (pc := 268) F dL_law_268 ?_
  refine mh_iconst (pc := 269) F dL_law_269 ?_
  refine mh_iadd (pc := 270) F dL_law_270 ?_
  refine mh_sld (pc := 271) F hX (by omega) dL_law_271 ?_
  refine mh_callV0 (pc := 272) (As := [.int (Int32.ofInt (mh_cx xs (i + 1))), .int (Int32.ofInt (mh_cx xs (i + 2)))]) (st := [.int (Int32.ofInt (vv))]) F (by omega) (p_ofHill (by omega) F2 r82 r85 (mh_cxR _ _) (mh_cxR _ _) A.1) wv_RL_22_yX12_ofHill dL_law_272 sh_81 rfl (by decide) rfl rfl (Nat.le_of_ble_eq_true rfl) hc (fun r2 h2 q2 => ?_)
  obtain ⟨vv2, z0, z1, hs2, rfl, F3, fr3, t82, t85⟩ := q2
  have hz := hs2.trans hs1.symm
  simp only [Prod.mk.injEq] at hz
  obtain ⟨ev, g0, g1⟩ := hz
  rw [ev]
  refine mh_same (pc := 275) (tgt := 1452) F dL_law_275 rfl ?_
  have h4x := A.2.1.2.1
  have h5x := A.2.1.2.2.1
  have hts : tt = s := by
    have q : (sp_ofHill (mh_cx xs (i + 1)) (mh_cx xs (i + 2)) s er).2.1 = s := by unfold sp_ofHill; (repeat' split) <;> rfl
    rw [← hs1] at q; exact q
  have hA : sl_A tt ∧ sl_X s tt := by rw [hts]; exact ⟨A, sl_X.rf⟩
  have hX2 : sc_X h1 tt := sc_X_of hXc (fr2 32 (by decide)) (fr2 43 (by decide)) hA.2 h4x.2 h5x.2
  have hC2 : sl_C h1 tt ee o kp b z u v := C.step (fun a ha => fr2 a (by simp; omega)) hV2 hE2 hX2
  have hC3 := hC2.fr (h2 := h2) (fun a ha => fr3 a (by simp; omega))
  exact K h2 ⟨tt, ee, o, kp, b, z, u, v, F3, ⟨(t82.trans g0), (t85.trans g1), ((fr3 81 (by decide)).trans r81), ((fr3 83 (by decide)).trans r83), ((fr3 91 (by decide)).trans r91), ((fr3 92 (by decide)).trans r92), ((fr3 93 (by decide)).trans r93), ((fr3 94 (by decide)).trans r94)⟩, hC3, hA.1, AK, h22, hU, (by omega)⟩

set_option maxRecDepth 100000 in
set_option maxHeartbeats 2000000 in
theorem L_carrier {g : mh_G} {f : mh_F} {d cl sl b0 L : Nat} {xs : Nat → Int32} (hd : 80 ≤ d) (F : mh_Fr g f RL cL_law 4 d) (hX : mh_scr g f b0 L xs) (hc : cl ≤ (mh_R f).cells ∧ sl ≤ (mh_R f).slots) {i : Int} (hi : 0 ≤ i ∧ i + 6 ≤ (L : Int)) {h : Nat → Int → Int} (H : LI i h) (K : ∀ h2, LI (i + 6) h2 → mh_V g f 4 96 cl sl 1452 [some (.ref 1000009), some (.ref 0), some (.ref 81), some (.int (Int32.ofInt (i)))] [] h2) : mh_V g f 4 96 cl sl 280 [some (.ref 1000009), some (.ref 0), some (.ref 81), some (.int (Int32.ofInt (i)))] [] h := by
  obtain ⟨s, er, o, kp, b, z, u, v, hF, ⟨r82, r85, r81, r83, r91, r92, r93, r94⟩, C, A, AK, h22, hU, ho4⟩ := H
  obtain ⟨hV, hE, hKN, hXc, hKP, hI, hK, hS, hTr⟩ := id C
  have hL3 := hX.2.2.2.2
  have h3x : 0 ≤ o 3 ∧ o 3 ≤ 1 := by have := hI.2.2; omega
  have h3o : o 3 = 0 ∨ o 3 = 1 := by omega
  have hsb : sx_by s := ⟨A.2.1.2.1, A.2.1.2.2.2.1⟩
  have hbz : ∀ j, 0 ≤ j → j < 4 → (b j = 0 ∨ b j = 8 ∨ b j = 16 ∨ b j = 32) ∧ (0 ≤ z j ∧ z j ≤ 40) := fun j j0 j1 => ⟨(hS j j0 j1).1, (hS j j0 j1).2.1⟩
  refine mh_aload1 (pc := 280) F dL_law_280 ?_
  refine mh_aload0 (pc := 281) F dL_law_281 ?_
  refine mh_iload3 (pc := 282) F dL_law_282 ?_
  refine mh_iconst (pc := 283) F dL_law_283 ?_
  refine mh_iadd (pc := 284) F dL_law_284 ?_
  refine mh_sld (pc := 285) F hX (by omega) dL_law_285 ?_
  refine mh_aload0 (pc := 286) F dL_law_286 ?_
  refine mh_iload3 (pc := 287) F dL_law_287 ?_
  refine mh_iconst (pc := 288) F dL_law_288 ?_
  refine mh_iadd (pc := 289) F dL_law_289 ?_
  refine mh_sld (pc := 290) F hX (by omega) dL_law_290 ?_
  refine mh_aload0 (pc := 291) F dL_law_291 ?_
  refine mh_iload3 (pc := 292) F dL_law_292 ?_
  refine mh_iconst (pc := 293) F dL_law_293 ?_
  refine mh_iadd (pc := 294) F dL_law_294 ?_
  refine mh_sld (pc := 295) F hX (by omega) dL_law_295 ?_
  refine mh_callV0 (pc := 296) (As := [.int (Int32.ofInt (mh_cx xs (i + 1))), .int (Int32.ofInt (mh_cx xs (i + 2))), .int (Int32.ofInt (mh_cx xs (i + 3)))]) (st := []) F (by omega) (q_carrier (by omega) hF (mh_cxR _ _) (mh_cxR _ _) (mh_cxR _ _) A.1 hV hE hKN) wv_RL_23_yX11_carrier dL_law_296 sh_0 rfl (by decide) rfl rfl (Nat.le_of_ble_eq_true rfl) hc (fun r1 h1 q1 => ?_)
  obtain ⟨vv, tt, ee, hs1, rfl, F2, fr2, hV2, hE2⟩ := q1
  have r82 : h1 82 = s := (fr2 82 (by decide)).trans r82
  have r85 : h1 85 = er := (fr2 85 (by decide)).trans r85
  have r81 : h1 81 = o := (fr2 81 (by decide)).trans r81
  have r83 : h1 83 = kp := (fr2 83 (by decide)).trans r83
  have r91 : h1 91 = v := (fr2 91 (by decide)).trans r91
  have r92 : h1 92 = b := (fr2 92 (by decide)).trans r92
  have r93 : h1 93 = z := (fr2 93 (by decide)).trans r93
  have r94 : h1 94 = u := (fr2 94 (by decide)).trans r94
  refine mh_aload2 (pc := 299) F dL_law_299 ?_
  refine mh_aload0 (pc := 300) F dL_law_300 ?_
  refine mh_iload3 (pc := 301) F dL_law_301 ?_
  refine mh_iconst (pc := 302) F dL_law_302 ?_
  refine mh_iadd (pc := 303) F dL_law_303 ?_
  refine mh_sld (pc := 304) F hX (by omega) dL_law_304 ?_
  refine mh_aload0 (pc := 305) F dL_law_305 ?_
  refine mh_iload3 (pc := 306) F dL_law_306 ?_
  refine mh_iconst (pc := 307) F dL_law_307 ?_
  refine mh_iadd (pc := 308) F dL_law_308 ?_
  refine mh_sld (pc := 309) F hX (by omega) dL_law_309 ?_
  refine mh_aload0 (pc := 310) F dL_law_310 ?_
  refine mh_iload3 (pc := 311) F dL_law_311 ?_
  refine mh_iconst (pc := 312) F dL_law_312 ?_
  refine mh_iadd (pc := 313) F dL_law_313 ?_
  refine mh_sld (pc := 314) F hX (by omega) dL_law_314 ?_
  refine mh_callV0 (pc := 315) (As := [.int (Int32.ofInt (mh_cx xs (i + 1))), .int (Int32.ofInt (mh_cx xs (i + 2))), .int (Int32.ofInt (mh_cx xs (i + 3)))]) (st := [.int (Int32.ofInt (vv))]) F (by omega) (p_carrier (by omega) F2 r82 r85 (mh_cxR _ _) (mh_cxR _ _) (mh_cxR _ _) A.1) wv_RL_26_yX12_carrier dL_law_315 sh_81 rfl (by decide) rfl rfl (Nat.le_of_ble_eq_true rfl) hc (fun r2 h2 q2 => ?_)
  obtain ⟨vv2, z0, z1, hs2, rfl, F3, fr3, t82, t85⟩ := q2
  have hz := hs2.trans hs1.symm
  simp only [Prod.mk.injEq] at hz
  obtain ⟨ev, g0, g1⟩ := hz
  rw [ev]
  refine mh_same (pc := 318) (tgt := 1452) F dL_law_318 rfl ?_
  have h4x := A.2.1.2.1
  have h5x := A.2.1.2.2.1
  have hA : sl_A tt ∧ sl_X s tt := by
    have q : sl_A (sp_carrier (mh_cx xs (i + 1)) (mh_cx xs (i + 2)) (mh_cx xs (i + 3)) s er).2.1 ∧ sl_X s (sp_carrier (mh_cx xs (i + 1)) (mh_cx xs (i + 2)) (mh_cx xs (i + 3)) s er).2.1 := sl_carrier A
    rw [← hs1] at q; exact q
  have hX2 : sc_X h1 tt := sc_X_of hXc (fr2 32 (by decide)) (fr2 43 (by decide)) hA.2 h4x.2 h5x.2
  have hC2 : sl_C h1 tt ee o kp b z u v := C.step (fun a ha => fr2 a (by simp; omega)) hV2 hE2 hX2
  have hC3 := hC2.fr (h2 := h2) (fun a ha => fr3 a (by simp; omega))
  exact K h2 ⟨tt, ee, o, kp, b, z, u, v, F3, ⟨(t82.trans g0), (t85.trans g1), ((fr3 81 (by decide)).trans r81), ((fr3 83 (by decide)).trans r83), ((fr3 91 (by decide)).trans r91), ((fr3 92 (by decide)).trans r92), ((fr3 93 (by decide)).trans r93), ((fr3 94 (by decide)).trans r94)⟩, hC3, hA.1, AK, h22, hU, (by omega)⟩

set_option maxRecDepth 100000 in
set_option maxHeartbeats 2000000 in
theorem L_churn {g : mh_G} {f : mh_F} {d cl sl b0 L : Nat} {xs : Nat → Int32} (hd : 80 ≤ d) (F : mh_Fr g f RL cL_law 4 d) (hX : mh_scr g f b0 L xs) (hc : cl ≤ (mh_R f).cells ∧ sl ≤ (mh_R f).slots) {i : Int} (hi : 0 ≤ i ∧ i + 6 ≤ (L : Int)) {h : Nat → Int → Int} (H : LI i h) (K : ∀ h2, LI (i + 6) h2 → mh_V g f 4 96 cl sl 1452 [some (.ref 1000009), some (.ref 0), some (.ref 81), some (.int (Int32.ofInt (i)))] [] h2) : mh_V g f 4 96 cl sl 323 [some (.ref 1000009), some (.ref 0), some (.ref 81), some (.int (Int32.ofInt (i)))] [] h := by
  obtain ⟨s, er, o, kp, b, z, u, v, hF, ⟨r82, r85, r81, r83, r91, r92, r93, r94⟩, C, A, AK, h22, hU, ho4⟩ := H
  obtain ⟨hV, hE, hKN, hXc, hKP, hI, hK, hS, hTr⟩ := id C
  have hL3 := hX.2.2.2.2
  have h3x : 0 ≤ o 3 ∧ o 3 ≤ 1 := by have := hI.2.2; omega
  have h3o : o 3 = 0 ∨ o 3 = 1 := by omega
  have hsb : sx_by s := ⟨A.2.1.2.1, A.2.1.2.2.2.1⟩
  have hbz : ∀ j, 0 ≤ j → j < 4 → (b j = 0 ∨ b j = 8 ∨ b j = 16 ∨ b j = 32) ∧ (0 ≤ z j ∧ z j ≤ 40) := fun j j0 j1 => ⟨(hS j j0 j1).1, (hS j j0 j1).2.1⟩
  refine mh_aload1 (pc := 323) F dL_law_323 ?_
  refine mh_aload0 (pc := 324) F dL_law_324 ?_
  refine mh_iload3 (pc := 325) F dL_law_325 ?_
  refine mh_iconst (pc := 326) F dL_law_326 ?_
  refine mh_iadd (pc := 327) F dL_law_327 ?_
  refine mh_sld (pc := 328) F hX (by omega) dL_law_328 ?_
  refine mh_callV0 (pc := 329) (As := [.int (Int32.ofInt (mh_cx xs (i + 1)))]) (st := []) F (by omega) (q_churn (by omega) hF (mh_cxR _ _) A.1 hV hE hKN) wv_RL_27_yX11_churn dL_law_329 sh_0 rfl (by decide) rfl rfl (Nat.le_of_ble_eq_true rfl) hc (fun r1 h1 q1 => ?_)
  obtain ⟨vv, tt, ee, hs1, rfl, F2, fr2, hV2, hE2⟩ := q1
  have r82 : h1 82 = s := (fr2 82 (by decide)).trans r82
  have r85 : h1 85 = er := (fr2 85 (by decide)).trans r85
  have r81 : h1 81 = o := (fr2 81 (by decide)).trans r81
  have r83 : h1 83 = kp := (fr2 83 (by decide)).trans r83
  have r91 : h1 91 = v := (fr2 91 (by decide)).trans r91
  have r92 : h1 92 = b := (fr2 92 (by decide)).trans r92
  have r93 : h1 93 = z := (fr2 93 (by decide)).trans r93
  have r94 : h1 94 = u := (fr2 94 (by decide)).trans r94
  refine mh_aload2 (pc := 332) F dL_law_332 ?_
  refine mh_aload0 (pc := 333) F dL_law_333 ?_
  refine mh_iload3 (pc := 334) F dL_law_334 ?_
  refine mh_iconst (pc := 335) F dL_law_335 ?_
  refine mh_iadd (pc := 336) F dL_law_336 ?_
  refine mh_sld (pc := 337) F hX (by omega) dL_law_337 ?_
  refine mh_callV0 (pc := 338) (As := [.int (Int32.ofInt (mh_cx xs (i + 1)))]) (st := [.int (Int32.ofInt (vv))]) F (by omega) (p_churn (by omega) F2 r82 r85 (mh_cxR _ _) A.1) wv_RL_31_yX12_churn dL_law_338 sh_81 rfl (by decide) rfl rfl (Nat.le_of_ble_eq_true rfl) hc (fun r2 h2 q2 => ?_)
  obtain ⟨vv2, z0, z1, hs2, rfl, F3, fr3, t82, t85⟩ := q2
  have hz := hs2.trans hs1.symm
  simp only [Prod.mk.injEq] at hz
  obtain ⟨ev, g0, g1⟩ := hz
  rw [ev]
  refine mh_same (pc := 341) (tgt := 1452) F dL_law_341 rfl ?_
  have h4x := A.2.1.2.1
  have h5x := A.2.1.2.2.1
  have hA : sl_A tt ∧ sl_X s tt := by
    have q : sl_A (sp_churn (mh_cx xs (i + 1)) s er).2.1 ∧ sl_X s (sp_churn (mh_cx xs (i + 1)) s er).2.1 := sl_churn A
    rw [← hs1] at q; exact q
  have hX2 : sc_X h1 tt := sc_X_of hXc (fr2 32 (by decide)) (fr2 43 (by decide)) hA.2 h4x.2 h5x.2
  have hC2 : sl_C h1 tt ee o kp b z u v := C.step (fun a ha => fr2 a (by simp; omega)) hV2 hE2 hX2
  have hC3 := hC2.fr (h2 := h2) (fun a ha => fr3 a (by simp; omega))
  exact K h2 ⟨tt, ee, o, kp, b, z, u, v, F3, ⟨(t82.trans g0), (t85.trans g1), ((fr3 81 (by decide)).trans r81), ((fr3 83 (by decide)).trans r83), ((fr3 91 (by decide)).trans r91), ((fr3 92 (by decide)).trans r92), ((fr3 93 (by decide)).trans r93), ((fr3 94 (by decide)).trans r94)⟩, hC3, hA.1, AK, h22, hU, (by omega)⟩

set_option maxRecDepth 100000 in
set_option maxHeartbeats 2000000 in
theorem L_ofChurn {g : mh_G} {f : mh_F} {d cl sl b0 L : Nat} {xs : Nat → Int32} (hd : 80 ≤ d) (F : mh_Fr g f RL cL_law 4 d) (hX : mh_scr g f b0 L xs) (hc : cl ≤ (mh_R f).cells ∧ sl ≤ (mh_R f).slots) {i : Int} (hi : 0 ≤ i ∧ i + 6 ≤ (L : Int)) {h : Nat → Int → Int} (H : LI i h) (K : ∀ h2, LI (i + 6) h2 → mh_V g f 4 96 cl sl 1452 [some (.ref 1000009), some (.ref 0), some (.ref 81), some (.int (Int32.ofInt (i)))] [] h2) : mh_V g f 4 96 cl sl 346 [some (.ref 1000009), some (.ref 0), some (.ref 81), some (.int (Int32.ofInt (i)))] [] h := by
  obtain ⟨s, er, o, kp, b, z, u, v, hF, ⟨r82, r85, r81, r83, r91, r92, r93, r94⟩, C, A, AK, h22, hU, ho4⟩ := H
  obtain ⟨hV, hE, hKN, hXc, hKP, hI, hK, hS, hTr⟩ := id C
  have hL3 := hX.2.2.2.2
  have h3x : 0 ≤ o 3 ∧ o 3 ≤ 1 := by have := hI.2.2; omega
  have h3o : o 3 = 0 ∨ o 3 = 1 := by omega
  have hsb : sx_by s := ⟨A.2.1.2.1, A.2.1.2.2.2.1⟩
  have hbz : ∀ j, 0 ≤ j → j < 4 → (b j = 0 ∨ b j = 8 ∨ b j = 16 ∨ b j = 32) ∧ (0 ≤ z j ∧ z j ≤ 40) := fun j j0 j1 => ⟨(hS j j0 j1).1, (hS j j0 j1).2.1⟩
  refine mh_aload1 (pc := 346) F dL_law_346 ?_
  refine mh_aload0 (pc := 347) F dL_law_347 ?_
  refine mh_iload3 (pc := 348) F dL_law_348 ?_
  refine mh_iconst (pc := 349) F dL_law_349 ?_
  refine mh_iadd (pc := 350) F dL_law_350 ?_
  refine mh_sld (pc := 351) F hX (by omega) dL_law_351 ?_
  refine mh_aload0 (pc := 352) F dL_law_352 ?_
  refine mh_iload3 (pc := 353) F dL_law_353 ?_
  refine mh_iconst (pc := 354) F dL_law_354 ?_
  refine mh_iadd (pc := 355) F dL_law_355 ?_
  refine mh_sld (pc := 356) F hX (by omega) dL_law_356 ?_
  refine mh_callV0 (pc := 357) (As := [.int (Int32.ofInt (mh_cx xs (i + 1))), .int (Int32.ofInt (mh_cx xs (i + 2)))]) (st := []) F (by omega) (q_ofChurn (by omega) hF (mh_cxR _ _) (mh_cxR _ _) A.1 hV hE hKN) wv_RL_32_yX11_ofChurn dL_law_357 sh_0 rfl (by decide) rfl rfl (Nat.le_of_ble_eq_true rfl) hc (fun r1 h1 q1 => ?_)
  obtain ⟨vv, tt, ee, hs1, rfl, F2, fr2, hV2, hE2⟩ := q1
  have r82 : h1 82 = s := (fr2 82 (by decide)).trans r82
  have r85 : h1 85 = er := (fr2 85 (by decide)).trans r85
  have r81 : h1 81 = o := (fr2 81 (by decide)).trans r81
  have r83 : h1 83 = kp := (fr2 83 (by decide)).trans r83
  have r91 : h1 91 = v := (fr2 91 (by decide)).trans r91
  have r92 : h1 92 = b := (fr2 92 (by decide)).trans r92
  have r93 : h1 93 = z := (fr2 93 (by decide)).trans r93
  have r94 : h1 94 = u := (fr2 94 (by decide)).trans r94
  refine mh_aload2 (pc := 360) F dL_law_360 ?_
  refine mh_aload0 (pc := 361) F dL_law_361 ?_
  refine mh_iload3 (pc := 362) F dL_law_362 ?_
  refine mh_iconst (pc := 363) F dL_law_363 ?_
  refine mh_iadd (pc := 364) F dL_law_364 ?_
  refine mh_sld (pc := 365) F hX (by omega) dL_law_365 ?_
  refine mh_aload0 (pc := 366) F dL_law_366 ?_
  refine mh_iload3 (pc := 367) F dL_law_367 ?_
  refine mh_iconst (pc := 368) F dL_law_368 ?_
  refine mh_iadd (pc := 369) F dL_law_369 ?_
  refine mh_sld (pc := 370) F hX (by omega) dL_law_370 ?_
  refine mh_callV0 (pc := 371) (As := [.int (Int32.ofInt (mh_cx xs (i + 1))), .int (Int32.ofInt (mh_cx xs (i + 2)))]) (st := [.int (Int32.ofInt (vv))]) F (by omega) (p_ofChurn (by omega) F2 r82 r85 (mh_cxR _ _) (mh_cxR _ _) A.1) wv_RL_35_yX12_ofChurn dL_law_371 sh_81 rfl (by decide) rfl rfl (Nat.le_of_ble_eq_true rfl) hc (fun r2 h2 q2 => ?_)
  obtain ⟨vv2, z0, z1, hs2, rfl, F3, fr3, t82, t85⟩ := q2
  have hz := hs2.trans hs1.symm
  simp only [Prod.mk.injEq] at hz
  obtain ⟨ev, g0, g1⟩ := hz
  rw [ev]
  refine mh_same (pc := 374) (tgt := 1452) F dL_law_374 rfl ?_
  have h4x := A.2.1.2.1
  have h5x := A.2.1.2.2.1
  have hts : tt = s := by
    have q : (sp_ofChurn (mh_cx xs (i + 1)) (mh_cx xs (i + 2)) s er).2.1 = s := by unfold sp_ofChurn; (repeat' split) <;> rfl
    rw [← hs1] at q; exact q
  have hA : sl_A tt ∧ sl_X s tt := by rw [hts]; exact ⟨A, sl_X.rf⟩
  have hX2 : sc_X h1 tt := sc_X_of hXc (fr2 32 (by decide)) (fr2 43 (by decide)) hA.2 h4x.2 h5x.2
  have hC2 : sl_C h1 tt ee o kp b z u v := C.step (fun a ha => fr2 a (by simp; omega)) hV2 hE2 hX2
  have hC3 := hC2.fr (h2 := h2) (fun a ha => fr3 a (by simp; omega))
  exact K h2 ⟨tt, ee, o, kp, b, z, u, v, F3, ⟨(t82.trans g0), (t85.trans g1), ((fr3 81 (by decide)).trans r81), ((fr3 83 (by decide)).trans r83), ((fr3 91 (by decide)).trans r91), ((fr3 92 (by decide)).trans r92), ((fr3 93 (by decide)).trans r93), ((fr3 94 (by decide)).trans r94)⟩, hC3, hA.1, AK, h22, hU, (by omega)⟩

set_option maxRecDepth 100000 in
set_option maxHeartbeats 2000000 in
theorem L_become {g : mh_G} {f : mh_F} {d cl sl b0 L : Nat} {xs : Nat → Int32} (hd : 80 ≤ d) (F : mh_Fr g f RL cL_law 4 d) (hX : mh_scr g f b0 L xs) (hc : cl ≤ (mh_R f).cells ∧ sl ≤ (mh_R f).slots) {i : Int} (hi : 0 ≤ i ∧ i + 6 ≤ (L : Int)) {h : Nat → Int → Int} (H : LI i h) (K : ∀ h2, LI (i + 6) h2 → mh_V g f 4 96 cl sl 1452 [some (.ref 1000009), some (.ref 0), some (.ref 81), some (.int (Int32.ofInt (i)))] [] h2) : mh_V g f 4 96 cl sl 379 [some (.ref 1000009), some (.ref 0), some (.ref 81), some (.int (Int32.ofInt (i)))] [] h := by
  obtain ⟨s, er, o, kp, b, z, u, v, hF, ⟨r82, r85, r81, r83, r91, r92, r93, r94⟩, C, A, AK, h22, hU, ho4⟩ := H
  obtain ⟨hV, hE, hKN, hXc, hKP, hI, hK, hS, hTr⟩ := id C
  have hL3 := hX.2.2.2.2
  have h3x : 0 ≤ o 3 ∧ o 3 ≤ 1 := by have := hI.2.2; omega
  have h3o : o 3 = 0 ∨ o 3 = 1 := by omega
  have hsb : sx_by s := ⟨A.2.1.2.1, A.2.1.2.2.2.1⟩
  have hbz : ∀ j, 0 ≤ j → j < 4 → (b j = 0 ∨ b j = 8 ∨ b j = 16 ∨ b j = 32) ∧ (0 ≤ z j ∧ z j ≤ 40) := fun j j0 j1 => ⟨(hS j j0 j1).1, (hS j j0 j1).2.1⟩
  refine mh_aload1 (pc := 379) F dL_law_379 ?_
  refine mh_aload0 (pc := 380) F dL_law_380 ?_
  refine mh_iload3 (pc := 381) F dL_law_381 ?_
  refine mh_iconst (pc := 382) F dL_law_382 ?_
  refine mh_iadd (pc := 383) F dL_law_383 ?_
  refine mh_sld (pc := 384) F hX (by omega) dL_law_384 ?_
  refine mh_aload0 (pc := 385) F dL_law_385 ?_
  refine mh_iload3 (pc := 386) F dL_law_386 ?_
  refine mh_iconst (pc := 387) F dL_law_387 ?_
  refine mh_iadd (pc := 388) F dL_law_388 ?_
  refine mh_sld (pc := 389) F hX (by omega) dL_law_389 ?_
  refine mh_callV0 (pc := 390) (As := [.int (Int32.ofInt (mh_cx xs (i + 1))), .int (Int32.ofInt (mh_cx xs (i + 2)))]) (st := []) F (by omega) (q_become (by omega) hF (mh_cxR _ _) (mh_cxR _ _) A.1 hV hE hKN) wv_RL_36_yX11_become dL_law_390 sh_0 rfl (by decide) rfl rfl (Nat.le_of_ble_eq_true rfl) hc (fun r1 h1 q1 => ?_)
  obtain ⟨vv, tt, ee, hs1, rfl, F2, fr2, hV2, hE2⟩ := q1
  have r82 : h1 82 = s := (fr2 82 (by decide)).trans r82
  have r85 : h1 85 = er := (fr2 85 (by decide)).trans r85
  have r81 : h1 81 = o := (fr2 81 (by decide)).trans r81
  have r83 : h1 83 = kp := (fr2 83 (by decide)).trans r83
  have r91 : h1 91 = v := (fr2 91 (by decide)).trans r91
  have r92 : h1 92 = b := (fr2 92 (by decide)).trans r92
  have r93 : h1 93 = z := (fr2 93 (by decide)).trans r93
  have r94 : h1 94 = u := (fr2 94 (by decide)).trans r94
  refine mh_aload2 (pc := 393) F dL_law_393 ?_
  refine mh_aload0 (pc := 394) F dL_law_394 ?_
  refine mh_iload3 (pc := 395) F dL_law_395 ?_
  refine mh_iconst (pc := 396) F dL_law_396 ?_
  refine mh_iadd (pc := 397) F dL_law_397 ?_
  refine mh_sld (pc := 398) F hX (by omega) dL_law_398 ?_
  refine mh_aload0 (pc := 399) F dL_law_399 ?_
  refine mh_iload3 (pc := 400) F dL_law_400 ?_
  refine mh_iconst (pc := 401) F dL_law_401 ?_
  refine mh_iadd (pc := 402) F dL_law_402 ?_
  refine mh_sld (pc := 403) F hX (by omega) dL_law_403 ?_
  refine mh_callV0 (pc := 404) (As := [.int (Int32.ofInt (mh_cx xs (i + 1))), .int (Int32.ofInt (mh_cx xs (i + 2)))]) (st := [.int (Int32.ofInt (vv))]) F (by omega) (p_become (by omega) F2 r82 r85 (mh_cxR _ _) (mh_cxR _ _) A.1) wv_RL_39_yX12_become_ dL_law_404 sh_81 rfl (by decide) rfl rfl (Nat.le_of_ble_eq_true rfl) hc (fun r2 h2 q2 => ?_)
  obtain ⟨vv2, z0, z1, hs2, rfl, F3, fr3, t82, t85⟩ := q2
  have hz := hs2.trans hs1.symm
  simp only [Prod.mk.injEq] at hz
  obtain ⟨ev, g0, g1⟩ := hz
  rw [ev]
  refine mh_same (pc := 407) (tgt := 1452) F dL_law_407 rfl ?_
  have h4x := A.2.1.2.1
  have h5x := A.2.1.2.2.1
  have hA : sl_A tt ∧ sl_X s tt := by
    have q : sl_A (sp_become (mh_cx xs (i + 1)) (mh_cx xs (i + 2)) s er).2.1 ∧ sl_X s (sp_become (mh_cx xs (i + 1)) (mh_cx xs (i + 2)) s er).2.1 := sl_become A
    rw [← hs1] at q; exact q
  have hX2 : sc_X h1 tt := sc_X_of hXc (fr2 32 (by decide)) (fr2 43 (by decide)) hA.2 h4x.2 h5x.2
  have hC2 : sl_C h1 tt ee o kp b z u v := C.step (fun a ha => fr2 a (by simp; omega)) hV2 hE2 hX2
  have hC3 := hC2.fr (h2 := h2) (fun a ha => fr3 a (by simp; omega))
  exact K h2 ⟨tt, ee, o, kp, b, z, u, v, F3, ⟨(t82.trans g0), (t85.trans g1), ((fr3 81 (by decide)).trans r81), ((fr3 83 (by decide)).trans r83), ((fr3 91 (by decide)).trans r91), ((fr3 92 (by decide)).trans r92), ((fr3 93 (by decide)).trans r93), ((fr3 94 (by decide)).trans r94)⟩, hC3, hA.1, AK, h22, hU, (by omega)⟩

set_option maxRecDepth 100000 in
set_option maxHeartbeats 2000000 in
theorem L_as {g : mh_G} {f : mh_F} {d cl sl b0 L : Nat} {xs : Nat → Int32} (hd : 80 ≤ d) (F : mh_Fr g f RL cL_law 4 d) (hX : mh_scr g f b0 L xs) (hc : cl ≤ (mh_R f).cells ∧ sl ≤ (mh_R f).slots) {i : Int} (hi : 0 ≤ i ∧ i + 6 ≤ (L : Int)) {h : Nat → Int → Int} (H : LI i h) (K : ∀ h2, LI (i + 6) h2 → mh_V g f 4 96 cl sl 1452 [some (.ref 1000009), some (.ref 0), some (.ref 81), some (.int (Int32.ofInt (i)))] [] h2) : mh_V g f 4 96 cl sl 412 [some (.ref 1000009), some (.ref 0), some (.ref 81), some (.int (Int32.ofInt (i)))] [] h := by
  obtain ⟨s, er, o, kp, b, z, u, v, hF, ⟨r82, r85, r81, r83, r91, r92, r93, r94⟩, C, A, AK, h22, hU, ho4⟩ := H
  obtain ⟨hV, hE, hKN, hXc, hKP, hI, hK, hS, hTr⟩ := id C
  have hL3 := hX.2.2.2.2
  have h3x : 0 ≤ o 3 ∧ o 3 ≤ 1 := by have := hI.2.2; omega
  have h3o : o 3 = 0 ∨ o 3 = 1 := by omega
  have hsb : sx_by s := ⟨A.2.1.2.1, A.2.1.2.2.2.1⟩
  have hbz : ∀ j, 0 ≤ j → j < 4 → (b j = 0 ∨ b j = 8 ∨ b j = 16 ∨ b j = 32) ∧ (0 ≤ z j ∧ z j ≤ 40) := fun j j0 j1 => ⟨(hS j j0 j1).1, (hS j j0 j1).2.1⟩
  refine mh_aload1 (pc := 412) F dL_law_412 ?_
  refine mh_aload0 (pc := 413) F dL_law_413 ?_
  refine mh_iload3 (pc := 414) F dL_law_414 ?_
  refine mh_iconst (pc := 415) F dL_law_415 ?_
  refine mh_iadd (pc := 416) F dL_law_416 ?_
  refine mh_sld (pc := 417) F hX (by omega) dL_law_417 ?_
  refine mh_aload0 (pc := 418) F dL_law_418 ?_
  refine mh_iload3 (pc := 419) F dL_law_419 ?_
  refine mh_iconst (pc := 420) F dL_law_420 ?_
  refine mh_iadd (pc := 421) F dL_law_421 ?_
  refine mh_sld (pc := 422) F hX (by omega) dL_law_422 ?_
  refine mh_callV0 (pc := 423) (As := [.int (Int32.ofInt (mh_cx xs (i + 1))), .int (Int32.ofInt (mh_cx xs (i + 2)))]) (st := []) F (by omega) (q_as (by omega) hF (mh_cxR _ _) (mh_cxR _ _) A.1 hV hE hKN) wv_RL_40_yX11_as dL_law_423 sh_0 rfl (by decide) rfl rfl (Nat.le_of_ble_eq_true rfl) hc (fun r1 h1 q1 => ?_)
  obtain ⟨vv, tt, ee, hs1, rfl, F2, fr2, hV2, hE2⟩ := q1
  have r82 : h1 82 = s := (fr2 82 (by decide)).trans r82
  have r85 : h1 85 = er := (fr2 85 (by decide)).trans r85
  have r81 : h1 81 = o := (fr2 81 (by decide)).trans r81
  have r83 : h1 83 = kp := (fr2 83 (by decide)).trans r83
  have r91 : h1 91 = v := (fr2 91 (by decide)).trans r91
  have r92 : h1 92 = b := (fr2 92 (by decide)).trans r92
  have r93 : h1 93 = z := (fr2 93 (by decide)).trans r93
  have r94 : h1 94 = u := (fr2 94 (by decide)).trans r94
  refine mh_aload2 (pc := 426) F dL_law_426 ?_
  refine mh_aload0 (pc := 427) F dL_law_427 ?_
  refine mh_iload3 (pc := 428) F dL_law_428 ?_
  refine mh_iconst (pc := 429) F dL_law_429 ?_
  refine mh_iadd (pc := 430) F dL_law_430 ?_
  refine mh_sld (pc := 431) F hX (by omega) dL_law_431 ?_
  refine mh_aload0 (pc := 432) F dL_law_432 ?_
  refine mh_iload3 (pc := 433) F dL_law_433 ?_
  refine mh_iconst (pc := 434) F dL_law_434 ?_
  refine mh_iadd (pc := 435) F dL_law_435 ?_
  refine mh_sld (pc := 436) F hX (by omega) dL_law_436 ?_
  refine mh_callV0 (pc := 437) (As := [.int (Int32.ofInt (mh_cx xs (i + 1))), .int (Int32.ofInt (mh_cx xs (i + 2)))]) (st := [.int (Int32.ofInt (vv))]) F (by omega) (p_as (by omega) F2 r82 r85 (mh_cxR _ _) (mh_cxR _ _) A.1) wv_RL_43_yX12_as dL_law_437 sh_81 rfl (by decide) rfl rfl (Nat.le_of_ble_eq_true rfl) hc (fun r2 h2 q2 => ?_)
  obtain ⟨vv2, z0, z1, hs2, rfl, F3, fr3, t82, t85⟩ := q2
  have hz := hs2.trans hs1.symm
  simp only [Prod.mk.injEq] at hz
  obtain ⟨ev, g0, g1⟩ := hz
  rw [ev]
  refine mh_same (pc := 440) (tgt := 1452) F dL_law_440 rfl ?_
  have h4x := A.2.1.2.1
  have h5x := A.2.1.2.2.1
  have hts : tt = s := by
    have q : (sp_as (mh_cx xs (i + 1)) (mh_cx xs (i + 2)) s er).2.1 = s := by unfold sp_as; (repeat' split) <;> rfl
    rw [← hs1] at q; exact q
  have hA : sl_A tt ∧ sl_X s tt := by rw [hts]; exact ⟨A, sl_X.rf⟩
  have hX2 : sc_X h1 tt := sc_X_of hXc (fr2 32 (by decide)) (fr2 43 (by decide)) hA.2 h4x.2 h5x.2
  have hC2 : sl_C h1 tt ee o kp b z u v := C.step (fun a ha => fr2 a (by simp; omega)) hV2 hE2 hX2
  have hC3 := hC2.fr (h2 := h2) (fun a ha => fr3 a (by simp; omega))
  exact K h2 ⟨tt, ee, o, kp, b, z, u, v, F3, ⟨(t82.trans g0), (t85.trans g1), ((fr3 81 (by decide)).trans r81), ((fr3 83 (by decide)).trans r83), ((fr3 91 (by decide)).trans r91), ((fr3 92 (by decide)).trans r92), ((fr3 93 (by decide)).trans r93), ((fr3 94 (by decide)).trans r94)⟩, hC3, hA.1, AK, h22, hU, (by omega)⟩

set_option maxRecDepth 100000 in
set_option maxHeartbeats 2000000 in
theorem L_go {g : mh_G} {f : mh_F} {d cl sl b0 L : Nat} {xs : Nat → Int32} (hd : 80 ≤ d) (F : mh_Fr g f RL cL_law 4 d) (hX : mh_scr g f b0 L xs) (hc : cl ≤ (mh_R f).cells ∧ sl ≤ (mh_R f).slots) {i : Int} (hi : 0 ≤ i ∧ i + 6 ≤ (L : Int)) {h : Nat → Int → Int} (H : LI i h) (K : ∀ h2, LI (i + 6) h2 → mh_V g f 4 96 cl sl 1452 [some (.ref 1000009), some (.ref 0), some (.ref 81), some (.int (Int32.ofInt (i)))] [] h2) : mh_V g f 4 96 cl sl 445 [some (.ref 1000009), some (.ref 0), some (.ref 81), some (.int (Int32.ofInt (i)))] [] h := by
  obtain ⟨s, er, o, kp, b, z, u, v, hF, ⟨r82, r85, r81, r83, r91, r92, r93, r94⟩, C, A, AK, h22, hU, ho4⟩ := H
  obtain ⟨hV, hE, hKN, hXc, hKP, hI, hK, hS, hTr⟩ := id C
  have hL3 := hX.2.2.2.2
  have h3x : 0 ≤ o 3 ∧ o 3 ≤ 1 := by have := hI.2.2; omega
  have h3o : o 3 = 0 ∨ o 3 = 1 := by omega
  have hsb : sx_by s := ⟨A.2.1.2.1, A.2.1.2.2.2.1⟩
  have hbz : ∀ j, 0 ≤ j → j < 4 → (b j = 0 ∨ b j = 8 ∨ b j = 16 ∨ b j = 32) ∧ (0 ≤ z j ∧ z j ≤ 40) := fun j j0 j1 => ⟨(hS j j0 j1).1, (hS j j0 j1).2.1⟩
  refine mh_aload1 (pc := 445) F dL_law_445 ?_
  refine mh_aload0 (pc := 446) F dL_law_446 ?_
  refine mh_iload3 (pc := 447) F dL_law_447 ?_
  refine mh_iconst (pc := 448) F dL_law_448 ?_
  refine mh_iadd (pc := 449) F dL_law_449 ?_
  refine mh_sld (pc := 450) F hX (by omega) dL_law_450 ?_
  refine mh_aload0 (pc := 451) F dL_law_451 ?_
  refine mh_iload3 (pc := 452) F dL_law_452 ?_
  refine mh_iconst (pc := 453) F dL_law_453 ?_
  refine mh_iadd (pc := 454) F dL_law_454 ?_
  refine mh_sld (pc := 455) F hX (by omega) dL_law_455 ?_
  refine mh_callV0 (pc := 456) (As := [.int (Int32.ofInt (mh_cx xs (i + 1))), .int (Int32.ofInt (mh_cx xs (i + 2)))]) (st := []) F (by omega) (q_go (by omega) hF (mh_cxR _ _) (mh_cxR _ _) A.1 hV hE hKN) wv_RL_44_yX11_go dL_law_456 sh_0 rfl (by decide) rfl rfl (Nat.le_of_ble_eq_true rfl) hc (fun r1 h1 q1 => ?_)
  obtain ⟨vv, tt, ee, hs1, rfl, F2, fr2, hV2, hE2⟩ := q1
  have r82 : h1 82 = s := (fr2 82 (by decide)).trans r82
  have r85 : h1 85 = er := (fr2 85 (by decide)).trans r85
  have r81 : h1 81 = o := (fr2 81 (by decide)).trans r81
  have r83 : h1 83 = kp := (fr2 83 (by decide)).trans r83
  have r91 : h1 91 = v := (fr2 91 (by decide)).trans r91
  have r92 : h1 92 = b := (fr2 92 (by decide)).trans r92
  have r93 : h1 93 = z := (fr2 93 (by decide)).trans r93
  have r94 : h1 94 = u := (fr2 94 (by decide)).trans r94
  refine mh_aload2 (pc := 459) F dL_law_459 ?_
  refine mh_aload0 (pc := 460) F dL_law_460 ?_
  refine mh_iload3 (pc := 461) F dL_law_461 ?_
  refine mh_iconst (pc := 462) F dL_law_462 ?_
  refine mh_iadd (pc := 463) F dL_law_463 ?_
  refine mh_sld (pc := 464) F hX (by omega) dL_law_464 ?_
  refine mh_aload0 (pc := 465) F dL_law_465 ?_
  refine mh_iload3 (pc := 466) F dL_law_466 ?_
  refine mh_iconst (pc := 467) F dL_law_467 ?_
  refine mh_iadd (pc := 468) F dL_law_468 ?_
  refine mh_sld (pc := 469) F hX (by omega) dL_law_469 ?_
  refine mh_callV0 (pc := 470) (As := [.int (Int32.ofInt (mh_cx xs (i + 1))), .int (Int32.ofInt (mh_cx xs (i + 2)))]) (st := [.int (Int32.ofInt (vv))]) F (by omega) (p_go (by omega) F2 r82 r85 (mh_cxR _ _) (mh_cxR _ _) A.1) wv_RL_47_yX12_go dL_law_470 sh_81 rfl (by decide) rfl rfl (Nat.le_of_ble_eq_true rfl) hc (fun r2 h2 q2 => ?_)
  obtain ⟨vv2, z0, z1, hs2, rfl, F3, fr3, t82, t85⟩ := q2
  have hz := hs2.trans hs1.symm
  simp only [Prod.mk.injEq] at hz
  obtain ⟨ev, g0, g1⟩ := hz
  rw [ev]
  refine mh_same (pc := 473) (tgt := 1452) F dL_law_473 rfl ?_
  have h4x := A.2.1.2.1
  have h5x := A.2.1.2.2.1
  have hA : sl_A tt ∧ sl_X s tt := by
    have q : sl_A (sp_goP (mh_cx xs (i + 1)) (mh_cx xs (i + 2)) s er).2.1 ∧ sl_X s (sp_goP (mh_cx xs (i + 1)) (mh_cx xs (i + 2)) s er).2.1 := sl_go A
    rw [← hs1] at q; exact q
  have hX2 : sc_X h1 tt := sc_X_of hXc (fr2 32 (by decide)) (fr2 43 (by decide)) hA.2 h4x.2 h5x.2
  have hC2 : sl_C h1 tt ee o kp b z u v := C.step (fun a ha => fr2 a (by simp; omega)) hV2 hE2 hX2
  have hC3 := hC2.fr (h2 := h2) (fun a ha => fr3 a (by simp; omega))
  exact K h2 ⟨tt, ee, o, kp, b, z, u, v, F3, ⟨(t82.trans g0), (t85.trans g1), ((fr3 81 (by decide)).trans r81), ((fr3 83 (by decide)).trans r83), ((fr3 91 (by decide)).trans r91), ((fr3 92 (by decide)).trans r92), ((fr3 93 (by decide)).trans r93), ((fr3 94 (by decide)).trans r94)⟩, hC3, hA.1, AK, h22, hU, (by omega)⟩

set_option maxRecDepth 100000 in
set_option maxHeartbeats 2000000 in
theorem L_brook {g : mh_G} {f : mh_F} {d cl sl b0 L : Nat} {xs : Nat → Int32} (hd : 80 ≤ d) (F : mh_Fr g f RL cL_law 4 d) (hX : mh_scr g f b0 L xs) (hc : cl ≤ (mh_R f).cells ∧ sl ≤ (mh_R f).slots) {i : Int} (hi : 0 ≤ i ∧ i + 6 ≤ (L : Int)) {h : Nat → Int → Int} (H : LI i h) (K : ∀ h2, LI (i + 6) h2 → mh_V g f 4 96 cl sl 1452 [some (.ref 1000009), some (.ref 0), some (.ref 81), some (.int (Int32.ofInt (i)))] [] h2) : mh_V g f 4 96 cl sl 478 [some (.ref 1000009), some (.ref 0), some (.ref 81), some (.int (Int32.ofInt (i)))] [] h := by
  obtain ⟨s, er, o, kp, b, z, u, v, hF, ⟨r82, r85, r81, r83, r91, r92, r93, r94⟩, C, A, AK, h22, hU, ho4⟩ := H
  obtain ⟨hV, hE, hKN, hXc, hKP, hI, hK, hS, hTr⟩ := id C
  have hL3 := hX.2.2.2.2
  have h3x : 0 ≤ o 3 ∧ o 3 ≤ 1 := by have := hI.2.2; omega
  have h3o : o 3 = 0 ∨ o 3 = 1 := by omega
  have hsb : sx_by s := ⟨A.2.1.2.1, A.2.1.2.2.2.1⟩
  have hbz : ∀ j, 0 ≤ j → j < 4 → (b j = 0 ∨ b j = 8 ∨ b j = 16 ∨ b j = 32) ∧ (0 ≤ z j ∧ z j ≤ 40) := fun j j0 j1 => ⟨(hS j j0 j1).1, (hS j j0 j1).2.1⟩
  refine mh_aload1 (pc := 478) F dL_law_478 ?_
  refine mh_aload0 (pc := 479) F dL_law_479 ?_
  refine mh_iload3 (pc := 480) F dL_law_480 ?_
  refine mh_iconst (pc := 481) F dL_law_481 ?_
  refine mh_iadd (pc := 482) F dL_law_482 ?_
  refine mh_sld (pc := 483) F hX (by omega) dL_law_483 ?_
  refine mh_callV0 (pc := 484) (As := [.int (Int32.ofInt (mh_cx xs (i + 1)))]) (st := []) F (by omega) (q_brook (by omega) hF (mh_cxR _ _) A.2.2 A.1 hV hE hKN) wv_RL_48_yX11_brook dL_law_484 sh_0 rfl (by decide) rfl rfl (Nat.le_of_ble_eq_true rfl) hc (fun r1 h1 q1 => ?_)
  obtain ⟨vv, tt, ee, hs1, rfl, F2, fr2, hV2, hE2⟩ := q1
  have r82 : h1 82 = s := (fr2 82 (by decide)).trans r82
  have r85 : h1 85 = er := (fr2 85 (by decide)).trans r85
  have r81 : h1 81 = o := (fr2 81 (by decide)).trans r81
  have r83 : h1 83 = kp := (fr2 83 (by decide)).trans r83
  have r91 : h1 91 = v := (fr2 91 (by decide)).trans r91
  have r92 : h1 92 = b := (fr2 92 (by decide)).trans r92
  have r93 : h1 93 = z := (fr2 93 (by decide)).trans r93
  have r94 : h1 94 = u := (fr2 94 (by decide)).trans r94
  refine mh_aload2 (pc := 487) F dL_law_487 ?_
  refine mh_aload0 (pc := 488) F dL_law_488 ?_
  refine mh_iload3 (pc := 489) F dL_law_489 ?_
  refine mh_iconst (pc := 490) F dL_law_490 ?_
  refine mh_iadd (pc := 491) F dL_law_491 ?_
  refine mh_sld (pc := 492) F hX (by omega) dL_law_492 ?_
  refine mh_callV0 (pc := 493) (As := [.int (Int32.ofInt (mh_cx xs (i + 1)))]) (st := [.int (Int32.ofInt (vv))]) F (by omega) (p_brook (by omega) F2 r82 r85 (mh_cxR _ _) A.1) wv_RL_51_yX12_brook dL_law_493 sh_81 rfl (by decide) rfl rfl (Nat.le_of_ble_eq_true rfl) hc (fun r2 h2 q2 => ?_)
  obtain ⟨vv2, z0, z1, hs2, rfl, F3, fr3, t82, t85⟩ := q2
  have hz := hs2.trans hs1.symm
  simp only [Prod.mk.injEq] at hz
  obtain ⟨ev, g0, g1⟩ := hz
  rw [ev]
  refine mh_same (pc := 496) (tgt := 1452) F dL_law_496 rfl ?_
  have h4x := A.2.1.2.1
  have h5x := A.2.1.2.2.1
  have hA : sl_A tt ∧ sl_X s tt := by
    have q : sl_A (sp_brook (mh_cx xs (i + 1)) s er).2.1 ∧ sl_X s (sp_brook (mh_cx xs (i + 1)) s er).2.1 := sl_brook A
    rw [← hs1] at q; exact q
  have hX2 : sc_X h1 tt := sc_X_of hXc (fr2 32 (by decide)) (fr2 43 (by decide)) hA.2 h4x.2 h5x.2
  have hC2 : sl_C h1 tt ee o kp b z u v := C.step (fun a ha => fr2 a (by simp; omega)) hV2 hE2 hX2
  have hC3 := hC2.fr (h2 := h2) (fun a ha => fr3 a (by simp; omega))
  exact K h2 ⟨tt, ee, o, kp, b, z, u, v, F3, ⟨(t82.trans g0), (t85.trans g1), ((fr3 81 (by decide)).trans r81), ((fr3 83 (by decide)).trans r83), ((fr3 91 (by decide)).trans r91), ((fr3 92 (by decide)).trans r92), ((fr3 93 (by decide)).trans r93), ((fr3 94 (by decide)).trans r94)⟩, hC3, hA.1, AK, h22, hU, (by omega)⟩

set_option maxRecDepth 100000 in
set_option maxHeartbeats 2000000 in
theorem L_rest {g : mh_G} {f : mh_F} {d cl sl b0 L : Nat} {xs : Nat → Int32} (hd : 80 ≤ d) (F : mh_Fr g f RL cL_law 4 d) (hX : mh_scr g f b0 L xs) (hc : cl ≤ (mh_R f).cells ∧ sl ≤ (mh_R f).slots) {i : Int} (hi : 0 ≤ i ∧ i + 6 ≤ (L : Int)) {h : Nat → Int → Int} (H : LI i h) (K : ∀ h2, LI (i + 6) h2 → mh_V g f 4 96 cl sl 1452 [some (.ref 1000009), some (.ref 0), some (.ref 81), some (.int (Int32.ofInt (i)))] [] h2) : mh_V g f 4 96 cl sl 501 [some (.ref 1000009), some (.ref 0), some (.ref 81), some (.int (Int32.ofInt (i)))] [] h := by
  obtain ⟨s, er, o, kp, b, z, u, v, hF, ⟨r82, r85, r81, r83, r91, r92, r93, r94⟩, C, A, AK, h22, hU, ho4⟩ := H
  obtain ⟨hV, hE, hKN, hXc, hKP, hI, hK, hS, hTr⟩ := id C
  have hL3 := hX.2.2.2.2
  have h3x : 0 ≤ o 3 ∧ o 3 ≤ 1 := by have := hI.2.2; omega
  have h3o : o 3 = 0 ∨ o 3 = 1 := by omega
  have hsb : sx_by s := ⟨A.2.1.2.1, A.2.1.2.2.2.1⟩
  have hbz : ∀ j, 0 ≤ j → j < 4 → (b j = 0 ∨ b j = 8 ∨ b j = 16 ∨ b j = 32) ∧ (0 ≤ z j ∧ z j ≤ 40) := fun j j0 j1 => ⟨(hS j j0 j1).1, (hS j j0 j1).2.1⟩
  refine mh_aload1 (pc := 501) F dL_law_501 ?_
  refine mh_aload0 (pc := 502) F dL_law_502 ?_
  refine mh_iload3 (pc := 503) F dL_law_503 ?_
  refine mh_iconst (pc := 504) F dL_law_504 ?_
  refine mh_iadd (pc := 505) F dL_law_505 ?_
  refine mh_sld (pc := 506) F hX (by omega) dL_law_506 ?_
  refine mh_callV0 (pc := 507) (As := [.int (Int32.ofInt (mh_cx xs (i + 1)))]) (st := []) F (by omega) (q_rest (by omega) hF (mh_cxR _ _) A.1 hV hE hKN) wv_RL_52_yX11_rest dL_law_507 sh_0 rfl (by decide) rfl rfl (Nat.le_of_ble_eq_true rfl) hc (fun r1 h1 q1 => ?_)
  obtain ⟨vv, tt, ee, hs1, rfl, F2, fr2, hV2, hE2⟩ := q1
  have r82 : h1 82 = s := (fr2 82 (by decide)).trans r82
  have r85 : h1 85 = er := (fr2 85 (by decide)).trans r85
  have r81 : h1 81 = o := (fr2 81 (by decide)).trans r81
  have r83 : h1 83 = kp := (fr2 83 (by decide)).trans r83
  have r91 : h1 91 = v := (fr2 91 (by decide)).trans r91
  have r92 : h1 92 = b := (fr2 92 (by decide)).trans r92
  have r93 : h1 93 = z := (fr2 93 (by decide)).trans r93
  have r94 : h1 94 = u := (fr2 94 (by decide)).trans r94
  refine mh_aload2 (pc := 510) F dL_law_510 ?_
  refine mh_aload0 (pc := 511) F dL_law_511 ?_
  refine mh_iload3 (pc := 512) F dL_law_512 ?_
  refine mh_iconst (pc := 513) F dL_law_513 ?_
  refine mh_iadd (pc := 514) F dL_law_514 ?_
  refine mh_sld (pc := 515) F hX (by omega) dL_law_515 ?_
  refine mh_callV0 (pc := 516) (As := [.int (Int32.ofInt (mh_cx xs (i + 1)))]) (st := [.int (Int32.ofInt (vv))]) F (by omega) (p_rest (by omega) F2 r82 r85 (mh_cxR _ _) A.1) wv_RL_55_yX12_rest dL_law_516 sh_81 rfl (by decide) rfl rfl (Nat.le_of_ble_eq_true rfl) hc (fun r2 h2 q2 => ?_)
  obtain ⟨vv2, z0, z1, hs2, rfl, F3, fr3, t82, t85⟩ := q2
  have hz := hs2.trans hs1.symm
  simp only [Prod.mk.injEq] at hz
  obtain ⟨ev, g0, g1⟩ := hz
  rw [ev]
  refine mh_same (pc := 519) (tgt := 1452) F dL_law_519 rfl ?_
  have h4x := A.2.1.2.1
  have h5x := A.2.1.2.2.1
  have hA : sl_A tt ∧ sl_X s tt := by
    have q : sl_A (sp_rest (mh_cx xs (i + 1)) s er).2.1 ∧ sl_X s (sp_rest (mh_cx xs (i + 1)) s er).2.1 := sl_rest A
    rw [← hs1] at q; exact q
  have hX2 : sc_X h1 tt := sc_X_of hXc (fr2 32 (by decide)) (fr2 43 (by decide)) hA.2 h4x.2 h5x.2
  have hC2 : sl_C h1 tt ee o kp b z u v := C.step (fun a ha => fr2 a (by simp; omega)) hV2 hE2 hX2
  have hC3 := hC2.fr (h2 := h2) (fun a ha => fr3 a (by simp; omega))
  exact K h2 ⟨tt, ee, o, kp, b, z, u, v, F3, ⟨(t82.trans g0), (t85.trans g1), ((fr3 81 (by decide)).trans r81), ((fr3 83 (by decide)).trans r83), ((fr3 91 (by decide)).trans r91), ((fr3 92 (by decide)).trans r92), ((fr3 93 (by decide)).trans r93), ((fr3 94 (by decide)).trans r94)⟩, hC3, hA.1, AK, h22, hU, (by omega)⟩

set_option maxRecDepth 100000 in
set_option maxHeartbeats 2000000 in
theorem L_giveUp {g : mh_G} {f : mh_F} {d cl sl b0 L : Nat} {xs : Nat → Int32} (hd : 80 ≤ d) (F : mh_Fr g f RL cL_law 4 d) (hX : mh_scr g f b0 L xs) (hc : cl ≤ (mh_R f).cells ∧ sl ≤ (mh_R f).slots) {i : Int} (hi : 0 ≤ i ∧ i + 6 ≤ (L : Int)) {h : Nat → Int → Int} (H : LI i h) (K : ∀ h2, LI (i + 6) h2 → mh_V g f 4 96 cl sl 1452 [some (.ref 1000009), some (.ref 0), some (.ref 81), some (.int (Int32.ofInt (i)))] [] h2) : mh_V g f 4 96 cl sl 524 [some (.ref 1000009), some (.ref 0), some (.ref 81), some (.int (Int32.ofInt (i)))] [] h := by
  obtain ⟨s, er, o, kp, b, z, u, v, hF, ⟨r82, r85, r81, r83, r91, r92, r93, r94⟩, C, A, AK, h22, hU, ho4⟩ := H
  obtain ⟨hV, hE, hKN, hXc, hKP, hI, hK, hS, hTr⟩ := id C
  have hL3 := hX.2.2.2.2
  have h3x : 0 ≤ o 3 ∧ o 3 ≤ 1 := by have := hI.2.2; omega
  have h3o : o 3 = 0 ∨ o 3 = 1 := by omega
  have hsb : sx_by s := ⟨A.2.1.2.1, A.2.1.2.2.2.1⟩
  have hbz : ∀ j, 0 ≤ j → j < 4 → (b j = 0 ∨ b j = 8 ∨ b j = 16 ∨ b j = 32) ∧ (0 ≤ z j ∧ z j ≤ 40) := fun j j0 j1 => ⟨(hS j j0 j1).1, (hS j j0 j1).2.1⟩
  refine mh_aload1 (pc := 524) F dL_law_524 ?_
  refine mh_aload0 (pc := 525) F dL_law_525 ?_
  refine mh_iload3 (pc := 526) F dL_law_526 ?_
  refine mh_iconst (pc := 527) F dL_law_527 ?_
  refine mh_iadd (pc := 528) F dL_law_528 ?_
  refine mh_sld (pc := 529) F hX (by omega) dL_law_529 ?_
  refine mh_callV0 (pc := 530) (As := [.int (Int32.ofInt (mh_cx xs (i + 1)))]) (st := []) F (by omega) (q_giveUp (by omega) hF (mh_cxR _ _) A.1 hV hE hKN) wv_RL_56_yX11_giveUp dL_law_530 sh_0 rfl (by decide) rfl rfl (Nat.le_of_ble_eq_true rfl) hc (fun r1 h1 q1 => ?_)
  obtain ⟨vv, tt, ee, hs1, rfl, F2, fr2, hV2, hE2⟩ := q1
  have r82 : h1 82 = s := (fr2 82 (by decide)).trans r82
  have r85 : h1 85 = er := (fr2 85 (by decide)).trans r85
  have r81 : h1 81 = o := (fr2 81 (by decide)).trans r81
  have r83 : h1 83 = kp := (fr2 83 (by decide)).trans r83
  have r91 : h1 91 = v := (fr2 91 (by decide)).trans r91
  have r92 : h1 92 = b := (fr2 92 (by decide)).trans r92
  have r93 : h1 93 = z := (fr2 93 (by decide)).trans r93
  have r94 : h1 94 = u := (fr2 94 (by decide)).trans r94
  refine mh_aload2 (pc := 533) F dL_law_533 ?_
  refine mh_aload0 (pc := 534) F dL_law_534 ?_
  refine mh_iload3 (pc := 535) F dL_law_535 ?_
  refine mh_iconst (pc := 536) F dL_law_536 ?_
  refine mh_iadd (pc := 537) F dL_law_537 ?_
  refine mh_sld (pc := 538) F hX (by omega) dL_law_538 ?_
  refine mh_callV0 (pc := 539) (As := [.int (Int32.ofInt (mh_cx xs (i + 1)))]) (st := [.int (Int32.ofInt (vv))]) F (by omega) (p_giveUp (by omega) F2 r82 r85 (mh_cxR _ _) A.1) wv_RL_59_yX12_giveUp dL_law_539 sh_81 rfl (by decide) rfl rfl (Nat.le_of_ble_eq_true rfl) hc (fun r2 h2 q2 => ?_)
  obtain ⟨vv2, z0, z1, hs2, rfl, F3, fr3, t82, t85⟩ := q2
  have hz := hs2.trans hs1.symm
  simp only [Prod.mk.injEq] at hz
  obtain ⟨ev, g0, g1⟩ := hz
  rw [ev]
  refine mh_same (pc := 542) (tgt := 1452) F dL_law_542 rfl ?_
  have h4x := A.2.1.2.1
  have h5x := A.2.1.2.2.1
  have hA : sl_A tt ∧ sl_X s tt := by
    have q : sl_A (sp_giveUp (mh_cx xs (i + 1)) s er).2.1 ∧ sl_X s (sp_giveUp (mh_cx xs (i + 1)) s er).2.1 := sl_giveUp A
    rw [← hs1] at q; exact q
  have hX2 : sc_X h1 tt := sc_X_of hXc (fr2 32 (by decide)) (fr2 43 (by decide)) hA.2 h4x.2 h5x.2
  have hC2 : sl_C h1 tt ee o kp b z u v := C.step (fun a ha => fr2 a (by simp; omega)) hV2 hE2 hX2
  have hC3 := hC2.fr (h2 := h2) (fun a ha => fr3 a (by simp; omega))
  exact K h2 ⟨tt, ee, o, kp, b, z, u, v, F3, ⟨(t82.trans g0), (t85.trans g1), ((fr3 81 (by decide)).trans r81), ((fr3 83 (by decide)).trans r83), ((fr3 91 (by decide)).trans r91), ((fr3 92 (by decide)).trans r92), ((fr3 93 (by decide)).trans r93), ((fr3 94 (by decide)).trans r94)⟩, hC3, hA.1, AK, h22, hU, (by omega)⟩

set_option maxRecDepth 100000 in
set_option maxHeartbeats 2000000 in
theorem L_refill {g : mh_G} {f : mh_F} {d cl sl b0 L : Nat} {xs : Nat → Int32} (hd : 80 ≤ d) (F : mh_Fr g f RL cL_law 4 d) (hX : mh_scr g f b0 L xs) (hc : cl ≤ (mh_R f).cells ∧ sl ≤ (mh_R f).slots) {i : Int} (hi : 0 ≤ i ∧ i + 6 ≤ (L : Int)) {h : Nat → Int → Int} (H : LI i h) (K : ∀ h2, LI (i + 6) h2 → mh_V g f 4 96 cl sl 1452 [some (.ref 1000009), some (.ref 0), some (.ref 81), some (.int (Int32.ofInt (i)))] [] h2) : mh_V g f 4 96 cl sl 547 [some (.ref 1000009), some (.ref 0), some (.ref 81), some (.int (Int32.ofInt (i)))] [] h := by
  obtain ⟨s, er, o, kp, b, z, u, v, hF, ⟨r82, r85, r81, r83, r91, r92, r93, r94⟩, C, A, AK, h22, hU, ho4⟩ := H
  obtain ⟨hV, hE, hKN, hXc, hKP, hI, hK, hS, hTr⟩ := id C
  have hL3 := hX.2.2.2.2
  have h3x : 0 ≤ o 3 ∧ o 3 ≤ 1 := by have := hI.2.2; omega
  have h3o : o 3 = 0 ∨ o 3 = 1 := by omega
  have hsb : sx_by s := ⟨A.2.1.2.1, A.2.1.2.2.2.1⟩
  have hbz : ∀ j, 0 ≤ j → j < 4 → (b j = 0 ∨ b j = 8 ∨ b j = 16 ∨ b j = 32) ∧ (0 ≤ z j ∧ z j ≤ 40) := fun j j0 j1 => ⟨(hS j j0 j1).1, (hS j j0 j1).2.1⟩
  refine mh_aload1 (pc := 547) F dL_law_547 ?_
  refine mh_aload0 (pc := 548) F dL_law_548 ?_
  refine mh_iload3 (pc := 549) F dL_law_549 ?_
  refine mh_iconst (pc := 550) F dL_law_550 ?_
  refine mh_iadd (pc := 551) F dL_law_551 ?_
  refine mh_sld (pc := 552) F hX (by omega) dL_law_552 ?_
  refine mh_callV0 (pc := 553) (As := [.int (Int32.ofInt (mh_cx xs (i + 1)))]) (st := []) F (by omega) (q_refill (by omega) hF (mh_cxR _ _) A.1 hV hE hKN) wv_RL_60_yX11_refill dL_law_553 sh_0 rfl (by decide) rfl rfl (Nat.le_of_ble_eq_true rfl) hc (fun r1 h1 q1 => ?_)
  obtain ⟨vv, tt, ee, hs1, rfl, F2, fr2, hV2, hE2⟩ := q1
  have r82 : h1 82 = s := (fr2 82 (by decide)).trans r82
  have r85 : h1 85 = er := (fr2 85 (by decide)).trans r85
  have r81 : h1 81 = o := (fr2 81 (by decide)).trans r81
  have r83 : h1 83 = kp := (fr2 83 (by decide)).trans r83
  have r91 : h1 91 = v := (fr2 91 (by decide)).trans r91
  have r92 : h1 92 = b := (fr2 92 (by decide)).trans r92
  have r93 : h1 93 = z := (fr2 93 (by decide)).trans r93
  have r94 : h1 94 = u := (fr2 94 (by decide)).trans r94
  refine mh_aload2 (pc := 556) F dL_law_556 ?_
  refine mh_aload0 (pc := 557) F dL_law_557 ?_
  refine mh_iload3 (pc := 558) F dL_law_558 ?_
  refine mh_iconst (pc := 559) F dL_law_559 ?_
  refine mh_iadd (pc := 560) F dL_law_560 ?_
  refine mh_sld (pc := 561) F hX (by omega) dL_law_561 ?_
  refine mh_callV0 (pc := 562) (As := [.int (Int32.ofInt (mh_cx xs (i + 1)))]) (st := [.int (Int32.ofInt (vv))]) F (by omega) (p_refill (by omega) F2 r82 r85 (mh_cxR _ _) A.1) wv_RL_63_yX12_refill dL_law_562 sh_81 rfl (by decide) rfl rfl (Nat.le_of_ble_eq_true rfl) hc (fun r2 h2 q2 => ?_)
  obtain ⟨vv2, z0, z1, hs2, rfl, F3, fr3, t82, t85⟩ := q2
  have hz := hs2.trans hs1.symm
  simp only [Prod.mk.injEq] at hz
  obtain ⟨ev, g0, g1⟩ := hz
  rw [ev]
  refine mh_same (pc := 565) (tgt := 1452) F dL_law_565 rfl ?_
  have h4x := A.2.1.2.1
  have h5x := A.2.1.2.2.1
  have hA : sl_A tt ∧ sl_X s tt := by
    have q : sl_A (sp_refill (mh_cx xs (i + 1)) s er).2.1 ∧ sl_X s (sp_refill (mh_cx xs (i + 1)) s er).2.1 := sl_refill A
    rw [← hs1] at q; exact q
  have hX2 : sc_X h1 tt := sc_X_of hXc (fr2 32 (by decide)) (fr2 43 (by decide)) hA.2 h4x.2 h5x.2
  have hC2 : sl_C h1 tt ee o kp b z u v := C.step (fun a ha => fr2 a (by simp; omega)) hV2 hE2 hX2
  have hC3 := hC2.fr (h2 := h2) (fun a ha => fr3 a (by simp; omega))
  exact K h2 ⟨tt, ee, o, kp, b, z, u, v, F3, ⟨(t82.trans g0), (t85.trans g1), ((fr3 81 (by decide)).trans r81), ((fr3 83 (by decide)).trans r83), ((fr3 91 (by decide)).trans r91), ((fr3 92 (by decide)).trans r92), ((fr3 93 (by decide)).trans r93), ((fr3 94 (by decide)).trans r94)⟩, hC3, hA.1, AK, h22, hU, (by omega)⟩

set_option maxRecDepth 100000 in
set_option maxHeartbeats 2000000 in
theorem L_feed {g : mh_G} {f : mh_F} {d cl sl b0 L : Nat} {xs : Nat → Int32} (hd : 80 ≤ d) (F : mh_Fr g f RL cL_law 4 d) (hX : mh_scr g f b0 L xs) (hc : cl ≤ (mh_R f).cells ∧ sl ≤ (mh_R f).slots) {i : Int} (hi : 0 ≤ i ∧ i + 6 ≤ (L : Int)) {h : Nat → Int → Int} (H : LI i h) (K : ∀ h2, LI (i + 6) h2 → mh_V g f 4 96 cl sl 1452 [some (.ref 1000009), some (.ref 0), some (.ref 81), some (.int (Int32.ofInt (i)))] [] h2) : mh_V g f 4 96 cl sl 570 [some (.ref 1000009), some (.ref 0), some (.ref 81), some (.int (Int32.ofInt (i)))] [] h := by
  obtain ⟨s, er, o, kp, b, z, u, v, hF, ⟨r82, r85, r81, r83, r91, r92, r93, r94⟩, C, A, AK, h22, hU, ho4⟩ := H
  obtain ⟨hV, hE, hKN, hXc, hKP, hI, hK, hS, hTr⟩ := id C
  have hL3 := hX.2.2.2.2
  have h3x : 0 ≤ o 3 ∧ o 3 ≤ 1 := by have := hI.2.2; omega
  have h3o : o 3 = 0 ∨ o 3 = 1 := by omega
  have hsb : sx_by s := ⟨A.2.1.2.1, A.2.1.2.2.2.1⟩
  have hbz : ∀ j, 0 ≤ j → j < 4 → (b j = 0 ∨ b j = 8 ∨ b j = 16 ∨ b j = 32) ∧ (0 ≤ z j ∧ z j ≤ 40) := fun j j0 j1 => ⟨(hS j j0 j1).1, (hS j j0 j1).2.1⟩
  have q1 := mh_cxR xs (i + 1)
  have q2 := mh_cxR xs (i + 2)
  refine mh_aload1 (pc := 570) F dL_law_570 ?_
  refine mh_aload0 (pc := 571) F dL_law_571 ?_
  refine mh_iload3 (pc := 572) F dL_law_572 ?_
  refine mh_iconst (pc := 573) F dL_law_573 ?_
  refine mh_iadd (pc := 574) F dL_law_574 ?_
  refine mh_sld (pc := 575) F hX (by omega) dL_law_575 ?_
  refine mh_i2l (pc := 576) F dL_law_576 (by omega) ?_
  refine mh_bipush (pc := 577) F dL_law_577 rfl ?_
  refine mh_rlshl (pc := 579) F dL_law_579 ?_
  refine mh_aload0 (pc := 580) F dL_law_580 ?_
  refine mh_iload3 (pc := 581) F dL_law_581 ?_
  refine mh_iconst (pc := 582) F dL_law_582 ?_
  refine mh_iadd (pc := 583) F dL_law_583 ?_
  refine mh_sld (pc := 584) F hX (by omega) dL_law_584 ?_
  refine mh_i2l (pc := 585) F dL_law_585 (by omega) ?_
  refine mh_ldc2 (x := 4294967295) (pc := 586) F dL_law_586 tw_7_223 ?_
  refine mh_rland (pc := 589) F dL_law_589 ?_
  refine mh_rlor (pc := 590) F dL_law_590 ?_
  refine mh_aload0 (pc := 591) F dL_law_591 ?_
  refine mh_iload3 (pc := 592) F dL_law_592 ?_
  refine mh_iconst (pc := 593) F dL_law_593 ?_
  refine mh_iadd (pc := 594) F dL_law_594 ?_
  refine mh_sld (pc := 595) F hX (by omega) dL_law_595 ?_
  refine mh_callV0 (pc := 596) (As := [.long (Int64.ofInt (mh_lor (mh_lshl (mh_cx xs (i + 1)) 32) (mh_land (mh_cx xs (i + 2)) 4294967295))), .int (Int32.ofInt (mh_cx xs (i + 3)))]) (st := []) F (by omega) (q_feed (by omega) hF (mh_cxR _ _) hXc hKP A.2.1.2.1 A.2.1.2.2.1 A.1 hV hE hKN) wv_RL_66_yX11_feed dL_law_596 sh_0 rfl (by decide) rfl rfl (Nat.le_of_ble_eq_true rfl) hc (fun r1 h1 q1 => ?_)
  obtain ⟨vv, tt, ee, hs1, rfl, F2, fr2, hV2, hE2, hX2, hKP2⟩ := q1
  have r82 : h1 82 = s := (fr2 82 (by decide)).trans r82
  have r85 : h1 85 = er := (fr2 85 (by decide)).trans r85
  have r81 : h1 81 = o := (fr2 81 (by decide)).trans r81
  have r83 : h1 83 = kp := (fr2 83 (by decide)).trans r83
  have r91 : h1 91 = v := (fr2 91 (by decide)).trans r91
  have r92 : h1 92 = b := (fr2 92 (by decide)).trans r92
  have r93 : h1 93 = z := (fr2 93 (by decide)).trans r93
  have r94 : h1 94 = u := (fr2 94 (by decide)).trans r94
  refine mh_aload2 (pc := 599) F dL_law_599 ?_
  refine mh_aload0 (pc := 600) F dL_law_600 ?_
  refine mh_iload3 (pc := 601) F dL_law_601 ?_
  refine mh_iconst (pc := 602) F dL_law_602 ?_
  refine mh_iadd (pc := 603) F dL_law_603 ?_
  refine mh_sld (pc := 604) F hX (by omega) dL_law_604 ?_
  refine mh_i2l (pc := 605) F dL_law_605 (by omega) ?_
  refine mh_bipush (pc := 606) F dL_law_606 rfl ?_
  refine mh_rlshl (pc := 608) F dL_law_608 ?_
  refine mh_aload0 (pc := 609) F dL_law_609 ?_
  refine mh_iload3 (pc := 610) F dL_law_610 ?_
  refine mh_iconst (pc := 611) F dL_law_611 ?_
  refine mh_iadd (pc := 612) F dL_law_612 ?_
  refine mh_sld (pc := 613) F hX (by omega) dL_law_613 ?_
  refine mh_i2l (pc := 614) F dL_law_614 (by omega) ?_
  refine mh_ldc2 (x := 4294967295) (pc := 615) F dL_law_615 tw_7_223 ?_
  refine mh_rland (pc := 618) F dL_law_618 ?_
  refine mh_rlor (pc := 619) F dL_law_619 ?_
  refine mh_aload0 (pc := 620) F dL_law_620 ?_
  refine mh_iload3 (pc := 621) F dL_law_621 ?_
  refine mh_iconst (pc := 622) F dL_law_622 ?_
  refine mh_iadd (pc := 623) F dL_law_623 ?_
  refine mh_sld (pc := 624) F hX (by omega) dL_law_624 ?_
  refine mh_callV0 (pc := 625) (As := [.long (Int64.ofInt (mh_lor (mh_lshl (mh_cx xs (i + 1)) 32) (mh_land (mh_cx xs (i + 2)) 4294967295))), .int (Int32.ofInt (mh_cx xs (i + 3)))]) (st := [.int (Int32.ofInt (vv))]) F (by omega) (p_feed (by omega) F2 r82 r85 (mh_cxR _ _) A.2.1.2.1 A.1) wv_RL_70_yX12_feed dL_law_625 sh_81 rfl (by decide) rfl rfl (Nat.le_of_ble_eq_true rfl) hc (fun r2 h2 q2 => ?_)
  obtain ⟨vv2, z0, z1, hs2, rfl, F3, fr3, t82, t85⟩ := q2
  have hz := hs2.trans hs1.symm
  simp only [Prod.mk.injEq] at hz
  obtain ⟨ev, g0, g1⟩ := hz
  rw [ev]
  refine mh_same (pc := 628) (tgt := 1452) F dL_law_628 rfl ?_
  have h4x := A.2.1.2.1
  have h5x := A.2.1.2.2.1
  have hA : sl_A tt := by
    have q : sl_A (sp_feed (mh_lor (mh_lshl (mh_cx xs (i + 1)) 32) (mh_land (mh_cx xs (i + 2)) 4294967295)) (mh_cx xs (i + 3)) s er).2.1 := sl_feed A
    rw [← hs1] at q; exact q
  have hC2 : sl_C h1 tt ee o kp b z u v := ⟨hV2, hE2, hKN.fr (fun a ha => fr2 a (by simp; omega)), hX2, hKP2, hI.fr2 (fr2 0 (by decide)), hK.fr2 (fun a ha => fr2 a (by simp; omega)), hS.fr (fun a a0 a1 => fr2 a (by simp; omega)), hTr.fr2 (fr2 16 (by decide))⟩
  have hC3 := hC2.fr (h2 := h2) (fun a ha => fr3 a (by simp; omega))
  exact K h2 ⟨tt, ee, o, kp, b, z, u, v, F3, ⟨(t82.trans g0), (t85.trans g1), ((fr3 81 (by decide)).trans r81), ((fr3 83 (by decide)).trans r83), ((fr3 91 (by decide)).trans r91), ((fr3 92 (by decide)).trans r92), ((fr3 93 (by decide)).trans r93), ((fr3 94 (by decide)).trans r94)⟩, hC3, hA, AK, h22, hU, (by omega)⟩

set_option maxRecDepth 100000 in
set_option maxHeartbeats 2000000 in
theorem L_text {g : mh_G} {f : mh_F} {d cl sl b0 L : Nat} {xs : Nat → Int32} (hd : 80 ≤ d) (F : mh_Fr g f RL cL_law 4 d) (hX : mh_scr g f b0 L xs) (hc : cl ≤ (mh_R f).cells ∧ sl ≤ (mh_R f).slots) {i : Int} (hi : 0 ≤ i ∧ i + 6 ≤ (L : Int)) {h : Nat → Int → Int} (H : LI i h) (K : ∀ h2, LI (i + 6) h2 → mh_V g f 4 96 cl sl 1452 [some (.ref 1000009), some (.ref 0), some (.ref 81), some (.int (Int32.ofInt (i)))] [] h2) : mh_V g f 4 96 cl sl 633 [some (.ref 1000009), some (.ref 0), some (.ref 81), some (.int (Int32.ofInt (i)))] [] h := by
  obtain ⟨s, er, o, kp, b, z, u, v, hF, ⟨r82, r85, r81, r83, r91, r92, r93, r94⟩, C, A, AK, h22, hU, ho4⟩ := H
  obtain ⟨hV, hE, hKN, hXc, hKP, hI, hK, hS, hTr⟩ := id C
  have hL3 := hX.2.2.2.2
  have h3x : 0 ≤ o 3 ∧ o 3 ≤ 1 := by have := hI.2.2; omega
  have h3o : o 3 = 0 ∨ o 3 = 1 := by omega
  have hsb : sx_by s := ⟨A.2.1.2.1, A.2.1.2.2.2.1⟩
  have hbz : ∀ j, 0 ≤ j → j < 4 → (b j = 0 ∨ b j = 8 ∨ b j = 16 ∨ b j = 32) ∧ (0 ≤ z j ∧ z j ≤ 40) := fun j j0 j1 => ⟨(hS j j0 j1).1, (hS j j0 j1).2.1⟩
  refine mh_aload1 (pc := 633) F dL_law_633 ?_
  refine mh_aload0 (pc := 634) F dL_law_634 ?_
  refine mh_iload3 (pc := 635) F dL_law_635 ?_
  refine mh_iconst (pc := 636) F dL_law_636 ?_
  refine mh_iadd (pc := 637) F dL_law_637 ?_
  refine mh_sld (pc := 638) F hX (by omega) dL_law_638 ?_
  refine mh_callV0 (pc := 639) (As := [.int (Int32.ofInt (mh_cx xs (i + 1)))]) (st := []) F (by omega) (q_text (fr := h 88) (by omega) hF (mh_cxR _ _) hsb hXc A.1 hV hE hKN) wv_RL_71_yX11_text dL_law_639 sh_0 rfl (by decide) rfl rfl (Nat.le_of_ble_eq_true rfl) hc (fun r1 h1 q1 => ?_)
  obtain ⟨vv, tt, ee, hs1, rfl, F2, fr2, hV2, hE2⟩ := q1
  have r82 : h1 82 = s := (fr2 82 (by decide)).trans r82
  have r85 : h1 85 = er := (fr2 85 (by decide)).trans r85
  have r81 : h1 81 = o := (fr2 81 (by decide)).trans r81
  have r83 : h1 83 = kp := (fr2 83 (by decide)).trans r83
  have r91 : h1 91 = v := (fr2 91 (by decide)).trans r91
  have r92 : h1 92 = b := (fr2 92 (by decide)).trans r92
  have r93 : h1 93 = z := (fr2 93 (by decide)).trans r93
  have r94 : h1 94 = u := (fr2 94 (by decide)).trans r94
  refine mh_aload2 (pc := 642) F dL_law_642 ?_
  refine mh_aload0 (pc := 643) F dL_law_643 ?_
  refine mh_iload3 (pc := 644) F dL_law_644 ?_
  refine mh_iconst (pc := 645) F dL_law_645 ?_
  refine mh_iadd (pc := 646) F dL_law_646 ?_
  refine mh_sld (pc := 647) F hX (by omega) dL_law_647 ?_
  refine mh_callV0 (pc := 648) (As := [.int (Int32.ofInt (mh_cx xs (i + 1)))]) (st := [.int (Int32.ofInt (vv))]) F (by omega) (p_text (by omega) F2 r82 r85 r81 (fr2 88 (by decide)) (mh_cxR _ _) hsb) wv_RL_74_yX12_text dL_law_648 sh_81 rfl (by decide) rfl rfl (Nat.le_of_ble_eq_true rfl) hc (fun r2 h2 q2 => ?_)
  obtain ⟨vv2, z0, z1, hs2, rfl, F3, fr3, t82, t85, hoo⟩ := q2
  have hz := hs2.trans hs1.symm
  simp only [Prod.mk.injEq] at hz
  obtain ⟨ev, g0, g1⟩ := hz
  rw [ev]
  refine mh_same (pc := 651) (tgt := 1452) F dL_law_651 rfl ?_
  have h4x := A.2.1.2.1
  have h5x := A.2.1.2.2.1
  have hA : sl_A tt := by
    have q : sl_A (sp_text (mh_cx xs (i + 1)) s er (h 88)).2.1 := sl_text A
    rw [← hs1] at q; exact q
  have hX2 : sc_X h1 tt := by
    have q : sc_X h1 (sp_text (mh_cx xs (i + 1)) s er (h 88)).2.1 := sl_X_txt A hXc (fr2 32 (by decide)) (fr2 43 (by decide))
    rw [← hs1] at q; exact q
  have hC2 : sl_C h1 tt ee o kp b z u v := C.step (fun a ha => fr2 a (by simp; omega)) hV2 hE2 hX2
  have hC3 := hC2.fr (h2 := h2) (fun a ha => fr3 a (by simp; omega))
  exact K h2 ⟨tt, ee, (h2 81), kp, b, z, u, v, F3, ⟨(t82.trans g0), (t85.trans g1), rfl, ((fr3 83 (by decide)).trans r83), ((fr3 91 (by decide)).trans r91), ((fr3 92 (by decide)).trans r92), ((fr3 93 (by decide)).trans r93), ((fr3 94 (by decide)).trans r94)⟩, (hC3.o (hoo 3 (by decide) (by decide) (by decide) (by decide) (by decide)) (hoo 4 (by decide) (by decide) (by decide) (by decide) (by decide)) (hoo 22 (by decide) (by decide) (by decide) (by decide) (by decide))), hA, (by rw [hoo 3 (by decide) (by decide) (by decide) (by decide) (by decide)]; exact AK), (by rw [hoo 22 (by decide) (by decide) (by decide) (by decide) (by decide)]; exact h22), hU, (by have := (hoo 4 (by decide) (by decide) (by decide) (by decide) (by decide)); omega)⟩

set_option maxRecDepth 100000 in
set_option maxHeartbeats 2000000 in
theorem L_law {g : mh_G} {f : mh_F} {d cl sl b0 L : Nat} {xs : Nat → Int32} (hd : 80 ≤ d) (F : mh_Fr g f RL cL_law 4 d) (hX : mh_scr g f b0 L xs) (hc : cl ≤ (mh_R f).cells ∧ sl ≤ (mh_R f).slots) {i : Int} (hi : 0 ≤ i ∧ i + 6 ≤ (L : Int)) {h : Nat → Int → Int} (H : LI i h) (K : ∀ h2, LI (i + 6) h2 → mh_V g f 4 96 cl sl 1452 [some (.ref 1000009), some (.ref 0), some (.ref 81), some (.int (Int32.ofInt (i)))] [] h2) : mh_V g f 4 96 cl sl 656 [some (.ref 1000009), some (.ref 0), some (.ref 81), some (.int (Int32.ofInt (i)))] [] h := by
  obtain ⟨s, er, o, kp, b, z, u, v, hF, ⟨r82, r85, r81, r83, r91, r92, r93, r94⟩, C, A, AK, h22, hU, ho4⟩ := H
  obtain ⟨hV, hE, hKN, hXc, hKP, hI, hK, hS, hTr⟩ := id C
  have hL3 := hX.2.2.2.2
  have h3x : 0 ≤ o 3 ∧ o 3 ≤ 1 := by have := hI.2.2; omega
  have h3o : o 3 = 0 ∨ o 3 = 1 := by omega
  have hsb : sx_by s := ⟨A.2.1.2.1, A.2.1.2.2.2.1⟩
  have hbz : ∀ j, 0 ≤ j → j < 4 → (b j = 0 ∨ b j = 8 ∨ b j = 16 ∨ b j = 32) ∧ (0 ≤ z j ∧ z j ≤ 40) := fun j j0 j1 => ⟨(hS j j0 j1).1, (hS j j0 j1).2.1⟩
  refine mh_aload1 (pc := 656) F dL_law_656 ?_
  refine mh_aload0 (pc := 657) F dL_law_657 ?_
  refine mh_iload3 (pc := 658) F dL_law_658 ?_
  refine mh_iconst (pc := 659) F dL_law_659 ?_
  refine mh_iadd (pc := 660) F dL_law_660 ?_
  refine mh_sld (pc := 661) F hX (by omega) dL_law_661 ?_
  refine mh_aload0 (pc := 662) F dL_law_662 ?_
  refine mh_iload3 (pc := 663) F dL_law_663 ?_
  refine mh_iconst (pc := 664) F dL_law_664 ?_
  refine mh_iadd (pc := 665) F dL_law_665 ?_
  refine mh_sld (pc := 666) F hX (by omega) dL_law_666 ?_
  refine mh_aload0 (pc := 667) F dL_law_667 ?_
  refine mh_iload3 (pc := 668) F dL_law_668 ?_
  refine mh_iconst (pc := 669) F dL_law_669 ?_
  refine mh_iadd (pc := 670) F dL_law_670 ?_
  refine mh_sld (pc := 671) F hX (by omega) dL_law_671 ?_
  refine mh_aload0 (pc := 672) F dL_law_672 ?_
  refine mh_iload3 (pc := 673) F dL_law_673 ?_
  refine mh_iconst (pc := 674) F dL_law_674 ?_
  refine mh_iadd (pc := 675) F dL_law_675 ?_
  refine mh_sld (pc := 676) F hX (by omega) dL_law_676 ?_
  refine mh_callV0 (pc := 677) (As := [.int (Int32.ofInt (mh_cx xs (i + 1))), .int (Int32.ofInt (mh_cx xs (i + 2))), .int (Int32.ofInt (mh_cx xs (i + 3))), .int (Int32.ofInt (mh_cx xs (i + 4)))]) (st := []) F (by omega) (q_law (by omega) hF (mh_cxR _ _) (mh_cxR _ _) (mh_cxR _ _) (mh_cxR _ _) A.1 hV hE hKN) wv_RL_75_yX11_law dL_law_677 sh_0 rfl (by decide) rfl rfl (Nat.le_of_ble_eq_true rfl) hc (fun r1 h1 q1 => ?_)
  obtain ⟨vv, tt, ee, hs1, rfl, F2, fr2, hV2, hE2⟩ := q1
  have r82 : h1 82 = s := (fr2 82 (by decide)).trans r82
  have r85 : h1 85 = er := (fr2 85 (by decide)).trans r85
  have r81 : h1 81 = o := (fr2 81 (by decide)).trans r81
  have r83 : h1 83 = kp := (fr2 83 (by decide)).trans r83
  have r91 : h1 91 = v := (fr2 91 (by decide)).trans r91
  have r92 : h1 92 = b := (fr2 92 (by decide)).trans r92
  have r93 : h1 93 = z := (fr2 93 (by decide)).trans r93
  have r94 : h1 94 = u := (fr2 94 (by decide)).trans r94
  refine mh_aload2 (pc := 680) F dL_law_680 ?_
  refine mh_aload0 (pc := 681) F dL_law_681 ?_
  refine mh_iload3 (pc := 682) F dL_law_682 ?_
  refine mh_iconst (pc := 683) F dL_law_683 ?_
  refine mh_iadd (pc := 684) F dL_law_684 ?_
  refine mh_sld (pc := 685) F hX (by omega) dL_law_685 ?_
  refine mh_aload0 (pc := 686) F dL_law_686 ?_
  refine mh_iload3 (pc := 687) F dL_law_687 ?_
  refine mh_iconst (pc := 688) F dL_law_688 ?_
  refine mh_iadd (pc := 689) F dL_law_689 ?_
  refine mh_sld (pc := 690) F hX (by omega) dL_law_690 ?_
  refine mh_aload0 (pc := 691) F dL_law_691 ?_
  refine mh_iload3 (pc := 692) F dL_law_692 ?_
  refine mh_iconst (pc := 693) F dL_law_693 ?_
  refine mh_iadd (pc := 694) F dL_law_694 ?_
  refine mh_sld (pc := 695) F hX (by omega) dL_law_695 ?_
  refine mh_aload0 (pc := 696) F dL_law_696 ?_
  refine mh_iload3 (pc := 697) F dL_law_697 ?_
  refine mh_iconst (pc := 698) F dL_law_698 ?_
  refine mh_iadd (pc := 699) F dL_law_699 ?_
  refine mh_sld (pc := 700) F hX (by omega) dL_law_700 ?_
  refine mh_callV0 (pc := 701) (As := [.int (Int32.ofInt (mh_cx xs (i + 1))), .int (Int32.ofInt (mh_cx xs (i + 2))), .int (Int32.ofInt (mh_cx xs (i + 3))), .int (Int32.ofInt (mh_cx xs (i + 4)))]) (st := [.int (Int32.ofInt (vv))]) F (by omega) (p_law (by omega) F2 r82 r85 (mh_cxR _ _) (mh_cxR _ _) (mh_cxR _ _) (mh_cxR _ _) A.1) wv_RL_79_yX12_law dL_law_701 sh_81 rfl (by decide) rfl rfl (Nat.le_of_ble_eq_true rfl) hc (fun r2 h2 q2 => ?_)
  obtain ⟨vv2, z0, z1, hs2, rfl, F3, fr3, t82, t85⟩ := q2
  have hz := hs2.trans hs1.symm
  simp only [Prod.mk.injEq] at hz
  obtain ⟨ev, g0, g1⟩ := hz
  rw [ev]
  refine mh_same (pc := 704) (tgt := 1452) F dL_law_704 rfl ?_
  have h4x := A.2.1.2.1
  have h5x := A.2.1.2.2.1
  have hts : tt = s := by
    have q : (sp_lawP (mh_cx xs (i + 1)) (mh_cx xs (i + 2)) (mh_cx xs (i + 3)) (mh_cx xs (i + 4)) s er).2.1 = s := by unfold sp_lawP; (repeat' split) <;> rfl
    rw [← hs1] at q; exact q
  have hA : sl_A tt ∧ sl_X s tt := by rw [hts]; exact ⟨A, sl_X.rf⟩
  have hX2 : sc_X h1 tt := sc_X_of hXc (fr2 32 (by decide)) (fr2 43 (by decide)) hA.2 h4x.2 h5x.2
  have hC2 : sl_C h1 tt ee o kp b z u v := C.step (fun a ha => fr2 a (by simp; omega)) hV2 hE2 hX2
  have hC3 := hC2.fr (h2 := h2) (fun a ha => fr3 a (by simp; omega))
  exact K h2 ⟨tt, ee, o, kp, b, z, u, v, F3, ⟨(t82.trans g0), (t85.trans g1), ((fr3 81 (by decide)).trans r81), ((fr3 83 (by decide)).trans r83), ((fr3 91 (by decide)).trans r91), ((fr3 92 (by decide)).trans r92), ((fr3 93 (by decide)).trans r93), ((fr3 94 (by decide)).trans r94)⟩, hC3, hA.1, AK, h22, hU, (by omega)⟩

set_option maxRecDepth 100000 in
set_option maxHeartbeats 2000000 in
theorem L_quarters {g : mh_G} {f : mh_F} {d cl sl b0 L : Nat} {xs : Nat → Int32} (hd : 80 ≤ d) (F : mh_Fr g f RL cL_law 4 d) (hX : mh_scr g f b0 L xs) (hc : cl ≤ (mh_R f).cells ∧ sl ≤ (mh_R f).slots) {i : Int} (hi : 0 ≤ i ∧ i + 6 ≤ (L : Int)) {h : Nat → Int → Int} (H : LI i h) (K : ∀ h2, LI (i + 6) h2 → mh_V g f 4 96 cl sl 1452 [some (.ref 1000009), some (.ref 0), some (.ref 81), some (.int (Int32.ofInt (i)))] [] h2) : mh_V g f 4 96 cl sl 709 [some (.ref 1000009), some (.ref 0), some (.ref 81), some (.int (Int32.ofInt (i)))] [] h := by
  obtain ⟨s, er, o, kp, b, z, u, v, hF, ⟨r82, r85, r81, r83, r91, r92, r93, r94⟩, C, A, AK, h22, hU, ho4⟩ := H
  obtain ⟨hV, hE, hKN, hXc, hKP, hI, hK, hS, hTr⟩ := id C
  have hL3 := hX.2.2.2.2
  have h3x : 0 ≤ o 3 ∧ o 3 ≤ 1 := by have := hI.2.2; omega
  have h3o : o 3 = 0 ∨ o 3 = 1 := by omega
  have hsb : sx_by s := ⟨A.2.1.2.1, A.2.1.2.2.2.1⟩
  have hbz : ∀ j, 0 ≤ j → j < 4 → (b j = 0 ∨ b j = 8 ∨ b j = 16 ∨ b j = 32) ∧ (0 ≤ z j ∧ z j ≤ 40) := fun j j0 j1 => ⟨(hS j j0 j1).1, (hS j j0 j1).2.1⟩
  refine mh_aload1 (pc := 709) F dL_law_709 ?_
  refine mh_aload0 (pc := 710) F dL_law_710 ?_
  refine mh_iload3 (pc := 711) F dL_law_711 ?_
  refine mh_iconst (pc := 712) F dL_law_712 ?_
  refine mh_iadd (pc := 713) F dL_law_713 ?_
  refine mh_sld (pc := 714) F hX (by omega) dL_law_714 ?_
  refine mh_callV0 (pc := 715) (As := [.int (Int32.ofInt (mh_cx xs (i + 1)))]) (st := []) F (by omega) (q_quarters (by omega) hF (mh_cxR _ _) A.1 hV hE hKN) wv_RL_80_yX11_quarters dL_law_715 sh_0 rfl (by decide) rfl rfl (Nat.le_of_ble_eq_true rfl) hc (fun r1 h1 q1 => ?_)
  obtain ⟨vv, tt, ee, hs1, rfl, F2, fr2, hV2, hE2⟩ := q1
  have r82 : h1 82 = s := (fr2 82 (by decide)).trans r82
  have r85 : h1 85 = er := (fr2 85 (by decide)).trans r85
  have r81 : h1 81 = o := (fr2 81 (by decide)).trans r81
  have r83 : h1 83 = kp := (fr2 83 (by decide)).trans r83
  have r91 : h1 91 = v := (fr2 91 (by decide)).trans r91
  have r92 : h1 92 = b := (fr2 92 (by decide)).trans r92
  have r93 : h1 93 = z := (fr2 93 (by decide)).trans r93
  have r94 : h1 94 = u := (fr2 94 (by decide)).trans r94
  refine mh_aload2 (pc := 718) F dL_law_718 ?_
  refine mh_aload0 (pc := 719) F dL_law_719 ?_
  refine mh_iload3 (pc := 720) F dL_law_720 ?_
  refine mh_iconst (pc := 721) F dL_law_721 ?_
  refine mh_iadd (pc := 722) F dL_law_722 ?_
  refine mh_sld (pc := 723) F hX (by omega) dL_law_723 ?_
  refine mh_callV0 (pc := 724) (As := [.int (Int32.ofInt (mh_cx xs (i + 1)))]) (st := [.int (Int32.ofInt (vv))]) F (by omega) (p_quarters (by omega) F2 r82 r85 (mh_cxR _ _) A.1) wv_RL_83_yX12_quarters dL_law_724 sh_81 rfl (by decide) rfl rfl (Nat.le_of_ble_eq_true rfl) hc (fun r2 h2 q2 => ?_)
  obtain ⟨vv2, z0, z1, hs2, rfl, F3, fr3, t82, t85⟩ := q2
  have hz := hs2.trans hs1.symm
  simp only [Prod.mk.injEq] at hz
  obtain ⟨ev, g0, g1⟩ := hz
  rw [ev]
  refine mh_same (pc := 727) (tgt := 1452) F dL_law_727 rfl ?_
  have h4x := A.2.1.2.1
  have h5x := A.2.1.2.2.1
  have hA : sl_A tt ∧ sl_X s tt := by
    have q : sl_A (sp_quarters (mh_cx xs (i + 1)) s er).2.1 ∧ sl_X s (sp_quarters (mh_cx xs (i + 1)) s er).2.1 := sl_quarters A
    rw [← hs1] at q; exact q
  have hX2 : sc_X h1 tt := sc_X_of hXc (fr2 32 (by decide)) (fr2 43 (by decide)) hA.2 h4x.2 h5x.2
  have hC2 : sl_C h1 tt ee o kp b z u v := C.step (fun a ha => fr2 a (by simp; omega)) hV2 hE2 hX2
  have hC3 := hC2.fr (h2 := h2) (fun a ha => fr3 a (by simp; omega))
  exact K h2 ⟨tt, ee, o, kp, b, z, u, v, F3, ⟨(t82.trans g0), (t85.trans g1), ((fr3 81 (by decide)).trans r81), ((fr3 83 (by decide)).trans r83), ((fr3 91 (by decide)).trans r91), ((fr3 92 (by decide)).trans r92), ((fr3 93 (by decide)).trans r93), ((fr3 94 (by decide)).trans r94)⟩, hC3, hA.1, AK, h22, hU, (by omega)⟩

set_option maxRecDepth 100000 in
set_option maxHeartbeats 2000000 in
theorem L_days {g : mh_G} {f : mh_F} {d cl sl b0 L : Nat} {xs : Nat → Int32} (hd : 80 ≤ d) (F : mh_Fr g f RL cL_law 4 d) (hX : mh_scr g f b0 L xs) (hc : cl ≤ (mh_R f).cells ∧ sl ≤ (mh_R f).slots) {i : Int} (hi : 0 ≤ i ∧ i + 6 ≤ (L : Int)) {h : Nat → Int → Int} (H : LI i h) (K : ∀ h2, LI (i + 6) h2 → mh_V g f 4 96 cl sl 1452 [some (.ref 1000009), some (.ref 0), some (.ref 81), some (.int (Int32.ofInt (i)))] [] h2) : mh_V g f 4 96 cl sl 732 [some (.ref 1000009), some (.ref 0), some (.ref 81), some (.int (Int32.ofInt (i)))] [] h := by
  obtain ⟨s, er, o, kp, b, z, u, v, hF, ⟨r82, r85, r81, r83, r91, r92, r93, r94⟩, C, A, AK, h22, hU, ho4⟩ := H
  obtain ⟨hV, hE, hKN, hXc, hKP, hI, hK, hS, hTr⟩ := id C
  have hL3 := hX.2.2.2.2
  have h3x : 0 ≤ o 3 ∧ o 3 ≤ 1 := by have := hI.2.2; omega
  have h3o : o 3 = 0 ∨ o 3 = 1 := by omega
  have hsb : sx_by s := ⟨A.2.1.2.1, A.2.1.2.2.2.1⟩
  have hbz : ∀ j, 0 ≤ j → j < 4 → (b j = 0 ∨ b j = 8 ∨ b j = 16 ∨ b j = 32) ∧ (0 ≤ z j ∧ z j ≤ 40) := fun j j0 j1 => ⟨(hS j j0 j1).1, (hS j j0 j1).2.1⟩
  refine mh_aload1 (pc := 732) F dL_law_732 ?_
  refine mh_aload0 (pc := 733) F dL_law_733 ?_
  refine mh_iload3 (pc := 734) F dL_law_734 ?_
  refine mh_iconst (pc := 735) F dL_law_735 ?_
  refine mh_iadd (pc := 736) F dL_law_736 ?_
  refine mh_sld (pc := 737) F hX (by omega) dL_law_737 ?_
  refine mh_callV0 (pc := 738) (As := [.int (Int32.ofInt (mh_cx xs (i + 1)))]) (st := []) F (by omega) (q_days (by omega) hF (mh_cxR _ _) A.1 hV hE hKN) wv_RL_84_yX11_days dL_law_738 sh_0 rfl (by decide) rfl rfl (Nat.le_of_ble_eq_true rfl) hc (fun r1 h1 q1 => ?_)
  obtain ⟨vv, tt, ee, hs1, rfl, F2, fr2, hV2, hE2⟩ := q1
  have r82 : h1 82 = s := (fr2 82 (by decide)).trans r82
  have r85 : h1 85 = er := (fr2 85 (by decide)).trans r85
  have r81 : h1 81 = o := (fr2 81 (by decide)).trans r81
  have r83 : h1 83 = kp := (fr2 83 (by decide)).trans r83
  have r91 : h1 91 = v := (fr2 91 (by decide)).trans r91
  have r92 : h1 92 = b := (fr2 92 (by decide)).trans r92
  have r93 : h1 93 = z := (fr2 93 (by decide)).trans r93
  have r94 : h1 94 = u := (fr2 94 (by decide)).trans r94
  refine mh_aload2 (pc := 741) F dL_law_741 ?_
  refine mh_aload0 (pc := 742) F dL_law_742 ?_
  refine mh_iload3 (pc := 743) F dL_law_743 ?_
  refine mh_iconst (pc := 744) F dL_law_744 ?_
  refine mh_iadd (pc := 745) F dL_law_745 ?_
  refine mh_sld (pc := 746) F hX (by omega) dL_law_746 ?_
  refine mh_callV0 (pc := 747) (As := [.int (Int32.ofInt (mh_cx xs (i + 1)))]) (st := [.int (Int32.ofInt (vv))]) F (by omega) (p_days (by omega) F2 r82 r85 (mh_cxR _ _) A.1) wv_RL_87_yX12_days dL_law_747 sh_81 rfl (by decide) rfl rfl (Nat.le_of_ble_eq_true rfl) hc (fun r2 h2 q2 => ?_)
  obtain ⟨vv2, z0, z1, hs2, rfl, F3, fr3, t82, t85⟩ := q2
  have hz := hs2.trans hs1.symm
  simp only [Prod.mk.injEq] at hz
  obtain ⟨ev, g0, g1⟩ := hz
  rw [ev]
  refine mh_same (pc := 750) (tgt := 1452) F dL_law_750 rfl ?_
  have h4x := A.2.1.2.1
  have h5x := A.2.1.2.2.1
  have hA : sl_A tt ∧ sl_X s tt := by
    have q : sl_A (sp_daysP (mh_cx xs (i + 1)) s er).2.1 ∧ sl_X s (sp_daysP (mh_cx xs (i + 1)) s er).2.1 := sl_daysP A
    rw [← hs1] at q; exact q
  have hX2 : sc_X h1 tt := sc_X_of hXc (fr2 32 (by decide)) (fr2 43 (by decide)) hA.2 h4x.2 h5x.2
  have hC2 : sl_C h1 tt ee o kp b z u v := C.step (fun a ha => fr2 a (by simp; omega)) hV2 hE2 hX2
  have hC3 := hC2.fr (h2 := h2) (fun a ha => fr3 a (by simp; omega))
  exact K h2 ⟨tt, ee, o, kp, b, z, u, v, F3, ⟨(t82.trans g0), (t85.trans g1), ((fr3 81 (by decide)).trans r81), ((fr3 83 (by decide)).trans r83), ((fr3 91 (by decide)).trans r91), ((fr3 92 (by decide)).trans r92), ((fr3 93 (by decide)).trans r93), ((fr3 94 (by decide)).trans r94)⟩, hC3, hA.1, AK, h22, hU, (by omega)⟩

set_option maxRecDepth 100000 in
set_option maxHeartbeats 2000000 in
theorem L_thunder {g : mh_G} {f : mh_F} {d cl sl b0 L : Nat} {xs : Nat → Int32} (hd : 80 ≤ d) (F : mh_Fr g f RL cL_law 4 d) (hX : mh_scr g f b0 L xs) (hc : cl ≤ (mh_R f).cells ∧ sl ≤ (mh_R f).slots) {i : Int} (hi : 0 ≤ i ∧ i + 6 ≤ (L : Int)) {h : Nat → Int → Int} (H : LI i h) (K : ∀ h2, LI (i + 6) h2 → mh_V g f 4 96 cl sl 1452 [some (.ref 1000009), some (.ref 0), some (.ref 81), some (.int (Int32.ofInt (i)))] [] h2) : mh_V g f 4 96 cl sl 755 [some (.ref 1000009), some (.ref 0), some (.ref 81), some (.int (Int32.ofInt (i)))] [] h := by
  obtain ⟨s, er, o, kp, b, z, u, v, hF, ⟨r82, r85, r81, r83, r91, r92, r93, r94⟩, C, A, AK, h22, hU, ho4⟩ := H
  obtain ⟨hV, hE, hKN, hXc, hKP, hI, hK, hS, hTr⟩ := id C
  have hL3 := hX.2.2.2.2
  have h3x : 0 ≤ o 3 ∧ o 3 ≤ 1 := by have := hI.2.2; omega
  have h3o : o 3 = 0 ∨ o 3 = 1 := by omega
  have hsb : sx_by s := ⟨A.2.1.2.1, A.2.1.2.2.2.1⟩
  have hbz : ∀ j, 0 ≤ j → j < 4 → (b j = 0 ∨ b j = 8 ∨ b j = 16 ∨ b j = 32) ∧ (0 ≤ z j ∧ z j ≤ 40) := fun j j0 j1 => ⟨(hS j j0 j1).1, (hS j j0 j1).2.1⟩
  refine mh_aload1 (pc := 755) F dL_law_755 ?_
  refine mh_callV0 (pc := 756) (As := []) (st := []) F (by omega) (q_thunder (by omega) hF  A.1 hV hE hKN) wv_RL_88_yX11_thunder dL_law_756 sh_0 rfl (by decide) rfl rfl (Nat.le_of_ble_eq_true rfl) hc (fun r1 h1 q1 => ?_)
  obtain ⟨vv, tt, ee, hs1, rfl, F2, fr2, hV2, hE2⟩ := q1
  have r82 : h1 82 = s := (fr2 82 (by decide)).trans r82
  have r85 : h1 85 = er := (fr2 85 (by decide)).trans r85
  have r81 : h1 81 = o := (fr2 81 (by decide)).trans r81
  have r83 : h1 83 = kp := (fr2 83 (by decide)).trans r83
  have r91 : h1 91 = v := (fr2 91 (by decide)).trans r91
  have r92 : h1 92 = b := (fr2 92 (by decide)).trans r92
  have r93 : h1 93 = z := (fr2 93 (by decide)).trans r93
  have r94 : h1 94 = u := (fr2 94 (by decide)).trans r94
  refine mh_aload2 (pc := 759) F dL_law_759 ?_
  refine mh_callV0 (pc := 760) (As := []) (st := [.int (Int32.ofInt (vv))]) F (by omega) (k_thunder0 (by omega) F2 r82  A.1) wv_RL_92_yX12_thunder dL_law_760 sh_81 rfl (by decide) rfl rfl (Nat.le_of_ble_eq_true rfl) hc (fun r2 h2 q2 => ?_)
  obtain ⟨rfl, F3, fr3, t82⟩ := q2
  have hz : (vv, tt, ee) = sp_thunP s er := hs1
  unfold sp_thunP at hz
  simp only [Prod.mk.injEq] at hz
  obtain ⟨ev, g0, g1⟩ := hz
  rw [← ev]
  have r85b : h2 85 = ee := ((fr3 85 (by decide)).trans r85).trans g1.symm
  refine mh_same (pc := 763) (tgt := 1452) F dL_law_763 rfl ?_
  have h4x := A.2.1.2.1
  have h5x := A.2.1.2.2.1
  have hA : sl_A tt ∧ sl_X s tt := by
    have q : sl_A (sp_thunP  s er).2.1 ∧ sl_X s (sp_thunP  s er).2.1 := sl_thun A
    rw [← hs1] at q; exact q
  have hX2 : sc_X h1 tt := sc_X_of hXc (fr2 32 (by decide)) (fr2 43 (by decide)) hA.2 h4x.2 h5x.2
  have hC2 : sl_C h1 tt ee o kp b z u v := C.step (fun a ha => fr2 a (by simp; omega)) hV2 hE2 hX2
  have hC3 := hC2.fr (h2 := h2) (fun a ha => fr3 a (by simp; omega))
  exact K h2 ⟨tt, ee, o, kp, b, z, u, v, F3, ⟨(t82.trans g0.symm), r85b, ((fr3 81 (by decide)).trans r81), ((fr3 83 (by decide)).trans r83), ((fr3 91 (by decide)).trans r91), ((fr3 92 (by decide)).trans r92), ((fr3 93 (by decide)).trans r93), ((fr3 94 (by decide)).trans r94)⟩, hC3, hA.1, AK, h22, hU, (by omega)⟩

set_option maxRecDepth 100000 in
set_option maxHeartbeats 2000000 in
theorem L_then {g : mh_G} {f : mh_F} {d cl sl b0 L : Nat} {xs : Nat → Int32} (hd : 80 ≤ d) (F : mh_Fr g f RL cL_law 4 d) (hX : mh_scr g f b0 L xs) (hc : cl ≤ (mh_R f).cells ∧ sl ≤ (mh_R f).slots) {i : Int} (hi : 0 ≤ i ∧ i + 6 ≤ (L : Int)) {h : Nat → Int → Int} (H : LI i h) (K : ∀ h2, LI (i + 6) h2 → mh_V g f 4 96 cl sl 1452 [some (.ref 1000009), some (.ref 0), some (.ref 81), some (.int (Int32.ofInt (i)))] [] h2) : mh_V g f 4 96 cl sl 768 [some (.ref 1000009), some (.ref 0), some (.ref 81), some (.int (Int32.ofInt (i)))] [] h := by
  obtain ⟨s, er, o, kp, b, z, u, v, hF, ⟨r82, r85, r81, r83, r91, r92, r93, r94⟩, C, A, AK, h22, hU, ho4⟩ := H
  obtain ⟨hV, hE, hKN, hXc, hKP, hI, hK, hS, hTr⟩ := id C
  have hL3 := hX.2.2.2.2
  have h3x : 0 ≤ o 3 ∧ o 3 ≤ 1 := by have := hI.2.2; omega
  have h3o : o 3 = 0 ∨ o 3 = 1 := by omega
  have hsb : sx_by s := ⟨A.2.1.2.1, A.2.1.2.2.2.1⟩
  have hbz : ∀ j, 0 ≤ j → j < 4 → (b j = 0 ∨ b j = 8 ∨ b j = 16 ∨ b j = 32) ∧ (0 ≤ z j ∧ z j ≤ 40) := fun j j0 j1 => ⟨(hS j j0 j1).1, (hS j j0 j1).2.1⟩
  refine mh_aload1 (pc := 768) F dL_law_768 ?_
  refine mh_aload0 (pc := 769) F dL_law_769 ?_
  refine mh_iload3 (pc := 770) F dL_law_770 ?_
  refine mh_iconst (pc := 771) F dL_law_771 ?_
  refine mh_iadd (pc := 772) F dL_law_772 ?_
  refine mh_sld (pc := 773) F hX (by omega) dL_law_773 ?_
  refine mh_aload0 (pc := 774) F dL_law_774 ?_
  refine mh_iload3 (pc := 775) F dL_law_775 ?_
  refine mh_iconst (pc := 776) F dL_law_776 ?_
  refine mh_iadd (pc := 777) F dL_law_777 ?_
  refine mh_sld (pc := 778) F hX (by omega) dL_law_778 ?_
  refine mh_aload0 (pc := 779) F dL_law_779 ?_
  refine mh_iload3 (pc := 780) F dL_law_780 ?_
  refine mh_iconst (pc := 781) F dL_law_781 ?_
  refine mh_iadd (pc := 782) F dL_law_782 ?_
  refine mh_sld (pc := 783) F hX (by omega) dL_law_783 ?_
  refine mh_callV0 (pc := 784) (As := [.int (Int32.ofInt (mh_cx xs (i + 1))), .int (Int32.ofInt (mh_cx xs (i + 2))), .int (Int32.ofInt (mh_cx xs (i + 3)))]) (st := []) F (by omega) (q_then (by omega) hF (mh_cxR _ _) (mh_cxR _ _) (mh_cxR _ _) A.2.1.1 A.1 hV hE hKN) wv_RL_93_yX11_then dL_law_784 sh_0 rfl (by decide) rfl rfl (Nat.le_of_ble_eq_true rfl) hc (fun r1 h1 q1 => ?_)
  obtain ⟨vv, tt, ee, hs1, rfl, F2, fr2, hV2, hE2⟩ := q1
  have r82 : h1 82 = s := (fr2 82 (by decide)).trans r82
  have r85 : h1 85 = er := (fr2 85 (by decide)).trans r85
  have r81 : h1 81 = o := (fr2 81 (by decide)).trans r81
  have r83 : h1 83 = kp := (fr2 83 (by decide)).trans r83
  have r91 : h1 91 = v := (fr2 91 (by decide)).trans r91
  have r92 : h1 92 = b := (fr2 92 (by decide)).trans r92
  have r93 : h1 93 = z := (fr2 93 (by decide)).trans r93
  have r94 : h1 94 = u := (fr2 94 (by decide)).trans r94
  refine mh_aload2 (pc := 787) F dL_law_787 ?_
  refine mh_aload0 (pc := 788) F dL_law_788 ?_
  refine mh_iload3 (pc := 789) F dL_law_789 ?_
  refine mh_iconst (pc := 790) F dL_law_790 ?_
  refine mh_iadd (pc := 791) F dL_law_791 ?_
  refine mh_sld (pc := 792) F hX (by omega) dL_law_792 ?_
  refine mh_aload0 (pc := 793) F dL_law_793 ?_
  refine mh_iload3 (pc := 794) F dL_law_794 ?_
  refine mh_iconst (pc := 795) F dL_law_795 ?_
  refine mh_iadd (pc := 796) F dL_law_796 ?_
  refine mh_sld (pc := 797) F hX (by omega) dL_law_797 ?_
  refine mh_aload0 (pc := 798) F dL_law_798 ?_
  refine mh_iload3 (pc := 799) F dL_law_799 ?_
  refine mh_iconst (pc := 800) F dL_law_800 ?_
  refine mh_iadd (pc := 801) F dL_law_801 ?_
  refine mh_sld (pc := 802) F hX (by omega) dL_law_802 ?_
  refine mh_callV0 (pc := 803) (As := [.int (Int32.ofInt (mh_cx xs (i + 1))), .int (Int32.ofInt (mh_cx xs (i + 2))), .int (Int32.ofInt (mh_cx xs (i + 3)))]) (st := [.int (Int32.ofInt (vv))]) F (by omega) (p_then (by omega) F2 r82 r85 rfl (mh_cxR _ _) (mh_cxR _ _) (mh_cxR _ _) A.2.1.1 A.1) wv_RL_96_yX12_then dL_law_803 sh_81 rfl (by decide) rfl rfl (Nat.le_of_ble_eq_true rfl) hc (fun r2 h2 q2 => ?_)
  obtain ⟨vv2, z0, z1, hs2, rfl, F3, fr3, t82, t85⟩ := q2
  have hz := hs2.trans hs1.symm
  simp only [Prod.mk.injEq] at hz
  obtain ⟨ev, g0, g1⟩ := hz
  rw [ev]
  refine mh_same (pc := 806) (tgt := 1452) F dL_law_806 rfl ?_
  have h4x := A.2.1.2.1
  have h5x := A.2.1.2.2.1
  have hts : tt = s := by
    have q : (sp_thenP (mh_cx xs (i + 1)) (mh_cx xs (i + 2)) (mh_cx xs (i + 3)) s er).2.1 = s := by unfold sp_thenP; (repeat' split) <;> rfl
    rw [← hs1] at q; exact q
  have hA : sl_A tt ∧ sl_X s tt := by rw [hts]; exact ⟨A, sl_X.rf⟩
  have hX2 : sc_X h1 tt := sc_X_of hXc (fr2 32 (by decide)) (fr2 43 (by decide)) hA.2 h4x.2 h5x.2
  have hC2 : sl_C h1 tt ee o kp b z u v := C.step (fun a ha => fr2 a (by simp; omega)) hV2 hE2 hX2
  have hC3 := hC2.fr (h2 := h2) (fun a ha => fr3 a (by simp; omega))
  exact K h2 ⟨tt, ee, o, kp, b, z, u, v, F3, ⟨(t82.trans g0), (t85.trans g1), ((fr3 81 (by decide)).trans r81), ((fr3 83 (by decide)).trans r83), ((fr3 91 (by decide)).trans r91), ((fr3 92 (by decide)).trans r92), ((fr3 93 (by decide)).trans r93), ((fr3 94 (by decide)).trans r94)⟩, hC3, hA.1, AK, h22, hU, (by omega)⟩

set_option maxRecDepth 100000 in
set_option maxHeartbeats 2000000 in
theorem L_relays {g : mh_G} {f : mh_F} {d cl sl b0 L : Nat} {xs : Nat → Int32} (hd : 80 ≤ d) (F : mh_Fr g f RL cL_law 4 d) (hX : mh_scr g f b0 L xs) (hc : cl ≤ (mh_R f).cells ∧ sl ≤ (mh_R f).slots) {i : Int} (hi : 0 ≤ i ∧ i + 6 ≤ (L : Int)) {h : Nat → Int → Int} (H : LI i h) (K : ∀ h2, LI (i + 6) h2 → mh_V g f 4 96 cl sl 1452 [some (.ref 1000009), some (.ref 0), some (.ref 81), some (.int (Int32.ofInt (i)))] [] h2) : mh_V g f 4 96 cl sl 811 [some (.ref 1000009), some (.ref 0), some (.ref 81), some (.int (Int32.ofInt (i)))] [] h := by
  obtain ⟨s, er, o, kp, b, z, u, v, hF, ⟨r82, r85, r81, r83, r91, r92, r93, r94⟩, C, A, AK, h22, hU, ho4⟩ := H
  obtain ⟨hV, hE, hKN, hXc, hKP, hI, hK, hS, hTr⟩ := id C
  have hL3 := hX.2.2.2.2
  have h3x : 0 ≤ o 3 ∧ o 3 ≤ 1 := by have := hI.2.2; omega
  have h3o : o 3 = 0 ∨ o 3 = 1 := by omega
  have hsb : sx_by s := ⟨A.2.1.2.1, A.2.1.2.2.2.1⟩
  have hbz : ∀ j, 0 ≤ j → j < 4 → (b j = 0 ∨ b j = 8 ∨ b j = 16 ∨ b j = 32) ∧ (0 ≤ z j ∧ z j ≤ 40) := fun j j0 j1 => ⟨(hS j j0 j1).1, (hS j j0 j1).2.1⟩
  refine mh_aload1 (pc := 811) F dL_law_811 ?_
  refine mh_aload0 (pc := 812) F dL_law_812 ?_
  refine mh_iload3 (pc := 813) F dL_law_813 ?_
  refine mh_iconst (pc := 814) F dL_law_814 ?_
  refine mh_iadd (pc := 815) F dL_law_815 ?_
  refine mh_sld (pc := 816) F hX (by omega) dL_law_816 ?_
  refine mh_aload0 (pc := 817) F dL_law_817 ?_
  refine mh_iload3 (pc := 818) F dL_law_818 ?_
  refine mh_iconst (pc := 819) F dL_law_819 ?_
  refine mh_iadd (pc := 820) F dL_law_820 ?_
  refine mh_sld (pc := 821) F hX (by omega) dL_law_821 ?_
  refine mh_aload0 (pc := 822) F dL_law_822 ?_
  refine mh_iload3 (pc := 823) F dL_law_823 ?_
  refine mh_iconst (pc := 824) F dL_law_824 ?_
  refine mh_iadd (pc := 825) F dL_law_825 ?_
  refine mh_sld (pc := 826) F hX (by omega) dL_law_826 ?_
  refine mh_callV0 (pc := 827) (As := [.int (Int32.ofInt (mh_cx xs (i + 1))), .int (Int32.ofInt (mh_cx xs (i + 2))), .int (Int32.ofInt (mh_cx xs (i + 3)))]) (st := []) F (by omega) (q_relays (by omega) hF (mh_cxR _ _) (mh_cxR _ _) (mh_cxR _ _) A.1 hV hE hKN) wv_RL_97_yX11_relays dL_law_827 sh_0 rfl (by decide) rfl rfl (Nat.le_of_ble_eq_true rfl) hc (fun r1 h1 q1 => ?_)
  obtain ⟨vv, ee, hs1, rfl, F2, fr2, hE2⟩ := q1
  have r82 : h1 82 = s := (fr2 82 (by decide)).trans r82
  have r85 : h1 85 = er := (fr2 85 (by decide)).trans r85
  have r81 : h1 81 = o := (fr2 81 (by decide)).trans r81
  have r83 : h1 83 = kp := (fr2 83 (by decide)).trans r83
  have r91 : h1 91 = v := (fr2 91 (by decide)).trans r91
  have r92 : h1 92 = b := (fr2 92 (by decide)).trans r92
  have r93 : h1 93 = z := (fr2 93 (by decide)).trans r93
  have r94 : h1 94 = u := (fr2 94 (by decide)).trans r94
  refine mh_aload2 (pc := 830) F dL_law_830 ?_
  refine mh_aload0 (pc := 831) F dL_law_831 ?_
  refine mh_iload3 (pc := 832) F dL_law_832 ?_
  refine mh_iconst (pc := 833) F dL_law_833 ?_
  refine mh_iadd (pc := 834) F dL_law_834 ?_
  refine mh_sld (pc := 835) F hX (by omega) dL_law_835 ?_
  refine mh_aload0 (pc := 836) F dL_law_836 ?_
  refine mh_iload3 (pc := 837) F dL_law_837 ?_
  refine mh_iconst (pc := 838) F dL_law_838 ?_
  refine mh_iadd (pc := 839) F dL_law_839 ?_
  refine mh_sld (pc := 840) F hX (by omega) dL_law_840 ?_
  refine mh_aload0 (pc := 841) F dL_law_841 ?_
  refine mh_iload3 (pc := 842) F dL_law_842 ?_
  refine mh_iconst (pc := 843) F dL_law_843 ?_
  refine mh_iadd (pc := 844) F dL_law_844 ?_
  refine mh_sld (pc := 845) F hX (by omega) dL_law_845 ?_
  refine mh_callV0 (pc := 846) (As := [.int (Int32.ofInt (mh_cx xs (i + 1))), .int (Int32.ofInt (mh_cx xs (i + 2))), .int (Int32.ofInt (mh_cx xs (i + 3)))]) (st := [.int (Int32.ofInt (vv))]) F (by omega) (p_relays (by omega) F2 r82 r85 r81 rfl rfl (mh_cxR _ _) (mh_cxR _ _) (mh_cxR _ _) A.2.1.1 A.1) wv_RL_100_yX12_relays dL_law_846 sh_81 rfl (by decide) rfl rfl (Nat.le_of_ble_eq_true rfl) hc (fun r2 h2 q2 => ?_)
  obtain ⟨vv2, z0, hs2, rfl, F3, fr3, t85, hoo⟩ := q2
  have hz := hs2.trans hs1.symm
  simp only [Prod.mk.injEq] at hz
  obtain ⟨ev, g0⟩ := hz
  rw [ev]
  refine mh_same (pc := 849) (tgt := 1452) F dL_law_849 rfl ?_
  have h4x := A.2.1.2.1
  have h5x := A.2.1.2.2.1
  have hX2 : sc_X h1 s := hXc.of (fr2 32 (by decide)) (fr2 43 (by decide))
  have hV2 : sc_V h1 s := (sc_V_fr hV (fun a a0 a1 a2 a3 => fr2 a (by simp; omega)))
  have hC2 : sl_C h1 s ee o kp b z u v := C.step (fun a ha => fr2 a (by simp; omega)) hV2 hE2 hX2
  have hC3 := hC2.fr (h2 := h2) (fun a ha => fr3 a (by simp; omega))
  exact K h2 ⟨s, ee, (h2 81), kp, b, z, u, v, F3, ⟨((fr3 82 (by decide)).trans r82), (t85.trans g0), rfl, ((fr3 83 (by decide)).trans r83), ((fr3 91 (by decide)).trans r91), ((fr3 92 (by decide)).trans r92), ((fr3 93 (by decide)).trans r93), ((fr3 94 (by decide)).trans r94)⟩, (hC3.o (hoo 3 (by decide)) (hoo 4 (by decide)) (hoo 22 (by decide))), A, (by rw [hoo 3 (by decide)]; exact AK), (by rw [hoo 22 (by decide)]; exact h22), hU, (by have := (hoo 4 (by decide)); omega)⟩

set_option maxRecDepth 100000 in
set_option maxHeartbeats 2000000 in
theorem L_turnsAt {g : mh_G} {f : mh_F} {d cl sl b0 L : Nat} {xs : Nat → Int32} (hd : 80 ≤ d) (F : mh_Fr g f RL cL_law 4 d) (hX : mh_scr g f b0 L xs) (hc : cl ≤ (mh_R f).cells ∧ sl ≤ (mh_R f).slots) {i : Int} (hi : 0 ≤ i ∧ i + 6 ≤ (L : Int)) {h : Nat → Int → Int} (H : LI i h) (K : ∀ h2, LI (i + 6) h2 → mh_V g f 4 96 cl sl 1452 [some (.ref 1000009), some (.ref 0), some (.ref 81), some (.int (Int32.ofInt (i)))] [] h2) : mh_V g f 4 96 cl sl 854 [some (.ref 1000009), some (.ref 0), some (.ref 81), some (.int (Int32.ofInt (i)))] [] h := by
  obtain ⟨s, er, o, kp, b, z, u, v, hF, ⟨r82, r85, r81, r83, r91, r92, r93, r94⟩, C, A, AK, h22, hU, ho4⟩ := H
  obtain ⟨hV, hE, hKN, hXc, hKP, hI, hK, hS, hTr⟩ := id C
  have hL3 := hX.2.2.2.2
  have h3x : 0 ≤ o 3 ∧ o 3 ≤ 1 := by have := hI.2.2; omega
  have h3o : o 3 = 0 ∨ o 3 = 1 := by omega
  have hsb : sx_by s := ⟨A.2.1.2.1, A.2.1.2.2.2.1⟩
  have hbz : ∀ j, 0 ≤ j → j < 4 → (b j = 0 ∨ b j = 8 ∨ b j = 16 ∨ b j = 32) ∧ (0 ≤ z j ∧ z j ≤ 40) := fun j j0 j1 => ⟨(hS j j0 j1).1, (hS j j0 j1).2.1⟩
  refine mh_aload1 (pc := 854) F dL_law_854 ?_
  refine mh_aload0 (pc := 855) F dL_law_855 ?_
  refine mh_iload3 (pc := 856) F dL_law_856 ?_
  refine mh_iconst (pc := 857) F dL_law_857 ?_
  refine mh_iadd (pc := 858) F dL_law_858 ?_
  refine mh_sld (pc := 859) F hX (by omega) dL_law_859 ?_
  refine mh_aload0 (pc := 860) F dL_law_860 ?_
  refine mh_iload3 (pc := 861) F dL_law_861 ?_
  refine mh_iconst (pc := 862) F dL_law_862 ?_
  refine mh_iadd (pc := 863) F dL_law_863 ?_
  refine mh_sld (pc := 864) F hX (by omega) dL_law_864 ?_
  refine mh_callV0 (pc := 865) (As := [.int (Int32.ofInt (mh_cx xs (i + 1))), .int (Int32.ofInt (mh_cx xs (i + 2)))]) (st := []) F (by omega) (q_turnsAt (o := o) (by omega) hF (mh_cxR _ _) (mh_cxR _ _) A.1 hV hE hKN) wv_RL_101_yX11_turnsAt dL_law_865 sh_0 rfl (by decide) rfl rfl (Nat.le_of_ble_eq_true rfl) hc (fun r1 h1 q1 => ?_)
  obtain ⟨vv, tt, ee, hs1, rfl, F2, fr2, hV2, hE2⟩ := q1
  have r82 : h1 82 = s := (fr2 82 (by decide)).trans r82
  have r85 : h1 85 = er := (fr2 85 (by decide)).trans r85
  have r81 : h1 81 = o := (fr2 81 (by decide)).trans r81
  have r83 : h1 83 = kp := (fr2 83 (by decide)).trans r83
  have r91 : h1 91 = v := (fr2 91 (by decide)).trans r91
  have r92 : h1 92 = b := (fr2 92 (by decide)).trans r92
  have r93 : h1 93 = z := (fr2 93 (by decide)).trans r93
  have r94 : h1 94 = u := (fr2 94 (by decide)).trans r94
  refine mh_aload2 (pc := 868) F dL_law_868 ?_
  refine mh_aload0 (pc := 869) F dL_law_869 ?_
  refine mh_iload3 (pc := 870) F dL_law_870 ?_
  refine mh_iconst (pc := 871) F dL_law_871 ?_
  refine mh_iadd (pc := 872) F dL_law_872 ?_
  refine mh_sld (pc := 873) F hX (by omega) dL_law_873 ?_
  refine mh_aload0 (pc := 874) F dL_law_874 ?_
  refine mh_iload3 (pc := 875) F dL_law_875 ?_
  refine mh_iconst (pc := 876) F dL_law_876 ?_
  refine mh_iadd (pc := 877) F dL_law_877 ?_
  refine mh_sld (pc := 878) F hX (by omega) dL_law_878 ?_
  refine mh_callV0 (pc := 879) (As := [.int (Int32.ofInt (mh_cx xs (i + 1))), .int (Int32.ofInt (mh_cx xs (i + 2)))]) (st := [.int (Int32.ofInt (vv))]) F (by omega) (p_turnsAt (by omega) F2 r82 r85 r81 (mh_cxR _ _) (mh_cxR _ _) A.2.1.1 A.1) wv_RL_104_yX12_turnsAt dL_law_879 sh_81 rfl (by decide) rfl rfl (Nat.le_of_ble_eq_true rfl) hc (fun r2 h2 q2 => ?_)
  obtain ⟨vv2, z0, z1, hs2, rfl, F3, fr3, t82, t85, hoo⟩ := q2
  have hz := hs2.trans hs1.symm
  simp only [Prod.mk.injEq] at hz
  obtain ⟨ev, g0, g1⟩ := hz
  rw [ev]
  refine mh_same (pc := 882) (tgt := 1452) F dL_law_882 rfl ?_
  have h4x := A.2.1.2.1
  have h5x := A.2.1.2.2.1
  have hts : tt = s := by
    have q : (sp_turnsAt (mh_cx xs (i + 1)) (mh_cx xs (i + 2)) s er o).2.1 = s := by unfold sp_turnsAt; (repeat' split) <;> rfl
    rw [← hs1] at q; exact q
  have hA : sl_A tt ∧ sl_X s tt := by rw [hts]; exact ⟨A, sl_X.rf⟩
  have hX2 : sc_X h1 tt := sc_X_of hXc (fr2 32 (by decide)) (fr2 43 (by decide)) hA.2 h4x.2 h5x.2
  have hC2 : sl_C h1 tt ee o kp b z u v := C.step (fun a ha => fr2 a (by simp; omega)) hV2 hE2 hX2
  have hC3 := hC2.fr (h2 := h2) (fun a ha => fr3 a (by simp; omega))
  exact K h2 ⟨tt, ee, (h2 81), kp, b, z, u, v, F3, ⟨(t82.trans g0), (t85.trans g1), rfl, ((fr3 83 (by decide)).trans r83), ((fr3 91 (by decide)).trans r91), ((fr3 92 (by decide)).trans r92), ((fr3 93 (by decide)).trans r93), ((fr3 94 (by decide)).trans r94)⟩, (hC3.o (hoo 3 (by omega)) (hoo 4 (by omega)) (hoo 22 (by omega))), hA.1, (by rw [hoo 3 (by omega)]; exact AK), (by rw [hoo 22 (by omega)]; exact h22), hU, (by have := (hoo 4 (by omega)); omega)⟩

set_option maxRecDepth 100000 in
set_option maxHeartbeats 2000000 in
theorem L_bestGiven {g : mh_G} {f : mh_F} {d cl sl b0 L : Nat} {xs : Nat → Int32} (hd : 80 ≤ d) (F : mh_Fr g f RL cL_law 4 d) (hX : mh_scr g f b0 L xs) (hc : cl ≤ (mh_R f).cells ∧ sl ≤ (mh_R f).slots) {i : Int} (hi : 0 ≤ i ∧ i + 6 ≤ (L : Int)) {h : Nat → Int → Int} (H : LI i h) (K : ∀ h2, LI (i + 6) h2 → mh_V g f 4 96 cl sl 1452 [some (.ref 1000009), some (.ref 0), some (.ref 81), some (.int (Int32.ofInt (i)))] [] h2) : mh_V g f 4 96 cl sl 887 [some (.ref 1000009), some (.ref 0), some (.ref 81), some (.int (Int32.ofInt (i)))] [] h := by
  obtain ⟨s, er, o, kp, b, z, u, v, hF, ⟨r82, r85, r81, r83, r91, r92, r93, r94⟩, C, A, AK, h22, hU, ho4⟩ := H
  obtain ⟨hV, hE, hKN, hXc, hKP, hI, hK, hS, hTr⟩ := id C
  have hL3 := hX.2.2.2.2
  have h3x : 0 ≤ o 3 ∧ o 3 ≤ 1 := by have := hI.2.2; omega
  have h3o : o 3 = 0 ∨ o 3 = 1 := by omega
  have hsb : sx_by s := ⟨A.2.1.2.1, A.2.1.2.2.2.1⟩
  have hbz : ∀ j, 0 ≤ j → j < 4 → (b j = 0 ∨ b j = 8 ∨ b j = 16 ∨ b j = 32) ∧ (0 ≤ z j ∧ z j ≤ 40) := fun j j0 j1 => ⟨(hS j j0 j1).1, (hS j j0 j1).2.1⟩
  refine mh_aload1 (pc := 887) F dL_law_887 ?_
  refine mh_aload0 (pc := 888) F dL_law_888 ?_
  refine mh_iload3 (pc := 889) F dL_law_889 ?_
  refine mh_iconst (pc := 890) F dL_law_890 ?_
  refine mh_iadd (pc := 891) F dL_law_891 ?_
  refine mh_sld (pc := 892) F hX (by omega) dL_law_892 ?_
  refine mh_aload0 (pc := 893) F dL_law_893 ?_
  refine mh_iload3 (pc := 894) F dL_law_894 ?_
  refine mh_iconst (pc := 895) F dL_law_895 ?_
  refine mh_iadd (pc := 896) F dL_law_896 ?_
  refine mh_sld (pc := 897) F hX (by omega) dL_law_897 ?_
  refine mh_aload0 (pc := 898) F dL_law_898 ?_
  refine mh_iload3 (pc := 899) F dL_law_899 ?_
  refine mh_iconst (pc := 900) F dL_law_900 ?_
  refine mh_iadd (pc := 901) F dL_law_901 ?_
  refine mh_sld (pc := 902) F hX (by omega) dL_law_902 ?_
  refine mh_callV0 (pc := 903) (As := [.int (Int32.ofInt (mh_cx xs (i + 1))), .int (Int32.ofInt (mh_cx xs (i + 2))), .int (Int32.ofInt (mh_cx xs (i + 3)))]) (st := []) F (by omega) (q_bestGiven (o := o) (by omega) hF (mh_cxR _ _) (mh_cxR _ _) (mh_cxR _ _) A.1 hV hE hKN) wv_RL_105_yX11_bestGiven dL_law_903 sh_0 rfl (by decide) rfl rfl (Nat.le_of_ble_eq_true rfl) hc (fun r1 h1 q1 => ?_)
  obtain ⟨vv, tt, ee, hs1, rfl, F2, fr2, hV2, hE2⟩ := q1
  have r82 : h1 82 = s := (fr2 82 (by decide)).trans r82
  have r85 : h1 85 = er := (fr2 85 (by decide)).trans r85
  have r81 : h1 81 = o := (fr2 81 (by decide)).trans r81
  have r83 : h1 83 = kp := (fr2 83 (by decide)).trans r83
  have r91 : h1 91 = v := (fr2 91 (by decide)).trans r91
  have r92 : h1 92 = b := (fr2 92 (by decide)).trans r92
  have r93 : h1 93 = z := (fr2 93 (by decide)).trans r93
  have r94 : h1 94 = u := (fr2 94 (by decide)).trans r94
  refine mh_aload2 (pc := 906) F dL_law_906 ?_
  refine mh_aload0 (pc := 907) F dL_law_907 ?_
  refine mh_iload3 (pc := 908) F dL_law_908 ?_
  refine mh_iconst (pc := 909) F dL_law_909 ?_
  refine mh_iadd (pc := 910) F dL_law_910 ?_
  refine mh_sld (pc := 911) F hX (by omega) dL_law_911 ?_
  refine mh_aload0 (pc := 912) F dL_law_912 ?_
  refine mh_iload3 (pc := 913) F dL_law_913 ?_
  refine mh_iconst (pc := 914) F dL_law_914 ?_
  refine mh_iadd (pc := 915) F dL_law_915 ?_
  refine mh_sld (pc := 916) F hX (by omega) dL_law_916 ?_
  refine mh_aload0 (pc := 917) F dL_law_917 ?_
  refine mh_iload3 (pc := 918) F dL_law_918 ?_
  refine mh_iconst (pc := 919) F dL_law_919 ?_
  refine mh_iadd (pc := 920) F dL_law_920 ?_
  refine mh_sld (pc := 921) F hX (by omega) dL_law_921 ?_
  refine mh_callV0 (pc := 922) (As := [.int (Int32.ofInt (mh_cx xs (i + 1))), .int (Int32.ofInt (mh_cx xs (i + 2))), .int (Int32.ofInt (mh_cx xs (i + 3)))]) (st := [.int (Int32.ofInt (vv))]) F (by omega) (p_bestGiven (by omega) F2 r82 r85 r81 (mh_cxR _ _) (mh_cxR _ _) (mh_cxR _ _) A.2.1.1 A.1) wv_RL_108_yX12_bestGiven dL_law_922 sh_81 rfl (by decide) rfl rfl (Nat.le_of_ble_eq_true rfl) hc (fun r2 h2 q2 => ?_)
  obtain ⟨vv2, z0, z1, hs2, rfl, F3, fr3, t82, t85, hoo⟩ := q2
  have hz := hs2.trans hs1.symm
  simp only [Prod.mk.injEq] at hz
  obtain ⟨ev, g0, g1⟩ := hz
  rw [ev]
  refine mh_same (pc := 925) (tgt := 1452) F dL_law_925 rfl ?_
  have h4x := A.2.1.2.1
  have h5x := A.2.1.2.2.1
  have hts : tt = s := by
    have q : (sp_best (mh_cx xs (i + 1)) (mh_cx xs (i + 2)) (mh_cx xs (i + 3)) s er o).2.1 = s := by unfold sp_best; (repeat' split) <;> rfl
    rw [← hs1] at q; exact q
  have hA : sl_A tt ∧ sl_X s tt := by rw [hts]; exact ⟨A, sl_X.rf⟩
  have hX2 : sc_X h1 tt := sc_X_of hXc (fr2 32 (by decide)) (fr2 43 (by decide)) hA.2 h4x.2 h5x.2
  have hC2 : sl_C h1 tt ee o kp b z u v := C.step (fun a ha => fr2 a (by simp; omega)) hV2 hE2 hX2
  have hC3 := hC2.fr (h2 := h2) (fun a ha => fr3 a (by simp; omega))
  exact K h2 ⟨tt, ee, (h2 81), kp, b, z, u, v, F3, ⟨(t82.trans g0), (t85.trans g1), rfl, ((fr3 83 (by decide)).trans r83), ((fr3 91 (by decide)).trans r91), ((fr3 92 (by decide)).trans r92), ((fr3 93 (by decide)).trans r93), ((fr3 94 (by decide)).trans r94)⟩, (hC3.o (hoo 3 (by omega)) (hoo 4 (by omega)) (hoo 22 (by omega))), hA.1, (by rw [hoo 3 (by omega)]; exact AK), (by rw [hoo 22 (by omega)]; exact h22), hU, (by have := (hoo 4 (by omega)); omega)⟩

set_option maxRecDepth 100000 in
set_option maxHeartbeats 2000000 in
theorem L_cellar {g : mh_G} {f : mh_F} {d cl sl b0 L : Nat} {xs : Nat → Int32} (hd : 80 ≤ d) (F : mh_Fr g f RL cL_law 4 d) (hX : mh_scr g f b0 L xs) (hc : cl ≤ (mh_R f).cells ∧ sl ≤ (mh_R f).slots) {i : Int} (hi : 0 ≤ i ∧ i + 6 ≤ (L : Int)) {h : Nat → Int → Int} (H : LI i h) (K : ∀ h2, LI (i + 6) h2 → mh_V g f 4 96 cl sl 1452 [some (.ref 1000009), some (.ref 0), some (.ref 81), some (.int (Int32.ofInt (i)))] [] h2) : mh_V g f 4 96 cl sl 930 [some (.ref 1000009), some (.ref 0), some (.ref 81), some (.int (Int32.ofInt (i)))] [] h := by
  obtain ⟨s, er, o, kp, b, z, u, v, hF, ⟨r82, r85, r81, r83, r91, r92, r93, r94⟩, C, A, AK, h22, hU, ho4⟩ := H
  obtain ⟨hV, hE, hKN, hXc, hKP, hI, hK, hS, hTr⟩ := id C
  have hL3 := hX.2.2.2.2
  have h3x : 0 ≤ o 3 ∧ o 3 ≤ 1 := by have := hI.2.2; omega
  have h3o : o 3 = 0 ∨ o 3 = 1 := by omega
  have hsb : sx_by s := ⟨A.2.1.2.1, A.2.1.2.2.2.1⟩
  have hbz : ∀ j, 0 ≤ j → j < 4 → (b j = 0 ∨ b j = 8 ∨ b j = 16 ∨ b j = 32) ∧ (0 ≤ z j ∧ z j ≤ 40) := fun j j0 j1 => ⟨(hS j j0 j1).1, (hS j j0 j1).2.1⟩
  refine mh_aload1 (pc := 930) F dL_law_930 ?_
  refine mh_aload0 (pc := 931) F dL_law_931 ?_
  refine mh_iload3 (pc := 932) F dL_law_932 ?_
  refine mh_iconst (pc := 933) F dL_law_933 ?_
  refine mh_iadd (pc := 934) F dL_law_934 ?_
  refine mh_sld (pc := 935) F hX (by omega) dL_law_935 ?_
  refine mh_aload0 (pc := 936) F dL_law_936 ?_
  refine mh_iload3 (pc := 937) F dL_law_937 ?_
  refine mh_iconst (pc := 938) F dL_law_938 ?_
  refine mh_iadd (pc := 939) F dL_law_939 ?_
  refine mh_sld (pc := 940) F hX (by omega) dL_law_940 ?_
  refine mh_aload0 (pc := 941) F dL_law_941 ?_
  refine mh_iload3 (pc := 942) F dL_law_942 ?_
  refine mh_iconst (pc := 943) F dL_law_943 ?_
  refine mh_iadd (pc := 944) F dL_law_944 ?_
  refine mh_sld (pc := 945) F hX (by omega) dL_law_945 ?_
  refine mh_callV0 (pc := 946) (As := [.int (Int32.ofInt (mh_cx xs (i + 1))), .int (Int32.ofInt (mh_cx xs (i + 2))), .int (Int32.ofInt (mh_cx xs (i + 3)))]) (st := []) F (by omega) (q_cellar (by omega) hF (mh_cxR _ _) (mh_cxR _ _) (mh_cxR _ _) A.1 hV hE hKN) wv_RL_109_yX11_cellar dL_law_946 sh_0 rfl (by decide) rfl rfl (Nat.le_of_ble_eq_true rfl) hc (fun r1 h1 q1 => ?_)
  obtain ⟨vv, ee, hs1, rfl, F2, fr2, hE2⟩ := q1
  have r82 : h1 82 = s := (fr2 82 (by decide)).trans r82
  have r85 : h1 85 = er := (fr2 85 (by decide)).trans r85
  have r81 : h1 81 = o := (fr2 81 (by decide)).trans r81
  have r83 : h1 83 = kp := (fr2 83 (by decide)).trans r83
  have r91 : h1 91 = v := (fr2 91 (by decide)).trans r91
  have r92 : h1 92 = b := (fr2 92 (by decide)).trans r92
  have r93 : h1 93 = z := (fr2 93 (by decide)).trans r93
  have r94 : h1 94 = u := (fr2 94 (by decide)).trans r94
  refine mh_aload2 (pc := 949) F dL_law_949 ?_
  refine mh_aload0 (pc := 950) F dL_law_950 ?_
  refine mh_iload3 (pc := 951) F dL_law_951 ?_
  refine mh_iconst (pc := 952) F dL_law_952 ?_
  refine mh_iadd (pc := 953) F dL_law_953 ?_
  refine mh_sld (pc := 954) F hX (by omega) dL_law_954 ?_
  refine mh_aload0 (pc := 955) F dL_law_955 ?_
  refine mh_iload3 (pc := 956) F dL_law_956 ?_
  refine mh_iconst (pc := 957) F dL_law_957 ?_
  refine mh_iadd (pc := 958) F dL_law_958 ?_
  refine mh_sld (pc := 959) F hX (by omega) dL_law_959 ?_
  refine mh_aload0 (pc := 960) F dL_law_960 ?_
  refine mh_iload3 (pc := 961) F dL_law_961 ?_
  refine mh_iconst (pc := 962) F dL_law_962 ?_
  refine mh_iadd (pc := 963) F dL_law_963 ?_
  refine mh_sld (pc := 964) F hX (by omega) dL_law_964 ?_
  refine mh_callV0 (pc := 965) (As := [.int (Int32.ofInt (mh_cx xs (i + 1))), .int (Int32.ofInt (mh_cx xs (i + 2))), .int (Int32.ofInt (mh_cx xs (i + 3)))]) (st := [.int (Int32.ofInt (vv))]) F (by omega) (p_cellar (by omega) F2 r82 r85 r81 rfl rfl (mh_cxR _ _) (mh_cxR _ _) (mh_cxR _ _) A.2.1.1 A.1) wv_RL_112_yX12_cellar dL_law_965 sh_81 rfl (by decide) rfl rfl (Nat.le_of_ble_eq_true rfl) hc (fun r2 h2 q2 => ?_)
  obtain ⟨vv2, z0, hs2, rfl, F3, fr3, t85, t82c, hoo⟩ := q2
  have hz := hs2.trans hs1.symm
  simp only [Prod.mk.injEq] at hz
  obtain ⟨ev, g0⟩ := hz
  rw [ev]
  refine mh_same (pc := 968) (tgt := 1452) F dL_law_968 rfl ?_
  have h4x := A.2.1.2.1
  have h5x := A.2.1.2.2.1
  have hX2 : sc_X h1 s := hXc.of (fr2 32 (by decide)) (fr2 43 (by decide))
  have hV2 : sc_V h1 s := (sc_V_fr hV (fun a a0 a1 a2 a3 => fr2 a (by simp; omega)))
  have hC2 : sl_C h1 s ee o kp b z u v := C.step (fun a ha => fr2 a (by simp; omega)) hV2 hE2 hX2
  have hC3 := hC2.fr (h2 := h2) (fun a ha => fr3 a (by simp; omega))
  exact K h2 ⟨s, ee, (h2 81), kp, b, z, u, v, F3, ⟨t82c, (t85.trans g0), rfl, ((fr3 83 (by decide)).trans r83), ((fr3 91 (by decide)).trans r91), ((fr3 92 (by decide)).trans r92), ((fr3 93 (by decide)).trans r93), ((fr3 94 (by decide)).trans r94)⟩, (hC3.o (hoo 3 (by decide)) (hoo 4 (by decide)) (hoo 22 (by decide))), A, (by rw [hoo 3 (by decide)]; exact AK), (by rw [hoo 22 (by decide)]; exact h22), hU, (by have := (hoo 4 (by decide)); omega)⟩

set_option maxRecDepth 100000 in
set_option maxHeartbeats 2000000 in
theorem L_odds {g : mh_G} {f : mh_F} {d cl sl b0 L : Nat} {xs : Nat → Int32} (hd : 80 ≤ d) (F : mh_Fr g f RL cL_law 4 d) (hX : mh_scr g f b0 L xs) (hc : cl ≤ (mh_R f).cells ∧ sl ≤ (mh_R f).slots) {i : Int} (hi : 0 ≤ i ∧ i + 6 ≤ (L : Int)) {h : Nat → Int → Int} (H : LI i h) (K : ∀ h2, LI (i + 6) h2 → mh_V g f 4 96 cl sl 1452 [some (.ref 1000009), some (.ref 0), some (.ref 81), some (.int (Int32.ofInt (i)))] [] h2) : mh_V g f 4 96 cl sl 973 [some (.ref 1000009), some (.ref 0), some (.ref 81), some (.int (Int32.ofInt (i)))] [] h := by
  obtain ⟨s, er, o, kp, b, z, u, v, hF, ⟨r82, r85, r81, r83, r91, r92, r93, r94⟩, C, A, AK, h22, hU, ho4⟩ := H
  obtain ⟨hV, hE, hKN, hXc, hKP, hI, hK, hS, hTr⟩ := id C
  have hL3 := hX.2.2.2.2
  have h3x : 0 ≤ o 3 ∧ o 3 ≤ 1 := by have := hI.2.2; omega
  have h3o : o 3 = 0 ∨ o 3 = 1 := by omega
  have hsb : sx_by s := ⟨A.2.1.2.1, A.2.1.2.2.2.1⟩
  have hbz : ∀ j, 0 ≤ j → j < 4 → (b j = 0 ∨ b j = 8 ∨ b j = 16 ∨ b j = 32) ∧ (0 ≤ z j ∧ z j ≤ 40) := fun j j0 j1 => ⟨(hS j j0 j1).1, (hS j j0 j1).2.1⟩
  refine mh_aload1 (pc := 973) F dL_law_973 ?_
  refine mh_aload0 (pc := 974) F dL_law_974 ?_
  refine mh_iload3 (pc := 975) F dL_law_975 ?_
  refine mh_iconst (pc := 976) F dL_law_976 ?_
  refine mh_iadd (pc := 977) F dL_law_977 ?_
  refine mh_sld (pc := 978) F hX (by omega) dL_law_978 ?_
  refine mh_aload0 (pc := 979) F dL_law_979 ?_
  refine mh_iload3 (pc := 980) F dL_law_980 ?_
  refine mh_iconst (pc := 981) F dL_law_981 ?_
  refine mh_iadd (pc := 982) F dL_law_982 ?_
  refine mh_sld (pc := 983) F hX (by omega) dL_law_983 ?_
  refine mh_aload0 (pc := 984) F dL_law_984 ?_
  refine mh_iload3 (pc := 985) F dL_law_985 ?_
  refine mh_iconst (pc := 986) F dL_law_986 ?_
  refine mh_iadd (pc := 987) F dL_law_987 ?_
  refine mh_sld (pc := 988) F hX (by omega) dL_law_988 ?_
  refine mh_callV0 (pc := 989) (As := [.int (Int32.ofInt (mh_cx xs (i + 1))), .int (Int32.ofInt (mh_cx xs (i + 2))), .int (Int32.ofInt (mh_cx xs (i + 3)))]) (st := []) F (by omega) (q_odds (by omega) hF (mh_cxR _ _) (mh_cxR _ _) (mh_cxR _ _) hV hE) wv_RL_113_yX11_odds dL_law_989 sh_0 rfl (by decide) rfl rfl (Nat.le_of_ble_eq_true rfl) hc (fun r1 h1 q1 => ?_)
  obtain ⟨vv, ee, hs1, rfl, F2, fr2, hE2⟩ := q1
  have r82 : h1 82 = s := (fr2 82 (by decide)).trans r82
  have r85 : h1 85 = er := (fr2 85 (by decide)).trans r85
  have r81 : h1 81 = o := (fr2 81 (by decide)).trans r81
  have r83 : h1 83 = kp := (fr2 83 (by decide)).trans r83
  have r91 : h1 91 = v := (fr2 91 (by decide)).trans r91
  have r92 : h1 92 = b := (fr2 92 (by decide)).trans r92
  have r93 : h1 93 = z := (fr2 93 (by decide)).trans r93
  have r94 : h1 94 = u := (fr2 94 (by decide)).trans r94
  refine mh_aload2 (pc := 992) F dL_law_992 ?_
  refine mh_aload0 (pc := 993) F dL_law_993 ?_
  refine mh_iload3 (pc := 994) F dL_law_994 ?_
  refine mh_iconst (pc := 995) F dL_law_995 ?_
  refine mh_iadd (pc := 996) F dL_law_996 ?_
  refine mh_sld (pc := 997) F hX (by omega) dL_law_997 ?_
  refine mh_aload0 (pc := 998) F dL_law_998 ?_
  refine mh_iload3 (pc := 999) F dL_law_999 ?_
  refine mh_iconst (pc := 1000) F dL_law_1000 ?_
  refine mh_iadd (pc := 1001) F dL_law_1001 ?_
  refine mh_sld (pc := 1002) F hX (by omega) dL_law_1002 ?_
  refine mh_aload0 (pc := 1003) F dL_law_1003 ?_
  refine mh_iload3 (pc := 1004) F dL_law_1004 ?_
  refine mh_iconst (pc := 1005) F dL_law_1005 ?_
  refine mh_iadd (pc := 1006) F dL_law_1006 ?_
  refine mh_sld (pc := 1007) F hX (by omega) dL_law_1007 ?_
  refine mh_callV0 (pc := 1008) (As := [.int (Int32.ofInt (mh_cx xs (i + 1))), .int (Int32.ofInt (mh_cx xs (i + 2))), .int (Int32.ofInt (mh_cx xs (i + 3)))]) (st := [.long (Int64.ofInt (vv))]) F (by omega) (p_odds (by omega) F2 r85 (mh_cxR _ _) (mh_cxR _ _) (mh_cxR _ _) ) wv_RL_117_yX12_odds dL_law_1008 sh_81 rfl (by decide) rfl rfl (Nat.le_of_ble_eq_true rfl) hc (fun r2 h2 q2 => ?_)
  obtain ⟨vv2, z0, hs2, rfl, F3, fr3, t85⟩ := q2
  have hz := hs2.trans hs1.symm
  simp only [Prod.mk.injEq] at hz
  obtain ⟨ev, g0⟩ := hz
  rw [ev]
  refine mh_sameL (pc := 1011) F dL_law_1011 ?_
  refine mh_if_eq (pc := 1012) (tgt := 1452) F dL_law_1012 rfl (by omega) (fun c_1012 => ?_) (fun c_1012 => ?_)
  · have h4x := A.2.1.2.1
    have h5x := A.2.1.2.2.1
    have hX2 : sc_X h1 s := hXc.of (fr2 32 (by decide)) (fr2 43 (by decide))
    have hV2 : sc_V h1 s := (sc_V_fr hV (fun a a0 a1 a2 a3 => fr2 a (by simp; omega)))
    have hC2 : sl_C h1 s ee o kp b z u v := C.step (fun a ha => fr2 a (by simp; omega)) hV2 hE2 hX2
    have hC3 := hC2.fr (h2 := h2) (fun a ha => fr3 a (by simp; omega))
    exact K h2 ⟨s, ee, o, kp, b, z, u, v, F3, ⟨((fr3 82 (by decide)).trans r82), (t85.trans g0), ((fr3 81 (by decide)).trans r81), ((fr3 83 (by decide)).trans r83), ((fr3 91 (by decide)).trans r91), ((fr3 92 (by decide)).trans r92), ((fr3 93 (by decide)).trans r93), ((fr3 94 (by decide)).trans r94)⟩, hC3, A, AK, h22, hU, (by omega)⟩
  · exact absurd c_1012 (by decide)

set_option maxRecDepth 100000 in
set_option maxHeartbeats 2000000 in
theorem L_byWhom {g : mh_G} {f : mh_F} {d cl sl b0 L : Nat} {xs : Nat → Int32} (hd : 80 ≤ d) (F : mh_Fr g f RL cL_law 4 d) (hX : mh_scr g f b0 L xs) (hc : cl ≤ (mh_R f).cells ∧ sl ≤ (mh_R f).slots) {i : Int} (hi : 0 ≤ i ∧ i + 6 ≤ (L : Int)) {h : Nat → Int → Int} (H : LI i h) (K : ∀ h2, LI (i + 6) h2 → mh_V g f 4 96 cl sl 1452 [some (.ref 1000009), some (.ref 0), some (.ref 81), some (.int (Int32.ofInt (i)))] [] h2) : mh_V g f 4 96 cl sl 1017 [some (.ref 1000009), some (.ref 0), some (.ref 81), some (.int (Int32.ofInt (i)))] [] h := by
  obtain ⟨s, er, o, kp, b, z, u, v, hF, ⟨r82, r85, r81, r83, r91, r92, r93, r94⟩, C, A, AK, h22, hU, ho4⟩ := H
  obtain ⟨hV, hE, hKN, hXc, hKP, hI, hK, hS, hTr⟩ := id C
  have hL3 := hX.2.2.2.2
  have h3x : 0 ≤ o 3 ∧ o 3 ≤ 1 := by have := hI.2.2; omega
  have h3o : o 3 = 0 ∨ o 3 = 1 := by omega
  have hsb : sx_by s := ⟨A.2.1.2.1, A.2.1.2.2.2.1⟩
  have hbz : ∀ j, 0 ≤ j → j < 4 → (b j = 0 ∨ b j = 8 ∨ b j = 16 ∨ b j = 32) ∧ (0 ≤ z j ∧ z j ≤ 40) := fun j j0 j1 => ⟨(hS j j0 j1).1, (hS j j0 j1).2.1⟩
  refine mh_aload1 (pc := 1017) F dL_law_1017 ?_
  refine mh_aload0 (pc := 1018) F dL_law_1018 ?_
  refine mh_iload3 (pc := 1019) F dL_law_1019 ?_
  refine mh_iconst (pc := 1020) F dL_law_1020 ?_
  refine mh_iadd (pc := 1021) F dL_law_1021 ?_
  refine mh_sld (pc := 1022) F hX (by omega) dL_law_1022 ?_
  refine mh_aload0 (pc := 1023) F dL_law_1023 ?_
  refine mh_iload3 (pc := 1024) F dL_law_1024 ?_
  refine mh_iconst (pc := 1025) F dL_law_1025 ?_
  refine mh_iadd (pc := 1026) F dL_law_1026 ?_
  refine mh_sld (pc := 1027) F hX (by omega) dL_law_1027 ?_
  refine mh_aload0 (pc := 1028) F dL_law_1028 ?_
  refine mh_iload3 (pc := 1029) F dL_law_1029 ?_
  refine mh_iconst (pc := 1030) F dL_law_1030 ?_
  refine mh_iadd (pc := 1031) F dL_law_1031 ?_
  refine mh_sld (pc := 1032) F hX (by omega) dL_law_1032 ?_
  refine mh_callV0 (pc := 1033) (As := [.int (Int32.ofInt (mh_cx xs (i + 1))), .int (Int32.ofInt (mh_cx xs (i + 2))), .int (Int32.ofInt (mh_cx xs (i + 3)))]) (st := []) F (by omega) (q_byWhom (o := o) (by omega) hF (mh_cxR _ _) (mh_cxR _ _) (mh_cxR _ _) A.1 hV hE hKN) wv_RL_118_yX11_byWhom dL_law_1033 sh_0 rfl (by decide) rfl rfl (Nat.le_of_ble_eq_true rfl) hc (fun r1 h1 q1 => ?_)
  obtain ⟨vv, tt, ee, hs1, rfl, F2, fr2, hV2, hE2⟩ := q1
  have r82 : h1 82 = s := (fr2 82 (by decide)).trans r82
  have r85 : h1 85 = er := (fr2 85 (by decide)).trans r85
  have r81 : h1 81 = o := (fr2 81 (by decide)).trans r81
  have r83 : h1 83 = kp := (fr2 83 (by decide)).trans r83
  have r91 : h1 91 = v := (fr2 91 (by decide)).trans r91
  have r92 : h1 92 = b := (fr2 92 (by decide)).trans r92
  have r93 : h1 93 = z := (fr2 93 (by decide)).trans r93
  have r94 : h1 94 = u := (fr2 94 (by decide)).trans r94
  refine mh_aload2 (pc := 1036) F dL_law_1036 ?_
  refine mh_aload0 (pc := 1037) F dL_law_1037 ?_
  refine mh_iload3 (pc := 1038) F dL_law_1038 ?_
  refine mh_iconst (pc := 1039) F dL_law_1039 ?_
  refine mh_iadd (pc := 1040) F dL_law_1040 ?_
  refine mh_sld (pc := 1041) F hX (by omega) dL_law_1041 ?_
  refine mh_aload0 (pc := 1042) F dL_law_1042 ?_
  refine mh_iload3 (pc := 1043) F dL_law_1043 ?_
  refine mh_iconst (pc := 1044) F dL_law_1044 ?_
  refine mh_iadd (pc := 1045) F dL_law_1045 ?_
  refine mh_sld (pc := 1046) F hX (by omega) dL_law_1046 ?_
  refine mh_aload0 (pc := 1047) F dL_law_1047 ?_
  refine mh_iload3 (pc := 1048) F dL_law_1048 ?_
  refine mh_iconst (pc := 1049) F dL_law_1049 ?_
  refine mh_iadd (pc := 1050) F dL_law_1050 ?_
  refine mh_sld (pc := 1051) F hX (by omega) dL_law_1051 ?_
  refine mh_callV0 (pc := 1052) (As := [.int (Int32.ofInt (mh_cx xs (i + 1))), .int (Int32.ofInt (mh_cx xs (i + 2))), .int (Int32.ofInt (mh_cx xs (i + 3)))]) (st := [.int (Int32.ofInt (vv))]) F (by omega) (p_byWhom (by omega) F2 r82 r85 r81 (mh_cxR _ _) (mh_cxR _ _) (mh_cxR _ _) A.1) wv_RL_121_yX12_byWhom dL_law_1052 sh_81 rfl (by decide) rfl rfl (Nat.le_of_ble_eq_true rfl) hc (fun r2 h2 q2 => ?_)
  obtain ⟨vv2, z0, z1, hs2, rfl, F3, fr3, t82, t85, hoo⟩ := q2
  have hz := hs2.trans hs1.symm
  simp only [Prod.mk.injEq] at hz
  obtain ⟨ev, g0, g1⟩ := hz
  rw [ev]
  refine mh_same (pc := 1055) (tgt := 1452) F dL_law_1055 rfl ?_
  have h4x := A.2.1.2.1
  have h5x := A.2.1.2.2.1
  have hts : tt = s := by
    have q : (sp_byWhom (mh_cx xs (i + 1)) (mh_cx xs (i + 2)) (mh_cx xs (i + 3)) s er o).2.1 = s := by unfold sp_byWhom; (repeat' split) <;> rfl
    rw [← hs1] at q; exact q
  have hA : sl_A tt ∧ sl_X s tt := by rw [hts]; exact ⟨A, sl_X.rf⟩
  have hX2 : sc_X h1 tt := sc_X_of hXc (fr2 32 (by decide)) (fr2 43 (by decide)) hA.2 h4x.2 h5x.2
  have hC2 : sl_C h1 tt ee o kp b z u v := C.step (fun a ha => fr2 a (by simp; omega)) hV2 hE2 hX2
  have hC3 := hC2.fr (h2 := h2) (fun a ha => fr3 a (by simp; omega))
  exact K h2 ⟨tt, ee, (h2 81), kp, b, z, u, v, F3, ⟨(t82.trans g0), (t85.trans g1), rfl, ((fr3 83 (by decide)).trans r83), ((fr3 91 (by decide)).trans r91), ((fr3 92 (by decide)).trans r92), ((fr3 93 (by decide)).trans r93), ((fr3 94 (by decide)).trans r94)⟩, (hC3.o (hoo 3 (by omega)) (hoo 4 (by omega)) (hoo 22 (by omega))), hA.1, (by rw [hoo 3 (by omega)]; exact AK), (by rw [hoo 22 (by omega)]; exact h22), hU, (by have := (hoo 4 (by omega)); omega)⟩

set_option maxRecDepth 100000 in
set_option maxHeartbeats 2000000 in
theorem L_seed {g : mh_G} {f : mh_F} {d cl sl b0 L : Nat} {xs : Nat → Int32} (hd : 80 ≤ d) (F : mh_Fr g f RL cL_law 4 d) (hX : mh_scr g f b0 L xs) (hc : cl ≤ (mh_R f).cells ∧ sl ≤ (mh_R f).slots) {i : Int} (hi : 0 ≤ i ∧ i + 6 ≤ (L : Int)) {h : Nat → Int → Int} (H : LI i h) (K : ∀ h2, LI (i + 6) h2 → mh_V g f 4 96 cl sl 1452 [some (.ref 1000009), some (.ref 0), some (.ref 81), some (.int (Int32.ofInt (i)))] [] h2) : mh_V g f 4 96 cl sl 1060 [some (.ref 1000009), some (.ref 0), some (.ref 81), some (.int (Int32.ofInt (i)))] [] h := by
  obtain ⟨s, er, o, kp, b, z, u, v, hF, ⟨r82, r85, r81, r83, r91, r92, r93, r94⟩, C, A, AK, h22, hU, ho4⟩ := H
  obtain ⟨hV, hE, hKN, hXc, hKP, hI, hK, hS, hTr⟩ := id C
  have hL3 := hX.2.2.2.2
  have h3x : 0 ≤ o 3 ∧ o 3 ≤ 1 := by have := hI.2.2; omega
  have h3o : o 3 = 0 ∨ o 3 = 1 := by omega
  have hsb : sx_by s := ⟨A.2.1.2.1, A.2.1.2.2.2.1⟩
  have hbz : ∀ j, 0 ≤ j → j < 4 → (b j = 0 ∨ b j = 8 ∨ b j = 16 ∨ b j = 32) ∧ (0 ≤ z j ∧ z j ≤ 40) := fun j j0 j1 => ⟨(hS j j0 j1).1, (hS j j0 j1).2.1⟩
  refine mh_aload1 (pc := 1060) F dL_law_1060 ?_
  refine mh_aload0 (pc := 1061) F dL_law_1061 ?_
  refine mh_iload3 (pc := 1062) F dL_law_1062 ?_
  refine mh_iconst (pc := 1063) F dL_law_1063 ?_
  refine mh_iadd (pc := 1064) F dL_law_1064 ?_
  refine mh_sld (pc := 1065) F hX (by omega) dL_law_1065 ?_
  refine mh_callV0 (pc := 1066) (As := [.int (Int32.ofInt (mh_cx xs (i + 1)))]) (st := []) F (by omega) (q_seed (by omega) hF (mh_cxR _ _) A.1 hV hE hKN) wv_RL_122_yX11_seed dL_law_1066 sh_0 rfl (by decide) rfl rfl (Nat.le_of_ble_eq_true rfl) hc (fun r1 h1 q1 => ?_)
  obtain ⟨vv, tt, ee, hs1, rfl, F2, fr2, hV2, hE2⟩ := q1
  have r82 : h1 82 = s := (fr2 82 (by decide)).trans r82
  have r85 : h1 85 = er := (fr2 85 (by decide)).trans r85
  have r81 : h1 81 = o := (fr2 81 (by decide)).trans r81
  have r83 : h1 83 = kp := (fr2 83 (by decide)).trans r83
  have r91 : h1 91 = v := (fr2 91 (by decide)).trans r91
  have r92 : h1 92 = b := (fr2 92 (by decide)).trans r92
  have r93 : h1 93 = z := (fr2 93 (by decide)).trans r93
  have r94 : h1 94 = u := (fr2 94 (by decide)).trans r94
  refine mh_aload2 (pc := 1069) F dL_law_1069 ?_
  refine mh_aload0 (pc := 1070) F dL_law_1070 ?_
  refine mh_iload3 (pc := 1071) F dL_law_1071 ?_
  refine mh_iconst (pc := 1072) F dL_law_1072 ?_
  refine mh_iadd (pc := 1073) F dL_law_1073 ?_
  refine mh_sld (pc := 1074) F hX (by omega) dL_law_1074 ?_
  refine mh_callV0 (pc := 1075) (As := [.int (Int32.ofInt (mh_cx xs (i + 1)))]) (st := [.int (Int32.ofInt (vv))]) F (by omega) (p_seed (by omega) F2 r82 r85 (mh_cxR _ _) A.1) wv_RL_125_yX12_seed dL_law_1075 sh_81 rfl (by decide) rfl rfl (Nat.le_of_ble_eq_true rfl) hc (fun r2 h2 q2 => ?_)
  obtain ⟨vv2, z0, z1, hs2, rfl, F3, fr3, t82, t85⟩ := q2
  have hz := hs2.trans hs1.symm
  simp only [Prod.mk.injEq] at hz
  obtain ⟨ev, g0, g1⟩ := hz
  rw [ev]
  refine mh_same (pc := 1078) (tgt := 1452) F dL_law_1078 rfl ?_
  have h4x := A.2.1.2.1
  have h5x := A.2.1.2.2.1
  have hA : sl_A tt ∧ sl_X s tt := by
    have q : sl_A (sp_seed (mh_cx xs (i + 1)) s er).2.1 ∧ sl_X s (sp_seed (mh_cx xs (i + 1)) s er).2.1 := sl_seed A
    rw [← hs1] at q; exact q
  have hX2 : sc_X h1 tt := sc_X_of hXc (fr2 32 (by decide)) (fr2 43 (by decide)) hA.2 h4x.2 h5x.2
  have hC2 : sl_C h1 tt ee o kp b z u v := C.step (fun a ha => fr2 a (by simp; omega)) hV2 hE2 hX2
  have hC3 := hC2.fr (h2 := h2) (fun a ha => fr3 a (by simp; omega))
  exact K h2 ⟨tt, ee, o, kp, b, z, u, v, F3, ⟨(t82.trans g0), (t85.trans g1), ((fr3 81 (by decide)).trans r81), ((fr3 83 (by decide)).trans r83), ((fr3 91 (by decide)).trans r91), ((fr3 92 (by decide)).trans r92), ((fr3 93 (by decide)).trans r93), ((fr3 94 (by decide)).trans r94)⟩, hC3, hA.1, AK, h22, hU, (by omega)⟩

set_option maxRecDepth 100000 in
set_option maxHeartbeats 2000000 in
theorem L_voice {g : mh_G} {f : mh_F} {d cl sl b0 L : Nat} {xs : Nat → Int32} (hd : 80 ≤ d) (F : mh_Fr g f RL cL_law 4 d) (hX : mh_scr g f b0 L xs) (hc : cl ≤ (mh_R f).cells ∧ sl ≤ (mh_R f).slots) {i : Int} (hi : 0 ≤ i ∧ i + 6 ≤ (L : Int)) {h : Nat → Int → Int} (H : LI i h) (K : ∀ h2, LI (i + 6) h2 → mh_V g f 4 96 cl sl 1452 [some (.ref 1000009), some (.ref 0), some (.ref 81), some (.int (Int32.ofInt (i)))] [] h2) : mh_V g f 4 96 cl sl 1083 [some (.ref 1000009), some (.ref 0), some (.ref 81), some (.int (Int32.ofInt (i)))] [] h := by
  obtain ⟨s, er, o, kp, b, z, u, v, hF, ⟨r82, r85, r81, r83, r91, r92, r93, r94⟩, C, A, AK, h22, hU, ho4⟩ := H
  obtain ⟨hV, hE, hKN, hXc, hKP, hI, hK, hS, hTr⟩ := id C
  have hL3 := hX.2.2.2.2
  have h3x : 0 ≤ o 3 ∧ o 3 ≤ 1 := by have := hI.2.2; omega
  have h3o : o 3 = 0 ∨ o 3 = 1 := by omega
  have hsb : sx_by s := ⟨A.2.1.2.1, A.2.1.2.2.2.1⟩
  have hbz : ∀ j, 0 ≤ j → j < 4 → (b j = 0 ∨ b j = 8 ∨ b j = 16 ∨ b j = 32) ∧ (0 ≤ z j ∧ z j ≤ 40) := fun j j0 j1 => ⟨(hS j j0 j1).1, (hS j j0 j1).2.1⟩
  refine mh_aload1 (pc := 1083) F dL_law_1083 ?_
  refine mh_aload0 (pc := 1084) F dL_law_1084 ?_
  refine mh_iload3 (pc := 1085) F dL_law_1085 ?_
  refine mh_iconst (pc := 1086) F dL_law_1086 ?_
  refine mh_iadd (pc := 1087) F dL_law_1087 ?_
  refine mh_sld (pc := 1088) F hX (by omega) dL_law_1088 ?_
  refine mh_aload0 (pc := 1089) F dL_law_1089 ?_
  refine mh_iload3 (pc := 1090) F dL_law_1090 ?_
  refine mh_iconst (pc := 1091) F dL_law_1091 ?_
  refine mh_iadd (pc := 1092) F dL_law_1092 ?_
  refine mh_sld (pc := 1093) F hX (by omega) dL_law_1093 ?_
  refine mh_aload0 (pc := 1094) F dL_law_1094 ?_
  refine mh_iload3 (pc := 1095) F dL_law_1095 ?_
  refine mh_iconst (pc := 1096) F dL_law_1096 ?_
  refine mh_iadd (pc := 1097) F dL_law_1097 ?_
  refine mh_sld (pc := 1098) F hX (by omega) dL_law_1098 ?_
  refine mh_callV0 (pc := 1099) (As := [.int (Int32.ofInt (mh_cx xs (i + 1))), .int (Int32.ofInt (mh_cx xs (i + 2))), .int (Int32.ofInt (mh_cx xs (i + 3)))]) (st := []) F (by omega) (q_voice (by omega) hF (mh_cxR _ _) (mh_cxR _ _) (mh_cxR _ _) A.1 hV hE hKN hTr) wv_RL_126_yX11_voice dL_law_1099 sh_0 rfl (by decide) rfl rfl (Nat.le_of_ble_eq_true rfl) hc (fun r1 h1 q1 => ?_)
  obtain ⟨vv, ee, oo, ww, hs1, rfl, F2, fr2, hE2, hTr2⟩ := q1
  have r82 : h1 82 = s := (fr2 82 (by decide)).trans r82
  have r85 : h1 85 = er := (fr2 85 (by decide)).trans r85
  have r81 : h1 81 = o := (fr2 81 (by decide)).trans r81
  have r83 : h1 83 = kp := (fr2 83 (by decide)).trans r83
  have r91 : h1 91 = v := (fr2 91 (by decide)).trans r91
  have r92 : h1 92 = b := (fr2 92 (by decide)).trans r92
  have r93 : h1 93 = z := (fr2 93 (by decide)).trans r93
  have r94 : h1 94 = u := (fr2 94 (by decide)).trans r94
  refine mh_aload2 (pc := 1102) F dL_law_1102 ?_
  refine mh_aload0 (pc := 1103) F dL_law_1103 ?_
  refine mh_iload3 (pc := 1104) F dL_law_1104 ?_
  refine mh_iconst (pc := 1105) F dL_law_1105 ?_
  refine mh_iadd (pc := 1106) F dL_law_1106 ?_
  refine mh_sld (pc := 1107) F hX (by omega) dL_law_1107 ?_
  refine mh_aload0 (pc := 1108) F dL_law_1108 ?_
  refine mh_iload3 (pc := 1109) F dL_law_1109 ?_
  refine mh_iconst (pc := 1110) F dL_law_1110 ?_
  refine mh_iadd (pc := 1111) F dL_law_1111 ?_
  refine mh_sld (pc := 1112) F hX (by omega) dL_law_1112 ?_
  refine mh_aload0 (pc := 1113) F dL_law_1113 ?_
  refine mh_iload3 (pc := 1114) F dL_law_1114 ?_
  refine mh_iconst (pc := 1115) F dL_law_1115 ?_
  refine mh_iadd (pc := 1116) F dL_law_1116 ?_
  refine mh_sld (pc := 1117) F hX (by omega) dL_law_1117 ?_
  refine mh_callV0 (pc := 1118) (As := [.int (Int32.ofInt (mh_cx xs (i + 1))), .int (Int32.ofInt (mh_cx xs (i + 2))), .int (Int32.ofInt (mh_cx xs (i + 3)))]) (st := [.int (Int32.ofInt (vv))]) F (by omega) (p_voice (by omega) F2 r82 r85 r81 r91 (mh_cxR _ _) (mh_cxR _ _) (mh_cxR _ _) A.1) wv_RL_129_yX12_voice dL_law_1118 sh_81 rfl (by decide) rfl rfl (Nat.le_of_ble_eq_true rfl) hc (fun r2 h2 q2 => ?_)
  obtain ⟨vv2, z0, z1, z2, hs2, rfl, F3, fr3, t85, t81, t91⟩ := q2
  have hz := hs2.trans hs1.symm
  simp only [Prod.mk.injEq] at hz
  obtain ⟨ev, g0, g1, g2⟩ := hz
  rw [ev]
  refine mh_same (pc := 1121) (tgt := 1452) F dL_law_1121 rfl ?_
  have h4x := A.2.1.2.1
  have h5x := A.2.1.2.2.1
  have hX2 : sc_X h1 s := hXc.of (fr2 32 (by decide)) (fr2 43 (by decide))
  have hV2 : sc_V h1 s := (sc_V_fr hV (fun a a0 a1 a2 a3 => fr2 a (by simp; omega)))
  have hvo := sl_voice (k := (mh_cx xs (i + 1))) (a := (mh_cx xs (i + 2))) (x := (mh_cx xs (i + 3))) (s := s) (er := er) (v := v) h22
  rw [← hs1] at hvo
  obtain ⟨o3, o4, o22⟩ := hvo
  change oo 3 = o 3 at o3
  change oo 4 = o 4 at o4
  change 0 ≤ oo 22 ∧ oo 22 ≤ 40 at o22
  have hI2 := hI.fr2 (fr2 0 (by decide))
  have hC2 : sl_C h1 s ee oo kp b z u ww := ⟨hV2, hE2, hKN.fr (fun a ha => fr2 a (by simp; omega)), hX2, hKP.fr2 (fun a ha => fr2 a (by simp; omega)), (by unfold sc_I; rw [o3, o4]; exact hI2), (by unfold sc_K; rw [o3]; exact hK.fr2 (fun a ha => fr2 a (by simp; omega))), hS.fr (fun a a0 a1 => fr2 a (by simp; omega)), hTr2⟩
  have hC3 := hC2.fr (h2 := h2) (fun a ha => fr3 a (by simp; omega))
  exact K h2 ⟨s, ee, oo, kp, b, z, u, ww, F3, ⟨((fr3 82 (by decide)).trans r82), (t85.trans g0), (t81.trans g1), ((fr3 83 (by decide)).trans r83), (t91.trans g2), ((fr3 92 (by decide)).trans r92), ((fr3 93 (by decide)).trans r93), ((fr3 94 (by decide)).trans r94)⟩, hC3, A, (by rw [o3]; exact AK), o22, hU, (by omega)⟩

set_option maxRecDepth 100000 in
set_option maxHeartbeats 2000000 in
theorem L_trace {g : mh_G} {f : mh_F} {d cl sl b0 L : Nat} {xs : Nat → Int32} (hd : 80 ≤ d) (F : mh_Fr g f RL cL_law 4 d) (hX : mh_scr g f b0 L xs) (hc : cl ≤ (mh_R f).cells ∧ sl ≤ (mh_R f).slots) {i : Int} (hi : 0 ≤ i ∧ i + 6 ≤ (L : Int)) {h : Nat → Int → Int} (H : LI i h) (K : ∀ h2, LI (i + 6) h2 → mh_V g f 4 96 cl sl 1452 [some (.ref 1000009), some (.ref 0), some (.ref 81), some (.int (Int32.ofInt (i)))] [] h2) : mh_V g f 4 96 cl sl 1126 [some (.ref 1000009), some (.ref 0), some (.ref 81), some (.int (Int32.ofInt (i)))] [] h := by
  obtain ⟨s, er, o, kp, b, z, u, v, hF, ⟨r82, r85, r81, r83, r91, r92, r93, r94⟩, C, A, AK, h22, hU, ho4⟩ := H
  obtain ⟨hV, hE, hKN, hXc, hKP, hI, hK, hS, hTr⟩ := id C
  have hL3 := hX.2.2.2.2
  have h3x : 0 ≤ o 3 ∧ o 3 ≤ 1 := by have := hI.2.2; omega
  have h3o : o 3 = 0 ∨ o 3 = 1 := by omega
  have hsb : sx_by s := ⟨A.2.1.2.1, A.2.1.2.2.2.1⟩
  have hbz : ∀ j, 0 ≤ j → j < 4 → (b j = 0 ∨ b j = 8 ∨ b j = 16 ∨ b j = 32) ∧ (0 ≤ z j ∧ z j ≤ 40) := fun j j0 j1 => ⟨(hS j j0 j1).1, (hS j j0 j1).2.1⟩
  refine mh_aload1 (pc := 1126) F dL_law_1126 ?_
  refine mh_aload0 (pc := 1127) F dL_law_1127 ?_
  refine mh_iload3 (pc := 1128) F dL_law_1128 ?_
  refine mh_iconst (pc := 1129) F dL_law_1129 ?_
  refine mh_iadd (pc := 1130) F dL_law_1130 ?_
  refine mh_sld (pc := 1131) F hX (by omega) dL_law_1131 ?_
  refine mh_callV0 (pc := 1132) (As := [.int (Int32.ofInt (mh_cx xs (i + 1)))]) (st := []) F (by omega) (q_trace (by omega) hF (mh_cxR _ _) hTr h22 hV hE hS) wv_RL_130_yX11_trace dL_law_1132 sh_0 rfl (by decide) rfl rfl (Nat.le_of_ble_eq_true rfl) hc (fun r1 h1 q1 => ?_)
  obtain ⟨vv, ee, hs1, rfl, F2, fr2, hE2, hS2⟩ := q1
  have r82 : h1 82 = s := (fr2 82 (by decide)).trans r82
  have r85 : h1 85 = er := (fr2 85 (by decide)).trans r85
  have r81 : h1 81 = o := (fr2 81 (by decide)).trans r81
  have r83 : h1 83 = kp := (fr2 83 (by decide)).trans r83
  have r91 : h1 91 = v := (fr2 91 (by decide)).trans r91
  have r92 : h1 92 = b := (fr2 92 (by decide)).trans r92
  have r93 : h1 93 = z := (fr2 93 (by decide)).trans r93
  have r94 : h1 94 = u := (fr2 94 (by decide)).trans r94
  refine mh_aload2 (pc := 1135) F dL_law_1135 ?_
  refine mh_aload0 (pc := 1136) F dL_law_1136 ?_
  refine mh_iload3 (pc := 1137) F dL_law_1137 ?_
  refine mh_iconst (pc := 1138) F dL_law_1138 ?_
  refine mh_iadd (pc := 1139) F dL_law_1139 ?_
  refine mh_sld (pc := 1140) F hX (by omega) dL_law_1140 ?_
  refine mh_callV0 (pc := 1141) (As := [.int (Int32.ofInt (mh_cx xs (i + 1)))]) (st := [.int (Int32.ofInt (vv))]) F (by omega) (p_trace (by omega) F2 r85 r81 r91 (mh_cxR _ _) h22) wv_RL_133_yX12_trace dL_law_1141 sh_81 rfl (by decide) rfl rfl (Nat.le_of_ble_eq_true rfl) hc (fun r2 h2 q2 => ?_)
  obtain ⟨vv2, z0, hs2, rfl, F3, fr3, t85⟩ := q2
  have hz := hs2.trans hs1.symm
  simp only [Prod.mk.injEq] at hz
  obtain ⟨ev, g0⟩ := hz
  rw [ev]
  refine mh_same (pc := 1144) (tgt := 1452) F dL_law_1144 rfl ?_
  have h4x := A.2.1.2.1
  have h5x := A.2.1.2.2.1
  have hX2 : sc_X h1 s := hXc.of (fr2 32 (by decide)) (fr2 43 (by decide))
  have hV2 : sc_V h1 s := (sc_V_fr hV (fun a a0 a1 a2 a3 => fr2 a (by simp; omega)))
  have hC2 : sl_C h1 s ee o kp b z u v := C.step (fun a ha => fr2 a (by simp; omega)) hV2 hE2 hX2
  have hC3 := hC2.fr (h2 := h2) (fun a ha => fr3 a (by simp; omega))
  exact K h2 ⟨s, ee, o, kp, b, z, u, v, F3, ⟨((fr3 82 (by decide)).trans r82), (t85.trans g0), ((fr3 81 (by decide)).trans r81), ((fr3 83 (by decide)).trans r83), ((fr3 91 (by decide)).trans r91), ((fr3 92 (by decide)).trans r92), ((fr3 93 (by decide)).trans r93), ((fr3 94 (by decide)).trans r94)⟩, hC3, A, AK, h22, hU, (by omega)⟩

set_option maxRecDepth 100000 in
set_option maxHeartbeats 2000000 in
theorem L_sheet {g : mh_G} {f : mh_F} {d cl sl b0 L : Nat} {xs : Nat → Int32} (hd : 80 ≤ d) (F : mh_Fr g f RL cL_law 4 d) (hX : mh_scr g f b0 L xs) (hc : cl ≤ (mh_R f).cells ∧ sl ≤ (mh_R f).slots) {i : Int} (hi : 0 ≤ i ∧ i + 6 ≤ (L : Int)) {h : Nat → Int → Int} (H : LI i h) (K : ∀ h2, LI (i + 6) h2 → mh_V g f 4 96 cl sl 1452 [some (.ref 1000009), some (.ref 0), some (.ref 81), some (.int (Int32.ofInt (i)))] [] h2) : mh_V g f 4 96 cl sl 1149 [some (.ref 1000009), some (.ref 0), some (.ref 81), some (.int (Int32.ofInt (i)))] [] h := by
  obtain ⟨s, er, o, kp, b, z, u, v, hF, ⟨r82, r85, r81, r83, r91, r92, r93, r94⟩, C, A, AK, h22, hU, ho4⟩ := H
  obtain ⟨hV, hE, hKN, hXc, hKP, hI, hK, hS, hTr⟩ := id C
  have hL3 := hX.2.2.2.2
  have h3x : 0 ≤ o 3 ∧ o 3 ≤ 1 := by have := hI.2.2; omega
  have h3o : o 3 = 0 ∨ o 3 = 1 := by omega
  have hsb : sx_by s := ⟨A.2.1.2.1, A.2.1.2.2.2.1⟩
  have hbz : ∀ j, 0 ≤ j → j < 4 → (b j = 0 ∨ b j = 8 ∨ b j = 16 ∨ b j = 32) ∧ (0 ≤ z j ∧ z j ≤ 40) := fun j j0 j1 => ⟨(hS j j0 j1).1, (hS j j0 j1).2.1⟩
  refine mh_aload1 (pc := 1149) F dL_law_1149 ?_
  refine mh_aload0 (pc := 1150) F dL_law_1150 ?_
  refine mh_iload3 (pc := 1151) F dL_law_1151 ?_
  refine mh_iconst (pc := 1152) F dL_law_1152 ?_
  refine mh_iadd (pc := 1153) F dL_law_1153 ?_
  refine mh_sld (pc := 1154) F hX (by omega) dL_law_1154 ?_
  refine mh_aload0 (pc := 1155) F dL_law_1155 ?_
  refine mh_iload3 (pc := 1156) F dL_law_1156 ?_
  refine mh_iconst (pc := 1157) F dL_law_1157 ?_
  refine mh_iadd (pc := 1158) F dL_law_1158 ?_
  refine mh_sld (pc := 1159) F hX (by omega) dL_law_1159 ?_
  refine mh_aload0 (pc := 1160) F dL_law_1160 ?_
  refine mh_iload3 (pc := 1161) F dL_law_1161 ?_
  refine mh_iconst (pc := 1162) F dL_law_1162 ?_
  refine mh_iadd (pc := 1163) F dL_law_1163 ?_
  refine mh_sld (pc := 1164) F hX (by omega) dL_law_1164 ?_
  refine mh_callV0 (pc := 1165) (As := [.int (Int32.ofInt (mh_cx xs (i + 1))), .int (Int32.ofInt (mh_cx xs (i + 2))), .int (Int32.ofInt (mh_cx xs (i + 3)))]) (st := []) F (by omega) (q_sheet (by omega) hF (mh_cxR _ _) (mh_cxR _ _) (mh_cxR _ _) hV hE hS) wv_RL_134_yX11_sheet dL_law_1165 sh_0 rfl (by decide) rfl rfl (Nat.le_of_ble_eq_true rfl) hc (fun r1 h1 q1 => ?_)
  obtain ⟨vv, ee, bb, zz, uu, hs1, rfl, F2, fr2, hE2, hS2⟩ := q1
  have r82 : h1 82 = s := (fr2 82 (by decide)).trans r82
  have r85 : h1 85 = er := (fr2 85 (by decide)).trans r85
  have r81 : h1 81 = o := (fr2 81 (by decide)).trans r81
  have r83 : h1 83 = kp := (fr2 83 (by decide)).trans r83
  have r91 : h1 91 = v := (fr2 91 (by decide)).trans r91
  have r92 : h1 92 = b := (fr2 92 (by decide)).trans r92
  have r93 : h1 93 = z := (fr2 93 (by decide)).trans r93
  have r94 : h1 94 = u := (fr2 94 (by decide)).trans r94
  refine mh_aload2 (pc := 1168) F dL_law_1168 ?_
  refine mh_aload0 (pc := 1169) F dL_law_1169 ?_
  refine mh_iload3 (pc := 1170) F dL_law_1170 ?_
  refine mh_iconst (pc := 1171) F dL_law_1171 ?_
  refine mh_iadd (pc := 1172) F dL_law_1172 ?_
  refine mh_sld (pc := 1173) F hX (by omega) dL_law_1173 ?_
  refine mh_aload0 (pc := 1174) F dL_law_1174 ?_
  refine mh_iload3 (pc := 1175) F dL_law_1175 ?_
  refine mh_iconst (pc := 1176) F dL_law_1176 ?_
  refine mh_iadd (pc := 1177) F dL_law_1177 ?_
  refine mh_sld (pc := 1178) F hX (by omega) dL_law_1178 ?_
  refine mh_aload0 (pc := 1179) F dL_law_1179 ?_
  refine mh_iload3 (pc := 1180) F dL_law_1180 ?_
  refine mh_iconst (pc := 1181) F dL_law_1181 ?_
  refine mh_iadd (pc := 1182) F dL_law_1182 ?_
  refine mh_sld (pc := 1183) F hX (by omega) dL_law_1183 ?_
  refine mh_callV0 (pc := 1184) (As := [.int (Int32.ofInt (mh_cx xs (i + 1))), .int (Int32.ofInt (mh_cx xs (i + 2))), .int (Int32.ofInt (mh_cx xs (i + 3)))]) (st := [.int (Int32.ofInt (vv))]) F (by omega) (p_sheet (by omega) F2 r85 r92 r93 r94 (mh_cxR _ _) (mh_cxR _ _) (mh_cxR _ _) ) wv_RL_137_yX12_sheet dL_law_1184 sh_81 rfl (by decide) rfl rfl (Nat.le_of_ble_eq_true rfl) hc (fun r2 h2 q2 => ?_)
  obtain ⟨vv2, z0, z1, z2, z3, hs2, rfl, F3, fr3, t85, t92, t93, t94⟩ := q2
  have hz := hs2.trans hs1.symm
  simp only [Prod.mk.injEq] at hz
  obtain ⟨ev, g0, g1, g2, g3⟩ := hz
  rw [ev]
  refine mh_same (pc := 1187) (tgt := 1452) F dL_law_1187 rfl ?_
  have h4x := A.2.1.2.1
  have h5x := A.2.1.2.2.1
  have hX2 : sc_X h1 s := hXc.of (fr2 32 (by decide)) (fr2 43 (by decide))
  have hV2 : sc_V h1 s := (sc_V_fr hV (fun a a0 a1 a2 a3 => fr2 a (by simp; omega)))
  have hC2 : sl_C h1 s ee o kp bb zz uu v := ⟨hV2, hE2, hKN.fr (fun a ha => fr2 a (by simp; omega)), hX2, hKP.fr2 (fun a ha => fr2 a (by simp; omega)), hI.fr2 (fr2 0 (by decide)), hK.fr2 (fun a ha => fr2 a (by simp; omega)), hS2, hTr.fr2 (fr2 16 (by decide))⟩
  have hU2 : sl_U uu := by
    have q := sl_U_sheet (k := (mh_cx xs (i + 1))) (w := (mh_cx xs (i + 2))) (n := (mh_cx xs (i + 3))) (er := er) (b := b) (z := z) hU
    rw [← hs1] at q; exact q
  have hC3 := hC2.fr (h2 := h2) (fun a ha => fr3 a (by simp; omega))
  exact K h2 ⟨s, ee, o, kp, bb, zz, uu, v, F3, ⟨((fr3 82 (by decide)).trans r82), (t85.trans g0), ((fr3 81 (by decide)).trans r81), ((fr3 83 (by decide)).trans r83), ((fr3 91 (by decide)).trans r91), (t92.trans g1), (t93.trans g2), (t94.trans g3)⟩, hC3, A, AK, h22, hU2, (by omega)⟩

set_option maxRecDepth 100000 in
set_option maxHeartbeats 2000000 in
theorem L_put {g : mh_G} {f : mh_F} {d cl sl b0 L : Nat} {xs : Nat → Int32} (hd : 80 ≤ d) (F : mh_Fr g f RL cL_law 4 d) (hX : mh_scr g f b0 L xs) (hc : cl ≤ (mh_R f).cells ∧ sl ≤ (mh_R f).slots) {i : Int} (hi : 0 ≤ i ∧ i + 6 ≤ (L : Int)) {h : Nat → Int → Int} (H : LI i h) (K : ∀ h2, LI (i + 6) h2 → mh_V g f 4 96 cl sl 1452 [some (.ref 1000009), some (.ref 0), some (.ref 81), some (.int (Int32.ofInt (i)))] [] h2) : mh_V g f 4 96 cl sl 1192 [some (.ref 1000009), some (.ref 0), some (.ref 81), some (.int (Int32.ofInt (i)))] [] h := by
  obtain ⟨s, er, o, kp, b, z, u, v, hF, ⟨r82, r85, r81, r83, r91, r92, r93, r94⟩, C, A, AK, h22, hU, ho4⟩ := H
  obtain ⟨hV, hE, hKN, hXc, hKP, hI, hK, hS, hTr⟩ := id C
  have hL3 := hX.2.2.2.2
  have h3x : 0 ≤ o 3 ∧ o 3 ≤ 1 := by have := hI.2.2; omega
  have h3o : o 3 = 0 ∨ o 3 = 1 := by omega
  have hsb : sx_by s := ⟨A.2.1.2.1, A.2.1.2.2.2.1⟩
  have hbz : ∀ j, 0 ≤ j → j < 4 → (b j = 0 ∨ b j = 8 ∨ b j = 16 ∨ b j = 32) ∧ (0 ≤ z j ∧ z j ≤ 40) := fun j j0 j1 => ⟨(hS j j0 j1).1, (hS j j0 j1).2.1⟩
  refine mh_aload1 (pc := 1192) F dL_law_1192 ?_
  refine mh_aload0 (pc := 1193) F dL_law_1193 ?_
  refine mh_iload3 (pc := 1194) F dL_law_1194 ?_
  refine mh_iconst (pc := 1195) F dL_law_1195 ?_
  refine mh_iadd (pc := 1196) F dL_law_1196 ?_
  refine mh_sld (pc := 1197) F hX (by omega) dL_law_1197 ?_
  refine mh_aload0 (pc := 1198) F dL_law_1198 ?_
  refine mh_iload3 (pc := 1199) F dL_law_1199 ?_
  refine mh_iconst (pc := 1200) F dL_law_1200 ?_
  refine mh_iadd (pc := 1201) F dL_law_1201 ?_
  refine mh_sld (pc := 1202) F hX (by omega) dL_law_1202 ?_
  refine mh_aload0 (pc := 1203) F dL_law_1203 ?_
  refine mh_iload3 (pc := 1204) F dL_law_1204 ?_
  refine mh_iconst (pc := 1205) F dL_law_1205 ?_
  refine mh_iadd (pc := 1206) F dL_law_1206 ?_
  refine mh_sld (pc := 1207) F hX (by omega) dL_law_1207 ?_
  refine mh_callV0 (pc := 1208) (As := [.int (Int32.ofInt (mh_cx xs (i + 1))), .int (Int32.ofInt (mh_cx xs (i + 2))), .int (Int32.ofInt (mh_cx xs (i + 3)))]) (st := []) F (by omega) (q_put (by omega) hF (mh_cxR _ _) (mh_cxR _ _) (mh_cxR _ _) hV hE hS) wv_RL_138_yX11_put dL_law_1208 sh_0 rfl (by decide) rfl rfl (Nat.le_of_ble_eq_true rfl) hc (fun r1 h1 q1 => ?_)
  obtain ⟨vv, ee, uu, hs1, rfl, F2, fr2, hE2, hS2⟩ := q1
  have r82 : h1 82 = s := (fr2 82 (by decide)).trans r82
  have r85 : h1 85 = er := (fr2 85 (by decide)).trans r85
  have r81 : h1 81 = o := (fr2 81 (by decide)).trans r81
  have r83 : h1 83 = kp := (fr2 83 (by decide)).trans r83
  have r91 : h1 91 = v := (fr2 91 (by decide)).trans r91
  have r92 : h1 92 = b := (fr2 92 (by decide)).trans r92
  have r93 : h1 93 = z := (fr2 93 (by decide)).trans r93
  have r94 : h1 94 = u := (fr2 94 (by decide)).trans r94
  refine mh_aload2 (pc := 1211) F dL_law_1211 ?_
  refine mh_aload0 (pc := 1212) F dL_law_1212 ?_
  refine mh_iload3 (pc := 1213) F dL_law_1213 ?_
  refine mh_iconst (pc := 1214) F dL_law_1214 ?_
  refine mh_iadd (pc := 1215) F dL_law_1215 ?_
  refine mh_sld (pc := 1216) F hX (by omega) dL_law_1216 ?_
  refine mh_aload0 (pc := 1217) F dL_law_1217 ?_
  refine mh_iload3 (pc := 1218) F dL_law_1218 ?_
  refine mh_iconst (pc := 1219) F dL_law_1219 ?_
  refine mh_iadd (pc := 1220) F dL_law_1220 ?_
  refine mh_sld (pc := 1221) F hX (by omega) dL_law_1221 ?_
  refine mh_aload0 (pc := 1222) F dL_law_1222 ?_
  refine mh_iload3 (pc := 1223) F dL_law_1223 ?_
  refine mh_iconst (pc := 1224) F dL_law_1224 ?_
  refine mh_iadd (pc := 1225) F dL_law_1225 ?_
  refine mh_sld (pc := 1226) F hX (by omega) dL_law_1226 ?_
  refine mh_callV0 (pc := 1227) (As := [.int (Int32.ofInt (mh_cx xs (i + 1))), .int (Int32.ofInt (mh_cx xs (i + 2))), .int (Int32.ofInt (mh_cx xs (i + 3)))]) (st := [.int (Int32.ofInt (vv))]) F (by omega) (p_put (by omega) F2 r85 r92 r93 r94 (mh_cxR _ _) (mh_cxR _ _) (mh_cxR _ _) hbz) wv_RL_141_yX12_put dL_law_1227 sh_81 rfl (by decide) rfl rfl (Nat.le_of_ble_eq_true rfl) hc (fun r2 h2 q2 => ?_)
  obtain ⟨vv2, z0, z1, hs2, rfl, F3, fr3, t85, t94⟩ := q2
  have hz := hs2.trans hs1.symm
  simp only [Prod.mk.injEq] at hz
  obtain ⟨ev, g0, g1⟩ := hz
  rw [ev]
  refine mh_same (pc := 1230) (tgt := 1452) F dL_law_1230 rfl ?_
  have h4x := A.2.1.2.1
  have h5x := A.2.1.2.2.1
  have hX2 : sc_X h1 s := hXc.of (fr2 32 (by decide)) (fr2 43 (by decide))
  have hV2 : sc_V h1 s := (sc_V_fr hV (fun a a0 a1 a2 a3 => fr2 a (by simp; omega)))
  have hC2 : sl_C h1 s ee o kp b z uu v := ⟨hV2, hE2, hKN.fr (fun a ha => fr2 a (by simp; omega)), hX2, hKP.fr2 (fun a ha => fr2 a (by simp; omega)), hI.fr2 (fr2 0 (by decide)), hK.fr2 (fun a ha => fr2 a (by simp; omega)), hS2, hTr.fr2 (fr2 16 (by decide))⟩
  have hU2 : sl_U uu := by
    have q := sl_U_put (k := (mh_cx xs (i + 1))) (i := (mh_cx xs (i + 2))) (er := er) (b := b) (z := z) (x := (mh_cx xs (i + 3))) (mh_cxR _ _) hU
    rw [← hs1] at q; exact q
  have hC3 := hC2.fr (h2 := h2) (fun a ha => fr3 a (by simp; omega))
  exact K h2 ⟨s, ee, o, kp, b, z, uu, v, F3, ⟨((fr3 82 (by decide)).trans r82), (t85.trans g0), ((fr3 81 (by decide)).trans r81), ((fr3 83 (by decide)).trans r83), ((fr3 91 (by decide)).trans r91), ((fr3 92 (by decide)).trans r92), ((fr3 93 (by decide)).trans r93), (t94.trans g1)⟩, hC3, A, AK, h22, hU2, (by omega)⟩

set_option maxRecDepth 100000 in
set_option maxHeartbeats 2000000 in
theorem L_move {g : mh_G} {f : mh_F} {d cl sl b0 L : Nat} {xs : Nat → Int32} (hd : 80 ≤ d) (F : mh_Fr g f RL cL_law 4 d) (hX : mh_scr g f b0 L xs) (hc : cl ≤ (mh_R f).cells ∧ sl ≤ (mh_R f).slots) {i : Int} (hi : 0 ≤ i ∧ i + 6 ≤ (L : Int)) {h : Nat → Int → Int} (H : LI i h) (K : ∀ h2, LI (i + 6) h2 → mh_V g f 4 96 cl sl 1452 [some (.ref 1000009), some (.ref 0), some (.ref 81), some (.int (Int32.ofInt (i)))] [] h2) : mh_V g f 4 96 cl sl 1235 [some (.ref 1000009), some (.ref 0), some (.ref 81), some (.int (Int32.ofInt (i)))] [] h := by
  obtain ⟨s, er, o, kp, b, z, u, v, hF, ⟨r82, r85, r81, r83, r91, r92, r93, r94⟩, C, A, AK, h22, hU, ho4⟩ := H
  obtain ⟨hV, hE, hKN, hXc, hKP, hI, hK, hS, hTr⟩ := id C
  have hL3 := hX.2.2.2.2
  have h3x : 0 ≤ o 3 ∧ o 3 ≤ 1 := by have := hI.2.2; omega
  have h3o : o 3 = 0 ∨ o 3 = 1 := by omega
  have hsb : sx_by s := ⟨A.2.1.2.1, A.2.1.2.2.2.1⟩
  have hbz : ∀ j, 0 ≤ j → j < 4 → (b j = 0 ∨ b j = 8 ∨ b j = 16 ∨ b j = 32) ∧ (0 ≤ z j ∧ z j ≤ 40) := fun j j0 j1 => ⟨(hS j j0 j1).1, (hS j j0 j1).2.1⟩
  refine mh_aload1 (pc := 1235) F dL_law_1235 ?_
  refine mh_aload0 (pc := 1236) F dL_law_1236 ?_
  refine mh_iload3 (pc := 1237) F dL_law_1237 ?_
  refine mh_iconst (pc := 1238) F dL_law_1238 ?_
  refine mh_iadd (pc := 1239) F dL_law_1239 ?_
  refine mh_sld (pc := 1240) F hX (by omega) dL_law_1240 ?_
  refine mh_aload0 (pc := 1241) F dL_law_1241 ?_
  refine mh_iload3 (pc := 1242) F dL_law_1242 ?_
  refine mh_iconst (pc := 1243) F dL_law_1243 ?_
  refine mh_iadd (pc := 1244) F dL_law_1244 ?_
  refine mh_sld (pc := 1245) F hX (by omega) dL_law_1245 ?_
  refine mh_aload0 (pc := 1246) F dL_law_1246 ?_
  refine mh_iload3 (pc := 1247) F dL_law_1247 ?_
  refine mh_iconst (pc := 1248) F dL_law_1248 ?_
  refine mh_iadd (pc := 1249) F dL_law_1249 ?_
  refine mh_sld (pc := 1250) F hX (by omega) dL_law_1250 ?_
  refine mh_aload0 (pc := 1251) F dL_law_1251 ?_
  refine mh_iload3 (pc := 1252) F dL_law_1252 ?_
  refine mh_iconst (pc := 1253) F dL_law_1253 ?_
  refine mh_iadd (pc := 1254) F dL_law_1254 ?_
  refine mh_sld (pc := 1255) F hX (by omega) dL_law_1255 ?_
  refine mh_aload0 (pc := 1256) F dL_law_1256 ?_
  refine mh_iload3 (pc := 1257) F dL_law_1257 ?_
  refine mh_iconst (pc := 1258) F dL_law_1258 ?_
  refine mh_iadd (pc := 1259) F dL_law_1259 ?_
  refine mh_sld (pc := 1260) F hX (by omega) dL_law_1260 ?_
  refine mh_callV0 (pc := 1261) (As := [.int (Int32.ofInt (mh_cx xs (i + 1))), .int (Int32.ofInt (mh_cx xs (i + 2))), .int (Int32.ofInt (mh_cx xs (i + 3))), .int (Int32.ofInt (mh_cx xs (i + 4))), .int (Int32.ofInt (mh_cx xs (i + 5)))]) (st := []) F (by omega) (q_move (by omega) hF (mh_cxR _ _) (mh_cxR _ _) (mh_cxR _ _) (mh_cxR _ _) (mh_cxR _ _) hV hE hS) wv_RL_142_yX11_move dL_law_1261 sh_0 rfl (by decide) rfl rfl (Nat.le_of_ble_eq_true rfl) hc (fun r1 h1 q1 => ?_)
  obtain ⟨vv, ee, uu, hs1, rfl, F2, fr2, hE2, hS2⟩ := q1
  have r82 : h1 82 = s := (fr2 82 (by decide)).trans r82
  have r85 : h1 85 = er := (fr2 85 (by decide)).trans r85
  have r81 : h1 81 = o := (fr2 81 (by decide)).trans r81
  have r83 : h1 83 = kp := (fr2 83 (by decide)).trans r83
  have r91 : h1 91 = v := (fr2 91 (by decide)).trans r91
  have r92 : h1 92 = b := (fr2 92 (by decide)).trans r92
  have r93 : h1 93 = z := (fr2 93 (by decide)).trans r93
  have r94 : h1 94 = u := (fr2 94 (by decide)).trans r94
  refine mh_aload2 (pc := 1264) F dL_law_1264 ?_
  refine mh_aload0 (pc := 1265) F dL_law_1265 ?_
  refine mh_iload3 (pc := 1266) F dL_law_1266 ?_
  refine mh_iconst (pc := 1267) F dL_law_1267 ?_
  refine mh_iadd (pc := 1268) F dL_law_1268 ?_
  refine mh_sld (pc := 1269) F hX (by omega) dL_law_1269 ?_
  refine mh_aload0 (pc := 1270) F dL_law_1270 ?_
  refine mh_iload3 (pc := 1271) F dL_law_1271 ?_
  refine mh_iconst (pc := 1272) F dL_law_1272 ?_
  refine mh_iadd (pc := 1273) F dL_law_1273 ?_
  refine mh_sld (pc := 1274) F hX (by omega) dL_law_1274 ?_
  refine mh_aload0 (pc := 1275) F dL_law_1275 ?_
  refine mh_iload3 (pc := 1276) F dL_law_1276 ?_
  refine mh_iconst (pc := 1277) F dL_law_1277 ?_
  refine mh_iadd (pc := 1278) F dL_law_1278 ?_
  refine mh_sld (pc := 1279) F hX (by omega) dL_law_1279 ?_
  refine mh_aload0 (pc := 1280) F dL_law_1280 ?_
  refine mh_iload3 (pc := 1281) F dL_law_1281 ?_
  refine mh_iconst (pc := 1282) F dL_law_1282 ?_
  refine mh_iadd (pc := 1283) F dL_law_1283 ?_
  refine mh_sld (pc := 1284) F hX (by omega) dL_law_1284 ?_
  refine mh_aload0 (pc := 1285) F dL_law_1285 ?_
  refine mh_iload3 (pc := 1286) F dL_law_1286 ?_
  refine mh_iconst (pc := 1287) F dL_law_1287 ?_
  refine mh_iadd (pc := 1288) F dL_law_1288 ?_
  refine mh_sld (pc := 1289) F hX (by omega) dL_law_1289 ?_
  refine mh_callV0 (pc := 1290) (As := [.int (Int32.ofInt (mh_cx xs (i + 1))), .int (Int32.ofInt (mh_cx xs (i + 2))), .int (Int32.ofInt (mh_cx xs (i + 3))), .int (Int32.ofInt (mh_cx xs (i + 4))), .int (Int32.ofInt (mh_cx xs (i + 5)))]) (st := [.int (Int32.ofInt (vv))]) F (by omega) (p_move (by omega) F2 r85 r92 r93 r94 rfl (mh_cxR _ _) (mh_cxR _ _) (mh_cxR _ _) (mh_cxR _ _) (mh_cxR _ _) hbz) wv_RL_146_yX12_move dL_law_1290 sh_81 rfl (by decide) rfl rfl (Nat.le_of_ble_eq_true rfl) hc (fun r2 h2 q2 => ?_)
  obtain ⟨vv2, z0, z1, hs2, rfl, F3, fr3, t85, t94⟩ := q2
  have hz := hs2.trans hs1.symm
  simp only [Prod.mk.injEq] at hz
  obtain ⟨ev, g0, g1⟩ := hz
  rw [ev]
  refine mh_same (pc := 1293) (tgt := 1452) F dL_law_1293 rfl ?_
  have h4x := A.2.1.2.1
  have h5x := A.2.1.2.2.1
  have hX2 : sc_X h1 s := hXc.of (fr2 32 (by decide)) (fr2 43 (by decide))
  have hV2 : sc_V h1 s := (sc_V_fr hV (fun a a0 a1 a2 a3 => fr2 a (by simp; omega)))
  have hC2 : sl_C h1 s ee o kp b z uu v := ⟨hV2, hE2, hKN.fr (fun a ha => fr2 a (by simp; omega)), hX2, hKP.fr2 (fun a ha => fr2 a (by simp; omega)), hI.fr2 (fr2 0 (by decide)), hK.fr2 (fun a ha => fr2 a (by simp; omega)), hS2, hTr.fr2 (fr2 16 (by decide))⟩
  have hU2 : sl_U uu := by
    have q := sl_U_move (k := (mh_cx xs (i + 1))) (i := (mh_cx xs (i + 2))) (l := (mh_cx xs (i + 3))) (j := (mh_cx xs (i + 4))) (n := (mh_cx xs (i + 5))) (er := er) (b := b) (fun j j0 j1 => (hbz j j0 j1).2) hU
    rw [← hs1] at q; exact q
  have hC3 := hC2.fr (h2 := h2) (fun a ha => fr3 a (by simp; omega))
  exact K h2 ⟨s, ee, o, kp, b, z, uu, v, F3, ⟨((fr3 82 (by decide)).trans r82), (t85.trans g0), ((fr3 81 (by decide)).trans r81), ((fr3 83 (by decide)).trans r83), ((fr3 91 (by decide)).trans r91), ((fr3 92 (by decide)).trans r92), ((fr3 93 (by decide)).trans r93), (t94.trans g1)⟩, hC3, A, AK, h22, hU2, (by omega)⟩

set_option maxRecDepth 100000 in
set_option maxHeartbeats 2000000 in
theorem L_heats {g : mh_G} {f : mh_F} {d cl sl b0 L : Nat} {xs : Nat → Int32} (hd : 80 ≤ d) (F : mh_Fr g f RL cL_law 4 d) (hX : mh_scr g f b0 L xs) (hc : cl ≤ (mh_R f).cells ∧ sl ≤ (mh_R f).slots) {i : Int} (hi : 0 ≤ i ∧ i + 6 ≤ (L : Int)) {h : Nat → Int → Int} (H : LI i h) (K : ∀ h2, LI (i + 6) h2 → mh_V g f 4 96 cl sl 1452 [some (.ref 1000009), some (.ref 0), some (.ref 81), some (.int (Int32.ofInt (i)))] [] h2) : mh_V g f 4 96 cl sl 1298 [some (.ref 1000009), some (.ref 0), some (.ref 81), some (.int (Int32.ofInt (i)))] [] h := by
  obtain ⟨s, er, o, kp, b, z, u, v, hF, ⟨r82, r85, r81, r83, r91, r92, r93, r94⟩, C, A, AK, h22, hU, ho4⟩ := H
  obtain ⟨hV, hE, hKN, hXc, hKP, hI, hK, hS, hTr⟩ := id C
  have hL3 := hX.2.2.2.2
  have h3x : 0 ≤ o 3 ∧ o 3 ≤ 1 := by have := hI.2.2; omega
  have h3o : o 3 = 0 ∨ o 3 = 1 := by omega
  have hsb : sx_by s := ⟨A.2.1.2.1, A.2.1.2.2.2.1⟩
  have hbz : ∀ j, 0 ≤ j → j < 4 → (b j = 0 ∨ b j = 8 ∨ b j = 16 ∨ b j = 32) ∧ (0 ≤ z j ∧ z j ≤ 40) := fun j j0 j1 => ⟨(hS j j0 j1).1, (hS j j0 j1).2.1⟩
  refine mh_aload1 (pc := 1298) F dL_law_1298 ?_
  refine mh_aload0 (pc := 1299) F dL_law_1299 ?_
  refine mh_iload3 (pc := 1300) F dL_law_1300 ?_
  refine mh_iconst (pc := 1301) F dL_law_1301 ?_
  refine mh_iadd (pc := 1302) F dL_law_1302 ?_
  refine mh_sld (pc := 1303) F hX (by omega) dL_law_1303 ?_
  refine mh_callV0 (pc := 1304) (As := [.int (Int32.ofInt (mh_cx xs (i + 1)))]) (st := []) F (by omega) (q_heats (by omega) hF (mh_cxR _ _) hV hE hS) wv_RL_147_yX11_heats dL_law_1304 sh_0 rfl (by decide) rfl rfl (Nat.le_of_ble_eq_true rfl) hc (fun r1 h1 q1 => ?_)
  obtain ⟨vv, tt, ee, hs1, rfl, F2, fr2, hE2, hS2, hV2⟩ := q1
  have r82 : h1 82 = s := (fr2 82 (by decide)).trans r82
  have r85 : h1 85 = er := (fr2 85 (by decide)).trans r85
  have r81 : h1 81 = o := (fr2 81 (by decide)).trans r81
  have r83 : h1 83 = kp := (fr2 83 (by decide)).trans r83
  have r91 : h1 91 = v := (fr2 91 (by decide)).trans r91
  have r92 : h1 92 = b := (fr2 92 (by decide)).trans r92
  have r93 : h1 93 = z := (fr2 93 (by decide)).trans r93
  have r94 : h1 94 = u := (fr2 94 (by decide)).trans r94
  refine mh_aload2 (pc := 1307) F dL_law_1307 ?_
  refine mh_aload0 (pc := 1308) F dL_law_1308 ?_
  refine mh_iload3 (pc := 1309) F dL_law_1309 ?_
  refine mh_iconst (pc := 1310) F dL_law_1310 ?_
  refine mh_iadd (pc := 1311) F dL_law_1311 ?_
  refine mh_sld (pc := 1312) F hX (by omega) dL_law_1312 ?_
  refine mh_callV0 (pc := 1313) (As := [.int (Int32.ofInt (mh_cx xs (i + 1)))]) (st := [.int (Int32.ofInt (vv))]) F (by omega) (p_heats (by omega) F2 r82 r85 r92 r93 r94 (mh_cxR _ _) hbz hU) wv_RL_150_yX12_heats dL_law_1313 sh_81 rfl (by decide) rfl rfl (Nat.le_of_ble_eq_true rfl) hc (fun r2 h2 q2 => ?_)
  obtain ⟨vv2, z0, z1, hs2, rfl, F3, fr3, t82, t85⟩ := q2
  have hz := hs2.trans hs1.symm
  simp only [Prod.mk.injEq] at hz
  obtain ⟨ev, g0, g1⟩ := hz
  rw [ev]
  refine mh_same (pc := 1316) (tgt := 1452) F dL_law_1316 rfl ?_
  have h4x := A.2.1.2.1
  have h5x := A.2.1.2.2.1
  have hA : sl_A tt ∧ sl_X s tt := by
    have q : sl_A (sp_heats (mh_cx xs (i + 1)) s er b z u).2.1 ∧ sl_X s (sp_heats (mh_cx xs (i + 1)) s er b z u).2.1 := sl_heats A
    rw [← hs1] at q; exact q
  have hX2 : sc_X h1 tt := sc_X_of hXc (fr2 32 (by decide)) (fr2 43 (by decide)) hA.2 h4x.2 h5x.2
  have hC2 : sl_C h1 tt ee o kp b z u v := C.step (fun a ha => fr2 a (by simp; omega)) hV2 hE2 hX2
  have hC3 := hC2.fr (h2 := h2) (fun a ha => fr3 a (by simp; omega))
  exact K h2 ⟨tt, ee, o, kp, b, z, u, v, F3, ⟨(t82.trans g0), (t85.trans g1), ((fr3 81 (by decide)).trans r81), ((fr3 83 (by decide)).trans r83), ((fr3 91 (by decide)).trans r91), ((fr3 92 (by decide)).trans r92), ((fr3 93 (by decide)).trans r93), ((fr3 94 (by decide)).trans r94)⟩, hC3, hA.1, AK, h22, hU, (by omega)⟩

set_option maxRecDepth 100000 in
set_option maxHeartbeats 2000000 in
theorem L_judge {g : mh_G} {f : mh_F} {d cl sl b0 L : Nat} {xs : Nat → Int32} (hd : 80 ≤ d) (F : mh_Fr g f RL cL_law 4 d) (hX : mh_scr g f b0 L xs) (hc : cl ≤ (mh_R f).cells ∧ sl ≤ (mh_R f).slots) {i : Int} (hi : 0 ≤ i ∧ i + 6 ≤ (L : Int)) {h : Nat → Int → Int} (H : LI i h) (K : ∀ h2, LI (i + 6) h2 → mh_V g f 4 96 cl sl 1452 [some (.ref 1000009), some (.ref 0), some (.ref 81), some (.int (Int32.ofInt (i)))] [] h2) : mh_V g f 4 96 cl sl 1321 [some (.ref 1000009), some (.ref 0), some (.ref 81), some (.int (Int32.ofInt (i)))] [] h := by
  obtain ⟨s, er, o, kp, b, z, u, v, hF, ⟨r82, r85, r81, r83, r91, r92, r93, r94⟩, C, A, AK, h22, hU, ho4⟩ := H
  obtain ⟨hV, hE, hKN, hXc, hKP, hI, hK, hS, hTr⟩ := id C
  have hL3 := hX.2.2.2.2
  have h3x : 0 ≤ o 3 ∧ o 3 ≤ 1 := by have := hI.2.2; omega
  have h3o : o 3 = 0 ∨ o 3 = 1 := by omega
  have hsb : sx_by s := ⟨A.2.1.2.1, A.2.1.2.2.2.1⟩
  have hbz : ∀ j, 0 ≤ j → j < 4 → (b j = 0 ∨ b j = 8 ∨ b j = 16 ∨ b j = 32) ∧ (0 ≤ z j ∧ z j ≤ 40) := fun j j0 j1 => ⟨(hS j j0 j1).1, (hS j j0 j1).2.1⟩
  refine mh_aload1 (pc := 1321) F dL_law_1321 ?_
  refine mh_aload0 (pc := 1322) F dL_law_1322 ?_
  refine mh_iload3 (pc := 1323) F dL_law_1323 ?_
  refine mh_iconst (pc := 1324) F dL_law_1324 ?_
  refine mh_iadd (pc := 1325) F dL_law_1325 ?_
  refine mh_sld (pc := 1326) F hX (by omega) dL_law_1326 ?_
  refine mh_callV0 (pc := 1327) (As := [.int (Int32.ofInt (mh_cx xs (i + 1)))]) (st := []) F (by omega) (q_judge (by omega) hF (mh_cxR _ _) A.1 hV hE hS) wv_RL_151_yX11_judge dL_law_1327 sh_0 rfl (by decide) rfl rfl (Nat.le_of_ble_eq_true rfl) hc (fun r1 h1 q1 => ?_)
  obtain ⟨vv, ee, hs1, rfl, F2, fr2, hE2, hS2⟩ := q1
  have r82 : h1 82 = s := (fr2 82 (by decide)).trans r82
  have r85 : h1 85 = er := (fr2 85 (by decide)).trans r85
  have r81 : h1 81 = o := (fr2 81 (by decide)).trans r81
  have r83 : h1 83 = kp := (fr2 83 (by decide)).trans r83
  have r91 : h1 91 = v := (fr2 91 (by decide)).trans r91
  have r92 : h1 92 = b := (fr2 92 (by decide)).trans r92
  have r93 : h1 93 = z := (fr2 93 (by decide)).trans r93
  have r94 : h1 94 = u := (fr2 94 (by decide)).trans r94
  refine mh_aload2 (pc := 1330) F dL_law_1330 ?_
  refine mh_aload0 (pc := 1331) F dL_law_1331 ?_
  refine mh_iload3 (pc := 1332) F dL_law_1332 ?_
  refine mh_iconst (pc := 1333) F dL_law_1333 ?_
  refine mh_iadd (pc := 1334) F dL_law_1334 ?_
  refine mh_sld (pc := 1335) F hX (by omega) dL_law_1335 ?_
  refine mh_callV0 (pc := 1336) (As := [.int (Int32.ofInt (mh_cx xs (i + 1)))]) (st := [.int (Int32.ofInt (vv))]) F (by omega) (p_judge (by omega) F2 r82 r85 r92 r93 r94 (mh_cxR _ _) hbz hU A.1) wv_RL_154_yX12_judge dL_law_1336 sh_81 rfl (by decide) rfl rfl (Nat.le_of_ble_eq_true rfl) hc (fun r2 h2 q2 => ?_)
  obtain ⟨vv2, z0, hs2, rfl, F3, fr3, t85⟩ := q2
  have hz := hs2.trans hs1.symm
  simp only [Prod.mk.injEq] at hz
  obtain ⟨ev, g0⟩ := hz
  rw [ev]
  refine mh_same (pc := 1339) (tgt := 1452) F dL_law_1339 rfl ?_
  have h4x := A.2.1.2.1
  have h5x := A.2.1.2.2.1
  have hX2 : sc_X h1 s := hXc.of (fr2 32 (by decide)) (fr2 43 (by decide))
  have hV2 : sc_V h1 s := (sc_V_fr hV (fun a a0 a1 a2 a3 => fr2 a (by simp; omega)))
  have hC2 : sl_C h1 s ee o kp b z u v := C.step (fun a ha => fr2 a (by simp; omega)) hV2 hE2 hX2
  have hC3 := hC2.fr (h2 := h2) (fun a ha => fr3 a (by simp; omega))
  exact K h2 ⟨s, ee, o, kp, b, z, u, v, F3, ⟨((fr3 82 (by decide)).trans r82), (t85.trans g0), ((fr3 81 (by decide)).trans r81), ((fr3 83 (by decide)).trans r83), ((fr3 91 (by decide)).trans r91), ((fr3 92 (by decide)).trans r92), ((fr3 93 (by decide)).trans r93), ((fr3 94 (by decide)).trans r94)⟩, hC3, A, AK, h22, hU, (by omega)⟩

set_option maxRecDepth 100000 in
set_option maxHeartbeats 2000000 in
theorem L_image {g : mh_G} {f : mh_F} {d cl sl b0 L : Nat} {xs : Nat → Int32} (hd : 80 ≤ d) (F : mh_Fr g f RL cL_law 4 d) (hX : mh_scr g f b0 L xs) (hc : cl ≤ (mh_R f).cells ∧ sl ≤ (mh_R f).slots) {i : Int} (hi : 0 ≤ i ∧ i + 6 ≤ (L : Int)) {h : Nat → Int → Int} (H : LI i h) (K : ∀ h2, LI (i + 6) h2 → mh_V g f 4 96 cl sl 1452 [some (.ref 1000009), some (.ref 0), some (.ref 81), some (.int (Int32.ofInt (i)))] [] h2) : mh_V g f 4 96 cl sl 1344 [some (.ref 1000009), some (.ref 0), some (.ref 81), some (.int (Int32.ofInt (i)))] [] h := by
  obtain ⟨s, er, o, kp, b, z, u, v, hF, ⟨r82, r85, r81, r83, r91, r92, r93, r94⟩, C, A, AK, h22, hU, ho4⟩ := H
  obtain ⟨hV, hE, hKN, hXc, hKP, hI, hK, hS, hTr⟩ := id C
  have hL3 := hX.2.2.2.2
  have h3x : 0 ≤ o 3 ∧ o 3 ≤ 1 := by have := hI.2.2; omega
  have h3o : o 3 = 0 ∨ o 3 = 1 := by omega
  have hsb : sx_by s := ⟨A.2.1.2.1, A.2.1.2.2.2.1⟩
  have hbz : ∀ j, 0 ≤ j → j < 4 → (b j = 0 ∨ b j = 8 ∨ b j = 16 ∨ b j = 32) ∧ (0 ≤ z j ∧ z j ≤ 40) := fun j j0 j1 => ⟨(hS j j0 j1).1, (hS j j0 j1).2.1⟩
  refine mh_aload1 (pc := 1344) F dL_law_1344 ?_
  refine mh_callV0 (pc := 1345) (As := []) (st := []) F (by omega) (q_image (by omega) hF  A.1 hV hXc A.2.1.2.1 A.2.1.2.2.1 hKP hI) wv_RL_155_yX11_image dL_law_1345 sh_0 rfl (by decide) rfl rfl (Nat.le_of_ble_eq_true rfl) hc (fun r1 h1 q1 => ?_)
  obtain ⟨rfl, F2, fr2, hi2, hVW, hXW, hKP2⟩ := q1
  have r82 : h1 82 = s := (fr2 82 (by decide)).trans r82
  have r85 : h1 85 = er := (fr2 85 (by decide)).trans r85
  have r81 : h1 81 = o := (fr2 81 (by decide)).trans r81
  have r83 : h1 83 = kp := (fr2 83 (by decide)).trans r83
  have r91 : h1 91 = v := (fr2 91 (by decide)).trans r91
  have r92 : h1 92 = b := (fr2 92 (by decide)).trans r92
  have r93 : h1 93 = z := (fr2 93 (by decide)).trans r93
  have r94 : h1 94 = u := (fr2 94 (by decide)).trans r94
  refine mh_aload2 (pc := 1348) F dL_law_1348 ?_
  refine mh_callV0 (pc := 1349) (As := []) (st := [.int (Int32.ofInt (o 4 + 1))]) F (by omega) (p_image (by omega) F2 r82 r83 r81  ) wv_RL_158_yX12_image dL_law_1349 sh_81 rfl (by decide) rfl rfl (Nat.le_of_ble_eq_true rfl) hc (fun r2 h2 q2 => ?_)
  obtain ⟨vv2, t0, t1, hs2, rfl, F3, fr3, t83, t81⟩ := q2
  unfold sp_image at hs2
  simp only [Prod.mk.injEq] at hs2
  obtain ⟨ev, g0, g1⟩ := hs2
  rw [ev]
  refine mh_same (pc := 1352) (tgt := 1452) F dL_law_1352 rfl ?_
  have h4x := A.2.1.2.1
  have h5x := A.2.1.2.2.1
  have hV2 : sc_V h1 s := (sc_V_fr hV (fun a a0 a1 a2 a3 => fr2 a (by simp; omega)))
  have hX2 : sc_X h1 s := hXc.of (fr2 32 (by decide)) (fr2 43 (by decide))
  have hE2 : sc_E h1 er := hE.of (fr2 24 (by decide))
  have o3 : mh_ur (mh_ur o 3 1) 4 (o 4 + 1) 3 = 1 := by rw [mh_ur_ne (by decide), mh_ur_eq rfl]
  have o4 : mh_ur (mh_ur o 3 1) 4 (o 4 + 1) 4 = o 4 + 1 := mh_ur_eq rfl
  have o22 : mh_ur (mh_ur o 3 1) 4 (o 4 + 1) 22 = o 22 := by rw [mh_ur_ne (by decide), mh_ur_ne (by decide)]
  have hI0 := hI.2.1
  have hcp : sl_A (mh_cp 267 s kp) := sl_cp A
  have ecp : ∀ i, 0 ≤ i → i < 267 → mh_cp 267 s kp i = s i := fun i i0 i1 => if_pos ⟨i0, i1⟩
  have hC2 : sl_C h1 s er (mh_ur (mh_ur o 3 1) 4 (o 4 + 1)) (mh_cp 267 s kp) b z u v := ⟨hV2, hE2, hKN.fr2 (fun a a0 a1 => fr2 a (by simp; omega)), hX2, hKP2, ⟨hi2.trans o4.symm, by rw [o4]; omega, by rw [o3, o4]; omega⟩, fun _ => ⟨⟨hcp.1, hcp.2.1.2.1, hcp.2.1.2.2.1⟩, hVW.to (fun i i0 i1 => mh_cp_in i0 i1), sc_XW.to (w := 50) hXW h4x.2 h5x.2 (fun i i0 i1 => mh_cp_in i0 i1)⟩, hS.fr (fun a a0 a1 => fr2 a (by simp; omega)), ⟨((congrFun (fr2 16 (by decide)) 0).trans hTr.1).trans o22.symm, fun i i0 i1 => by rw [fr2 16 (by decide)]; rw [o22] at i1; exact hTr.2 i i0 i1⟩⟩
  have hC3 := hC2.fr (h2 := h2) (fun a ha => fr3 a (by simp; omega))
  exact K h2 ⟨s, er, (mh_ur (mh_ur o 3 1) 4 (o 4 + 1)), (mh_cp 267 s kp), b, z, u, v, F3, ⟨((fr3 82 (by decide)).trans r82), ((fr3 85 (by decide)).trans r85), (t81.trans g1), (t83.trans g0), ((fr3 91 (by decide)).trans r91), ((fr3 92 (by decide)).trans r92), ((fr3 93 (by decide)).trans r93), ((fr3 94 (by decide)).trans r94)⟩, hC3, A, (fun _ => hcp), (by rw [o22]; exact h22), hU, (by rw [o4]; omega)⟩

set_option maxRecDepth 100000 in
set_option maxHeartbeats 2000000 in
theorem L_restore {g : mh_G} {f : mh_F} {d cl sl b0 L : Nat} {xs : Nat → Int32} (hd : 80 ≤ d) (F : mh_Fr g f RL cL_law 4 d) (hX : mh_scr g f b0 L xs) (hc : cl ≤ (mh_R f).cells ∧ sl ≤ (mh_R f).slots) {i : Int} (hi : 0 ≤ i ∧ i + 6 ≤ (L : Int)) {h : Nat → Int → Int} (H : LI i h) (K : ∀ h2, LI (i + 6) h2 → mh_V g f 4 96 cl sl 1452 [some (.ref 1000009), some (.ref 0), some (.ref 81), some (.int (Int32.ofInt (i)))] [] h2) : mh_V g f 4 96 cl sl 1357 [some (.ref 1000009), some (.ref 0), some (.ref 81), some (.int (Int32.ofInt (i)))] [] h := by
  obtain ⟨s, er, o, kp, b, z, u, v, hF, ⟨r82, r85, r81, r83, r91, r92, r93, r94⟩, C, A, AK, h22, hU, ho4⟩ := H
  obtain ⟨hV, hE, hKN, hXc, hKP, hI, hK, hS, hTr⟩ := id C
  have hL3 := hX.2.2.2.2
  have h3x : 0 ≤ o 3 ∧ o 3 ≤ 1 := by have := hI.2.2; omega
  have h3o : o 3 = 0 ∨ o 3 = 1 := by omega
  have hsb : sx_by s := ⟨A.2.1.2.1, A.2.1.2.2.2.1⟩
  have hbz : ∀ j, 0 ≤ j → j < 4 → (b j = 0 ∨ b j = 8 ∨ b j = 16 ∨ b j = 32) ∧ (0 ≤ z j ∧ z j ≤ 40) := fun j j0 j1 => ⟨(hS j j0 j1).1, (hS j j0 j1).2.1⟩
  refine mh_aload1 (pc := 1357) F dL_law_1357 ?_
  refine mh_callV0 (pc := 1358) (As := []) (st := []) F (by omega) (q_restore2 (by omega) hF  hXc hKP hI hK A.1 hV hE hKN) wv_RL_159_yX11_restore dL_law_1358 sh_0 rfl (by decide) rfl rfl (Nat.le_of_ble_eq_true rfl) hc (fun r1 h1 q1 => ?_)
  obtain ⟨vv, tt, ee, hs1, rfl, F2, fr2, hV2, hE2, hX2, hKP2⟩ := q1
  have r82 : h1 82 = s := (fr2 82 (by decide)).trans r82
  have r85 : h1 85 = er := (fr2 85 (by decide)).trans r85
  have r81 : h1 81 = o := (fr2 81 (by decide)).trans r81
  have r83 : h1 83 = kp := (fr2 83 (by decide)).trans r83
  have r91 : h1 91 = v := (fr2 91 (by decide)).trans r91
  have r92 : h1 92 = b := (fr2 92 (by decide)).trans r92
  have r93 : h1 93 = z := (fr2 93 (by decide)).trans r93
  have r94 : h1 94 = u := (fr2 94 (by decide)).trans r94
  refine mh_aload2 (pc := 1361) F dL_law_1361 ?_
  refine mh_callV0 (pc := 1362) (As := []) (st := [.int (Int32.ofInt (vv))]) F (by omega) (p_restore (by omega) F2 r82 r85 r83 r81  h3x) wv_RL_162_yX12_restore dL_law_1362 sh_81 rfl (by decide) rfl rfl (Nat.le_of_ble_eq_true rfl) hc (fun r2 h2 q2 => ?_)
  obtain ⟨vv2, z0, z1, hs2, rfl, F3, fr3, t82, t85⟩ := q2
  have hz := hs2.trans hs1.symm
  simp only [Prod.mk.injEq] at hz
  obtain ⟨ev, g0, g1⟩ := hz
  rw [ev]
  refine mh_same (pc := 1365) (tgt := 1452) F dL_law_1365 rfl ?_
  have h4x := A.2.1.2.1
  have h5x := A.2.1.2.2.1
  have hA : sl_A tt := by
    have q : sl_A (sp_restore  s er kp o).2.1 := sl_rest_A A AK h3o
    rw [← hs1] at q; exact q
  have hC2 : sl_C h1 tt ee o kp b z u v := ⟨hV2, hE2, hKN.fr (fun a ha => fr2 a (by simp; omega)), hX2, hKP2, hI.fr2 (fr2 0 (by decide)), hK.fr2 (fun a ha => fr2 a (by simp; omega)), hS.fr (fun a a0 a1 => fr2 a (by simp; omega)), hTr.fr2 (fr2 16 (by decide))⟩
  have hC3 := hC2.fr (h2 := h2) (fun a ha => fr3 a (by simp; omega))
  exact K h2 ⟨tt, ee, o, kp, b, z, u, v, F3, ⟨(t82.trans g0), (t85.trans g1), ((fr3 81 (by decide)).trans r81), ((fr3 83 (by decide)).trans r83), ((fr3 91 (by decide)).trans r91), ((fr3 92 (by decide)).trans r92), ((fr3 93 (by decide)).trans r93), ((fr3 94 (by decide)).trans r94)⟩, hC3, hA, AK, h22, hU, (by omega)⟩

set_option maxRecDepth 100000 in
set_option maxHeartbeats 2000000 in
theorem L_tell {g : mh_G} {f : mh_F} {d cl sl b0 L : Nat} {xs : Nat → Int32} (hd : 80 ≤ d) (F : mh_Fr g f RL cL_law 4 d) (hX : mh_scr g f b0 L xs) (hc : cl ≤ (mh_R f).cells ∧ sl ≤ (mh_R f).slots) {i : Int} (hi : 0 ≤ i ∧ i + 6 ≤ (L : Int)) {h : Nat → Int → Int} (H : LI i h) (K : ∀ h2, LI (i + 6) h2 → mh_V g f 4 96 cl sl 1452 [some (.ref 1000009), some (.ref 0), some (.ref 81), some (.int (Int32.ofInt (i)))] [] h2) : mh_V g f 4 96 cl sl 1370 [some (.ref 1000009), some (.ref 0), some (.ref 81), some (.int (Int32.ofInt (i)))] [] h := by
  obtain ⟨s, er, o, kp, b, z, u, v, hF, ⟨r82, r85, r81, r83, r91, r92, r93, r94⟩, C, A, AK, h22, hU, ho4⟩ := H
  obtain ⟨hV, hE, hKN, hXc, hKP, hI, hK, hS, hTr⟩ := id C
  have hL3 := hX.2.2.2.2
  have h3x : 0 ≤ o 3 ∧ o 3 ≤ 1 := by have := hI.2.2; omega
  have h3o : o 3 = 0 ∨ o 3 = 1 := by omega
  have hsb : sx_by s := ⟨A.2.1.2.1, A.2.1.2.2.2.1⟩
  have hbz : ∀ j, 0 ≤ j → j < 4 → (b j = 0 ∨ b j = 8 ∨ b j = 16 ∨ b j = 32) ∧ (0 ≤ z j ∧ z j ≤ 40) := fun j j0 j1 => ⟨(hS j j0 j1).1, (hS j j0 j1).2.1⟩
  refine mh_aload1 (pc := 1370) F dL_law_1370 ?_
  refine mh_aload0 (pc := 1371) F dL_law_1371 ?_
  refine mh_iload3 (pc := 1372) F dL_law_1372 ?_
  refine mh_iconst (pc := 1373) F dL_law_1373 ?_
  refine mh_iadd (pc := 1374) F dL_law_1374 ?_
  refine mh_sld (pc := 1375) F hX (by omega) dL_law_1375 ?_
  refine mh_callV0 (pc := 1376) (As := [.int (Int32.ofInt (mh_cx xs (i + 1)))]) (st := []) F (by omega) (q_tell (by omega) hF (mh_cxR _ _) hXc A.2.1.2.2.1 A.2.1.2.1 A.1 hV hE hKN) wv_RL_163_yX11_tell dL_law_1376 sh_0 rfl (by decide) rfl rfl (Nat.le_of_ble_eq_true rfl) hc (fun r1 h1 q1 => ?_)
  obtain ⟨vv, tt, ee, hs1, rfl, F2, fr2, hV2, hE2, hX2⟩ := q1
  have r82 : h1 82 = s := (fr2 82 (by decide)).trans r82
  have r85 : h1 85 = er := (fr2 85 (by decide)).trans r85
  have r81 : h1 81 = o := (fr2 81 (by decide)).trans r81
  have r83 : h1 83 = kp := (fr2 83 (by decide)).trans r83
  have r91 : h1 91 = v := (fr2 91 (by decide)).trans r91
  have r92 : h1 92 = b := (fr2 92 (by decide)).trans r92
  have r93 : h1 93 = z := (fr2 93 (by decide)).trans r93
  have r94 : h1 94 = u := (fr2 94 (by decide)).trans r94
  refine mh_aload2 (pc := 1379) F dL_law_1379 ?_
  refine mh_aload0 (pc := 1380) F dL_law_1380 ?_
  refine mh_iload3 (pc := 1381) F dL_law_1381 ?_
  refine mh_iconst (pc := 1382) F dL_law_1382 ?_
  refine mh_iadd (pc := 1383) F dL_law_1383 ?_
  refine mh_sld (pc := 1384) F hX (by omega) dL_law_1384 ?_
  refine mh_callV0 (pc := 1385) (As := [.int (Int32.ofInt (mh_cx xs (i + 1)))]) (st := [.int (Int32.ofInt (vv))]) F (by omega) (p_tell (by omega) F2 r82 r85 (mh_cxR _ _) A.2.1.2.2.1 A.1) wv_RL_166_yX12_tell dL_law_1385 sh_81 rfl (by decide) rfl rfl (Nat.le_of_ble_eq_true rfl) hc (fun r2 h2 q2 => ?_)
  obtain ⟨vv2, z0, z1, hs2, rfl, F3, fr3, t82, t85⟩ := q2
  have hz := hs2.trans hs1.symm
  simp only [Prod.mk.injEq] at hz
  obtain ⟨ev, g0, g1⟩ := hz
  rw [ev]
  refine mh_same (pc := 1388) (tgt := 1452) F dL_law_1388 rfl ?_
  have h4x := A.2.1.2.1
  have h5x := A.2.1.2.2.1
  have hA : sl_A tt := by
    have q : sl_A (sp_tell (mh_cx xs (i + 1)) s er).2.1 := sl_tell (mh_cxR _ _) A
    rw [← hs1] at q; exact q
  have hC2 : sl_C h1 tt ee o kp b z u v := C.step (fun a ha => fr2 a (by simp; omega)) hV2 hE2 hX2
  have hC3 := hC2.fr (h2 := h2) (fun a ha => fr3 a (by simp; omega))
  exact K h2 ⟨tt, ee, o, kp, b, z, u, v, F3, ⟨(t82.trans g0), (t85.trans g1), ((fr3 81 (by decide)).trans r81), ((fr3 83 (by decide)).trans r83), ((fr3 91 (by decide)).trans r91), ((fr3 92 (by decide)).trans r92), ((fr3 93 (by decide)).trans r93), ((fr3 94 (by decide)).trans r94)⟩, hC3, hA, AK, h22, hU, (by omega)⟩

set_option maxRecDepth 100000 in
set_option maxHeartbeats 2000000 in
theorem L_check {g : mh_G} {f : mh_F} {d cl sl b0 L : Nat} {xs : Nat → Int32} (hd : 80 ≤ d) (F : mh_Fr g f RL cL_law 4 d) (hX : mh_scr g f b0 L xs) (hc : cl ≤ (mh_R f).cells ∧ sl ≤ (mh_R f).slots) {i : Int} (hi : 0 ≤ i ∧ i + 6 ≤ (L : Int)) {h : Nat → Int → Int} (H : LI i h) (K : ∀ h2, LI (i + 6) h2 → mh_V g f 4 96 cl sl 1452 [some (.ref 1000009), some (.ref 0), some (.ref 81), some (.int (Int32.ofInt (i)))] [] h2) : mh_V g f 4 96 cl sl 1393 [some (.ref 1000009), some (.ref 0), some (.ref 81), some (.int (Int32.ofInt (i)))] [] h := by
  obtain ⟨s, er, o, kp, b, z, u, v, hF, ⟨r82, r85, r81, r83, r91, r92, r93, r94⟩, C, A, AK, h22, hU, ho4⟩ := H
  obtain ⟨hV, hE, hKN, hXc, hKP, hI, hK, hS, hTr⟩ := id C
  have hL3 := hX.2.2.2.2
  have h3x : 0 ≤ o 3 ∧ o 3 ≤ 1 := by have := hI.2.2; omega
  have h3o : o 3 = 0 ∨ o 3 = 1 := by omega
  have hsb : sx_by s := ⟨A.2.1.2.1, A.2.1.2.2.2.1⟩
  have hbz : ∀ j, 0 ≤ j → j < 4 → (b j = 0 ∨ b j = 8 ∨ b j = 16 ∨ b j = 32) ∧ (0 ≤ z j ∧ z j ≤ 40) := fun j j0 j1 => ⟨(hS j j0 j1).1, (hS j j0 j1).2.1⟩
  refine mh_aload1 (pc := 1393) F dL_law_1393 ?_
  refine mh_callV0 (pc := 1394) (As := []) (st := []) F (by omega) (q_check (by omega) hF  hXc A.2.1.1 A.2.1.2.2.1 A.2.1.2.2.2.2 A.1 hV hE hKN) wv_RL_167_yX11_check dL_law_1394 sh_0 rfl (by decide) rfl rfl (Nat.le_of_ble_eq_true rfl) hc (fun r1 h1 q1 => ?_)
  obtain ⟨vv, tt, ee, hs1, rfl, F2, fr2, hV2, hE2⟩ := q1
  have r82 : h1 82 = s := (fr2 82 (by decide)).trans r82
  have r85 : h1 85 = er := (fr2 85 (by decide)).trans r85
  have r81 : h1 81 = o := (fr2 81 (by decide)).trans r81
  have r83 : h1 83 = kp := (fr2 83 (by decide)).trans r83
  have r91 : h1 91 = v := (fr2 91 (by decide)).trans r91
  have r92 : h1 92 = b := (fr2 92 (by decide)).trans r92
  have r93 : h1 93 = z := (fr2 93 (by decide)).trans r93
  have r94 : h1 94 = u := (fr2 94 (by decide)).trans r94
  refine mh_aload2 (pc := 1397) F dL_law_1397 ?_
  refine mh_callV0 (pc := 1398) (As := []) (st := [.int (Int32.ofInt (vv))]) F (by omega) (p_check (by omega) F2 r82 r85 rfl  A.2.1.1 A.2.1.2.2.1 A.2.1.2.2.2.2 A.1) wv_RL_170_yX12_check dL_law_1398 sh_81 rfl (by decide) rfl rfl (Nat.le_of_ble_eq_true rfl) hc (fun r2 h2 q2 => ?_)
  obtain ⟨vv2, z0, z1, hs2, rfl, F3, fr3, t82, t85⟩ := q2
  have hz := hs2.trans hs1.symm
  simp only [Prod.mk.injEq] at hz
  obtain ⟨ev, g0, g1⟩ := hz
  rw [ev]
  refine mh_same (pc := 1401) (tgt := 1452) F dL_law_1401 rfl ?_
  have h4x := A.2.1.2.1
  have h5x := A.2.1.2.2.1
  have hA : sl_A tt := by
    have q : sl_A (sp_checkP  s er).2.1 := sl_check A
    rw [← hs1] at q; exact q
  have hX2 : sc_X h1 tt := by
    have q : sc_X h1 (sp_checkP  s er).2.1 := sl_X_chk hXc (fr2 32 (by decide))
    rw [← hs1] at q; exact q
  have hC2 : sl_C h1 tt ee o kp b z u v := C.step (fun a ha => fr2 a (by simp; omega)) hV2 hE2 hX2
  have hC3 := hC2.fr (h2 := h2) (fun a ha => fr3 a (by simp; omega))
  exact K h2 ⟨tt, ee, o, kp, b, z, u, v, F3, ⟨(t82.trans g0), (t85.trans g1), ((fr3 81 (by decide)).trans r81), ((fr3 83 (by decide)).trans r83), ((fr3 91 (by decide)).trans r91), ((fr3 92 (by decide)).trans r92), ((fr3 93 (by decide)).trans r93), ((fr3 94 (by decide)).trans r94)⟩, hC3, hA, AK, h22, hU, (by omega)⟩

set_option maxRecDepth 100000 in
set_option maxHeartbeats 2000000 in
theorem L_count {g : mh_G} {f : mh_F} {d cl sl b0 L : Nat} {xs : Nat → Int32} (hd : 80 ≤ d) (F : mh_Fr g f RL cL_law 4 d) (hX : mh_scr g f b0 L xs) (hc : cl ≤ (mh_R f).cells ∧ sl ≤ (mh_R f).slots) {i : Int} (hi : 0 ≤ i ∧ i + 6 ≤ (L : Int)) {h : Nat → Int → Int} (H : LI i h) (K : ∀ h2, LI (i + 6) h2 → mh_V g f 4 96 cl sl 1452 [some (.ref 1000009), some (.ref 0), some (.ref 81), some (.int (Int32.ofInt (i)))] [] h2) : mh_V g f 4 96 cl sl 1406 [some (.ref 1000009), some (.ref 0), some (.ref 81), some (.int (Int32.ofInt (i)))] [] h := by
  obtain ⟨s, er, o, kp, b, z, u, v, hF, ⟨r82, r85, r81, r83, r91, r92, r93, r94⟩, C, A, AK, h22, hU, ho4⟩ := H
  obtain ⟨hV, hE, hKN, hXc, hKP, hI, hK, hS, hTr⟩ := id C
  have hL3 := hX.2.2.2.2
  have h3x : 0 ≤ o 3 ∧ o 3 ≤ 1 := by have := hI.2.2; omega
  have h3o : o 3 = 0 ∨ o 3 = 1 := by omega
  have hsb : sx_by s := ⟨A.2.1.2.1, A.2.1.2.2.2.1⟩
  have hbz : ∀ j, 0 ≤ j → j < 4 → (b j = 0 ∨ b j = 8 ∨ b j = 16 ∨ b j = 32) ∧ (0 ≤ z j ∧ z j ≤ 40) := fun j j0 j1 => ⟨(hS j j0 j1).1, (hS j j0 j1).2.1⟩
  refine mh_aload1 (pc := 1406) F dL_law_1406 ?_
  refine mh_aload0 (pc := 1407) F dL_law_1407 ?_
  refine mh_iload3 (pc := 1408) F dL_law_1408 ?_
  refine mh_iconst (pc := 1409) F dL_law_1409 ?_
  refine mh_iadd (pc := 1410) F dL_law_1410 ?_
  refine mh_sld (pc := 1411) F hX (by omega) dL_law_1411 ?_
  refine mh_callV0 (pc := 1412) (As := [.int (Int32.ofInt (mh_cx xs (i + 1)))]) (st := []) F (by omega) (q_count (by omega) hF (mh_cxR _ _) hTr.1 A.1 hV hE hKN) wv_RL_171_yX11_count dL_law_1412 sh_0 rfl (by decide) rfl rfl (Nat.le_of_ble_eq_true rfl) hc (fun r1 h1 q1 => ?_)
  obtain ⟨vv, tt, ee, hs1, rfl, F2, fr2, hV2, hE2⟩ := q1
  have r82 : h1 82 = s := (fr2 82 (by decide)).trans r82
  have r85 : h1 85 = er := (fr2 85 (by decide)).trans r85
  have r81 : h1 81 = o := (fr2 81 (by decide)).trans r81
  have r83 : h1 83 = kp := (fr2 83 (by decide)).trans r83
  have r91 : h1 91 = v := (fr2 91 (by decide)).trans r91
  have r92 : h1 92 = b := (fr2 92 (by decide)).trans r92
  have r93 : h1 93 = z := (fr2 93 (by decide)).trans r93
  have r94 : h1 94 = u := (fr2 94 (by decide)).trans r94
  refine mh_aload2 (pc := 1415) F dL_law_1415 ?_
  refine mh_aload0 (pc := 1416) F dL_law_1416 ?_
  refine mh_iload3 (pc := 1417) F dL_law_1417 ?_
  refine mh_iconst (pc := 1418) F dL_law_1418 ?_
  refine mh_iadd (pc := 1419) F dL_law_1419 ?_
  refine mh_sld (pc := 1420) F hX (by omega) dL_law_1420 ?_
  refine mh_callV0 (pc := 1421) (As := [.int (Int32.ofInt (mh_cx xs (i + 1)))]) (st := [.int (Int32.ofInt (vv))]) F (by omega) (p_count (by omega) F2 r82 r85 r81 (mh_cxR _ _) A.1) wv_RL_174_yX12_count dL_law_1421 sh_81 rfl (by decide) rfl rfl (Nat.le_of_ble_eq_true rfl) hc (fun r2 h2 q2 => ?_)
  obtain ⟨vv2, z0, z1, hs2, rfl, F3, fr3, t82, t85⟩ := q2
  have hz := hs2.trans hs1.symm
  simp only [Prod.mk.injEq] at hz
  obtain ⟨ev, g0, g1⟩ := hz
  rw [ev]
  refine mh_same (pc := 1424) (tgt := 1452) F dL_law_1424 rfl ?_
  have h4x := A.2.1.2.1
  have h5x := A.2.1.2.2.1
  have hts : tt = s := by
    have q : (sp_count (mh_cx xs (i + 1)) s er o).2.1 = s := by unfold sp_count; (repeat' split) <;> rfl
    rw [← hs1] at q; exact q
  have hA : sl_A tt ∧ sl_X s tt := by rw [hts]; exact ⟨A, sl_X.rf⟩
  have hX2 : sc_X h1 tt := sc_X_of hXc (fr2 32 (by decide)) (fr2 43 (by decide)) hA.2 h4x.2 h5x.2
  have hC2 : sl_C h1 tt ee o kp b z u v := C.step (fun a ha => fr2 a (by simp; omega)) hV2 hE2 hX2
  have hC3 := hC2.fr (h2 := h2) (fun a ha => fr3 a (by simp; omega))
  exact K h2 ⟨tt, ee, o, kp, b, z, u, v, F3, ⟨(t82.trans g0), (t85.trans g1), ((fr3 81 (by decide)).trans r81), ((fr3 83 (by decide)).trans r83), ((fr3 91 (by decide)).trans r91), ((fr3 92 (by decide)).trans r92), ((fr3 93 (by decide)).trans r93), ((fr3 94 (by decide)).trans r94)⟩, hC3, hA.1, AK, h22, hU, (by omega)⟩

set_option maxRecDepth 100000 in
set_option maxHeartbeats 2000000 in
theorem L_told {g : mh_G} {f : mh_F} {d cl sl b0 L : Nat} {xs : Nat → Int32} (hd : 80 ≤ d) (F : mh_Fr g f RL cL_law 4 d) (hX : mh_scr g f b0 L xs) (hc : cl ≤ (mh_R f).cells ∧ sl ≤ (mh_R f).slots) {i : Int} (hi : 0 ≤ i ∧ i + 6 ≤ (L : Int)) {h : Nat → Int → Int} (H : LI i h) (K : ∀ h2, LI (i + 6) h2 → mh_V g f 4 96 cl sl 1452 [some (.ref 1000009), some (.ref 0), some (.ref 81), some (.int (Int32.ofInt (i)))] [] h2) : mh_V g f 4 96 cl sl 1429 [some (.ref 1000009), some (.ref 0), some (.ref 81), some (.int (Int32.ofInt (i)))] [] h := by
  obtain ⟨s, er, o, kp, b, z, u, v, hF, ⟨r82, r85, r81, r83, r91, r92, r93, r94⟩, C, A, AK, h22, hU, ho4⟩ := H
  obtain ⟨hV, hE, hKN, hXc, hKP, hI, hK, hS, hTr⟩ := id C
  have hL3 := hX.2.2.2.2
  have h3x : 0 ≤ o 3 ∧ o 3 ≤ 1 := by have := hI.2.2; omega
  have h3o : o 3 = 0 ∨ o 3 = 1 := by omega
  have hsb : sx_by s := ⟨A.2.1.2.1, A.2.1.2.2.2.1⟩
  have hbz : ∀ j, 0 ≤ j → j < 4 → (b j = 0 ∨ b j = 8 ∨ b j = 16 ∨ b j = 32) ∧ (0 ≤ z j ∧ z j ≤ 40) := fun j j0 j1 => ⟨(hS j j0 j1).1, (hS j j0 j1).2.1⟩
  refine mh_aload1 (pc := 1429) F dL_law_1429 ?_
  refine mh_aload0 (pc := 1430) F dL_law_1430 ?_
  refine mh_iload3 (pc := 1431) F dL_law_1431 ?_
  refine mh_iconst (pc := 1432) F dL_law_1432 ?_
  refine mh_iadd (pc := 1433) F dL_law_1433 ?_
  refine mh_sld (pc := 1434) F hX (by omega) dL_law_1434 ?_
  refine mh_callV0 (pc := 1435) (As := [.int (Int32.ofInt (mh_cx xs (i + 1)))]) (st := []) F (by omega) (q_law0 (by omega) hF (mh_cxR _ _) A.1 hV hE hKN) wv_RL_175_yX11_told dL_law_1435 sh_0 rfl (by decide) rfl rfl (Nat.le_of_ble_eq_true rfl) hc (fun r1 h1 q1 => ?_)
  obtain ⟨vv, tt, ee, hs1, rfl, F2, fr2, hV2, hE2⟩ := q1
  have r82 : h1 82 = s := (fr2 82 (by decide)).trans r82
  have r85 : h1 85 = er := (fr2 85 (by decide)).trans r85
  have r81 : h1 81 = o := (fr2 81 (by decide)).trans r81
  have r83 : h1 83 = kp := (fr2 83 (by decide)).trans r83
  have r91 : h1 91 = v := (fr2 91 (by decide)).trans r91
  have r92 : h1 92 = b := (fr2 92 (by decide)).trans r92
  have r93 : h1 93 = z := (fr2 93 (by decide)).trans r93
  have r94 : h1 94 = u := (fr2 94 (by decide)).trans r94
  refine mh_aload2 (pc := 1438) F dL_law_1438 ?_
  refine mh_aload0 (pc := 1439) F dL_law_1439 ?_
  refine mh_iload3 (pc := 1440) F dL_law_1440 ?_
  refine mh_iconst (pc := 1441) F dL_law_1441 ?_
  refine mh_iadd (pc := 1442) F dL_law_1442 ?_
  refine mh_sld (pc := 1443) F hX (by omega) dL_law_1443 ?_
  refine mh_callV0 (pc := 1444) (As := [.int (Int32.ofInt (mh_cx xs (i + 1)))]) (st := [.int (Int32.ofInt (vv))]) F (by omega) (p_told (by omega) F2 r82 r85 (mh_cxR _ _) A.1) wv_RL_178_yX12_told_ dL_law_1444 sh_81 rfl (by decide) rfl rfl (Nat.le_of_ble_eq_true rfl) hc (fun r2 h2 q2 => ?_)
  obtain ⟨vv2, z0, z1, hs2, rfl, F3, fr3, t82, t85⟩ := q2
  have hz := hs2.trans hs1.symm
  simp only [Prod.mk.injEq] at hz
  obtain ⟨ev, g0, g1⟩ := hz
  rw [ev]
  refine mh_same (pc := 1447) (tgt := 1452) F dL_law_1447 rfl ?_
  have h4x := A.2.1.2.1
  have h5x := A.2.1.2.2.1
  have hts : tt = s := by
    have q : (sp_toldP (mh_cx xs (i + 1)) s er).2.1 = s := by unfold sp_toldP; (repeat' split) <;> rfl
    rw [← hs1] at q; exact q
  have hA : sl_A tt ∧ sl_X s tt := by rw [hts]; exact ⟨A, sl_X.rf⟩
  have hX2 : sc_X h1 tt := sc_X_of hXc (fr2 32 (by decide)) (fr2 43 (by decide)) hA.2 h4x.2 h5x.2
  have hC2 : sl_C h1 tt ee o kp b z u v := C.step (fun a ha => fr2 a (by simp; omega)) hV2 hE2 hX2
  have hC3 := hC2.fr (h2 := h2) (fun a ha => fr3 a (by simp; omega))
  exact K h2 ⟨tt, ee, o, kp, b, z, u, v, F3, ⟨(t82.trans g0), (t85.trans g1), ((fr3 81 (by decide)).trans r81), ((fr3 83 (by decide)).trans r83), ((fr3 91 (by decide)).trans r91), ((fr3 92 (by decide)).trans r92), ((fr3 93 (by decide)).trans r93), ((fr3 94 (by decide)).trans r94)⟩, hC3, hA.1, AK, h22, hU, (by omega)⟩

