theorem br_write {l : Launch} {w : xZ} {i : Nat} {σ : xMi} (hR : RR σ) (hi : i + 4 < w.2.2.2.1) (hL : w.2.2.2.1 < 2147483648) (kk : ∀ σ1, RR σ1 → xL l w i 723 [] σ1) : xL l w i 148 [] σ := by
  obtain ⟨K, u, τ, v, τ1, z, wt, h⟩ := hR
  obtain ⟨hk, hg0, hU, hV, hZ, hT, hO⟩ := id h
  refine g_aload_n dL_law_148 rfl ?_
  refine g_loadA dL_law_149 rfl ?_
  refine g_iload_n dL_law_150 rfl ?_
  refine g_iconst dL_law_151 ?_
  refine g_iadd dL_law_152 ?_
  refine g_sld (j := i + 1) dL_law_153 (by omega) (by omega) hL ?_
  refine f_V (As := [xI (x_ag w (i + 1))]) dL_law_154 cs_L_13 mb_X6_write (c_X6_write l 154 _ (x_ag w (i + 1)) wt (by decide) hT.1 hT.2.1) rfl (x_vC (by decide) (Nat.le_of_ble_eq_true rfl) (Nat.le_of_ble_eq_true rfl)) rfl rfl rfl (Nat.le_of_ble_eq_true rfl) (Nat.le_of_ble_eq_true rfl) (Nat.le_of_ble_eq_true rfl) (Nat.le_refl _) (Nat.le_refl _) ?_
  refine g_aload_n dL_law_157 rfl ?_
  refine g_loadA dL_law_158 rfl ?_
  refine g_iload_n dL_law_159 rfl ?_
  refine g_iconst dL_law_160 ?_
  refine g_iadd dL_law_161 ?_
  refine g_sld (j := i + 1) dL_law_162 (by omega) (by omega) hL ?_
  refine f_V (As := [xI (x_ag w (i + 1))]) dL_law_163 cs_L_17 mb_X7_write (c_X7_write l 154 _ (x_ag w (i + 1)) wt (by decide) hT.1 (by rw [q_write _ _ _ (by omega)]; exact hT.2.2.1)) rfl (x_vM (by decide) (Nat.le_of_ble_eq_true rfl) (Nat.le_of_ble_eq_true rfl)) rfl rfl rfl (Nat.le_of_ble_eq_true rfl) (Nat.le_of_ble_eq_true rfl) (Nat.le_of_ble_eq_true rfl) (Nat.le_refl _) (Nat.le_refl _) ?_
  exact g_cmp_eq 723 dL_law_166 rfl (fun _ => kk _ (m_write h (x_agw w (i + 1))).2) (fun hne => absurd (congrArg x_wr (m_write h (x_agw w (i + 1))).1) hne)
theorem br_wipe {l : Launch} {w : xZ} {i : Nat} {σ : xMi} (hR : RR σ) (hi : i + 4 < w.2.2.2.1) (hL : w.2.2.2.1 < 2147483648) (kk : ∀ σ1, RR σ1 → xL l w i 723 [] σ1) : xL l w i 171 [] σ := by
  obtain ⟨K, u, τ, v, τ1, z, wt, h⟩ := hR
  obtain ⟨hk, hg0, hU, hV, hZ, hT, hO⟩ := id h
  refine g_aload_n dL_law_171 rfl ?_
  refine f_V (As := []) dL_law_172 cs_L_18 mb_X6_wipe (c_X6_wipe l 154 _ (by decide)) rfl (x_vC (by decide) (Nat.le_of_ble_eq_true rfl) (Nat.le_of_ble_eq_true rfl)) rfl rfl rfl (Nat.le_of_ble_eq_true rfl) (Nat.le_of_ble_eq_true rfl) (Nat.le_of_ble_eq_true rfl) (Nat.le_refl _) (Nat.le_refl _) ?_
  refine g_aload_n dL_law_175 rfl ?_
  refine f_V (As := []) dL_law_176 cs_L_22 mb_X7_wipe (c_X7_wipe l 154 _ (by decide)) rfl (x_vM (by decide) (Nat.le_of_ble_eq_true rfl) (Nat.le_of_ble_eq_true rfl)) rfl rfl rfl (Nat.le_of_ble_eq_true rfl) (Nat.le_of_ble_eq_true rfl) (Nat.le_of_ble_eq_true rfl) (Nat.le_refl _) (Nat.le_refl _) ?_
  exact g_cmp_eq 723 dL_law_179 rfl (fun _ => kk _ (m_wipe h).2) (fun hne => absurd (congrArg x_wr (m_wipe h).1) hne)
theorem br_fault {l : Launch} {w : xZ} {i : Nat} {σ : xMi} (hR : RR σ) (hi : i + 4 < w.2.2.2.1) (hL : w.2.2.2.1 < 2147483648) (kk : ∀ σ1, RR σ1 → xL l w i 723 [] σ1) : xL l w i 184 [] σ := by
  obtain ⟨K, u, τ, v, τ1, z, wt, h⟩ := hR
  obtain ⟨hk, hg0, hU, hV, hZ, hT, hO⟩ := id h
  refine g_aload_n dL_law_184 rfl ?_
  refine f_V (As := []) dL_law_185 cs_L_23 mb_X6_fault (c_X6_fault l 154 _ (by decide) hT.2.2.2.2) rfl (x_vC (by decide) (Nat.le_of_ble_eq_true rfl) (Nat.le_of_ble_eq_true rfl)) rfl rfl rfl (Nat.le_of_ble_eq_true rfl) (Nat.le_of_ble_eq_true rfl) (Nat.le_of_ble_eq_true rfl) (Nat.le_refl _) (Nat.le_refl _) ?_
  refine g_aload_n dL_law_188 rfl ?_
  refine f_V (As := []) dL_law_189 cs_L_26 mb_X7_fault (c_X7_fault l 154 _ (by decide) (by rw [q_fault _ _ _ (by omega), hT.2.2.1]; have := hT.1; omega)) rfl (x_vM (by decide) (Nat.le_of_ble_eq_true rfl) (Nat.le_of_ble_eq_true rfl)) rfl rfl rfl (Nat.le_of_ble_eq_true rfl) (Nat.le_of_ble_eq_true rfl) (Nat.le_of_ble_eq_true rfl) (Nat.le_refl _) (Nat.le_refl _) ?_
  exact g_cmp_eq 723 dL_law_192 rfl (fun _ => kk _ (m_fault h).2) (fun hne => absurd (congrArg x_wr (m_fault h).1) hne)
theorem br_lay {l : Launch} {w : xZ} {i : Nat} {σ : xMi} (hR : RR σ) (hi : i + 4 < w.2.2.2.1) (hL : w.2.2.2.1 < 2147483648) (kk : ∀ σ1, RR σ1 → xL l w i 723 [] σ1) : xL l w i 197 [] σ := by
  obtain ⟨K, u, τ, v, τ1, z, wt, h⟩ := hR
  obtain ⟨hk, hg0, hU, hV, hZ, hT, hO⟩ := id h
  refine g_aload_n dL_law_197 rfl ?_
  refine f_V (As := []) dL_law_198 cs_L_27 mb_X6_lay (c_X6_lay l 154 _ (by decide) hT.2.2.2.2) rfl (x_vC (by decide) (Nat.le_of_ble_eq_true rfl) (Nat.le_of_ble_eq_true rfl)) rfl rfl rfl (Nat.le_of_ble_eq_true rfl) (Nat.le_of_ble_eq_true rfl) (Nat.le_of_ble_eq_true rfl) (Nat.le_refl _) (Nat.le_refl _) ?_
  refine g_aload_n dL_law_201 rfl ?_
  refine f_V (As := []) dL_law_202 cs_L_30 mb_X7_lay (c_X7_lay l 154 _ (by decide) (by rw [q_lay _ _ _ (by omega), hT.2.2.1]; have := hT.1; omega)) rfl (x_vM (by decide) (Nat.le_of_ble_eq_true rfl) (Nat.le_of_ble_eq_true rfl)) rfl rfl rfl (Nat.le_of_ble_eq_true rfl) (Nat.le_of_ble_eq_true rfl) (Nat.le_of_ble_eq_true rfl) (Nat.le_refl _) (Nat.le_refl _) ?_
  exact g_cmp_eq 723 dL_law_205 rfl (fun _ => kk _ (m_lay h).2) (fun hne => absurd (congrArg x_wr (m_lay h).1) hne)
theorem br_person {l : Launch} {w : xZ} {i : Nat} {σ : xMi} (hR : RR σ) (hi : i + 4 < w.2.2.2.1) (hL : w.2.2.2.1 < 2147483648) (kk : ∀ σ1, RR σ1 → xL l w i 723 [] σ1) : xL l w i 210 [] σ := by
  obtain ⟨K, u, τ, v, τ1, z, wt, h⟩ := hR
  obtain ⟨hk, hg0, hU, hV, hZ, hT, hO⟩ := id h
  refine g_aload_n dL_law_210 rfl ?_
  refine g_loadA dL_law_211 rfl ?_
  refine g_iload_n dL_law_212 rfl ?_
  refine g_iconst dL_law_213 ?_
  refine g_iadd dL_law_214 ?_
  refine g_sld (j := i + 1) dL_law_215 (by omega) (by omega) hL ?_
  refine g_loadA dL_law_216 rfl ?_
  refine g_iload_n dL_law_217 rfl ?_
  refine g_iconst dL_law_218 ?_
  refine g_iadd dL_law_219 ?_
  refine g_sld (j := i + 2) dL_law_220 (by omega) (by omega) hL ?_
  refine f_V (As := [xI (x_ag w (i + 1)), xI (x_ag w (i + 2))]) dL_law_221 cs_L_31 mb_X6_person (c_X6_person l 154 _ (x_ag w (i + 1)) (x_ag w (i + 2)) K (by decide) hk.2.1 (x_agw w (i + 1)) hk.2.2.1) rfl (x_vC (by decide) (Nat.le_of_ble_eq_true rfl) (Nat.le_of_ble_eq_true rfl)) rfl rfl rfl (Nat.le_of_ble_eq_true rfl) (Nat.le_of_ble_eq_true rfl) (Nat.le_of_ble_eq_true rfl) (Nat.le_refl _) (Nat.le_refl _) ?_
  refine g_aload_n dL_law_224 rfl ?_
  refine g_loadA dL_law_225 rfl ?_
  refine g_iload_n dL_law_226 rfl ?_
  refine g_iconst dL_law_227 ?_
  refine g_iadd dL_law_228 ?_
  refine g_sld (j := i + 1) dL_law_229 (by omega) (by omega) hL ?_
  refine g_loadA dL_law_230 rfl ?_
  refine g_iload_n dL_law_231 rfl ?_
  refine g_iconst dL_law_232 ?_
  refine g_iadd dL_law_233 ?_
  refine g_sld (j := i + 2) dL_law_234 (by omega) (by omega) hL ?_
  refine f_V (As := [xI (x_ag w (i + 1)), xI (x_ag w (i + 2))]) dL_law_235 cs_L_35 mb_X7_person (c_X7_person l 154 _ (x_ag w (i + 1)) (x_ag w (i + 2)) K (by decide) hk.2.1 (x_agw w (i + 1)) hk.2.2.2.1) rfl (x_vM (by decide) (Nat.le_of_ble_eq_true rfl) (Nat.le_of_ble_eq_true rfl)) rfl rfl rfl (Nat.le_of_ble_eq_true rfl) (Nat.le_of_ble_eq_true rfl) (Nat.le_of_ble_eq_true rfl) (Nat.le_refl _) (Nat.le_refl _) ?_
  exact g_cmp_eq 723 dL_law_238 rfl (fun _ => kk _ ⟨K, u, τ, v, τ1, z, wt, h⟩) (fun hne => absurd (congrArg x_wr (m_person h (x_agw w (i + 1)) (x_agw w (i + 2)))) hne)
theorem br_send {l : Launch} {w : xZ} {i : Nat} {σ : xMi} (hR : RR σ) (hi : i + 4 < w.2.2.2.1) (hL : w.2.2.2.1 < 2147483648) (kk : ∀ σ1, RR σ1 → xL l w i 723 [] σ1) : xL l w i 243 [] σ := by
  obtain ⟨K, u, τ, v, τ1, z, wt, h⟩ := hR
  obtain ⟨hk, hg0, hU, hV, hZ, hT, hO⟩ := id h
  refine g_aload_n dL_law_243 rfl ?_
  refine g_loadA dL_law_244 rfl ?_
  refine g_iload_n dL_law_245 rfl ?_
  refine g_iconst dL_law_246 ?_
  refine g_iadd dL_law_247 ?_
  refine g_sld (j := i + 1) dL_law_248 (by omega) (by omega) hL ?_
  refine f_V (As := [xI (x_ag w (i + 1))]) dL_law_249 cs_L_36 mb_X6_send (c_X6_send l 154 _ (x_ag w (i + 1)) K τ (by decide) hk.2.1 hU.2.1 (x_agw w (i + 1)) hk.2.2.1 hU.2.2.2.1) rfl (x_vC (by decide) (Nat.le_of_ble_eq_true rfl) (Nat.le_of_ble_eq_true rfl)) rfl rfl rfl (Nat.le_of_ble_eq_true rfl) (Nat.le_of_ble_eq_true rfl) (Nat.le_of_ble_eq_true rfl) (Nat.le_refl _) (Nat.le_refl _) ?_
  refine g_aload_n dL_law_252 rfl ?_
  refine g_loadA dL_law_253 rfl ?_
  refine g_iload_n dL_law_254 rfl ?_
  refine g_iconst dL_law_255 ?_
  refine g_iadd dL_law_256 ?_
  refine g_sld (j := i + 1) dL_law_257 (by omega) (by omega) hL ?_
  refine f_V (As := [xI (x_ag w (i + 1))]) dL_law_258 cs_L_39 mb_X7_send (c_X7_send l 154 _ (x_ag w (i + 1)) K u (by decide) hk.2.1 hU.1 (x_agw w (i + 1)) (by rw [q_send _ _ _ (by omega)]; exact hk.2.2.2.1) (by rw [q_send _ _ _ (by omega)]; exact hU.2.2.2.2.1)) rfl (x_vM (by decide) (Nat.le_of_ble_eq_true rfl) (Nat.le_of_ble_eq_true rfl)) rfl rfl rfl (Nat.le_of_ble_eq_true rfl) (Nat.le_of_ble_eq_true rfl) (Nat.le_of_ble_eq_true rfl) (Nat.le_refl _) (Nat.le_refl _) ?_
  exact g_cmp_eq 723 dL_law_261 rfl (fun _ => kk _ (m_send h (x_agw w (i + 1))).2) (fun hne => absurd (congrArg x_wr (m_send h (x_agw w (i + 1))).1) hne)
theorem br_call {l : Launch} {w : xZ} {i : Nat} {σ : xMi} (hR : RR σ) (hi : i + 4 < w.2.2.2.1) (hL : w.2.2.2.1 < 2147483648) (kk : ∀ σ1, RR σ1 → xL l w i 723 [] σ1) : xL l w i 266 [] σ := by
  obtain ⟨K, u, τ, v, τ1, z, wt, h⟩ := hR
  obtain ⟨hk, hg0, hU, hV, hZ, hT, hO⟩ := id h
  refine g_aload_n dL_law_266 rfl ?_
  refine g_loadA dL_law_267 rfl ?_
  refine g_iload_n dL_law_268 rfl ?_
  refine g_iconst dL_law_269 ?_
  refine g_iadd dL_law_270 ?_
  refine g_sld (j := i + 1) dL_law_271 (by omega) (by omega) hL ?_
  refine f_V (As := [xI (x_ag w (i + 1))]) dL_law_272 cs_L_40 mb_X6_call (c_X6_call l 154 _ (x_ag w (i + 1)) K τ (by decide) hk.2.1 hU.2.1 (x_agw w (i + 1)) hk.2.2.1 hU.2.2.2.1) rfl (x_vC (by decide) (Nat.le_of_ble_eq_true rfl) (Nat.le_of_ble_eq_true rfl)) rfl rfl rfl (Nat.le_of_ble_eq_true rfl) (Nat.le_of_ble_eq_true rfl) (Nat.le_of_ble_eq_true rfl) (Nat.le_refl _) (Nat.le_refl _) ?_
  refine g_aload_n dL_law_275 rfl ?_
  refine g_loadA dL_law_276 rfl ?_
  refine g_iload_n dL_law_277 rfl ?_
  refine g_iconst dL_law_278 ?_
  refine g_iadd dL_law_279 ?_
  refine g_sld (j := i + 1) dL_law_280 (by omega) (by omega) hL ?_
  refine f_V (As := [xI (x_ag w (i + 1))]) dL_law_281 cs_L_43 mb_X7_call (c_X7_call l 154 _ (x_ag w (i + 1)) K u (by decide) hk.2.1 hU.1 (x_agw w (i + 1)) (by rw [q_call _ _ _ (by omega)]; exact hk.2.2.2.1) (by rw [q_call _ _ _ (by omega)]; exact hU.2.2.2.2.1)) rfl (x_vM (by decide) (Nat.le_of_ble_eq_true rfl) (Nat.le_of_ble_eq_true rfl)) rfl rfl rfl (Nat.le_of_ble_eq_true rfl) (Nat.le_of_ble_eq_true rfl) (Nat.le_of_ble_eq_true rfl) (Nat.le_refl _) (Nat.le_refl _) ?_
  exact g_cmp_eq 723 dL_law_284 rfl (fun _ => kk _ (m_call h (x_agw w (i + 1))).2) (fun hne => absurd (congrArg x_wr (m_call h (x_agw w (i + 1))).1) hne)
theorem br_buy {l : Launch} {w : xZ} {i : Nat} {σ : xMi} (hR : RR σ) (hi : i + 4 < w.2.2.2.1) (hL : w.2.2.2.1 < 2147483648) (kk : ∀ σ1, RR σ1 → xL l w i 723 [] σ1) : xL l w i 289 [] σ := by
  obtain ⟨K, u, τ, v, τ1, z, wt, h⟩ := hR
  obtain ⟨hk, hg0, hU, hV, hZ, hT, hO⟩ := id h
  refine g_aload_n dL_law_289 rfl ?_
  refine f_V (As := []) dL_law_290 cs_L_44 mb_X6_buy (c_X6_buy l 154 _ τ (by decide) hU.2.1 hU.2.2.2.1) rfl (x_vC (by decide) (Nat.le_of_ble_eq_true rfl) (Nat.le_of_ble_eq_true rfl)) rfl rfl rfl (Nat.le_of_ble_eq_true rfl) (Nat.le_of_ble_eq_true rfl) (Nat.le_of_ble_eq_true rfl) (Nat.le_refl _) (Nat.le_refl _) ?_
  refine g_aload_n dL_law_293 rfl ?_
  refine f_V (As := []) dL_law_294 cs_L_47 mb_X7_buy (c_X7_buy l 154 _ u (by decide) hU.1 (by rw [q_buy _ _ _ (by omega)]; exact hU.2.2.2.2.1)) rfl (x_vM (by decide) (Nat.le_of_ble_eq_true rfl) (Nat.le_of_ble_eq_true rfl)) rfl rfl rfl (Nat.le_of_ble_eq_true rfl) (Nat.le_of_ble_eq_true rfl) (Nat.le_of_ble_eq_true rfl) (Nat.le_refl _) (Nat.le_refl _) ?_
  exact g_cmp_eq 723 dL_law_297 rfl (fun _ => kk _ (m_buy h).2) (fun hne => absurd (congrArg x_wr (m_buy h).1) hne)
theorem br_pass {l : Launch} {w : xZ} {i : Nat} {σ : xMi} (hR : RR σ) (hi : i + 4 < w.2.2.2.1) (hL : w.2.2.2.1 < 2147483648) (kk : ∀ σ1, RR σ1 → xL l w i 723 [] σ1) : xL l w i 302 [] σ := by
  obtain ⟨K, u, τ, v, τ1, z, wt, h⟩ := hR
  obtain ⟨hk, hg0, hU, hV, hZ, hT, hO⟩ := id h
  refine g_aload_n dL_law_302 rfl ?_
  refine g_loadA dL_law_303 rfl ?_
  refine g_iload_n dL_law_304 rfl ?_
  refine g_iconst dL_law_305 ?_
  refine g_iadd dL_law_306 ?_
  refine g_sld (j := i + 1) dL_law_307 (by omega) (by omega) hL ?_
  refine f_V (As := [xI (x_ag w (i + 1))]) dL_law_308 cs_L_48 mb_X6_pass (c_X6_pass l 154 _ (x_ag w (i + 1)) K τ (by decide) hk.2.1 hU.2.1 (x_agw w (i + 1)) hk.2.2.1 hU.2.2.2.1) rfl (x_vC (by decide) (Nat.le_of_ble_eq_true rfl) (Nat.le_of_ble_eq_true rfl)) rfl rfl rfl (Nat.le_of_ble_eq_true rfl) (Nat.le_of_ble_eq_true rfl) (Nat.le_of_ble_eq_true rfl) (Nat.le_refl _) (Nat.le_refl _) ?_
  refine g_aload_n dL_law_311 rfl ?_
  refine g_loadA dL_law_312 rfl ?_
  refine g_iload_n dL_law_313 rfl ?_
  refine g_iconst dL_law_314 ?_
  refine g_iadd dL_law_315 ?_
  refine g_sld (j := i + 1) dL_law_316 (by omega) (by omega) hL ?_
  refine f_V (As := [xI (x_ag w (i + 1))]) dL_law_317 cs_L_51 mb_X7_pass (c_X7_pass l 154 _ (x_ag w (i + 1)) K u (by decide) hk.2.1 hU.1 (x_agw w (i + 1)) (by rw [q_pass _ _ _ (by omega)]; exact hk.2.2.2.1) (by rw [q_pass _ _ _ (by omega)]; exact hU.2.2.2.2.1)) rfl (x_vM (by decide) (Nat.le_of_ble_eq_true rfl) (Nat.le_of_ble_eq_true rfl)) rfl rfl rfl (Nat.le_of_ble_eq_true rfl) (Nat.le_of_ble_eq_true rfl) (Nat.le_of_ble_eq_true rfl) (Nat.le_refl _) (Nat.le_refl _) ?_
  exact g_cmp_eq 723 dL_law_320 rfl (fun _ => kk _ (m_pass h (x_agw w (i + 1))).2) (fun hne => absurd (congrArg x_wr (m_pass h (x_agw w (i + 1))).1) hne)
theorem br_undo {l : Launch} {w : xZ} {i : Nat} {σ : xMi} (hR : RR σ) (hi : i + 4 < w.2.2.2.1) (hL : w.2.2.2.1 < 2147483648) (kk : ∀ σ1, RR σ1 → xL l w i 723 [] σ1) : xL l w i 325 [] σ := by
  obtain ⟨K, u, τ, v, τ1, z, wt, h⟩ := hR
  obtain ⟨hk, hg0, hU, hV, hZ, hT, hO⟩ := id h
  refine g_aload_n dL_law_325 rfl ?_
  refine f_V (As := []) dL_law_326 cs_L_52 mb_X6_undo (c_X6_undo l 154 _ τ (by decide) hU.2.1 hU.2.2.2.1) rfl (x_vC (by decide) (Nat.le_of_ble_eq_true rfl) (Nat.le_of_ble_eq_true rfl)) rfl rfl rfl (Nat.le_of_ble_eq_true rfl) (Nat.le_of_ble_eq_true rfl) (Nat.le_of_ble_eq_true rfl) (Nat.le_refl _) (Nat.le_refl _) ?_
  refine g_aload_n dL_law_329 rfl ?_
  refine f_V (As := []) dL_law_330 cs_L_55 mb_X7_undo (c_X7_undo l 154 _ u (by decide) hU.1 (by rw [q_undo _ _ _ (by omega)]; exact hU.2.2.2.2.1)) rfl (x_vM (by decide) (Nat.le_of_ble_eq_true rfl) (Nat.le_of_ble_eq_true rfl)) rfl rfl rfl (Nat.le_of_ble_eq_true rfl) (Nat.le_of_ble_eq_true rfl) (Nat.le_of_ble_eq_true rfl) (Nat.le_refl _) (Nat.le_refl _) ?_
  exact g_cmp_eq 723 dL_law_333 rfl (fun _ => kk _ (m_undo h).2) (fun hne => absurd (congrArg x_wr (m_undo h).1) hne)
theorem br_behind {l : Launch} {w : xZ} {i : Nat} {σ : xMi} (hR : RR σ) (hi : i + 4 < w.2.2.2.1) (hL : w.2.2.2.1 < 2147483648) (kk : ∀ σ1, RR σ1 → xL l w i 723 [] σ1) : xL l w i 338 [] σ := by
  obtain ⟨K, u, τ, v, τ1, z, wt, h⟩ := hR
  obtain ⟨hk, hg0, hU, hV, hZ, hT, hO⟩ := id h
  refine g_aload_n dL_law_338 rfl ?_
  refine g_loadA dL_law_339 rfl ?_
  refine g_iload_n dL_law_340 rfl ?_
  refine g_iconst dL_law_341 ?_
  refine g_iadd dL_law_342 ?_
  refine g_sld (j := i + 1) dL_law_343 (by omega) (by omega) hL ?_
  refine g_loadA dL_law_344 rfl ?_
  refine g_iload_n dL_law_345 rfl ?_
  refine g_iconst dL_law_346 ?_
  refine g_iadd dL_law_347 ?_
  refine g_sld (j := i + 2) dL_law_348 (by omega) (by omega) hL ?_
  refine f_V (As := [xI (x_ag w (i + 1)), xI (x_ag w (i + 2))]) dL_law_349 cs_L_56 mb_X6_behind (c_X6_behind l 154 _ (x_ag w (i + 1)) (x_ag w (i + 2)) K (by decide) hk.2.1 (x_agw w (i + 1)) hk.2.2.1) rfl (x_vC (by decide) (Nat.le_of_ble_eq_true rfl) (Nat.le_of_ble_eq_true rfl)) rfl rfl rfl (Nat.le_of_ble_eq_true rfl) (Nat.le_of_ble_eq_true rfl) (Nat.le_of_ble_eq_true rfl) (Nat.le_refl _) (Nat.le_refl _) ?_
  refine g_aload_n dL_law_352 rfl ?_
  refine g_loadA dL_law_353 rfl ?_
  refine g_iload_n dL_law_354 rfl ?_
  refine g_iconst dL_law_355 ?_
  refine g_iadd dL_law_356 ?_
  refine g_sld (j := i + 1) dL_law_357 (by omega) (by omega) hL ?_
  refine g_loadA dL_law_358 rfl ?_
  refine g_iload_n dL_law_359 rfl ?_
  refine g_iconst dL_law_360 ?_
  refine g_iadd dL_law_361 ?_
  refine g_sld (j := i + 2) dL_law_362 (by omega) (by omega) hL ?_
  refine f_V (As := [xI (x_ag w (i + 1)), xI (x_ag w (i + 2))]) dL_law_363 cs_L_59 mb_X7_behind (c_X7_behind l 154 _ (x_ag w (i + 1)) (x_ag w (i + 2)) K (by decide) hk.2.1 (x_agw w (i + 1)) (by rw [q_behind _ _ _ (by omega)]; exact hk.2.2.2.1)) rfl (x_vM (by decide) (Nat.le_of_ble_eq_true rfl) (Nat.le_of_ble_eq_true rfl)) rfl rfl rfl (Nat.le_of_ble_eq_true rfl) (Nat.le_of_ble_eq_true rfl) (Nat.le_of_ble_eq_true rfl) (Nat.le_refl _) (Nat.le_refl _) ?_
  exact g_cmp_eq 723 dL_law_366 rfl (fun _ => kk _ (m_behind h (x_agw w (i + 1)) (x_agw w (i + 2))).2) (fun hne => absurd (congrArg x_wr (m_behind h (x_agw w (i + 1)) (x_agw w (i + 2))).1) hne)
theorem br_when {l : Launch} {w : xZ} {i : Nat} {σ : xMi} (hR : RR σ) (hi : i + 4 < w.2.2.2.1) (hL : w.2.2.2.1 < 2147483648) (kk : ∀ σ1, RR σ1 → xL l w i 723 [] σ1) : xL l w i 371 [] σ := by
  obtain ⟨K, u, τ, v, τ1, z, wt, h⟩ := hR
  obtain ⟨hk, hg0, hU, hV, hZ, hT, hO⟩ := id h
  refine g_aload_n dL_law_371 rfl ?_
  refine g_loadA dL_law_372 rfl ?_
  refine g_iload_n dL_law_373 rfl ?_
  refine g_iconst dL_law_374 ?_
  refine g_iadd dL_law_375 ?_
  refine g_sld (j := i + 1) dL_law_376 (by omega) (by omega) hL ?_
  refine f_V (As := [xI (x_ag w (i + 1))]) dL_law_377 cs_L_60 mb_X6_when (c_X6_when l 154 _ (x_ag w (i + 1)) K (by decide) hk.2.1 (x_agw w (i + 1)) hk.2.2.1) rfl (x_vC (by decide) (Nat.le_of_ble_eq_true rfl) (Nat.le_of_ble_eq_true rfl)) rfl rfl rfl (Nat.le_of_ble_eq_true rfl) (Nat.le_of_ble_eq_true rfl) (Nat.le_of_ble_eq_true rfl) (Nat.le_refl _) (Nat.le_refl _) ?_
  refine g_aload_n dL_law_380 rfl ?_
  refine g_loadA dL_law_381 rfl ?_
  refine g_iload_n dL_law_382 rfl ?_
  refine g_iconst dL_law_383 ?_
  refine g_iadd dL_law_384 ?_
  refine g_sld (j := i + 1) dL_law_385 (by omega) (by omega) hL ?_
  refine f_V (As := [xI (x_ag w (i + 1))]) dL_law_386 cs_L_63 mb_X7_when (c_X7_when l 154 _ (x_ag w (i + 1)) K (by decide) hk.2.1 (x_agw w (i + 1)) (by rw [q_when _ _ _ (by omega)]; exact hk.2.2.2.1)) rfl (x_vM (by decide) (Nat.le_of_ble_eq_true rfl) (Nat.le_of_ble_eq_true rfl)) rfl rfl rfl (Nat.le_of_ble_eq_true rfl) (Nat.le_of_ble_eq_true rfl) (Nat.le_of_ble_eq_true rfl) (Nat.le_refl _) (Nat.le_refl _) ?_
  exact g_cmp_eq 723 dL_law_389 rfl (fun _ => kk _ (m_when h (x_agw w (i + 1))).2) (fun hne => absurd (congrArg x_wr (m_when h (x_agw w (i + 1))).1) hne)
theorem br_gentle {l : Launch} {w : xZ} {i : Nat} {σ : xMi} (hR : RR σ) (hi : i + 4 < w.2.2.2.1) (hL : w.2.2.2.1 < 2147483648) (kk : ∀ σ1, RR σ1 → xL l w i 723 [] σ1) : xL l w i 394 [] σ := by
  obtain ⟨K, u, τ, v, τ1, z, wt, h⟩ := hR
  obtain ⟨hk, hg0, hU, hV, hZ, hT, hO⟩ := id h
  refine g_aload_n dL_law_394 rfl ?_
  refine f_V (As := []) dL_law_395 cs_L_64 mb_X6_gentle (c_X6_gentle l 154 _ K (by decide) hk.2.1 hk.2.2.1) rfl (x_vC (by decide) (Nat.le_of_ble_eq_true rfl) (Nat.le_of_ble_eq_true rfl)) rfl rfl rfl (Nat.le_of_ble_eq_true rfl) (Nat.le_of_ble_eq_true rfl) (Nat.le_of_ble_eq_true rfl) (Nat.le_refl _) (Nat.le_refl _) ?_
  refine g_aload_n dL_law_398 rfl ?_
  refine f_V (As := []) dL_law_399 cs_L_67 mb_X7_gentle (c_X7_gentle l 154 _ K (by decide) hk.2.1 hk.2.2.2.1) rfl (x_vM (by decide) (Nat.le_of_ble_eq_true rfl) (Nat.le_of_ble_eq_true rfl)) rfl rfl rfl (Nat.le_of_ble_eq_true rfl) (Nat.le_of_ble_eq_true rfl) (Nat.le_of_ble_eq_true rfl) (Nat.le_refl _) (Nat.le_refl _) ?_
  exact g_cmp_eq 723 dL_law_402 rfl (fun _ => kk _ (m_gentle h).2) (fun hne => absurd (congrArg x_wr (m_gentle h).1) hne)
theorem br_latest {l : Launch} {w : xZ} {i : Nat} {σ : xMi} (hR : RR σ) (hi : i + 4 < w.2.2.2.1) (hL : w.2.2.2.1 < 2147483648) (kk : ∀ σ1, RR σ1 → xL l w i 723 [] σ1) : xL l w i 407 [] σ := by
  obtain ⟨K, u, τ, v, τ1, z, wt, h⟩ := hR
  obtain ⟨hk, hg0, hU, hV, hZ, hT, hO⟩ := id h
  refine g_aload_n dL_law_407 rfl ?_
  refine g_loadA dL_law_408 rfl ?_
  refine g_iload_n dL_law_409 rfl ?_
  refine g_iconst dL_law_410 ?_
  refine g_iadd dL_law_411 ?_
  refine g_sld (j := i + 1) dL_law_412 (by omega) (by omega) hL ?_
  refine f_V (As := [xI (x_ag w (i + 1))]) dL_law_413 cs_L_68 mb_X6_latest (c_X6_latest l 154 _ (x_ag w (i + 1)) K (by decide) hk.2.1 (x_agw w (i + 1)) hk.2.2.1) rfl (x_vC (by decide) (Nat.le_of_ble_eq_true rfl) (Nat.le_of_ble_eq_true rfl)) rfl rfl rfl (Nat.le_of_ble_eq_true rfl) (Nat.le_of_ble_eq_true rfl) (Nat.le_of_ble_eq_true rfl) (Nat.le_refl _) (Nat.le_refl _) ?_
  refine g_aload_n dL_law_416 rfl ?_
  refine g_loadA dL_law_417 rfl ?_
  refine g_iload_n dL_law_418 rfl ?_
  refine g_iconst dL_law_419 ?_
  refine g_iadd dL_law_420 ?_
  refine g_sld (j := i + 1) dL_law_421 (by omega) (by omega) hL ?_
  refine f_V (As := [xI (x_ag w (i + 1))]) dL_law_422 cs_L_71 mb_X7_latest (c_X7_latest l 154 _ (x_ag w (i + 1)) K (by decide) hk.2.1 (x_agw w (i + 1)) hk.2.2.2.1) rfl (x_vM (by decide) (Nat.le_of_ble_eq_true rfl) (Nat.le_of_ble_eq_true rfl)) rfl rfl rfl (Nat.le_of_ble_eq_true rfl) (Nat.le_of_ble_eq_true rfl) (Nat.le_of_ble_eq_true rfl) (Nat.le_refl _) (Nat.le_refl _) ?_
  exact g_cmp_eq 723 dL_law_425 rfl (fun _ => kk _ (m_latest h (x_agw w (i + 1))).2) (fun hne => absurd (congrArg x_wr (m_latest h (x_agw w (i + 1))).1) hne)
theorem br_order {l : Launch} {w : xZ} {i : Nat} {σ : xMi} (hR : RR σ) (hi : i + 4 < w.2.2.2.1) (hL : w.2.2.2.1 < 2147483648) (kk : ∀ σ1, RR σ1 → xL l w i 723 [] σ1) : xL l w i 430 [] σ := by
  obtain ⟨K, u, τ, v, τ1, z, wt, h⟩ := hR
  obtain ⟨hk, hg0, hU, hV, hZ, hT, hO⟩ := id h
  refine g_aload_n dL_law_430 rfl ?_
  refine g_loadA dL_law_431 rfl ?_
  refine g_iload_n dL_law_432 rfl ?_
  refine g_iconst dL_law_433 ?_
  refine g_iadd dL_law_434 ?_
  refine g_sld (j := i + 1) dL_law_435 (by omega) (by omega) hL ?_
  refine f_V (As := [xI (x_ag w (i + 1))]) dL_law_436 cs_L_72 mb_X6_order (c_X6_order l 154 _ (x_ag w (i + 1)) K (by decide) hk.2.1 (x_agw w (i + 1)) hk.2.2.1) rfl (x_vC (by decide) (Nat.le_of_ble_eq_true rfl) (Nat.le_of_ble_eq_true rfl)) rfl rfl rfl (Nat.le_of_ble_eq_true rfl) (Nat.le_of_ble_eq_true rfl) (Nat.le_of_ble_eq_true rfl) (Nat.le_refl _) (Nat.le_refl _) ?_
  refine g_aload_n dL_law_439 rfl ?_
  refine g_loadA dL_law_440 rfl ?_
  refine g_iload_n dL_law_441 rfl ?_
  refine g_iconst dL_law_442 ?_
  refine g_iadd dL_law_443 ?_
  refine g_sld (j := i + 1) dL_law_444 (by omega) (by omega) hL ?_
  refine f_V (As := [xI (x_ag w (i + 1))]) dL_law_445 cs_L_75 mb_X7_order (c_X7_order l 154 _ (x_ag w (i + 1)) K (by decide) hk.2.1 (x_agw w (i + 1)) (by rw [q_order _ _ _ (by omega)]; exact hk.2.2.2.1) (fun j => by rw [q_order _ _ _ (by omega)]; exact hO j)) rfl (x_vM (by decide) (Nat.le_of_ble_eq_true rfl) (Nat.le_of_ble_eq_true rfl)) rfl rfl rfl (Nat.le_of_ble_eq_true rfl) (Nat.le_of_ble_eq_true rfl) (Nat.le_of_ble_eq_true rfl) (Nat.le_refl _) (Nat.le_refl _) ?_
  exact g_cmp_eq 723 dL_law_448 rfl (fun _ => kk _ (m_order h (x_agw w (i + 1))).2) (fun hne => absurd (congrArg x_wr (m_order h (x_agw w (i + 1))).1) hne)
theorem br_need {l : Launch} {w : xZ} {i : Nat} {σ : xMi} (hR : RR σ) (hi : i + 4 < w.2.2.2.1) (hL : w.2.2.2.1 < 2147483648) (kk : ∀ σ1, RR σ1 → xL l w i 723 [] σ1) : xL l w i 453 [] σ := by
  obtain ⟨K, u, τ, v, τ1, z, wt, h⟩ := hR
  obtain ⟨hk, hg0, hU, hV, hZ, hT, hO⟩ := id h
  refine g_aload_n dL_law_453 rfl ?_
  refine f_V (As := []) dL_law_454 cs_L_76 mb_X6_need (c_X6_need l 154 _ K (by decide) hk.2.1 hk.2.2.1) rfl (x_vC (by decide) (Nat.le_of_ble_eq_true rfl) (Nat.le_of_ble_eq_true rfl)) rfl rfl rfl (Nat.le_of_ble_eq_true rfl) (Nat.le_of_ble_eq_true rfl) (Nat.le_of_ble_eq_true rfl) (Nat.le_refl _) (Nat.le_refl _) ?_
  refine g_aload_n dL_law_457 rfl ?_
  refine f_V (As := []) dL_law_458 cs_L_79 mb_X7_need (c_X7_need l 154 _ K (by decide) hk.2.1 (by rw [q_need _ _ _ (by omega)]; exact hk.2.2.2.1) (fun j => by rw [q_need _ _ _ (by omega)]; exact hO j) (m_need h).2.2) rfl (x_vM (by decide) (Nat.le_of_ble_eq_true rfl) (Nat.le_of_ble_eq_true rfl)) rfl rfl rfl (Nat.le_of_ble_eq_true rfl) (Nat.le_of_ble_eq_true rfl) (Nat.le_of_ble_eq_true rfl) (Nat.le_refl _) (Nat.le_refl _) ?_
  exact g_cmp_eq 723 dL_law_461 rfl (fun _ => kk _ (m_need h).2.1) (fun hne => absurd (congrArg x_wr (m_need h).1) hne)
theorem br_seen {l : Launch} {w : xZ} {i : Nat} {σ : xMi} (hR : RR σ) (hi : i + 4 < w.2.2.2.1) (hL : w.2.2.2.1 < 2147483648) (kk : ∀ σ1, RR σ1 → xL l w i 723 [] σ1) : xL l w i 466 [] σ := by
  obtain ⟨K, u, τ, v, τ1, z, wt, h⟩ := hR
  obtain ⟨hk, hg0, hU, hV, hZ, hT, hO⟩ := id h
  refine g_aload_n dL_law_466 rfl ?_
  refine g_loadA dL_law_467 rfl ?_
  refine g_iload_n dL_law_468 rfl ?_
  refine g_iconst dL_law_469 ?_
  refine g_iadd dL_law_470 ?_
  refine g_sld (j := i + 1) dL_law_471 (by omega) (by omega) hL ?_
  refine g_loadA dL_law_472 rfl ?_
  refine g_iload_n dL_law_473 rfl ?_
  refine g_iconst dL_law_474 ?_
  refine g_iadd dL_law_475 ?_
  refine g_sld (j := i + 2) dL_law_476 (by omega) (by omega) hL ?_
  refine g_loadA dL_law_477 rfl ?_
  refine g_iload_n dL_law_478 rfl ?_
  refine g_iconst dL_law_479 ?_
  refine g_iadd dL_law_480 ?_
  refine g_sld (j := i + 3) dL_law_481 (by omega) (by omega) hL ?_
  refine f_V (As := [xI (x_ag w (i + 1)), xI (x_ag w (i + 2)), xI (x_ag w (i + 3))]) dL_law_482 cs_L_80 mb_X6_seen (c_X6_seen l 154 _ (x_ag w (i + 1)) (x_ag w (i + 2)) (x_ag w (i + 3)) z (by decide) hZ.1 hZ.2.1) rfl (x_vC (by decide) (Nat.le_of_ble_eq_true rfl) (Nat.le_of_ble_eq_true rfl)) rfl rfl rfl (Nat.le_of_ble_eq_true rfl) (Nat.le_of_ble_eq_true rfl) (Nat.le_of_ble_eq_true rfl) (Nat.le_refl _) (Nat.le_refl _) ?_
  refine g_aload_n dL_law_485 rfl ?_
  refine g_loadA dL_law_486 rfl ?_
  refine g_iload_n dL_law_487 rfl ?_
  refine g_iconst dL_law_488 ?_
  refine g_iadd dL_law_489 ?_
  refine g_sld (j := i + 1) dL_law_490 (by omega) (by omega) hL ?_
  refine g_loadA dL_law_491 rfl ?_
  refine g_iload_n dL_law_492 rfl ?_
  refine g_iconst dL_law_493 ?_
  refine g_iadd dL_law_494 ?_
  refine g_sld (j := i + 2) dL_law_495 (by omega) (by omega) hL ?_
  refine g_loadA dL_law_496 rfl ?_
  refine g_iload_n dL_law_497 rfl ?_
  refine g_iconst dL_law_498 ?_
  refine g_iadd dL_law_499 ?_
  refine g_sld (j := i + 3) dL_law_500 (by omega) (by omega) hL ?_
  refine f_V (As := [xI (x_ag w (i + 1)), xI (x_ag w (i + 2)), xI (x_ag w (i + 3))]) dL_law_501 cs_L_84 mb_X7_seen (c_X7_seen l 154 _ (x_ag w (i + 1)) (x_ag w (i + 2)) (x_ag w (i + 3)) z (by decide) hZ.1 (by rw [q_seen _ _ _ (by omega)]; exact hZ.2.2.1)) rfl (x_vM (by decide) (Nat.le_of_ble_eq_true rfl) (Nat.le_of_ble_eq_true rfl)) rfl rfl rfl (Nat.le_of_ble_eq_true rfl) (Nat.le_of_ble_eq_true rfl) (Nat.le_of_ble_eq_true rfl) (Nat.le_refl _) (Nat.le_refl _) ?_
  exact g_cmp_eq 723 dL_law_504 rfl (fun _ => kk _ (m_seen h (x_agw w (i + 1)) (x_agw w (i + 2)) (x_agw w (i + 3))).2) (fun hne => absurd (congrArg x_wr (m_seen h (x_agw w (i + 1)) (x_agw w (i + 2)) (x_agw w (i + 3))).1) hne)
theorem br_forget {l : Launch} {w : xZ} {i : Nat} {σ : xMi} (hR : RR σ) (hi : i + 4 < w.2.2.2.1) (hL : w.2.2.2.1 < 2147483648) (kk : ∀ σ1, RR σ1 → xL l w i 723 [] σ1) : xL l w i 509 [] σ := by
  obtain ⟨K, u, τ, v, τ1, z, wt, h⟩ := hR
  obtain ⟨hk, hg0, hU, hV, hZ, hT, hO⟩ := id h
  refine g_aload_n dL_law_509 rfl ?_
  refine f_V (As := []) dL_law_510 cs_L_85 mb_X6_forget (c_X6_forget l 154 _ (by decide)) rfl (x_vC (by decide) (Nat.le_of_ble_eq_true rfl) (Nat.le_of_ble_eq_true rfl)) rfl rfl rfl (Nat.le_of_ble_eq_true rfl) (Nat.le_of_ble_eq_true rfl) (Nat.le_of_ble_eq_true rfl) (Nat.le_refl _) (Nat.le_refl _) ?_
  refine g_aload_n dL_law_513 rfl ?_
  refine f_V (As := []) dL_law_514 cs_L_88 mb_X7_forget (c_X7_forget l 154 _ (by decide)) rfl (x_vM (by decide) (Nat.le_of_ble_eq_true rfl) (Nat.le_of_ble_eq_true rfl)) rfl rfl rfl (Nat.le_of_ble_eq_true rfl) (Nat.le_of_ble_eq_true rfl) (Nat.le_of_ble_eq_true rfl) (Nat.le_refl _) (Nat.le_refl _) ?_
  exact g_cmp_eq 723 dL_law_517 rfl (fun _ => kk _ (m_forget h).2) (fun hne => absurd (congrArg x_wr (m_forget h).1) hne)
theorem br_kinds {l : Launch} {w : xZ} {i : Nat} {σ : xMi} (hR : RR σ) (hi : i + 4 < w.2.2.2.1) (hL : w.2.2.2.1 < 2147483648) (kk : ∀ σ1, RR σ1 → xL l w i 723 [] σ1) : xL l w i 522 [] σ := by
  obtain ⟨K, u, τ, v, τ1, z, wt, h⟩ := hR
  obtain ⟨hk, hg0, hU, hV, hZ, hT, hO⟩ := id h
  refine g_aload_n dL_law_522 rfl ?_
  refine g_loadA dL_law_523 rfl ?_
  refine g_iload_n dL_law_524 rfl ?_
  refine g_iconst dL_law_525 ?_
  refine g_iadd dL_law_526 ?_
  refine g_sld (j := i + 1) dL_law_527 (by omega) (by omega) hL ?_
  refine f_V (As := [xI (x_ag w (i + 1))]) dL_law_528 cs_L_89 mb_X6_kinds (c_X6_kinds l 154 _ (x_ag w (i + 1)) K z (by decide) hk.2.1 hZ.1 (x_agw w (i + 1)) hk.2.2.1 hZ.2.1 hZ.2.2.2.2.2.1 hZ.2.2.2.2.1) rfl (x_vC (by decide) (Nat.le_of_ble_eq_true rfl) (Nat.le_of_ble_eq_true rfl)) rfl rfl rfl (Nat.le_of_ble_eq_true rfl) (Nat.le_of_ble_eq_true rfl) (Nat.le_of_ble_eq_true rfl) (Nat.le_refl _) (Nat.le_refl _) ?_
  refine g_aload_n dL_law_531 rfl ?_
  refine g_loadA dL_law_532 rfl ?_
  refine g_iload_n dL_law_533 rfl ?_
  refine g_iconst dL_law_534 ?_
  refine g_iadd dL_law_535 ?_
  refine g_sld (j := i + 1) dL_law_536 (by omega) (by omega) hL ?_
  refine f_V (As := [xI (x_ag w (i + 1))]) dL_law_537 cs_L_92 mb_X7_kinds (c_X7_kinds l 154 _ (x_ag w (i + 1)) K z (by decide) hk.2.1 hZ.1 (x_agw w (i + 1)) (by rw [q_kinds _ _ _ (by omega)]; exact hk.2.2.2.1) (by rw [q_kinds _ _ _ (by omega)]; exact hZ.2.2.1) (fun j => by rw [q_kinds _ _ _ (by omega)]; exact hZ.2.2.2.2.2.2 j)) rfl (x_vM (by decide) (Nat.le_of_ble_eq_true rfl) (Nat.le_of_ble_eq_true rfl)) rfl rfl rfl (Nat.le_of_ble_eq_true rfl) (Nat.le_of_ble_eq_true rfl) (Nat.le_of_ble_eq_true rfl) (Nat.le_refl _) (Nat.le_refl _) ?_
  exact g_cmp_eq 723 dL_law_540 rfl (fun _ => kk _ (m_kinds h (x_agw w (i + 1))).2) (fun hne => absurd (congrArg x_wr (m_kinds h (x_agw w (i + 1))).1) hne)
theorem br_days {l : Launch} {w : xZ} {i : Nat} {σ : xMi} (hR : RR σ) (hi : i + 4 < w.2.2.2.1) (hL : w.2.2.2.1 < 2147483648) (kk : ∀ σ1, RR σ1 → xL l w i 723 [] σ1) : xL l w i 545 [] σ := by
  obtain ⟨K, u, τ, v, τ1, z, wt, h⟩ := hR
  obtain ⟨hk, hg0, hU, hV, hZ, hT, hO⟩ := id h
  refine g_aload_n dL_law_545 rfl ?_
  refine g_loadA dL_law_546 rfl ?_
  refine g_iload_n dL_law_547 rfl ?_
  refine g_iconst dL_law_548 ?_
  refine g_iadd dL_law_549 ?_
  refine g_sld (j := i + 1) dL_law_550 (by omega) (by omega) hL ?_
  refine g_loadA dL_law_551 rfl ?_
  refine g_iload_n dL_law_552 rfl ?_
  refine g_iconst dL_law_553 ?_
  refine g_iadd dL_law_554 ?_
  refine g_sld (j := i + 2) dL_law_555 (by omega) (by omega) hL ?_
  refine f_V (As := [xI (x_ag w (i + 1)), xI (x_ag w (i + 2))]) dL_law_556 cs_L_93 mb_X6_days (c_X6_days l 154 _ (x_ag w (i + 1)) (x_ag w (i + 2)) K z (by decide) hk.2.1 hZ.1 (x_agw w (i + 1)) hk.2.2.1 hZ.2.1 hZ.2.2.2.2.2.1 hZ.2.2.2.2.1) rfl (x_vC (by decide) (Nat.le_of_ble_eq_true rfl) (Nat.le_of_ble_eq_true rfl)) rfl rfl rfl (Nat.le_of_ble_eq_true rfl) (Nat.le_of_ble_eq_true rfl) (Nat.le_of_ble_eq_true rfl) (Nat.le_refl _) (Nat.le_refl _) ?_
  refine g_aload_n dL_law_559 rfl ?_
  refine g_loadA dL_law_560 rfl ?_
  refine g_iload_n dL_law_561 rfl ?_
  refine g_iconst dL_law_562 ?_
  refine g_iadd dL_law_563 ?_
  refine g_sld (j := i + 1) dL_law_564 (by omega) (by omega) hL ?_
  refine g_loadA dL_law_565 rfl ?_
  refine g_iload_n dL_law_566 rfl ?_
  refine g_iconst dL_law_567 ?_
  refine g_iadd dL_law_568 ?_
  refine g_sld (j := i + 2) dL_law_569 (by omega) (by omega) hL ?_
  refine f_V (As := [xI (x_ag w (i + 1)), xI (x_ag w (i + 2))]) dL_law_570 cs_L_96 mb_X7_days (c_X7_days l 154 _ (x_ag w (i + 1)) (x_ag w (i + 2)) K z (by decide) hk.2.1 hZ.1 (x_agw w (i + 1)) (by rw [q_days _ _ _ (by omega)]; exact hk.2.2.2.1) (by rw [q_days _ _ _ (by omega)]; exact hZ.2.2.1) (fun j => by rw [q_days _ _ _ (by omega)]; exact hZ.2.2.2.2.2.2 j)) rfl (x_vM (by decide) (Nat.le_of_ble_eq_true rfl) (Nat.le_of_ble_eq_true rfl)) rfl rfl rfl (Nat.le_of_ble_eq_true rfl) (Nat.le_of_ble_eq_true rfl) (Nat.le_of_ble_eq_true rfl) (Nat.le_refl _) (Nat.le_refl _) ?_
  exact g_cmp_eq 723 dL_law_573 rfl (fun _ => kk _ (m_days h (x_agw w (i + 1)) (x_agw w (i + 2))).2) (fun hne => absurd (congrArg x_wr (m_days h (x_agw w (i + 1)) (x_agw w (i + 2))).1) hne)
theorem br_likely {l : Launch} {w : xZ} {i : Nat} {σ : xMi} (hR : RR σ) (hi : i + 4 < w.2.2.2.1) (hL : w.2.2.2.1 < 2147483648) (kk : ∀ σ1, RR σ1 → xL l w i 723 [] σ1) : xL l w i 578 [] σ := by
  obtain ⟨K, u, τ, v, τ1, z, wt, h⟩ := hR
  obtain ⟨hk, hg0, hU, hV, hZ, hT, hO⟩ := id h
  refine g_aload_n dL_law_578 rfl ?_
  refine g_loadA dL_law_579 rfl ?_
  refine g_iload_n dL_law_580 rfl ?_
  refine g_iconst dL_law_581 ?_
  refine g_iadd dL_law_582 ?_
  refine g_sld (j := i + 1) dL_law_583 (by omega) (by omega) hL ?_
  refine g_loadA dL_law_584 rfl ?_
  refine g_iload_n dL_law_585 rfl ?_
  refine g_iconst dL_law_586 ?_
  refine g_iadd dL_law_587 ?_
  refine g_sld (j := i + 2) dL_law_588 (by omega) (by omega) hL ?_
  refine g_loadA dL_law_589 rfl ?_
  refine g_iload_n dL_law_590 rfl ?_
  refine g_iconst dL_law_591 ?_
  refine g_iadd dL_law_592 ?_
  refine g_sld (j := i + 3) dL_law_593 (by omega) (by omega) hL ?_
  refine g_loadA dL_law_594 rfl ?_
  refine g_iload_n dL_law_595 rfl ?_
  refine g_iconst dL_law_596 ?_
  refine g_iadd dL_law_597 ?_
  refine g_sld (j := i + 4) dL_law_598 (by omega) (by omega) hL ?_
  refine f_V (As := [xI (x_ag w (i + 1)), xI (x_ag w (i + 2)), xI (x_ag w (i + 3)), xI (x_ag w (i + 4))]) dL_law_599 cs_L_97 mb_X6_likely (c_X6_likely l 154 _ (x_ag w (i + 1)) (x_ag w (i + 2)) (x_ag w (i + 3)) (x_ag w (i + 4)) K (by decide) hk.2.1 (x_agw w (i + 1)) (x_agw w (i + 2)) hk.2.2.1) rfl (x_vC (by decide) (Nat.le_of_ble_eq_true rfl) (Nat.le_of_ble_eq_true rfl)) rfl rfl rfl (Nat.le_of_ble_eq_true rfl) (Nat.le_of_ble_eq_true rfl) (Nat.le_of_ble_eq_true rfl) (Nat.le_refl _) (Nat.le_refl _) ?_
  refine g_aload_n dL_law_602 rfl ?_
  refine g_loadA dL_law_603 rfl ?_
  refine g_iload_n dL_law_604 rfl ?_
  refine g_iconst dL_law_605 ?_
  refine g_iadd dL_law_606 ?_
  refine g_sld (j := i + 1) dL_law_607 (by omega) (by omega) hL ?_
  refine g_loadA dL_law_608 rfl ?_
  refine g_iload_n dL_law_609 rfl ?_
  refine g_iconst dL_law_610 ?_
  refine g_iadd dL_law_611 ?_
  refine g_sld (j := i + 2) dL_law_612 (by omega) (by omega) hL ?_
  refine g_loadA dL_law_613 rfl ?_
  refine g_iload_n dL_law_614 rfl ?_
  refine g_iconst dL_law_615 ?_
  refine g_iadd dL_law_616 ?_
  refine g_sld (j := i + 3) dL_law_617 (by omega) (by omega) hL ?_
  refine g_loadA dL_law_618 rfl ?_
  refine g_iload_n dL_law_619 rfl ?_
  refine g_iconst dL_law_620 ?_
  refine g_iadd dL_law_621 ?_
  refine g_sld (j := i + 4) dL_law_622 (by omega) (by omega) hL ?_
  refine f_V (As := [xI (x_ag w (i + 1)), xI (x_ag w (i + 2)), xI (x_ag w (i + 3)), xI (x_ag w (i + 4))]) dL_law_623 cs_L_101 mb_X7_likely (c_X7_likely l 154 _ (x_ag w (i + 1)) (x_ag w (i + 2)) (x_ag w (i + 3)) (x_ag w (i + 4)) K (by decide) hk.2.1 (x_agw w (i + 1)) (x_agw w (i + 2)) (x_agw w (i + 3)) (by rw [q_likely _ _ _ (by omega)]; exact hk.2.2.2.1)) rfl (x_vM (by decide) (Nat.le_of_ble_eq_true rfl) (Nat.le_of_ble_eq_true rfl)) rfl rfl rfl (Nat.le_of_ble_eq_true rfl) (Nat.le_of_ble_eq_true rfl) (Nat.le_of_ble_eq_true rfl) (Nat.le_refl _) (Nat.le_refl _) ?_
  exact g_cmp_eq 723 dL_law_626 rfl (fun _ => kk _ (m_likely h (x_agw w (i + 1)) (x_agw w (i + 2)) (x_agw w (i + 3)) (x_agw w (i + 4))).2) (fun hne => absurd (congrArg x_wr (m_likely h (x_agw w (i + 1)) (x_agw w (i + 2)) (x_agw w (i + 3)) (x_agw w (i + 4))).1) hne)
theorem br_year {l : Launch} {w : xZ} {i : Nat} {σ : xMi} (hR : RR σ) (hi : i + 4 < w.2.2.2.1) (hL : w.2.2.2.1 < 2147483648) (kk : ∀ σ1, RR σ1 → xL l w i 723 [] σ1) : xL l w i 631 [] σ := by
  obtain ⟨K, u, τ, v, τ1, z, wt, h⟩ := hR
  obtain ⟨hk, hg0, hU, hV, hZ, hT, hO⟩ := id h
  refine g_aload_n dL_law_631 rfl ?_
  refine g_loadA dL_law_632 rfl ?_
  refine g_iload_n dL_law_633 rfl ?_
  refine g_iconst dL_law_634 ?_
  refine g_iadd dL_law_635 ?_
  refine g_sld (j := i + 1) dL_law_636 (by omega) (by omega) hL ?_
  refine g_loadA dL_law_637 rfl ?_
  refine g_iload_n dL_law_638 rfl ?_
  refine g_iconst dL_law_639 ?_
  refine g_iadd dL_law_640 ?_
  refine g_sld (j := i + 2) dL_law_641 (by omega) (by omega) hL ?_
  refine g_loadA dL_law_642 rfl ?_
  refine g_iload_n dL_law_643 rfl ?_
  refine g_iconst dL_law_644 ?_
  refine g_iadd dL_law_645 ?_
  refine g_sld (j := i + 3) dL_law_646 (by omega) (by omega) hL ?_
  refine f_V (As := [xI (x_ag w (i + 1)), xI (x_ag w (i + 2)), xI (x_ag w (i + 3))]) dL_law_647 cs_L_102 mb_X6_year (c_X6_year l 154 _ (x_ag w (i + 1)) (x_ag w (i + 2)) (x_ag w (i + 3)) K (by decide) hk.2.1 hk.1 (x_agw w (i + 1)) (x_agw w (i + 2)) hk.2.2.1) rfl (x_vC (by decide) (Nat.le_of_ble_eq_true rfl) (Nat.le_of_ble_eq_true rfl)) rfl rfl rfl (Nat.le_of_ble_eq_true rfl) (Nat.le_of_ble_eq_true rfl) (Nat.le_of_ble_eq_true rfl) (Nat.le_refl _) (Nat.le_refl _) ?_
  refine g_aload_n dL_law_650 rfl ?_
  refine g_loadA dL_law_651 rfl ?_
  refine g_iload_n dL_law_652 rfl ?_
  refine g_iconst dL_law_653 ?_
  refine g_iadd dL_law_654 ?_
  refine g_sld (j := i + 1) dL_law_655 (by omega) (by omega) hL ?_
  refine g_loadA dL_law_656 rfl ?_
  refine g_iload_n dL_law_657 rfl ?_
  refine g_iconst dL_law_658 ?_
  refine g_iadd dL_law_659 ?_
  refine g_sld (j := i + 2) dL_law_660 (by omega) (by omega) hL ?_
  refine g_loadA dL_law_661 rfl ?_
  refine g_iload_n dL_law_662 rfl ?_
  refine g_iconst dL_law_663 ?_
  refine g_iadd dL_law_664 ?_
  refine g_sld (j := i + 3) dL_law_665 (by omega) (by omega) hL ?_
  refine f_V (As := [xI (x_ag w (i + 1)), xI (x_ag w (i + 2)), xI (x_ag w (i + 3))]) dL_law_666 cs_L_105 mb_X7_year (c_X7_year l 154 _ (x_ag w (i + 1)) (x_ag w (i + 2)) (x_ag w (i + 3)) K (by decide) hk.2.1 hk.1 (x_agw w (i + 1)) (x_agw w (i + 2)) (by rw [q_year _ _ _ (by omega)]; exact hk.2.2.2.1)) rfl (x_vM (by decide) (Nat.le_of_ble_eq_true rfl) (Nat.le_of_ble_eq_true rfl)) rfl rfl rfl (Nat.le_of_ble_eq_true rfl) (Nat.le_of_ble_eq_true rfl) (Nat.le_of_ble_eq_true rfl) (Nat.le_refl _) (Nat.le_refl _) ?_
  exact g_cmp_eq 723 dL_law_669 rfl (fun _ => kk _ (m_year h (x_agw w (i + 1)) (x_agw w (i + 2)) (x_agw w (i + 3))).2) (fun hne => absurd (congrArg x_wr (m_year h (x_agw w (i + 1)) (x_agw w (i + 2)) (x_agw w (i + 3))).1) hne)
theorem br_keep {l : Launch} {w : xZ} {i : Nat} {σ : xMi} (hR : RR σ) (hi : i + 4 < w.2.2.2.1) (hL : w.2.2.2.1 < 2147483648) (kk : ∀ σ1, RR σ1 → xL l w i 723 [] σ1) : xL l w i 674 [] σ := by
  obtain ⟨K, u, τ, v, τ1, z, wt, h⟩ := hR
  obtain ⟨hk, hg0, hU, hV, hZ, hT, hO⟩ := id h
  refine g_aload_n dL_law_674 rfl ?_
  refine f_V (As := []) dL_law_675 cs_L_106 mb_X6_keep (c_X6_keep l 154 _ τ1 (by decide) hV.2.1 hV.2.2.2.1) rfl (x_vC (by decide) (Nat.le_of_ble_eq_true rfl) (Nat.le_of_ble_eq_true rfl)) rfl rfl rfl (Nat.le_of_ble_eq_true rfl) (Nat.le_of_ble_eq_true rfl) (Nat.le_of_ble_eq_true rfl) (Nat.le_refl _) (Nat.le_refl _) ?_
  refine g_aload_n dL_law_678 rfl ?_
  refine f_V (As := []) dL_law_679 cs_L_109 mb_X7_keep (c_X7_keep l 154 _ v (by decide) hV.1 (by rw [q_keep _ _ _ (by omega)]; exact hV.2.2.2.2.1)) rfl (x_vM (by decide) (Nat.le_of_ble_eq_true rfl) (Nat.le_of_ble_eq_true rfl)) rfl rfl rfl (Nat.le_of_ble_eq_true rfl) (Nat.le_of_ble_eq_true rfl) (Nat.le_of_ble_eq_true rfl) (Nat.le_refl _) (Nat.le_refl _) ?_
  exact g_cmp_eq 723 dL_law_682 rfl (fun _ => kk _ (m_keep h).2) (fun hne => absurd (congrArg x_wr (m_keep h).1) hne)
theorem br_back {l : Launch} {w : xZ} {i : Nat} {σ : xMi} (hR : RR σ) (hi : i + 4 < w.2.2.2.1) (hL : w.2.2.2.1 < 2147483648) (kk : ∀ σ1, RR σ1 → xL l w i 723 [] σ1) : xL l w i 687 [] σ := by
  obtain ⟨K, u, τ, v, τ1, z, wt, h⟩ := hR
  obtain ⟨hk, hg0, hU, hV, hZ, hT, hO⟩ := id h
  refine g_aload_n dL_law_687 rfl ?_
  refine f_V (As := []) dL_law_688 cs_L_110 mb_X6_back (c_X6_back l 154 _ τ1 (by decide) hV.2.1 hV.2.2.2.1) rfl (x_vC (by decide) (Nat.le_of_ble_eq_true rfl) (Nat.le_of_ble_eq_true rfl)) rfl rfl rfl (Nat.le_of_ble_eq_true rfl) (Nat.le_of_ble_eq_true rfl) (Nat.le_of_ble_eq_true rfl) (Nat.le_refl _) (Nat.le_refl _) ?_
  refine g_aload_n dL_law_691 rfl ?_
  refine f_V (As := []) dL_law_692 cs_L_113 mb_X7_back (c_X7_back l 154 _ v (by decide) hV.1 (by rw [q_back _ _ _ (by omega)]; exact hV.2.2.2.2.1)) rfl (x_vM (by decide) (Nat.le_of_ble_eq_true rfl) (Nat.le_of_ble_eq_true rfl)) rfl rfl rfl (Nat.le_of_ble_eq_true rfl) (Nat.le_of_ble_eq_true rfl) (Nat.le_of_ble_eq_true rfl) (Nat.le_refl _) (Nat.le_refl _) ?_
  exact g_cmp_eq 723 dL_law_695 rfl (fun _ => kk _ (m_back h).2) (fun hne => absurd (congrArg x_wr (m_back h).1) hne)
theorem br_count {l : Launch} {w : xZ} {i : Nat} {σ : xMi} (hR : RR σ) (hi : i + 4 < w.2.2.2.1) (hL : w.2.2.2.1 < 2147483648) (kk : ∀ σ1, RR σ1 → xL l w i 723 [] σ1) : xL l w i 700 [] σ := by
  obtain ⟨K, u, τ, v, τ1, z, wt, h⟩ := hR
  obtain ⟨hk, hg0, hU, hV, hZ, hT, hO⟩ := id h
  refine g_aload_n dL_law_700 rfl ?_
  refine g_loadA dL_law_701 rfl ?_
  refine g_iload_n dL_law_702 rfl ?_
  refine g_iconst dL_law_703 ?_
  refine g_iadd dL_law_704 ?_
  refine g_sld (j := i + 1) dL_law_705 (by omega) (by omega) hL ?_
  refine f_V (As := [xI (x_ag w (i + 1))]) dL_law_706 cs_L_114 mb_X6_count (c_X6_count l 154 _ (x_ag w (i + 1)) K (by decide) hk.2.1 hk.2.2.1) rfl (x_vC (by decide) (Nat.le_of_ble_eq_true rfl) (Nat.le_of_ble_eq_true rfl)) rfl rfl rfl (Nat.le_of_ble_eq_true rfl) (Nat.le_of_ble_eq_true rfl) (Nat.le_of_ble_eq_true rfl) (Nat.le_refl _) (Nat.le_refl _) ?_
  refine g_aload_n dL_law_709 rfl ?_
  refine g_loadA dL_law_710 rfl ?_
  refine g_iload_n dL_law_711 rfl ?_
  refine g_iconst dL_law_712 ?_
  refine g_iadd dL_law_713 ?_
  refine g_sld (j := i + 1) dL_law_714 (by omega) (by omega) hL ?_
  refine f_V (As := [xI (x_ag w (i + 1))]) dL_law_715 cs_L_117 mb_X7_count (c_X7_count l 154 _ (x_ag w (i + 1)) K (by decide) hk.2.1 hk.2.2.2.1) rfl (x_vM (by decide) (Nat.le_of_ble_eq_true rfl) (Nat.le_of_ble_eq_true rfl)) rfl rfl rfl (Nat.le_of_ble_eq_true rfl) (Nat.le_of_ble_eq_true rfl) (Nat.le_of_ble_eq_true rfl) (Nat.le_refl _) (Nat.le_refl _) ?_
  exact g_cmp_eq 723 dL_law_718 rfl (fun _ => kk _ ⟨K, u, τ, v, τ1, z, wt, h⟩) (fun hne => absurd (congrArg x_wr (m_count h (x_agw w (i + 1)))) hne)
