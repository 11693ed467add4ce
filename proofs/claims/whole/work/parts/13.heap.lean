theorem x_cof {ci : Nat} {C : String} {T : u_T} {N : Nat} (h : x_cl[ci]? = some (C, T, N)) : ∃ ty, x_co ci C T N ty := by
  match ci, h with
  | 0, h => cases h; exact ⟨_, x_co0⟩
  | 1, h => cases h; exact ⟨_, x_co1⟩
  | 2, h => cases h; exact ⟨_, x_co2⟩
  | 3, h => cases h; exact ⟨_, x_co3⟩
  | 4, h => cases h; exact ⟨_, x_co4⟩
  | 5, h => cases h; exact ⟨_, x_co5⟩
  | 6, h => cases h; exact ⟨_, x_co6⟩
  | 7, h => cases h; exact ⟨_, x_co7⟩
  | k + 8, h => simp at h
section
variable {l : Launch} {own : String} {cc : ByteArray} {nL : Nat} {ret : Option FieldType} {ini : xB} {d mc ms : Nat} {Q : xP} {n cu su pc : Nat} {lv lv' : List (Nat × xV)} {st : List xV} {ρ : xMr} {σ : xMi} {t i ci k idx : Nat}
theorem x_fs_get {B : Nat} {N : Nat} (hN : N = x_nf ci) (hk : k < N) : ((List.range (x_nf ci)).map (x_fv B ρ σ t i ci))[k]? = some (x_fv B ρ σ t i ci k) := by
  subst hN; simp [hk]
theorem x_getV {v : xV} (hd : decode cc pc = .ok (.getfield idx, 3)) (hf : x_fl own idx ci k) (hv : x_vd n t i) (hs : x_sh t = .inr ci) (hw : ∀ B, x_fv B ρ σ t i ci k = x_tv B v) (kk : xGo l own cc nL ret ini d mc ms Q n cu su (pc + 3) lv (v :: st) ρ σ) : xGo l own cc nL ret ini d mc ms Q n cu su pc lv (xR t i :: st) ρ σ := by
  intro p e s m args below meth c B D cy zz H locs ls hC hR hS hl
  obtain ⟨C, T, N, hc, hk, hlink⟩ := hf
  obtain ⟨ty, h1, h2, h3, h4, h5⟩ := x_cof hc
  have he := x_wl_vd B cy ρ σ hv
  rw [x_ce_o hs] at he
  exact va_get (D := D) (ci := ci) (v := x_tv B v) (C := C) (T := T) (N := N) hC.1 hC.2.1 hC.2.2.2.2.1 h1 hC.2.2.2.1 hC.2.2.2.2.2.2.2.2.1 hR.1 (x_od t i) he hc k hk (hC.2.2.2.2.1 _ hlink) (fun _ h9 => h9) ((x_fs_get h4 hk).trans (congrArg some (hw B))) hd (kk p e s m args below meth c B D cy zz H locs ls hC hR hS hl)
theorem g_getI (hd : decode cc pc = .ok (.getfield idx, 3)) (hf : x_fl own idx ci k) (hv : x_vd n t i) (hs : x_sh t = .inr ci) (hk : x_kd ci k = 0) (kk : xGo l own cc nL ret ini d mc ms Q n cu su (pc + 3) lv (xI (σ t i k) :: st) ρ σ) : xGo l own cc nL ret ini d mc ms Q n cu su pc lv (xR t i :: st) ρ σ :=
  x_getV hd hf hv hs (fun B => by simp [x_fv, hk, x_tv]) kk
theorem g_getZ (hd : decode cc pc = .ok (.getfield idx, 3)) (hf : x_fl own idx ci k) (hv : x_vd n t i) (hs : x_sh t = .inr ci) (hk : x_kd ci k = 2) (kk : xGo l own cc nL ret ini d mc ms Q n cu su (pc + 3) lv (xI (x_bn (σ t i k)) :: st) ρ σ) : xGo l own cc nL ret ini d mc ms Q n cu su pc lv (xR t i :: st) ρ σ :=
  x_getV hd hf hv hs (fun B => by simp [x_fv, hk, x_tv]) kk
theorem g_getR {t2 i2 : Nat} (hd : decode cc pc = .ok (.getfield idx, 3)) (hf : x_fl own idx ci k) (hv : x_vd n t i) (hs : x_sh t = .inr ci) (hk : x_kd ci k = 1) (hr : ρ t i k = some (t2, i2)) (kk : xGo l own cc nL ret ini d mc ms Q n cu su (pc + 3) lv (xR t2 i2 :: st) ρ σ) : xGo l own cc nL ret ini d mc ms Q n cu su pc lv (xR t i :: st) ρ σ :=
  x_getV hd hf hv hs (fun B => by simp [x_fv, hk, x_tv, hr, va_rf]) kk
theorem x_fs_set {B : Nat} {ρ' : xMr} {σ' : xMi} {v : Value} (hN : k < x_nf ci) (hv : v = x_fv B ρ' σ' t i ci k) (ho : ∀ k', k' ≠ k → x_fv B ρ' σ' t i ci k' = x_fv B ρ σ t i ci k') : ((List.range (x_nf ci)).map (x_fv B ρ σ t i ci)).set k v = (List.range (x_nf ci)).map (x_fv B ρ' σ' t i ci) := by
  apply List.ext_getElem?
  intro j
  by_cases hj : j < x_nf ci
  · by_cases hk : j = k
    · subst hk
      rw [List.getElem?_set_self (by simpa using hj), x_fs_get rfl hj, hv]
    · rw [List.getElem?_set_ne (fun z => hk z.symm), x_fs_get rfl hj, x_fs_get rfl hj, ho j hk]
  · rw [List.getElem?_eq_none (by simpa using hj), List.getElem?_eq_none (by simpa using hj)]
/-- a field of whole numbers or a boolean is written -/
theorem x_putV {a : Int} {ty1 : FieldType} (hd : decode cc pc = .ok (.putfield idx, 3)) (hf : x_fl own idx ci k) (hv : x_vd n t i) (hs : x_sh t = .inr ci) (hk : ∀ C T N ty, x_co ci C T N ty → k < N → ty k = ty1 ∧ (T k).2.2.2 = false) (hn : narrow ty1 (.int (Int32.ofInt a)) = .int (Int32.ofInt a)) (hfit : fits ty1 (.int (Int32.ofInt a)) = true) (hw : ∀ B, x_fv B ρ (x_up σ t i k a) t i ci k = .int (Int32.ofInt a)) (kk : xGo l own cc nL ret ini d mc ms Q n cu su (pc + 3) lv st ρ (x_up σ t i k a)) : xGo l own cc nL ret ini d mc ms Q n cu su pc lv (xI a :: xR t i :: st) ρ σ := by
  intro p e s m args below meth c B D cy zz H locs ls hC hR hS hl
  obtain ⟨C, T, N, hc, hkN, hlink⟩ := hf
  obtain ⟨ty, hco⟩ := x_cof hc
  have h6 := hk C T N ty hco hkN
  obtain ⟨h1, h2, h3, h4, h5⟩ := hco
  have he := x_wl_vd B cy ρ σ hv
  rw [x_ce_o hs] at he
  refine va_put (D := D) (ci := ci) (v := .int (Int32.ofInt a)) (ty := ty1) (C := C) (T := T) (N := N) hC.1 hC.2.1 hC.2.2.2.2.1 h1 ty h2 h3 hC.2.2.2.1 hC.2.2.2.2.2.2.2.2.1 hR.1 (x_wl_D B cy n ρ σ) hS.1 (x_od t i) he hc k hkN (hC.2.2.2.2.1 _ hlink) (fun _ h9 => h9) h6.2 (by rw [h2 k hkN, h6.1]) hn hfit (by rw [List.length_map, List.length_range, ← h4]; exact hkN) hd (fun H1 locs1 hP1 hD1 hS1 => ?_)
  rw [x_wl_set B cy (ρ' := ρ) (σ' := x_up σ t i k a) hR.2 hv] at hP1
  · exact kk p e s m args below meth c B D cy zz H1 locs1 ls hC ⟨hP1, hR.2⟩ ⟨hS1, hS.2⟩ hl
  · rw [x_ce_o hs]
    congr 2
    refine x_fs_set (h4 ▸ hkN) (hw B).symm (fun k' hk' => ?_)
    simp only [x_fv, x_up_s, if_neg hk']
  · intro t' i' ho
    exact x_ce_eq (fun _ => rfl) (fun k' => x_up_o ho k')
theorem g_putI {a : Int} (hd : decode cc pc = .ok (.putfield idx, 3)) (hf : x_fl own idx ci k) (hv : x_vd n t i) (hs : x_sh t = .inr ci) (hk : x_kd ci k = 0) (kk : xGo l own cc nL ret ini d mc ms Q n cu su (pc + 3) lv st ρ (x_up σ t i k a)) : xGo l own cc nL ret ini d mc ms Q n cu su pc lv (xI a :: xR t i :: st) ρ σ :=
  x_putV (ty1 := .int) hd hf hv hs (fun C T N ty h hkN => (h.2.2.2.2 k hkN).1 hk) rfl rfl (fun B => by simp [x_fv, hk, x_up]) kk
theorem g_putZ {a : Int} (hd : decode cc pc = .ok (.putfield idx, 3)) (hf : x_fl own idx ci k) (hv : x_vd n t i) (hs : x_sh t = .inr ci) (hk : x_kd ci k = 2) (ha : x_bn a = a) (kk : xGo l own cc nL ret ini d mc ms Q n cu su (pc + 3) lv st ρ (x_up σ t i k a)) : xGo l own cc nL ret ini d mc ms Q n cu su pc lv (xI a :: xR t i :: st) ρ σ := by
  have h01 : a = 0 ∨ a = 1 := by unfold x_bn at ha; split at ha <;> omega
  refine x_putV (ty1 := .boolean) hd hf hv hs (fun C T N ty h hkN => (h.2.2.2.2 k hkN).2.1 hk) ?_ ?_ (fun B => by simp [x_fv, hk, x_up, ha]) kk
  · rcases h01 with rfl | rfl <;> rfl
  · rcases h01 with rfl | rfl <;> rfl
/-- a final field of an object that is being made -/
theorem g_putR {t2 i2 : Nat} (hi : ini.1 = true) (hd : decode cc pc = .ok (.putfield idx, 3)) (hf : x_fl own idx ci k) (hv : x_vd n t i) (hs : x_sh t = .inr ci) (hk : x_kd ci k = 1) (hown : ∀ q, x_cl[ci]? = some q → q.1 = own) (kk : xGo l own cc nL ret ini d mc ms Q n cu su (pc + 3) lv st (x_ur ρ t i k (some (t2, i2))) σ) : xGo l own cc nL ret ini d mc ms Q n cu su pc lv (xR t2 i2 :: xR t i :: st) ρ σ := by
  intro p e s m args below meth c B D cy zz H locs ls hC hR hS hl
  obtain ⟨C, T, N, hc, hkN, hlink⟩ := hf
  obtain ⟨ty, h1, h2, h3, h4, h5⟩ := x_cof hc
  have h6 := (h5 k hkN).2.2 hk
  have he := x_wl_vd B cy ρ σ hv
  rw [x_ce_o hs] at he
  have hfn : narrow (ty k) (.ref (B + x_od t2 i2)) = .ref (B + x_od t2 i2) ∧ fits (ty k) (.ref (B + x_od t2 i2)) = true := by
    have h7 := h6.2.2
    revert h7
    cases ty k <;> intro h7 <;> first | exact ⟨rfl, rfl⟩ | cases h7
  refine va_putF (D := D) (ci := ci) (v := .ref (B + x_od t2 i2)) (ty := ty k) (C := C) (T := T) (N := N) hC.1 hC.2.1 hC.2.2.2.2.1 h1 ty h2 h3 hC.2.2.2.1 hC.2.2.2.2.2.2.2.2.1 hR.1 (x_wl_D B cy n ρ σ) hS.1 (x_od t i) he hc k hkN (hC.2.2.2.2.1 _ hlink) (fun _ h9 => h9) h6.1 (hC.2.2.2.2.2.2.2.1.1 hi) (h6.2.1.trans (hown _ hc)) (h2 k hkN) hfn.1 hfn.2 (by rw [List.length_map, List.length_range, ← h4]; exact hkN) hd (fun H1 locs1 hP1 hD1 hS1 => ?_)
  rw [x_wl_set B cy (ρ' := x_ur ρ t i k (some (t2, i2))) (σ' := σ) hR.2 hv] at hP1
  · exact kk p e s m args below meth c B D cy zz H1 locs1 ls hC ⟨hP1, hR.2⟩ ⟨hS1, hS.2⟩ hl
  · rw [x_ce_o hs]
    congr 2
    refine x_fs_set (h4 ▸ hkN) ?_ (fun k' hk' => ?_)
    · simp [x_fv, hk, x_ur, va_rf]
    · simp only [x_fv, x_ur_s, if_neg hk']
  · intro t' i' ho
    exact x_ce_eq (fun k' => x_ur_o ho k') (fun _ => rfl)
/-! arrays -/
theorem x_ln_lt (t i : Nat) : x_ln t i < 2147483648 := by
  unfold x_ln; (repeat' split) <;> omega
theorem g_iald {a : Int} (j : Nat) (hd : decode cc pc = .ok (.iaload, 1)) (ha : a = (j : Int)) (hj : j < x_ln t i) (hv : x_vd n t i) (hs : x_sh t = .inl 0) (kk : xGo l own cc nL ret ini d mc ms Q n cu su (pc + 1) lv (xI (σ t i j) :: st) ρ σ) : xGo l own cc nL ret ini d mc ms Q n cu su pc lv (xI a :: xR t i :: st) ρ σ := by
  intro p e s m args below meth c B D cy zz H locs ls hC hR hS hl
  subst ha
  have he := x_wl_vd B cy ρ σ hv
  rw [x_ce_a hs (by omega)] at he
  have hb : x_ln t i < 2147483648 := x_ln_lt t i
  refine va_iald (f := fun k => Int32.ofInt (σ t i k)) hC.1 hC.2.1 hC.2.2.2.2.2.2.2.2.1 hR.1 (x_od t i) 0 he rfl (x_vin hj hb) hd ?_
  refine x_to (congrArg (fun q => Int32.ofInt (σ t i q)) (x_clamp (by omega))) ?_
  exact kk p e s m args below meth c B D cy zz H locs ls hC hR hS hl
theorem g_cald {a : Int} (j : Nat) (hd : decode cc pc = .ok (.caload, 1)) (ha : a = (j : Int)) (hj : j < x_ln t i) (hv : x_vd n t i) (hs : x_sh t = .inl 1) (kk : xGo l own cc nL ret ini d mc ms Q n cu su (pc + 1) lv (xI (σ t i j) :: st) ρ σ) : xGo l own cc nL ret ini d mc ms Q n cu su pc lv (xI a :: xR t i :: st) ρ σ := by
  intro p e s m args below meth c B D cy zz H locs ls hC hR hS hl
  subst ha
  have he := x_wl_vd B cy ρ σ hv
  rw [x_ce_a hs (by omega)] at he
  have hb : x_ln t i < 2147483648 := x_ln_lt t i
  refine va_cald (f := fun k => Int32.ofInt (σ t i k)) hC.1 hC.2.1 hC.2.2.2.2.2.2.2.2.1 hR.1 (x_od t i) 1 he rfl (x_vin hj hb) hd ?_
  refine x_to (congrArg (fun q => Int32.ofInt (σ t i q)) (x_clamp (by omega))) ?_
  exact kk p e s m args below meth c B D cy zz H locs ls hC hR hS hl
theorem g_zald {a : Int} (j : Nat) (hd : decode cc pc = .ok (.baload, 1)) (ha : a = (j : Int)) (hj : j < x_ln t i) (hv : x_vd n t i) (hs : x_sh t = .inl 2) (kk : xGo l own cc nL ret ini d mc ms Q n cu su (pc + 1) lv (xI (σ t i j) :: st) ρ σ) : xGo l own cc nL ret ini d mc ms Q n cu su pc lv (xI a :: xR t i :: st) ρ σ := by
  intro p e s m args below meth c B D cy zz H locs ls hC hR hS hl
  subst ha
  have he := x_wl_vd B cy ρ σ hv
  rw [x_ce_a hs (by omega)] at he
  have hb : x_ln t i < 2147483648 := x_ln_lt t i
  refine va_zald (f := fun k => Int32.ofInt (σ t i k)) hC.1 hC.2.1 hC.2.2.2.2.2.2.2.2.1 hR.1 (x_od t i) 2 he rfl (x_vin hj hb) hd ?_
  refine x_to (congrArg (fun q => Int32.ofInt (σ t i q)) (x_clamp (by omega))) ?_
  exact kk p e s m args below meth c B D cy zz H locs ls hC hR hS hl
theorem g_alen {ty : Nat} {v : Int} (hd : decode cc pc = .ok (.arraylength, 1)) (hv : x_vd n t i) (hs : x_sh t = .inl ty) (hl0 : (x_ln t i : Int) = v) (kk : xGo l own cc nL ret ini d mc ms Q n cu su (pc + 1) lv (xI v :: st) ρ σ) : xGo l own cc nL ret ini d mc ms Q n cu su pc lv (xR t i :: st) ρ σ := by
  intro p e s m args below meth c B D cy zz H locs ls hC hR hS hl
  subst hl0
  have he := x_wl_vd B cy ρ σ hv
  have h3 : ty < 4 := by
    revert hs; unfold x_sh; split <;> intro hs <;> first | cases hs; done | (cases hs; omega)
  by_cases h : ty < 3
  · rw [x_ce_a hs h] at he
    match ty, h with
    | 0, _ => exact va_alen (v := Int32.ofInt (x_ln t i)) hC.1 hC.2.1 hC.2.2.2.2.2.2.2.2.1 hR.1 (x_od t i) 0 he rfl rfl hd (kk p e s m args below meth c B D cy zz H locs ls hC hR hS hl)
    | 1, _ => exact va_alen (v := Int32.ofInt (x_ln t i)) hC.1 hC.2.1 hC.2.2.2.2.2.2.2.2.1 hR.1 (x_od t i) 1 he rfl rfl hd (kk p e s m args below meth c B D cy zz H locs ls hC hR hS hl)
    | 2, _ => exact va_alen (v := Int32.ofInt (x_ln t i)) hC.1 hC.2.1 hC.2.2.2.2.2.2.2.2.1 hR.1 (x_od t i) 2 he rfl rfl hd (kk p e s m args below meth c B D cy zz H locs ls hC hR hS hl)
  · have h5 : ty = 3 := by omega
    subst h5
    rw [x_ce_3 hs] at he
    exact va_alen (v := Int32.ofInt (x_ln t i)) hC.1 hC.2.1 hC.2.2.2.2.2.2.2.2.1 hR.1 (x_od t i) 3 he rfl rfl hd (kk p e s m args below meth c B D cy zz H locs ls hC hR hS hl)
theorem x_ast_e {B : Nat} {cy : Nat → ClassId} {ty j : Nat} {b : Int} (hs : x_sh t = .inl ty) (h3 : ty < 3) (f : Nat → Int32) (hf : ∀ q, f q = Int32.ofInt (x_up σ t i j b t i q)) : (.inl (cy ty, x_ln t i, .inl f) : va_E) = x_ce B cy ρ (x_up σ t i j b) t i := by
  rw [x_ce_a hs h3, funext hf]
theorem g_iast {a b : Int} (j : Nat) (hd : decode cc pc = .ok (.iastore, 1)) (ha : a = (j : Int)) (hj : j < x_ln t i) (hv : x_vd n t i) (hs : x_sh t = .inl 0) (kk : xGo l own cc nL ret ini d mc ms Q n cu su (pc + 1) lv st ρ (x_up σ t i j b)) : xGo l own cc nL ret ini d mc ms Q n cu su pc lv (xI b :: xI a :: xR t i :: st) ρ σ := by
  intro p e s m args below meth c B D cy zz H locs ls hC hR hS hl
  subst ha
  have he := x_wl_vd B cy ρ σ hv
  rw [x_ce_a hs (by omega)] at he
  have hb : x_ln t i < 2147483648 := x_ln_lt t i
  refine va_iast (f := fun k => Int32.ofInt (σ t i k)) hC.1 hC.2.1 hC.2.2.2.2.2.2.2.2.1 hR.1 (x_wl_D B cy n ρ σ) hS.1 (x_od t i) 0 he rfl (x_vin hj hb) hd (fun H1 locs1 hP1 hD1 hS1 => ?_)
  rw [x_wl_set B cy (ρ' := ρ) (σ' := x_up σ t i j b) hR.2 hv] at hP1
  · exact kk p e s m args below meth c B D cy zz H1 locs1 ls hC ⟨hP1, hR.2⟩ ⟨hS1, hS.2⟩ hl
  · refine x_ast_e hs (by omega) _ (fun q => ?_)
    rw [x_clamp (by omega), x_up_s]
    unfold upd
    split <;> rfl
  · intro t' i' ho
    exact x_ce_eq (fun _ => rfl) (fun k' => x_up_o ho k')
end
