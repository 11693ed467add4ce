theorem x_cp_o {σ : xMi} {t i t0 i0 n : Nat} {t' i' : Nat} (h : ¬ (t' = t ∧ i' = i)) (k' : Nat) : x_cp σ t i t0 i0 n t' i' k' = σ t' i' k' := if_neg (fun z => h ⟨z.1, z.2.1⟩)
theorem x_up_k {σ : xMi} {t i k : Nat} {v : Int} {t' i' k' : Nat} (h : ¬ (t' = t ∧ i' = i ∧ k' = k)) : x_up σ t i k v t' i' k' = σ t' i' k' := if_neg h
theorem g_sub {l : Launch} {own : String} {cc : ByteArray} {nL : Nat} {ret : Option FieldType} {ini : xB} {d mc ms : Nat} {Q : xP} {n cu su pc : Nat} {lv lv2 : List (Nat × xV)} {st : List xV} {ρ : xMr} {σ : xMi} (ks : List Nat) (h : ks.filterMap (fun k => lv[k]?) = lv2) (kk : xGo l own cc nL ret ini d mc ms Q n cu su pc lv2 st ρ σ) : xGo l own cc nL ret ini d mc ms Q n cu su pc lv st ρ σ := by
  intro p e s m args below meth c B D cy zz H locs ls hC hR hS hl
  refine kk p e s m args below meth c B D cy zz H locs ls hC hR hS ⟨hl.1, hl.2.1, fun q hq => ?_⟩
  obtain ⟨q0, hq0, rfl⟩ := List.mem_map.mp hq
  rw [← h] at hq0
  obtain ⟨k, -, hk⟩ := List.mem_filterMap.mp hq0
  exact hl.2.2 _ (List.mem_map.mpr ⟨q0, List.mem_of_getElem? hk, rfl⟩)
theorem f_cv {l : Launch} {own : String} {cc : ByteArray} {nL : Nat} {ret : Option FieldType} {d n : Nat} {pc : Nat} {lv : List (Nat × xV)} {st : List xV} {σ : xMi} {r r2 : Option xV} {s1 s2 : xMi} (h1 : r = r2) (h2 : s1 = s2) (kk : x_G l own cc nL ret d n r2 s2 pc lv st σ) : x_G l own cc nL ret d n r s1 pc lv st σ := by
  subst h1; subst h2; exact kk
theorem g_mem {l : Launch} {own : String} {cc : ByteArray} {nL : Nat} {ret : Option FieldType} {ini : xB} {d mc ms : Nat} {Q : xP} {n cu su pc : Nat} {lv : List (Nat × xV)} {st : List xV} {ρ : xMr} {σ : xMi} (σ2 : xMi) (h : σ = σ2) (kk : xGo l own cc nL ret ini d mc ms Q n cu su pc lv st ρ σ2) : xGo l own cc nL ret ini d mc ms Q n cu su pc lv st ρ σ := by
  subst h; exact kk
theorem g_eqI {l : Launch} {own : String} {cc : ByteArray} {nL : Nat} {ret : Option FieldType} {ini : xB} {d mc ms : Nat} {Q : xP} {n cu su pc : Nat} {lv : List (Nat × xV)} {st : List xV} {ρ : xMr} {σ : xMi} {a : Int} (b : Int) (h : a = b) (kk : xGo l own cc nL ret ini d mc ms Q n cu su pc lv (xI b :: st) ρ σ) : xGo l own cc nL ret ini d mc ms Q n cu su pc lv (xI a :: st) ρ σ := by
  subst h; exact kk
theorem x_remN {q K : Nat} (hq : q < 2147483648) (hK : 0 < K) (hK2 : K < 2147483648) : x_rem (q : Int) (K : Int) = ((q % K : Nat) : Int) := by
  unfold x_rem
  rw [x_ofk, x_ofk, pk_rem hq hK hK2, nI_toInt (Nat.lt_of_lt_of_le (Nat.mod_lt _ hK) (by omega))]
def V_X0_isTold (σ : xMi) (f : Nat) (p : Nat) : Int := (if x_wr (σ 4 f p) < 0 then 0 else 1)
theorem z_X0_isTold (σ : xMi) (f : Nat) (p : Nat) : V_X0_isTold σ f p = 0 ∨ V_X0_isTold σ f p = 1 := by
  unfold V_X0_isTold
  (repeat' split) <;> first | exact Or.inl rfl | exact Or.inr rfl
theorem c_X0_isTold (l : Launch) (n : Nat) (σ : xMi) (f : Nat) (p : Nat) (hn : 131 ≤ n) (hf : f < 20) (hp : p < 6)  : x_F l yX0_isTold RX0 cX0_isTold 2 (some .boolean) 0 n σ [xR 0 f, xI (p : Int)] (some (xI (V_X0_isTold σ f p))) σ := by
  refine f_of (by decide) rfl (Nat.le_of_ble_eq_true rfl) rfl ?_
  refine g_aload_n dX0_isTold_0 rfl ?_
  refine g_getR (t2 := 4) (i2 := f) dX0_isTold_1 fl_X0_21 (x_vC hn (Nat.le_of_ble_eq_true rfl) hf) rfl rfl rfl ?_
  refine g_iload_n dX0_isTold_4 rfl ?_
  refine g_iald p dX0_isTold_5 rfl hp (x_vC hn (Nat.le_of_ble_eq_true rfl) hf) rfl ?_
  refine g_if_lt 13 dX0_isTold_6 rfl (fun c_6 => ?_) (fun c_6 => ?_)
  · refine g_iconst dX0_isTold_13 ?_
    exact f_zret dX0_isTold_14 (by decide) (by rw [V_X0_isTold, if_pos c_6]) rfl
  · refine g_iconst dX0_isTold_9 ?_
    refine g_goto 14 dX0_isTold_10 rfl ?_
    exact f_zret dX0_isTold_14 (by decide) (by rw [V_X0_isTold, if_neg c_6]) rfl

def V_X0_isIn (σ : xMi) (b : Int) (q : Int) : Int := (if x_wr (x_and (x_shr b q) 1) = x_wr 1 then 1 else 0)
theorem z_X0_isIn (σ : xMi) (b : Int) (q : Int) : V_X0_isIn σ b q = 0 ∨ V_X0_isIn σ b q = 1 := by
  unfold V_X0_isIn
  (repeat' split) <;> first | exact Or.inl rfl | exact Or.inr rfl
theorem c_X0_isIn (l : Launch) (n : Nat) (σ : xMi) (b : Int) (q : Int) (hn : 131 ≤ n)   : x_F l yX0_isIn RX0 cX0_isIn 2 (some .boolean) 0 n σ [xI b, xI q] (some (xI (V_X0_isIn σ b q))) σ := by
  refine f_of (by decide) rfl (Nat.le_of_ble_eq_true rfl) rfl ?_
  refine g_iload_n dX0_isIn_0 rfl ?_
  refine g_iload_n dX0_isIn_1 rfl ?_
  refine g_ishr dX0_isIn_2 ?_
  refine g_iconst dX0_isIn_3 ?_
  refine g_iand dX0_isIn_4 ?_
  refine g_iconst dX0_isIn_5 ?_
  refine g_cmp_ne 13 dX0_isIn_6 rfl (fun c_6 => ?_) (fun c_6 => ?_)
  · refine g_iconst dX0_isIn_13 ?_
    exact f_zret dX0_isIn_14 (by decide) (by rw [V_X0_isIn, if_neg c_6]) rfl
  · refine g_iconst dX0_isIn_9 ?_
    refine g_goto 14 dX0_isIn_10 rfl ?_
    exact f_zret dX0_isIn_14 (by decide) (by rw [V_X0_isIn, if_pos c_6]) rfl

def V_X0_eatingDays (σ : xMi) (k : Int) (h : Int) : Int := (if x_wr k = x_wr 2 then h else (if x_wr k = x_wr 1 then ((2 * h) + 2) else (2 * h)))
theorem c_X0_eatingDays (l : Launch) (n : Nat) (σ : xMi) (k : Int) (h : Int) (hn : 131 ≤ n)   : x_F l yX0_eatingDays RX0 cX0_eatingDays 2 (some .int) 0 n σ [xI k, xI h] (some (xI (V_X0_eatingDays σ k h))) σ := by
  refine f_of (by decide) rfl (Nat.le_of_ble_eq_true rfl) rfl ?_
  refine g_iload_n dX0_eatingDays_0 rfl ?_
  refine g_iconst dX0_eatingDays_1 ?_
  refine g_cmp_ne 7 dX0_eatingDays_2 rfl (fun c_2 => ?_) (fun c_2 => ?_)
  · refine g_iload_n dX0_eatingDays_7 rfl ?_
    refine g_iconst dX0_eatingDays_8 ?_
    refine g_cmp_ne 20 dX0_eatingDays_9 rfl (fun c_9 => ?_) (fun c_9 => ?_)
    · refine g_iconst dX0_eatingDays_20 ?_
      refine g_iload_n dX0_eatingDays_21 rfl ?_
      refine g_imul dX0_eatingDays_22 ?_
      exact f_iret dX0_eatingDays_23 (by rw [V_X0_eatingDays, if_neg c_2, if_neg c_9]) rfl
    · refine g_iconst dX0_eatingDays_12 ?_
      refine g_iload_n dX0_eatingDays_13 rfl ?_
      refine g_imul dX0_eatingDays_14 ?_
      refine g_iconst dX0_eatingDays_15 ?_
      refine g_iadd dX0_eatingDays_16 ?_
      refine g_goto 23 dX0_eatingDays_17 rfl ?_
      exact f_iret dX0_eatingDays_23 (by rw [V_X0_eatingDays, if_neg c_2, if_pos c_9]) rfl
  · refine g_iload_n dX0_eatingDays_5 rfl ?_
    exact f_iret dX0_eatingDays_6 (by rw [V_X0_eatingDays, if_pos c_2]) rfl

def V_X0_wayDays (σ : xMi) (f : Nat) (p : Nat) : Int := ((x_div (σ 7 (x_rof f) p) 10) + 1)
theorem c_X0_wayDays (l : Launch) (n : Nat) (σ : xMi) (f : Nat) (p : Nat) (hn : 131 ≤ n) (hf : f < 20) (hp : p < 6)  : x_F l yX0_wayDays RX0 cX0_wayDays 2 (some .int) 0 n σ [xR 0 f, xI (p : Int)] (some (xI (V_X0_wayDays σ f p))) σ := by
  refine f_of (by decide) rfl (Nat.le_of_ble_eq_true rfl) rfl ?_
  refine g_aload_n dX0_wayDays_0 rfl ?_
  refine g_getR (t2 := 5) (i2 := (x_rof f)) dX0_wayDays_1 fl_X0_47 (x_vC hn (Nat.le_of_ble_eq_true rfl) hf) rfl rfl rfl ?_
  refine g_getR (t2 := 7) (i2 := (x_rof f)) dX0_wayDays_4 fl_X0_125 (x_vC hn (Nat.le_of_ble_eq_true rfl) (x_rof_lt _)) rfl rfl rfl ?_
  refine g_iload_n dX0_wayDays_7 rfl ?_
  refine g_iald p dX0_wayDays_8 rfl hp (x_vC hn (Nat.le_of_ble_eq_true rfl) (x_rof_lt _)) rfl ?_
  refine g_bipush dX0_wayDays_9 (by decide) ?_
  refine g_idiv dX0_wayDays_11 (by decide) ?_
  refine g_iconst dX0_wayDays_12 ?_
  refine g_iadd dX0_wayDays_13 ?_
  exact f_iret dX0_wayDays_14 rfl rfl

def V_X0_canBeSentOne (σ : xMi) (f : Nat) (p : Nat) : Int := (if x_wr (σ 1 f p) = 0 then (if x_wr (V_X0_isIn σ (σ 0 f 5) (p : Int)) = 0 then (if x_wr (V_X0_isTold σ f p) = 0 then 1 else 0) else 0) else 0)
theorem z_X0_canBeSentOne (σ : xMi) (f : Nat) (p : Nat) : V_X0_canBeSentOne σ f p = 0 ∨ V_X0_canBeSentOne σ f p = 1 := by
  unfold V_X0_canBeSentOne
  (repeat' split) <;> first | exact Or.inl rfl | exact Or.inr rfl
theorem c_X0_canBeSentOne (l : Launch) (n : Nat) (σ : xMi) (f : Nat) (p : Nat) (hn : 131 ≤ n) (hf : f < 20) (hp : p < 6)  : x_F l yX0_canBeSentOne RX0 cX0_canBeSentOne 2 (some .boolean) 1 n σ [xR 0 f, xI (p : Int)] (some (xI (V_X0_canBeSentOne σ f p))) σ := by
  refine f_of (by decide) rfl (Nat.le_of_ble_eq_true rfl) rfl ?_
  refine g_aload_n dX0_canBeSentOne_0 rfl ?_
  refine g_getR (t2 := 1) (i2 := f) dX0_canBeSentOne_1 fl_X0_9 (x_vC hn (Nat.le_of_ble_eq_true rfl) hf) rfl rfl rfl ?_
  refine g_iload_n dX0_canBeSentOne_4 rfl ?_
  refine g_iald p dX0_canBeSentOne_5 rfl hp (x_vC hn (Nat.le_of_ble_eq_true rfl) hf) rfl ?_
  refine g_if_ne 32 dX0_canBeSentOne_6 rfl (fun c_6 => ?_) (fun c_6 => ?_)
  · refine g_iconst dX0_canBeSentOne_32 ?_
    exact f_zret dX0_canBeSentOne_33 (by decide) (by rw [V_X0_canBeSentOne, if_neg c_6]) rfl
  · refine g_aload_n dX0_canBeSentOne_9 rfl ?_
    refine g_getI dX0_canBeSentOne_10 fl_X0_24 (x_vC hn (Nat.le_of_ble_eq_true rfl) hf) rfl rfl ?_
    refine g_iload_n dX0_canBeSentOne_13 rfl ?_
    refine f_S dX0_canBeSentOne_14 cs_X0_60 mb_X0_isIn (c_X0_isIn l n _ (σ 0 f 5) (p : Int) hn) rfl (Nat.lt_of_lt_of_le (by decide) hn) rfl (Nat.le_of_ble_eq_true rfl) (by decide) (Nat.le_of_ble_eq_true rfl) (Nat.le_refl _) (Nat.le_refl _) ?_
    refine g_if_ne 32 dX0_canBeSentOne_17 rfl (fun c_17 => ?_) (fun c_17 => ?_)
    · refine g_iconst dX0_canBeSentOne_32 ?_
      exact f_zret dX0_canBeSentOne_33 (by decide) (by rw [V_X0_canBeSentOne, if_pos c_6, if_neg c_17]) rfl
    · refine g_aload_n dX0_canBeSentOne_20 rfl ?_
      refine g_iload_n dX0_canBeSentOne_21 rfl ?_
      refine f_V dX0_canBeSentOne_22 cs_X0_64 mb_X0_isTold (c_X0_isTold l n _ f p hn hf hp) rfl (x_vC hn (Nat.le_of_ble_eq_true rfl) hf) rfl rfl rfl (Nat.le_of_ble_eq_true rfl) (by decide) (Nat.le_of_ble_eq_true rfl) (Nat.le_refl _) (Nat.le_refl _) ?_
      refine g_if_ne 32 dX0_canBeSentOne_25 rfl (fun c_25 => ?_) (fun c_25 => ?_)
      · refine g_iconst dX0_canBeSentOne_32 ?_
        exact f_zret dX0_canBeSentOne_33 (by decide) (by rw [V_X0_canBeSentOne, if_pos c_6, if_pos c_17, if_neg c_25]) rfl
      · refine g_iconst dX0_canBeSentOne_28 ?_
        refine g_goto 33 dX0_canBeSentOne_29 rfl ?_
        exact f_zret dX0_canBeSentOne_33 (by decide) (by rw [V_X0_canBeSentOne, if_pos c_6, if_pos c_17, if_pos c_25]) rfl

def V_X0_canSendNow (σ : xMi) (f : Nat) (p : Nat) : Int := (if x_wr (V_X0_canBeSentOne σ f p) = 0 then 0 else (if x_wr (σ 0 f 9) ≤ 0 then 0 else (if x_wr (x_bn (σ 0 f 11)) = 0 then 1 else 0)))
theorem z_X0_canSendNow (σ : xMi) (f : Nat) (p : Nat) : V_X0_canSendNow σ f p = 0 ∨ V_X0_canSendNow σ f p = 1 := by
  unfold V_X0_canSendNow
  (repeat' split) <;> first | exact Or.inl rfl | exact Or.inr rfl
theorem c_X0_canSendNow (l : Launch) (n : Nat) (σ : xMi) (f : Nat) (p : Nat) (hn : 131 ≤ n) (hf : f < 20) (hp : p < 6)  : x_F l yX0_canSendNow RX0 cX0_canSendNow 2 (some .boolean) 2 n σ [xR 0 f, xI (p : Int)] (some (xI (V_X0_canSendNow σ f p))) σ := by
  refine f_of (by decide) rfl (Nat.le_of_ble_eq_true rfl) rfl ?_
  refine g_aload_n dX0_canSendNow_0 rfl ?_
  refine g_iload_n dX0_canSendNow_1 rfl ?_
  refine f_V dX0_canSendNow_2 cs_X0_68 mb_X0_canBeSentOne (c_X0_canBeSentOne l n _ f p hn hf hp) rfl (x_vC hn (Nat.le_of_ble_eq_true rfl) hf) rfl rfl rfl (Nat.le_of_ble_eq_true rfl) (by decide) (Nat.le_of_ble_eq_true rfl) (Nat.le_refl _) (Nat.le_refl _) ?_
  refine g_if_eq 26 dX0_canSendNow_5 rfl (fun c_5 => ?_) (fun c_5 => ?_)
  · refine g_iconst dX0_canSendNow_26 ?_
    exact f_zret dX0_canSendNow_27 (by decide) (by rw [V_X0_canSendNow, if_pos c_5]) rfl
  · refine g_aload_n dX0_canSendNow_8 rfl ?_
    refine g_getI dX0_canSendNow_9 fl_X0_37 (x_vC hn (Nat.le_of_ble_eq_true rfl) hf) rfl rfl ?_
    refine g_if_le 26 dX0_canSendNow_12 rfl (fun c_12 => ?_) (fun c_12 => ?_)
    · refine g_iconst dX0_canSendNow_26 ?_
      exact f_zret dX0_canSendNow_27 (by decide) (by rw [V_X0_canSendNow, if_neg c_5, if_pos c_12]) rfl
    · refine g_aload_n dX0_canSendNow_15 rfl ?_
      refine g_getZ dX0_canSendNow_16 fl_X0_43 (x_vC hn (Nat.le_of_ble_eq_true rfl) hf) rfl rfl ?_
      refine g_if_ne 26 dX0_canSendNow_19 rfl (fun c_19 => ?_) (fun c_19 => ?_)
      · refine g_iconst dX0_canSendNow_26 ?_
        exact f_zret dX0_canSendNow_27 (by decide) (by rw [V_X0_canSendNow, if_neg c_5, if_neg c_12, if_neg c_19]) rfl
      · refine g_iconst dX0_canSendNow_22 ?_
        refine g_goto 27 dX0_canSendNow_23 rfl ?_
        exact f_zret dX0_canSendNow_27 (by decide) (by rw [V_X0_canSendNow, if_neg c_5, if_neg c_12, if_pos c_19]) rfl

def S_X0_dispatch (σ : xMi) (f : Nat) (p : Nat) : xMi := (x_up (x_up (x_up (x_up σ 0 f 9 ((σ 0 f 9) - 1)) 0 f 11 1) 1 f p 1) 2 f p (((x_up (x_up (x_up σ 0 f 9 ((σ 0 f 9) - 1)) 0 f 11 1) 1 f p 1) 0 f 10) + (V_X0_wayDays (x_up (x_up (x_up σ 0 f 9 ((σ 0 f 9) - 1)) 0 f 11 1) 1 f p 1) f p)))
theorem fr_S_X0_dispatch (σ : xMi) (f : Nat) (p : Nat) {t i k : Nat} (h : ¬ (t ≤ 4 ∧ i = f)) : S_X0_dispatch σ f p t i k = σ t i k := by
  unfold S_X0_dispatch
  all_goals ((repeat' split) <;> first | rfl | simp (disch := first | omega | assumption) only [x_up_o, x_up_k, x_cp_o])
theorem c_X0_dispatch (l : Launch) (n : Nat) (σ : xMi) (f : Nat) (p : Nat) (hn : 131 ≤ n) (hf : f < 20) (hp : p < 6)  : x_F l yX0_dispatch RX0 cX0_dispatch 2 none 1 n σ [xR 0 f, xI (p : Int)] none (S_X0_dispatch σ f p) := by
  refine f_of (by decide) rfl (Nat.le_of_ble_eq_true rfl) rfl ?_
  refine g_aload_n dX0_dispatch_0 rfl ?_
  refine g_dup dX0_dispatch_1 rfl ?_
  refine g_getI dX0_dispatch_2 fl_X0_37 (x_vC hn (Nat.le_of_ble_eq_true rfl) hf) rfl rfl ?_
  refine g_iconst dX0_dispatch_5 ?_
  refine g_isub dX0_dispatch_6 ?_
  refine g_putI dX0_dispatch_7 fl_X0_37 (x_vC hn (Nat.le_of_ble_eq_true rfl) hf) rfl rfl ?_
  refine g_aload_n dX0_dispatch_10 rfl ?_
  refine g_iconst dX0_dispatch_11 ?_
  refine g_putZ dX0_dispatch_12 fl_X0_43 (x_vC hn (Nat.le_of_ble_eq_true rfl) hf) rfl rfl rfl ?_
  refine g_aload_n dX0_dispatch_15 rfl ?_
  refine g_getR (t2 := 1) (i2 := f) dX0_dispatch_16 fl_X0_9 (x_vC hn (Nat.le_of_ble_eq_true rfl) hf) rfl rfl rfl ?_
  refine g_iload_n dX0_dispatch_19 rfl ?_
  refine g_iconst dX0_dispatch_20 ?_
  refine g_iast p dX0_dispatch_21 rfl hp (x_vC hn (Nat.le_of_ble_eq_true rfl) hf) rfl ?_
  refine g_aload_n dX0_dispatch_22 rfl ?_
  refine g_getR (t2 := 2) (i2 := f) dX0_dispatch_23 fl_X0_15 (x_vC hn (Nat.le_of_ble_eq_true rfl) hf) rfl rfl rfl ?_
  refine g_iload_n dX0_dispatch_26 rfl ?_
  refine g_aload_n dX0_dispatch_27 rfl ?_
  refine g_getI dX0_dispatch_28 fl_X0_40 (x_vC hn (Nat.le_of_ble_eq_true rfl) hf) rfl rfl ?_
  refine g_aload_n dX0_dispatch_31 rfl ?_
  refine g_iload_n dX0_dispatch_32 rfl ?_
  refine f_V dX0_dispatch_33 cs_X0_71 mb_X0_wayDays (c_X0_wayDays l n _ f p hn hf hp) rfl (x_vC hn (Nat.le_of_ble_eq_true rfl) hf) rfl rfl rfl (Nat.le_of_ble_eq_true rfl) (by decide) (Nat.le_of_ble_eq_true rfl) (Nat.le_refl _) (Nat.le_refl _) ?_
  refine g_iadd dX0_dispatch_36 ?_
  refine g_iast p dX0_dispatch_37 rfl hp (x_vC hn (Nat.le_of_ble_eq_true rfl) hf) rfl ?_
  exact f_vret dX0_dispatch_38 rfl rfl

def S_X0_recall (σ : xMi) (f : Nat) (p : Nat) : xMi := (x_up (x_up (x_up (x_up σ 0 f 9 (x_min 20 ((σ 0 f 9) + (σ 1 f p)))) 1 f p 0) 2 f p (-4)) 0 f 7 (x_and ((x_up (x_up (x_up σ 0 f 9 (x_min 20 ((σ 0 f 9) + (σ 1 f p)))) 1 f p 0) 2 f p (-4)) 0 f 7) (x_xor (x_shl 1 (p : Int)) (-1))))
theorem fr_S_X0_recall (σ : xMi) (f : Nat) (p : Nat) {t i k : Nat} (h : ¬ (t ≤ 4 ∧ i = f)) : S_X0_recall σ f p t i k = σ t i k := by
  unfold S_X0_recall
  all_goals ((repeat' split) <;> first | rfl | simp (disch := first | omega | assumption) only [x_up_o, x_up_k, x_cp_o])
theorem c_X0_recall (l : Launch) (n : Nat) (σ : xMi) (f : Nat) (p : Nat) (hn : 131 ≤ n) (hf : f < 20) (hp : p < 6)  : x_F l yX0_recall RX0 cX0_recall 2 none 1 n σ [xR 0 f, xI (p : Int)] none (S_X0_recall σ f p) := by
  refine f_of (by decide) rfl (Nat.le_of_ble_eq_true rfl) rfl ?_
  refine g_aload_n dX0_recall_0 rfl ?_
  refine g_bipush dX0_recall_1 (by decide) ?_
  refine g_aload_n dX0_recall_3 rfl ?_
  refine g_getI dX0_recall_4 fl_X0_37 (x_vC hn (Nat.le_of_ble_eq_true rfl) hf) rfl rfl ?_
  refine g_aload_n dX0_recall_7 rfl ?_
  refine g_getR (t2 := 1) (i2 := f) dX0_recall_8 fl_X0_9 (x_vC hn (Nat.le_of_ble_eq_true rfl) hf) rfl rfl rfl ?_
  refine g_iload_n dX0_recall_11 rfl ?_
  refine g_iald p dX0_recall_12 rfl hp (x_vC hn (Nat.le_of_ble_eq_true rfl) hf) rfl ?_
  refine g_iadd dX0_recall_13 ?_
  refine g_min dX0_recall_14 cx_X0_75 w_min.1 w_min.2.1 w_min.2.2 (by decide) (Nat.le_of_ble_eq_true rfl) (Nat.le_refl _) (Nat.le_refl _) ?_
  refine g_putI dX0_recall_17 fl_X0_37 (x_vC hn (Nat.le_of_ble_eq_true rfl) hf) rfl rfl ?_
  refine g_aload_n dX0_recall_20 rfl ?_
  refine g_getR (t2 := 1) (i2 := f) dX0_recall_21 fl_X0_9 (x_vC hn (Nat.le_of_ble_eq_true rfl) hf) rfl rfl rfl ?_
  refine g_iload_n dX0_recall_24 rfl ?_
  refine g_iconst dX0_recall_25 ?_
  refine g_iast p dX0_recall_26 rfl hp (x_vC hn (Nat.le_of_ble_eq_true rfl) hf) rfl ?_
  refine g_aload_n dX0_recall_27 rfl ?_
  refine g_getR (t2 := 2) (i2 := f) dX0_recall_28 fl_X0_15 (x_vC hn (Nat.le_of_ble_eq_true rfl) hf) rfl rfl rfl ?_
  refine g_iload_n dX0_recall_31 rfl ?_
  refine g_bipush dX0_recall_32 (by decide) ?_
  refine g_iast p dX0_recall_34 rfl hp (x_vC hn (Nat.le_of_ble_eq_true rfl) hf) rfl ?_
  refine g_aload_n dX0_recall_35 rfl ?_
  refine g_dup dX0_recall_36 rfl ?_
  refine g_getI dX0_recall_37 fl_X0_31 (x_vC hn (Nat.le_of_ble_eq_true rfl) hf) rfl rfl ?_
  refine g_iconst dX0_recall_40 ?_
  refine g_iload_n dX0_recall_41 rfl ?_
  refine g_ishl dX0_recall_42 ?_
  refine g_iconst dX0_recall_43 ?_
  refine g_ixor dX0_recall_44 ?_
  refine g_iand dX0_recall_45 ?_
  refine g_putI dX0_recall_46 fl_X0_31 (x_vC hn (Nat.le_of_ble_eq_true rfl) hf) rfl rfl ?_
  exact f_vret dX0_recall_49 rfl rfl

def V_X0_willRefuse (σ : xMi) (f : Nat) (p : Nat) : Int := (if x_wr (σ 6 (x_rof f) p) = x_wr 3 then (if x_wr (V_X0_isIn σ (σ 0 f 7) (p : Int)) = 0 then 1 else 0) else 0)
theorem z_X0_willRefuse (σ : xMi) (f : Nat) (p : Nat) : V_X0_willRefuse σ f p = 0 ∨ V_X0_willRefuse σ f p = 1 := by
  unfold V_X0_willRefuse
  (repeat' split) <;> first | exact Or.inl rfl | exact Or.inr rfl
theorem c_X0_willRefuse (l : Launch) (n : Nat) (σ : xMi) (f : Nat) (p : Nat) (hn : 131 ≤ n) (hf : f < 20) (hp : p < 6)  : x_F l yX0_willRefuse RX0 cX0_willRefuse 2 (some .boolean) 1 n σ [xR 0 f, xI (p : Int)] (some (xI (V_X0_willRefuse σ f p))) σ := by
  refine f_of (by decide) rfl (Nat.le_of_ble_eq_true rfl) rfl ?_
  refine g_aload_n dX0_willRefuse_0 rfl ?_
  refine g_getR (t2 := 5) (i2 := (x_rof f)) dX0_willRefuse_1 fl_X0_47 (x_vC hn (Nat.le_of_ble_eq_true rfl) hf) rfl rfl rfl ?_
  refine g_getR (t2 := 6) (i2 := (x_rof f)) dX0_willRefuse_4 fl_X0_98 (x_vC hn (Nat.le_of_ble_eq_true rfl) (x_rof_lt _)) rfl rfl rfl ?_
  refine g_iload_n dX0_willRefuse_7 rfl ?_
  refine g_iald p dX0_willRefuse_8 rfl hp (x_vC hn (Nat.le_of_ble_eq_true rfl) (x_rof_lt _)) rfl ?_
  refine g_iconst dX0_willRefuse_9 ?_
  refine g_cmp_ne 28 dX0_willRefuse_10 rfl (fun c_10 => ?_) (fun c_10 => ?_)
  · refine g_iconst dX0_willRefuse_28 ?_
    exact f_zret dX0_willRefuse_29 (by decide) (by rw [V_X0_willRefuse, if_neg c_10]) rfl
  · refine g_aload_n dX0_willRefuse_13 rfl ?_
    refine g_getI dX0_willRefuse_14 fl_X0_31 (x_vC hn (Nat.le_of_ble_eq_true rfl) hf) rfl rfl ?_
    refine g_iload_n dX0_willRefuse_17 rfl ?_
    refine f_S dX0_willRefuse_18 cs_X0_60 mb_X0_isIn (c_X0_isIn l n _ (σ 0 f 7) (p : Int) hn) rfl (Nat.lt_of_lt_of_le (by decide) hn) rfl (Nat.le_of_ble_eq_true rfl) (by decide) (Nat.le_of_ble_eq_true rfl) (Nat.le_refl _) (Nat.le_refl _) ?_
    refine g_if_ne 28 dX0_willRefuse_21 rfl (fun c_21 => ?_) (fun c_21 => ?_)
    · refine g_iconst dX0_willRefuse_28 ?_
      exact f_zret dX0_willRefuse_29 (by decide) (by rw [V_X0_willRefuse, if_pos c_10, if_neg c_21]) rfl
    · refine g_iconst dX0_willRefuse_24 ?_
      refine g_goto 29 dX0_willRefuse_25 rfl ?_
      exact f_zret dX0_willRefuse_29 (by decide) (by rw [V_X0_willRefuse, if_pos c_10, if_pos c_21]) rfl

def T_X0_comeIn_1 (σ : xMi) (f : Nat) (p : Nat) : xMi := (x_up (x_up (x_up σ 0 f 7 (x_or (σ 0 f 7) (x_shl 1 (p : Int)))) 0 f 8 (((x_up σ 0 f 7 (x_or (σ 0 f 7) (x_shl 1 (p : Int)))) 0 f 8) + 1)) 2 f p (((x_up (x_up σ 0 f 7 (x_or (σ 0 f 7) (x_shl 1 (p : Int)))) 0 f 8 (((x_up σ 0 f 7 (x_or (σ 0 f 7) (x_shl 1 (p : Int)))) 0 f 8) + 1)) 0 f 10) + 1))
def S_X0_comeIn (σ : xMi) (f : Nat) (p : Nat) : xMi := (if x_wr (V_X0_willRefuse σ f p) = 0 then (x_up (x_up (x_up (x_up σ 3 f p (V_X0_eatingDays σ (σ 6 (x_rof f) p) (σ 1 f p))) 0 f 5 (x_or ((x_up σ 3 f p (V_X0_eatingDays σ (σ 6 (x_rof f) p) (σ 1 f p))) 0 f 5) (x_shl 1 (p : Int)))) 1 f p 0) 2 f p (-4)) else (if x_wr ((T_X0_comeIn_1 σ f p) 0 f 9) ≤ 0 then (T_X0_comeIn_1 σ f p) else (x_up (x_up (T_X0_comeIn_1 σ f p) 0 f 9 (((T_X0_comeIn_1 σ f p) 0 f 9) - 1)) 1 f p 2)))
theorem fr_S_X0_comeIn (σ : xMi) (f : Nat) (p : Nat) {t i k : Nat} (h : ¬ (t ≤ 4 ∧ i = f)) : S_X0_comeIn σ f p t i k = σ t i k := by
  unfold S_X0_comeIn
  all_goals ((repeat' split) <;> first | rfl | simp (disch := first | omega | assumption) only [x_up_o, x_up_k, x_cp_o, T_X0_comeIn_1])
theorem c_X0_comeIn (l : Launch) (n : Nat) (σ : xMi) (f : Nat) (p : Nat) (hn : 131 ≤ n) (hf : f < 20) (hp : p < 6)  : x_F l yX0_comeIn RX0 cX0_comeIn 2 none 2 n σ [xR 0 f, xI (p : Int)] none (S_X0_comeIn σ f p) := by
  refine f_of (by decide) rfl (Nat.le_of_ble_eq_true rfl) rfl ?_
  refine g_aload_n dX0_comeIn_0 rfl ?_
  refine g_iload_n dX0_comeIn_1 rfl ?_
  refine f_V dX0_comeIn_2 cs_X0_95 mb_X0_willRefuse (c_X0_willRefuse l n _ f p hn hf hp) rfl (x_vC hn (Nat.le_of_ble_eq_true rfl) hf) rfl rfl rfl (Nat.le_of_ble_eq_true rfl) (by decide) (Nat.le_of_ble_eq_true rfl) (Nat.le_refl _) (Nat.le_refl _) ?_
  refine g_if_eq 67 dX0_comeIn_5 rfl (fun c_5 => ?_) (fun c_5 => ?_)
  · refine g_aload_n dX0_comeIn_67 rfl ?_
    refine g_getR (t2 := 3) (i2 := f) dX0_comeIn_68 fl_X0_18 (x_vC hn (Nat.le_of_ble_eq_true rfl) hf) rfl rfl rfl ?_
    refine g_iload_n dX0_comeIn_71 rfl ?_
    refine g_aload_n dX0_comeIn_72 rfl ?_
    refine g_getR (t2 := 5) (i2 := (x_rof f)) dX0_comeIn_73 fl_X0_47 (x_vC hn (Nat.le_of_ble_eq_true rfl) hf) rfl rfl rfl ?_
    refine g_getR (t2 := 6) (i2 := (x_rof f)) dX0_comeIn_76 fl_X0_98 (x_vC hn (Nat.le_of_ble_eq_true rfl) (x_rof_lt _)) rfl rfl rfl ?_
    refine g_iload_n dX0_comeIn_79 rfl ?_
    refine g_iald p dX0_comeIn_80 rfl hp (x_vC hn (Nat.le_of_ble_eq_true rfl) (x_rof_lt _)) rfl ?_
    refine g_aload_n dX0_comeIn_81 rfl ?_
    refine g_getR (t2 := 1) (i2 := f) dX0_comeIn_82 fl_X0_9 (x_vC hn (Nat.le_of_ble_eq_true rfl) hf) rfl rfl rfl ?_
    refine g_iload_n dX0_comeIn_85 rfl ?_
    refine g_iald p dX0_comeIn_86 rfl hp (x_vC hn (Nat.le_of_ble_eq_true rfl) hf) rfl ?_
    refine f_S dX0_comeIn_87 cs_X0_101 mb_X0_eatingDays (c_X0_eatingDays l n _ (σ 6 (x_rof f) p) (σ 1 f p) hn) rfl (Nat.lt_of_lt_of_le (by decide) hn) rfl (Nat.le_of_ble_eq_true rfl) (by decide) (Nat.le_of_ble_eq_true rfl) (Nat.le_refl _) (Nat.le_refl _) ?_
    refine g_iast p dX0_comeIn_90 rfl hp (x_vC hn (Nat.le_of_ble_eq_true rfl) hf) rfl ?_
    refine g_aload_n dX0_comeIn_91 rfl ?_
    refine g_dup dX0_comeIn_92 rfl ?_
    refine g_getI dX0_comeIn_93 fl_X0_24 (x_vC hn (Nat.le_of_ble_eq_true rfl) hf) rfl rfl ?_
    refine g_iconst dX0_comeIn_96 ?_
    refine g_iload_n dX0_comeIn_97 rfl ?_
    refine g_ishl dX0_comeIn_98 ?_
    refine g_ior dX0_comeIn_99 ?_
    refine g_putI dX0_comeIn_100 fl_X0_24 (x_vC hn (Nat.le_of_ble_eq_true rfl) hf) rfl rfl ?_
    refine g_aload_n dX0_comeIn_103 rfl ?_
    refine g_getR (t2 := 1) (i2 := f) dX0_comeIn_104 fl_X0_9 (x_vC hn (Nat.le_of_ble_eq_true rfl) hf) rfl rfl rfl ?_
    refine g_iload_n dX0_comeIn_107 rfl ?_
    refine g_iconst dX0_comeIn_108 ?_
    refine g_iast p dX0_comeIn_109 rfl hp (x_vC hn (Nat.le_of_ble_eq_true rfl) hf) rfl ?_
    refine g_aload_n dX0_comeIn_110 rfl ?_
    refine g_getR (t2 := 2) (i2 := f) dX0_comeIn_111 fl_X0_15 (x_vC hn (Nat.le_of_ble_eq_true rfl) hf) rfl rfl rfl ?_
    refine g_iload_n dX0_comeIn_114 rfl ?_
    refine g_bipush dX0_comeIn_115 (by decide) ?_
    refine g_iast p dX0_comeIn_117 rfl hp (x_vC hn (Nat.le_of_ble_eq_true rfl) hf) rfl ?_
    exact f_vret dX0_comeIn_118 rfl (by rw [S_X0_comeIn, if_pos c_5])
  · refine g_aload_n dX0_comeIn_8 rfl ?_
    refine g_dup dX0_comeIn_9 rfl ?_
    refine g_getI dX0_comeIn_10 fl_X0_31 (x_vC hn (Nat.le_of_ble_eq_true rfl) hf) rfl rfl ?_
    refine g_iconst dX0_comeIn_13 ?_
    refine g_iload_n dX0_comeIn_14 rfl ?_
    refine g_ishl dX0_comeIn_15 ?_
    refine g_ior dX0_comeIn_16 ?_
    refine g_putI dX0_comeIn_17 fl_X0_31 (x_vC hn (Nat.le_of_ble_eq_true rfl) hf) rfl rfl ?_
    refine g_aload_n dX0_comeIn_20 rfl ?_
    refine g_dup dX0_comeIn_21 rfl ?_
    refine g_getI dX0_comeIn_22 fl_X0_34 (x_vC hn (Nat.le_of_ble_eq_true rfl) hf) rfl rfl ?_
    refine g_iconst dX0_comeIn_25 ?_
    refine g_iadd dX0_comeIn_26 ?_
    refine g_putI dX0_comeIn_27 fl_X0_34 (x_vC hn (Nat.le_of_ble_eq_true rfl) hf) rfl rfl ?_
    refine g_aload_n dX0_comeIn_30 rfl ?_
    refine g_getR (t2 := 2) (i2 := f) dX0_comeIn_31 fl_X0_15 (x_vC hn (Nat.le_of_ble_eq_true rfl) hf) rfl rfl rfl ?_
    refine g_iload_n dX0_comeIn_34 rfl ?_
    refine g_aload_n dX0_comeIn_35 rfl ?_
    refine g_getI dX0_comeIn_36 fl_X0_40 (x_vC hn (Nat.le_of_ble_eq_true rfl) hf) rfl rfl ?_
    refine g_iconst dX0_comeIn_39 ?_
    refine g_iadd dX0_comeIn_40 ?_
    refine g_iast p dX0_comeIn_41 rfl hp (x_vC hn (Nat.le_of_ble_eq_true rfl) hf) rfl ?_
    refine g_mem (T_X0_comeIn_1 σ f p) rfl ?_
    refine g_aload_n dX0_comeIn_42 rfl ?_
    refine g_getI dX0_comeIn_43 fl_X0_37 (x_vC hn (Nat.le_of_ble_eq_true rfl) hf) rfl rfl ?_
    refine g_if_le 66 dX0_comeIn_46 rfl (fun c_46 => ?_) (fun c_46 => ?_)
    · exact f_vret dX0_comeIn_66 rfl (by rw [S_X0_comeIn, if_neg c_5, if_pos c_46])
    · refine g_aload_n dX0_comeIn_49 rfl ?_
      refine g_dup dX0_comeIn_50 rfl ?_
      refine g_getI dX0_comeIn_51 fl_X0_37 (x_vC hn (Nat.le_of_ble_eq_true rfl) hf) rfl rfl ?_
      refine g_iconst dX0_comeIn_54 ?_
      refine g_isub dX0_comeIn_55 ?_
      refine g_putI dX0_comeIn_56 fl_X0_37 (x_vC hn (Nat.le_of_ble_eq_true rfl) hf) rfl rfl ?_
      refine g_aload_n dX0_comeIn_59 rfl ?_
      refine g_getR (t2 := 1) (i2 := f) dX0_comeIn_60 fl_X0_9 (x_vC hn (Nat.le_of_ble_eq_true rfl) hf) rfl rfl rfl ?_
      refine g_iload_n dX0_comeIn_63 rfl ?_
      refine g_iconst dX0_comeIn_64 ?_
      refine g_iast p dX0_comeIn_65 rfl hp (x_vC hn (Nat.le_of_ble_eq_true rfl) hf) rfl ?_
      exact f_vret dX0_comeIn_66 rfl (by rw [S_X0_comeIn, if_neg c_5, if_neg c_46])

def V_X0_endsSoft (σ : xMi) (f : Nat) (p : Nat) : Int := (if x_wr (V_X0_isTold σ f p) = 0 then (if x_wr (V_X0_isIn σ (σ 0 f 5) (p : Int)) = 0 then (if x_wr (V_X0_willRefuse σ f p) = 0 then (if x_wr (σ 1 f p) ≤ 0 then 0 else (if x_wr (σ 8 (x_rof f) p) < x_wr ((x_max (σ 2 f p) (σ 0 f 10)) + 0) then 0 else 1)) else (if x_wr (σ 1 f p) ≤ 0 then 0 else (if x_wr (σ 8 (x_rof f) p) < x_wr ((x_max (σ 2 f p) (σ 0 f 10)) + 1) then 0 else 1))) else 1) else (V_X0_isIn σ (σ 0 f 6) (p : Int)))
theorem z_X0_endsSoft (σ : xMi) (f : Nat) (p : Nat) : V_X0_endsSoft σ f p = 0 ∨ V_X0_endsSoft σ f p = 1 := by
  unfold V_X0_endsSoft
  (repeat' split) <;> first | exact Or.inl rfl | exact Or.inr rfl | exact z_X0_isIn _ _ _
theorem c_X0_endsSoft (l : Launch) (n : Nat) (σ : xMi) (f : Nat) (p : Nat) (hn : 131 ≤ n) (hf : f < 20) (hp : p < 6)  : x_F l yX0_endsSoft RX0 cX0_endsSoft 3 (some .boolean) 2 n σ [xR 0 f, xI (p : Int)] (some (xI (V_X0_endsSoft σ f p))) σ := by
  refine f_of (by decide) rfl (Nat.le_of_ble_eq_true rfl) rfl ?_
  refine g_aload_n dX0_endsSoft_0 rfl ?_
  refine g_iload_n dX0_endsSoft_1 rfl ?_
  refine f_V dX0_endsSoft_2 cs_X0_64 mb_X0_isTold (c_X0_isTold l n _ f p hn hf hp) rfl (x_vC hn (Nat.le_of_ble_eq_true rfl) hf) rfl rfl rfl (Nat.le_of_ble_eq_true rfl) (by decide) (Nat.le_of_ble_eq_true rfl) (Nat.le_refl _) (Nat.le_refl _) ?_
  refine g_if_eq 17 dX0_endsSoft_5 rfl (fun c_5 => ?_) (fun c_5 => ?_)
  · refine g_aload_n dX0_endsSoft_17 rfl ?_
    refine g_getI dX0_endsSoft_18 fl_X0_24 (x_vC hn (Nat.le_of_ble_eq_true rfl) hf) rfl rfl ?_
    refine g_iload_n dX0_endsSoft_21 rfl ?_
    refine f_S dX0_endsSoft_22 cs_X0_60 mb_X0_isIn (c_X0_isIn l n _ (σ 0 f 5) (p : Int) hn) rfl (Nat.lt_of_lt_of_le (by decide) hn) rfl (Nat.le_of_ble_eq_true rfl) (by decide) (Nat.le_of_ble_eq_true rfl) (Nat.le_refl _) (Nat.le_refl _) ?_
    refine g_if_eq 30 dX0_endsSoft_25 rfl (fun c_25 => ?_) (fun c_25 => ?_)
    · refine g_aload_n dX0_endsSoft_30 rfl ?_
      refine g_getR (t2 := 2) (i2 := f) dX0_endsSoft_31 fl_X0_15 (x_vC hn (Nat.le_of_ble_eq_true rfl) hf) rfl rfl rfl ?_
      refine g_iload_n dX0_endsSoft_34 rfl ?_
      refine g_iald p dX0_endsSoft_35 rfl hp (x_vC hn (Nat.le_of_ble_eq_true rfl) hf) rfl ?_
      refine g_aload_n dX0_endsSoft_36 rfl ?_
      refine g_getI dX0_endsSoft_37 fl_X0_40 (x_vC hn (Nat.le_of_ble_eq_true rfl) hf) rfl rfl ?_
      refine g_max dX0_endsSoft_40 cx_X0_113 w_max.1 w_max.2.1 w_max.2.2 (by decide) (Nat.le_of_ble_eq_true rfl) (Nat.le_refl _) (Nat.le_refl _) ?_
      refine g_aload_n dX0_endsSoft_43 rfl ?_
      refine g_iload_n dX0_endsSoft_44 rfl ?_
      refine f_V dX0_endsSoft_45 cs_X0_95 mb_X0_willRefuse (c_X0_willRefuse l n _ f p hn hf hp) rfl (x_vC hn (Nat.le_of_ble_eq_true rfl) hf) rfl rfl rfl (Nat.le_of_ble_eq_true rfl) (by decide) (Nat.le_of_ble_eq_true rfl) (Nat.le_refl _) (Nat.le_refl _) ?_
      refine g_if_eq 55 dX0_endsSoft_48 rfl (fun c_48 => ?_) (fun c_48 => ?_)
      · refine g_iconst dX0_endsSoft_55 ?_
        refine g_iadd dX0_endsSoft_56 ?_
        refine g_istore_n (lv' := [_, _, _]) dX0_endsSoft_57 (Nat.le_of_ble_eq_true rfl) rfl ?_
        refine g_aload_n dX0_endsSoft_58 rfl ?_
        refine g_getR (t2 := 1) (i2 := f) dX0_endsSoft_59 fl_X0_9 (x_vC hn (Nat.le_of_ble_eq_true rfl) hf) rfl rfl rfl ?_
        refine g_iload_n dX0_endsSoft_62 rfl ?_
        refine g_iald p dX0_endsSoft_63 rfl hp (x_vC hn (Nat.le_of_ble_eq_true rfl) hf) rfl ?_
        refine g_if_le 84 dX0_endsSoft_64 rfl (fun c_64 => ?_) (fun c_64 => ?_)
        · refine g_iconst dX0_endsSoft_84 ?_
          exact f_zret dX0_endsSoft_85 (by decide) (by rw [V_X0_endsSoft, if_pos c_5, if_pos c_25, if_pos c_48, if_pos c_64]) rfl
        · refine g_iload_n dX0_endsSoft_67 rfl ?_
          refine g_aload_n dX0_endsSoft_68 rfl ?_
          refine g_getR (t2 := 5) (i2 := (x_rof f)) dX0_endsSoft_69 fl_X0_47 (x_vC hn (Nat.le_of_ble_eq_true rfl) hf) rfl rfl rfl ?_
          refine g_getR (t2 := 8) (i2 := (x_rof f)) dX0_endsSoft_72 fl_X0_92 (x_vC hn (Nat.le_of_ble_eq_true rfl) (x_rof_lt _)) rfl rfl rfl ?_
          refine g_iload_n dX0_endsSoft_75 rfl ?_
          refine g_iald p dX0_endsSoft_76 rfl hp (x_vC hn (Nat.le_of_ble_eq_true rfl) (x_rof_lt _)) rfl ?_
          refine g_cmp_gt 84 dX0_endsSoft_77 rfl (fun c_77 => ?_) (fun c_77 => ?_)
          · refine g_iconst dX0_endsSoft_84 ?_
            exact f_zret dX0_endsSoft_85 (by decide) (by rw [V_X0_endsSoft, if_pos c_5, if_pos c_25, if_pos c_48, if_neg c_64, if_pos c_77]) rfl
          · refine g_iconst dX0_endsSoft_80 ?_
            refine g_goto 85 dX0_endsSoft_81 rfl ?_
            exact f_zret dX0_endsSoft_85 (by decide) (by rw [V_X0_endsSoft, if_pos c_5, if_pos c_25, if_pos c_48, if_neg c_64, if_neg c_77]) rfl
      · refine g_iconst dX0_endsSoft_51 ?_
        refine g_goto 56 dX0_endsSoft_52 rfl ?_
        refine g_iadd dX0_endsSoft_56 ?_
        refine g_istore_n (lv' := [_, _, _]) dX0_endsSoft_57 (Nat.le_of_ble_eq_true rfl) rfl ?_
        refine g_aload_n dX0_endsSoft_58 rfl ?_
        refine g_getR (t2 := 1) (i2 := f) dX0_endsSoft_59 fl_X0_9 (x_vC hn (Nat.le_of_ble_eq_true rfl) hf) rfl rfl rfl ?_
        refine g_iload_n dX0_endsSoft_62 rfl ?_
        refine g_iald p dX0_endsSoft_63 rfl hp (x_vC hn (Nat.le_of_ble_eq_true rfl) hf) rfl ?_
        refine g_if_le 84 dX0_endsSoft_64 rfl (fun c_64 => ?_) (fun c_64 => ?_)
        · refine g_iconst dX0_endsSoft_84 ?_
          exact f_zret dX0_endsSoft_85 (by decide) (by rw [V_X0_endsSoft, if_pos c_5, if_pos c_25, if_neg c_48, if_pos c_64]) rfl
        · refine g_iload_n dX0_endsSoft_67 rfl ?_
          refine g_aload_n dX0_endsSoft_68 rfl ?_
          refine g_getR (t2 := 5) (i2 := (x_rof f)) dX0_endsSoft_69 fl_X0_47 (x_vC hn (Nat.le_of_ble_eq_true rfl) hf) rfl rfl rfl ?_
          refine g_getR (t2 := 8) (i2 := (x_rof f)) dX0_endsSoft_72 fl_X0_92 (x_vC hn (Nat.le_of_ble_eq_true rfl) (x_rof_lt _)) rfl rfl rfl ?_
          refine g_iload_n dX0_endsSoft_75 rfl ?_
          refine g_iald p dX0_endsSoft_76 rfl hp (x_vC hn (Nat.le_of_ble_eq_true rfl) (x_rof_lt _)) rfl ?_
          refine g_cmp_gt 84 dX0_endsSoft_77 rfl (fun c_77 => ?_) (fun c_77 => ?_)
          · refine g_iconst dX0_endsSoft_84 ?_
            exact f_zret dX0_endsSoft_85 (by decide) (by rw [V_X0_endsSoft, if_pos c_5, if_pos c_25, if_neg c_48, if_neg c_64, if_pos c_77]) rfl
          · refine g_iconst dX0_endsSoft_80 ?_
            refine g_goto 85 dX0_endsSoft_81 rfl ?_
            exact f_zret dX0_endsSoft_85 (by decide) (by rw [V_X0_endsSoft, if_pos c_5, if_pos c_25, if_neg c_48, if_neg c_64, if_neg c_77]) rfl
    · refine g_iconst dX0_endsSoft_28 ?_
      exact f_zret dX0_endsSoft_29 (by decide) (by rw [V_X0_endsSoft, if_pos c_5, if_neg c_25]) rfl
  · refine g_aload_n dX0_endsSoft_8 rfl ?_
    refine g_getI dX0_endsSoft_9 fl_X0_28 (x_vC hn (Nat.le_of_ble_eq_true rfl) hf) rfl rfl ?_
    refine g_iload_n dX0_endsSoft_12 rfl ?_
    refine f_S dX0_endsSoft_13 cs_X0_60 mb_X0_isIn (c_X0_isIn l n _ (σ 0 f 6) (p : Int) hn) rfl (Nat.lt_of_lt_of_le (by decide) hn) rfl (Nat.le_of_ble_eq_true rfl) (by decide) (Nat.le_of_ble_eq_true rfl) (Nat.le_refl _) (Nat.le_refl _) ?_
    exact f_zret dX0_endsSoft_16 (z_X0_isIn _ _ _) (by rw [V_X0_endsSoft, if_neg c_5]) rfl

def V_X0_spareDays (σ : xMi) (f : Nat) (p : Nat) : Int := (if x_wr (V_X0_willRefuse σ f p) = 0 then ((((σ 8 (x_rof f) p) - (σ 0 f 10)) - (V_X0_wayDays σ f p)) - 0) else ((((σ 8 (x_rof f) p) - (σ 0 f 10)) - (V_X0_wayDays σ f p)) - 1))
theorem c_X0_spareDays (l : Launch) (n : Nat) (σ : xMi) (f : Nat) (p : Nat) (hn : 131 ≤ n) (hf : f < 20) (hp : p < 6)  : x_F l yX0_spareDays RX0 cX0_spareDays 2 (some .int) 2 n σ [xR 0 f, xI (p : Int)] (some (xI (V_X0_spareDays σ f p))) σ := by
  refine f_of (by decide) rfl (Nat.le_of_ble_eq_true rfl) rfl ?_
  refine g_aload_n dX0_spareDays_0 rfl ?_
  refine g_getR (t2 := 5) (i2 := (x_rof f)) dX0_spareDays_1 fl_X0_47 (x_vC hn (Nat.le_of_ble_eq_true rfl) hf) rfl rfl rfl ?_
  refine g_getR (t2 := 8) (i2 := (x_rof f)) dX0_spareDays_4 fl_X0_92 (x_vC hn (Nat.le_of_ble_eq_true rfl) (x_rof_lt _)) rfl rfl rfl ?_
  refine g_iload_n dX0_spareDays_7 rfl ?_
  refine g_iald p dX0_spareDays_8 rfl hp (x_vC hn (Nat.le_of_ble_eq_true rfl) (x_rof_lt _)) rfl ?_
  refine g_aload_n dX0_spareDays_9 rfl ?_
  refine g_getI dX0_spareDays_10 fl_X0_40 (x_vC hn (Nat.le_of_ble_eq_true rfl) hf) rfl rfl ?_
  refine g_isub dX0_spareDays_13 ?_
  refine g_aload_n dX0_spareDays_14 rfl ?_
  refine g_iload_n dX0_spareDays_15 rfl ?_
  refine f_V dX0_spareDays_16 cs_X0_71 mb_X0_wayDays (c_X0_wayDays l n _ f p hn hf hp) rfl (x_vC hn (Nat.le_of_ble_eq_true rfl) hf) rfl rfl rfl (Nat.le_of_ble_eq_true rfl) (by decide) (Nat.le_of_ble_eq_true rfl) (Nat.le_refl _) (Nat.le_refl _) ?_
  refine g_isub dX0_spareDays_19 ?_
  refine g_aload_n dX0_spareDays_20 rfl ?_
  refine g_iload_n dX0_spareDays_21 rfl ?_
  refine f_V dX0_spareDays_22 cs_X0_95 mb_X0_willRefuse (c_X0_willRefuse l n _ f p hn hf hp) rfl (x_vC hn (Nat.le_of_ble_eq_true rfl) hf) rfl rfl rfl (Nat.le_of_ble_eq_true rfl) (by decide) (Nat.le_of_ble_eq_true rfl) (Nat.le_refl _) (Nat.le_refl _) ?_
  refine g_if_eq 32 dX0_spareDays_25 rfl (fun c_25 => ?_) (fun c_25 => ?_)
  · refine g_iconst dX0_spareDays_32 ?_
    refine g_isub dX0_spareDays_33 ?_
    exact f_iret dX0_spareDays_34 (by rw [V_X0_spareDays, if_pos c_25]) rfl
  · refine g_iconst dX0_spareDays_28 ?_
    refine g_goto 33 dX0_spareDays_29 rfl ?_
    refine g_isub dX0_spareDays_33 ?_
    exact f_iret dX0_spareDays_34 (by rw [V_X0_spareDays, if_neg c_25]) rfl

def T_X0_copyFrom_1 (σ : xMi) (f : Nat) (g : Nat) : xMi := (x_up (x_up (x_cp (x_cp (x_cp (x_cp σ 1 f 1 g 6) 2 f 2 g 6) 3 f 3 g 6) 4 f 4 g 6) 0 f 5 ((x_cp (x_cp (x_cp (x_cp σ 1 f 1 g 6) 2 f 2 g 6) 3 f 3 g 6) 4 f 4 g 6) 0 g 5)) 0 f 6 ((x_up (x_cp (x_cp (x_cp (x_cp σ 1 f 1 g 6) 2 f 2 g 6) 3 f 3 g 6) 4 f 4 g 6) 0 f 5 ((x_cp (x_cp (x_cp (x_cp σ 1 f 1 g 6) 2 f 2 g 6) 3 f 3 g 6) 4 f 4 g 6) 0 g 5)) 0 g 6))
def T_X0_copyFrom_2 (σ : xMi) (f : Nat) (g : Nat) : xMi := (x_up (x_up (x_up (T_X0_copyFrom_1 σ f g) 0 f 7 ((T_X0_copyFrom_1 σ f g) 0 g 7)) 0 f 8 ((x_up (T_X0_copyFrom_1 σ f g) 0 f 7 ((T_X0_copyFrom_1 σ f g) 0 g 7)) 0 g 8)) 0 f 9 ((x_up (x_up (T_X0_copyFrom_1 σ f g) 0 f 7 ((T_X0_copyFrom_1 σ f g) 0 g 7)) 0 f 8 ((x_up (T_X0_copyFrom_1 σ f g) 0 f 7 ((T_X0_copyFrom_1 σ f g) 0 g 7)) 0 g 8)) 0 g 9))
def S_X0_copyFrom (σ : xMi) (f : Nat) (g : Nat) : xMi := (x_up (x_up (T_X0_copyFrom_2 σ f g) 0 f 10 ((T_X0_copyFrom_2 σ f g) 0 g 10)) 0 f 11 (x_bn ((x_up (T_X0_copyFrom_2 σ f g) 0 f 10 ((T_X0_copyFrom_2 σ f g) 0 g 10)) 0 g 11)))
theorem fr_S_X0_copyFrom (σ : xMi) (f : Nat) (g : Nat) {t i k : Nat} (h : ¬ (t ≤ 4 ∧ i = f)) : S_X0_copyFrom σ f g t i k = σ t i k := by
  unfold S_X0_copyFrom
  all_goals ((repeat' split) <;> first | rfl | simp (disch := first | omega | assumption) only [x_up_o, x_up_k, x_cp_o, T_X0_copyFrom_2, T_X0_copyFrom_1])
theorem c_X0_copyFrom (l : Launch) (n : Nat) (σ : xMi) (f : Nat) (g : Nat) (hn : 131 ≤ n) (hf : f < 20) (hg : g < 20)  : x_F l yX0_copyFrom RX0 cX0_copyFrom 2 none 1 n σ [xR 0 f, xR 0 g] none (S_X0_copyFrom σ f g) := by
  refine f_of (by decide) rfl (Nat.le_of_ble_eq_true rfl) rfl ?_
  refine g_aload_n dX0_copyFrom_0 rfl ?_
  refine g_getR (t2 := 1) (i2 := g) dX0_copyFrom_1 fl_X0_9 (x_vC hn (Nat.le_of_ble_eq_true rfl) hg) rfl rfl rfl ?_
  refine g_iconst dX0_copyFrom_4 ?_
  refine g_aload_n dX0_copyFrom_5 rfl ?_
  refine g_getR (t2 := 1) (i2 := f) dX0_copyFrom_6 fl_X0_9 (x_vC hn (Nat.le_of_ble_eq_true rfl) hf) rfl rfl rfl ?_
  refine g_iconst dX0_copyFrom_9 ?_
  refine g_bipush dX0_copyFrom_10 (by decide) ?_
  refine g_copy dX0_copyFrom_12 cx_X0_54 w_copy1.1 w_copy1.2.1 w_copy1.2.2 (by decide) (Nat.le_of_ble_eq_true rfl) (x_vC hn (Nat.le_of_ble_eq_true rfl) hf) (x_vC hn (Nat.le_of_ble_eq_true rfl) hg) rfl rfl rfl (Nat.le_of_ble_eq_true rfl) (Nat.le_of_ble_eq_true rfl) ?_
  refine g_aload_n dX0_copyFrom_15 rfl ?_
  refine g_getR (t2 := 2) (i2 := g) dX0_copyFrom_16 fl_X0_15 (x_vC hn (Nat.le_of_ble_eq_true rfl) hg) rfl rfl rfl ?_
  refine g_iconst dX0_copyFrom_19 ?_
  refine g_aload_n dX0_copyFrom_20 rfl ?_
  refine g_getR (t2 := 2) (i2 := f) dX0_copyFrom_21 fl_X0_15 (x_vC hn (Nat.le_of_ble_eq_true rfl) hf) rfl rfl rfl ?_
  refine g_iconst dX0_copyFrom_24 ?_
  refine g_bipush dX0_copyFrom_25 (by decide) ?_
  refine g_copy dX0_copyFrom_27 cx_X0_54 w_copy1.1 w_copy1.2.1 w_copy1.2.2 (by decide) (Nat.le_of_ble_eq_true rfl) (x_vC hn (Nat.le_of_ble_eq_true rfl) hf) (x_vC hn (Nat.le_of_ble_eq_true rfl) hg) rfl rfl rfl (Nat.le_of_ble_eq_true rfl) (Nat.le_of_ble_eq_true rfl) ?_
  refine g_aload_n dX0_copyFrom_30 rfl ?_
  refine g_getR (t2 := 3) (i2 := g) dX0_copyFrom_31 fl_X0_18 (x_vC hn (Nat.le_of_ble_eq_true rfl) hg) rfl rfl rfl ?_
  refine g_iconst dX0_copyFrom_34 ?_
  refine g_aload_n dX0_copyFrom_35 rfl ?_
  refine g_getR (t2 := 3) (i2 := f) dX0_copyFrom_36 fl_X0_18 (x_vC hn (Nat.le_of_ble_eq_true rfl) hf) rfl rfl rfl ?_
  refine g_iconst dX0_copyFrom_39 ?_
  refine g_bipush dX0_copyFrom_40 (by decide) ?_
  refine g_copy dX0_copyFrom_42 cx_X0_54 w_copy1.1 w_copy1.2.1 w_copy1.2.2 (by decide) (Nat.le_of_ble_eq_true rfl) (x_vC hn (Nat.le_of_ble_eq_true rfl) hf) (x_vC hn (Nat.le_of_ble_eq_true rfl) hg) rfl rfl rfl (Nat.le_of_ble_eq_true rfl) (Nat.le_of_ble_eq_true rfl) ?_
  refine g_aload_n dX0_copyFrom_45 rfl ?_
  refine g_getR (t2 := 4) (i2 := g) dX0_copyFrom_46 fl_X0_21 (x_vC hn (Nat.le_of_ble_eq_true rfl) hg) rfl rfl rfl ?_
  refine g_iconst dX0_copyFrom_49 ?_
  refine g_aload_n dX0_copyFrom_50 rfl ?_
  refine g_getR (t2 := 4) (i2 := f) dX0_copyFrom_51 fl_X0_21 (x_vC hn (Nat.le_of_ble_eq_true rfl) hf) rfl rfl rfl ?_
  refine g_iconst dX0_copyFrom_54 ?_
  refine g_bipush dX0_copyFrom_55 (by decide) ?_
  refine g_copy dX0_copyFrom_57 cx_X0_54 w_copy1.1 w_copy1.2.1 w_copy1.2.2 (by decide) (Nat.le_of_ble_eq_true rfl) (x_vC hn (Nat.le_of_ble_eq_true rfl) hf) (x_vC hn (Nat.le_of_ble_eq_true rfl) hg) rfl rfl rfl (Nat.le_of_ble_eq_true rfl) (Nat.le_of_ble_eq_true rfl) ?_
  refine g_aload_n dX0_copyFrom_60 rfl ?_
  refine g_aload_n dX0_copyFrom_61 rfl ?_
  refine g_getI dX0_copyFrom_62 fl_X0_24 (x_vC hn (Nat.le_of_ble_eq_true rfl) hg) rfl rfl ?_
  refine g_putI dX0_copyFrom_65 fl_X0_24 (x_vC hn (Nat.le_of_ble_eq_true rfl) hf) rfl rfl ?_
  refine g_aload_n dX0_copyFrom_68 rfl ?_
  refine g_aload_n dX0_copyFrom_69 rfl ?_
  refine g_getI dX0_copyFrom_70 fl_X0_28 (x_vC hn (Nat.le_of_ble_eq_true rfl) hg) rfl rfl ?_
  refine g_putI dX0_copyFrom_73 fl_X0_28 (x_vC hn (Nat.le_of_ble_eq_true rfl) hf) rfl rfl ?_
  refine g_mem (T_X0_copyFrom_1 σ f g) rfl ?_
  refine g_aload_n dX0_copyFrom_76 rfl ?_
  refine g_aload_n dX0_copyFrom_77 rfl ?_
  refine g_getI dX0_copyFrom_78 fl_X0_31 (x_vC hn (Nat.le_of_ble_eq_true rfl) hg) rfl rfl ?_
  refine g_putI dX0_copyFrom_81 fl_X0_31 (x_vC hn (Nat.le_of_ble_eq_true rfl) hf) rfl rfl ?_
  refine g_aload_n dX0_copyFrom_84 rfl ?_
  refine g_aload_n dX0_copyFrom_85 rfl ?_
  refine g_getI dX0_copyFrom_86 fl_X0_34 (x_vC hn (Nat.le_of_ble_eq_true rfl) hg) rfl rfl ?_
  refine g_putI dX0_copyFrom_89 fl_X0_34 (x_vC hn (Nat.le_of_ble_eq_true rfl) hf) rfl rfl ?_
  refine g_aload_n dX0_copyFrom_92 rfl ?_
  refine g_aload_n dX0_copyFrom_93 rfl ?_
  refine g_getI dX0_copyFrom_94 fl_X0_37 (x_vC hn (Nat.le_of_ble_eq_true rfl) hg) rfl rfl ?_
  refine g_putI dX0_copyFrom_97 fl_X0_37 (x_vC hn (Nat.le_of_ble_eq_true rfl) hf) rfl rfl ?_
  refine g_mem (T_X0_copyFrom_2 σ f g) rfl ?_
  refine g_aload_n dX0_copyFrom_100 rfl ?_
  refine g_aload_n dX0_copyFrom_101 rfl ?_
  refine g_getI dX0_copyFrom_102 fl_X0_40 (x_vC hn (Nat.le_of_ble_eq_true rfl) hg) rfl rfl ?_
  refine g_putI dX0_copyFrom_105 fl_X0_40 (x_vC hn (Nat.le_of_ble_eq_true rfl) hf) rfl rfl ?_
  refine g_aload_n dX0_copyFrom_108 rfl ?_
  refine g_aload_n dX0_copyFrom_109 rfl ?_
  refine g_getZ dX0_copyFrom_110 fl_X0_43 (x_vC hn (Nat.le_of_ble_eq_true rfl) hg) rfl rfl ?_
  refine g_putZ dX0_copyFrom_113 fl_X0_43 (x_vC hn (Nat.le_of_ble_eq_true rfl) hf) rfl rfl (by unfold x_bn; split <;> rfl) ?_
  exact f_vret dX0_copyFrom_116 rfl rfl

def V_X0_standing (σ : xMi) (f : Nat) (p : Nat) (w : Int) : Int := (if x_wr w = 4 then (σ 1 f p) else (if x_wr w = 5 then (σ 2 f p) else (if x_wr w = 6 then (σ 3 f p) else (if x_wr w = 7 then (σ 4 f p) else (if x_wr w = 8 then (x_and (x_shr (σ 0 f 6) (p : Int)) 1) else (if x_wr w = 9 then (x_and (x_shr (σ 0 f 5) (p : Int)) 1) else (x_and (x_shr (σ 0 f 7) (p : Int)) 1)))))))
theorem c_X0_standing (l : Launch) (n : Nat) (σ : xMi) (f : Nat) (p : Nat) (w : Int) (hn : 131 ≤ n) (hf : f < 20) (hp : p < 6)  : x_F l yX0_standing RX0 cX0_standing 3 (some .int) 0 n σ [xR 0 f, xI (p : Int), xI w] (some (xI (V_X0_standing σ f p w))) σ := by
  refine f_of (by decide) rfl (Nat.le_of_ble_eq_true rfl) rfl ?_
  refine g_iload_n dX0_standing_0 rfl ?_
  by_cases s_1_4 : x_wr w = 4
  · refine g_tin 40 dX0_standing_1 (by omega) (by omega) (by rw [s_1_4]; rfl) rfl ?_
    refine g_aload_n dX0_standing_40 rfl ?_
    refine g_getR (t2 := 1) (i2 := f) dX0_standing_41 fl_X0_9 (x_vC hn (Nat.le_of_ble_eq_true rfl) hf) rfl rfl rfl ?_
    refine g_iload_n dX0_standing_44 rfl ?_
    refine g_iald p dX0_standing_45 rfl hp (x_vC hn (Nat.le_of_ble_eq_true rfl) hf) rfl ?_
    exact f_iret dX0_standing_46 (by rw [V_X0_standing, if_pos s_1_4]) rfl
  · by_cases s_1_5 : x_wr w = 5
    · refine g_tin 47 dX0_standing_1 (by omega) (by omega) (by rw [s_1_5]; rfl) rfl ?_
      refine g_aload_n dX0_standing_47 rfl ?_
      refine g_getR (t2 := 2) (i2 := f) dX0_standing_48 fl_X0_15 (x_vC hn (Nat.le_of_ble_eq_true rfl) hf) rfl rfl rfl ?_
      refine g_iload_n dX0_standing_51 rfl ?_
      refine g_iald p dX0_standing_52 rfl hp (x_vC hn (Nat.le_of_ble_eq_true rfl) hf) rfl ?_
      exact f_iret dX0_standing_53 (by rw [V_X0_standing, if_neg s_1_4, if_pos s_1_5]) rfl
    · by_cases s_1_6 : x_wr w = 6
      · refine g_tin 54 dX0_standing_1 (by omega) (by omega) (by rw [s_1_6]; rfl) rfl ?_
        refine g_aload_n dX0_standing_54 rfl ?_
        refine g_getR (t2 := 3) (i2 := f) dX0_standing_55 fl_X0_18 (x_vC hn (Nat.le_of_ble_eq_true rfl) hf) rfl rfl rfl ?_
        refine g_iload_n dX0_standing_58 rfl ?_
        refine g_iald p dX0_standing_59 rfl hp (x_vC hn (Nat.le_of_ble_eq_true rfl) hf) rfl ?_
        exact f_iret dX0_standing_60 (by rw [V_X0_standing, if_neg s_1_4, if_neg s_1_5, if_pos s_1_6]) rfl
      · by_cases s_1_7 : x_wr w = 7
        · refine g_tin 61 dX0_standing_1 (by omega) (by omega) (by rw [s_1_7]; rfl) rfl ?_
          refine g_aload_n dX0_standing_61 rfl ?_
          refine g_getR (t2 := 4) (i2 := f) dX0_standing_62 fl_X0_21 (x_vC hn (Nat.le_of_ble_eq_true rfl) hf) rfl rfl rfl ?_
          refine g_iload_n dX0_standing_65 rfl ?_
          refine g_iald p dX0_standing_66 rfl hp (x_vC hn (Nat.le_of_ble_eq_true rfl) hf) rfl ?_
          exact f_iret dX0_standing_67 (by rw [V_X0_standing, if_neg s_1_4, if_neg s_1_5, if_neg s_1_6, if_pos s_1_7]) rfl
        · by_cases s_1_8 : x_wr w = 8
          · refine g_tin 68 dX0_standing_1 (by omega) (by omega) (by rw [s_1_8]; rfl) rfl ?_
            refine g_aload_n dX0_standing_68 rfl ?_
            refine g_getI dX0_standing_69 fl_X0_28 (x_vC hn (Nat.le_of_ble_eq_true rfl) hf) rfl rfl ?_
            refine g_iload_n dX0_standing_72 rfl ?_
            refine g_ishr dX0_standing_73 ?_
            refine g_iconst dX0_standing_74 ?_
            refine g_iand dX0_standing_75 ?_
            exact f_iret dX0_standing_76 (by rw [V_X0_standing, if_neg s_1_4, if_neg s_1_5, if_neg s_1_6, if_neg s_1_7, if_pos s_1_8]) rfl
          · by_cases s_1_9 : x_wr w = 9
            · refine g_tin 77 dX0_standing_1 (by omega) (by omega) (by rw [s_1_9]; rfl) rfl ?_
              refine g_aload_n dX0_standing_77 rfl ?_
              refine g_getI dX0_standing_78 fl_X0_24 (x_vC hn (Nat.le_of_ble_eq_true rfl) hf) rfl rfl ?_
              refine g_iload_n dX0_standing_81 rfl ?_
              refine g_ishr dX0_standing_82 ?_
              refine g_iconst dX0_standing_83 ?_
              refine g_iand dX0_standing_84 ?_
              exact f_iret dX0_standing_85 (by rw [V_X0_standing, if_neg s_1_4, if_neg s_1_5, if_neg s_1_6, if_neg s_1_7, if_neg s_1_8, if_pos s_1_9]) rfl
            · refine g_tout 86 dX0_standing_1 (by omega) rfl ?_
              refine g_aload_n dX0_standing_86 rfl ?_
              refine g_getI dX0_standing_87 fl_X0_31 (x_vC hn (Nat.le_of_ble_eq_true rfl) hf) rfl rfl ?_
              refine g_iload_n dX0_standing_90 rfl ?_
              refine g_ishr dX0_standing_91 ?_
              refine g_iconst dX0_standing_92 ?_
              refine g_iand dX0_standing_93 ?_
              exact f_iret dX0_standing_94 (by rw [V_X0_standing, if_neg s_1_4, if_neg s_1_5, if_neg s_1_6, if_neg s_1_7, if_neg s_1_8, if_neg s_1_9]) rfl

def RV_X0_softWeight_4 (f : Nat) (K : Nat) : Nat → Nat → xMi → Int → Int
  | 0, p, σ, a => a
  | k + 1, p, σ, a => (if x_wr (V_X0_isIn σ (σ 0 f 6) (p : Int)) = 0 then (RV_X0_softWeight_4 f K k (p + 1) σ a) else (RV_X0_softWeight_4 f K k (p + 1) σ (a + (σ 9 (x_rof f) p))))
theorem lh_X0_softWeight_4 (l : Launch) (n : Nat) (f : Nat) (K : Nat) (hn : 131 ≤ n) (hf : f < 20) (hK : K ≤ 6) : ∀ (k p : Nat) (σ : xMi) (a : Int), p + k = K → (σ 5 (x_rof f) 4 = (K : Int)) →  x_G l RX0 cX0_softWeight 3 (some .int) 1 n (some (xI (RV_X0_softWeight_4 f K k p σ a))) σ 4 [(2, xI (p : Int)), (1, xI a), (0, xR 0 f)] [] σ := by
  intro k
  induction k with
  | zero =>
    intro p σ a hk hsz
    refine g_iload_n dX0_softWeight_4 rfl ?_
    refine g_aload_n dX0_softWeight_5 rfl ?_
    refine g_getR (t2 := 5) (i2 := (x_rof f)) dX0_softWeight_6 fl_X0_47 (x_vC hn (Nat.le_of_ble_eq_true rfl) hf) rfl rfl rfl ?_
    refine g_getI dX0_softWeight_9 fl_X0_85 (x_vC hn (Nat.le_of_ble_eq_true rfl) (x_rof_lt _)) rfl rfl ?_
    refine g_cmp_ge 44 dX0_softWeight_12 rfl (fun c_12 => ?_) (fun c_12 => absurd (by rw [hsz, x_nat (by omega), x_nat (by omega)]; omega) c_12)
    refine g_iload_n dX0_softWeight_44 rfl ?_
    exact f_iret dX0_softWeight_45 rfl rfl
  | succ k ih =>
    intro p σ a hk hsz
    have hp : p < 6 := by omega
    refine g_iload_n dX0_softWeight_4 rfl ?_
    refine g_aload_n dX0_softWeight_5 rfl ?_
    refine g_getR (t2 := 5) (i2 := (x_rof f)) dX0_softWeight_6 fl_X0_47 (x_vC hn (Nat.le_of_ble_eq_true rfl) hf) rfl rfl rfl ?_
    refine g_getI dX0_softWeight_9 fl_X0_85 (x_vC hn (Nat.le_of_ble_eq_true rfl) (x_rof_lt _)) rfl rfl ?_
    refine g_cmp_ge 44 dX0_softWeight_12 rfl (fun c_12 => absurd c_12 (by rw [hsz, x_nat (by omega), x_nat (by omega)]; omega)) (fun c_12 => ?_)
    refine g_aload_n dX0_softWeight_15 rfl ?_
    refine g_getI dX0_softWeight_16 fl_X0_28 (x_vC hn (Nat.le_of_ble_eq_true rfl) hf) rfl rfl ?_
    refine g_iload_n dX0_softWeight_19 rfl ?_
    refine f_S dX0_softWeight_20 cs_X0_60 mb_X0_isIn (c_X0_isIn l n _ (σ 0 f 6) (p : Int) hn) rfl (Nat.lt_of_lt_of_le (by decide) hn) rfl (Nat.le_of_ble_eq_true rfl) (by decide) (Nat.le_of_ble_eq_true rfl) (Nat.le_refl _) (Nat.le_refl _) ?_
    refine g_if_eq 38 dX0_softWeight_23 rfl (fun c_23 => ?_) (fun c_23 => ?_)
    · refine g_iinc (lv' := [(2, xI (((p + 1) : Nat) : Int)), _, _]) dX0_softWeight_38 (Nat.le_of_ble_eq_true rfl) rfl rfl ?_
      refine g_goto 4 dX0_softWeight_41 rfl ?_
      refine g_sub (lv2 := [(2, xI (((p + 1) : Nat) : Int)), _, _]) [0, 1, 2] rfl ?_
      exact f_cv (by rw [RV_X0_softWeight_4, if_pos c_23]) rfl (ih (p + 1) _ _ (by omega) hsz)
    · refine g_iload_n dX0_softWeight_26 rfl ?_
      refine g_aload_n dX0_softWeight_27 rfl ?_
      refine g_getR (t2 := 5) (i2 := (x_rof f)) dX0_softWeight_28 fl_X0_47 (x_vC hn (Nat.le_of_ble_eq_true rfl) hf) rfl rfl rfl ?_
      refine g_getR (t2 := 9) (i2 := (x_rof f)) dX0_softWeight_31 fl_X0_122 (x_vC hn (Nat.le_of_ble_eq_true rfl) (x_rof_lt _)) rfl rfl rfl ?_
      refine g_iload_n dX0_softWeight_34 rfl ?_
      refine g_iald p dX0_softWeight_35 rfl hp (x_vC hn (Nat.le_of_ble_eq_true rfl) (x_rof_lt _)) rfl ?_
      refine g_iadd dX0_softWeight_36 ?_
      refine g_istore_n (lv' := [_, _, _]) dX0_softWeight_37 (Nat.le_of_ble_eq_true rfl) rfl ?_
      refine g_iinc (lv' := [(2, xI (((p + 1) : Nat) : Int)), _, _]) dX0_softWeight_38 (Nat.le_of_ble_eq_true rfl) rfl rfl ?_
      refine g_goto 4 dX0_softWeight_41 rfl ?_
      refine g_sub (lv2 := [(2, xI (((p + 1) : Nat) : Int)), _, _]) [0, 1, 2] rfl ?_
      exact f_cv (by rw [RV_X0_softWeight_4, if_neg c_23]) rfl (ih (p + 1) _ _ (by omega) hsz)
def V_X0_softWeight (σ : xMi) (f : Nat) (K : Nat) : Int := (RV_X0_softWeight_4 f K K 0 σ 0)
theorem c_X0_softWeight (l : Launch) (n : Nat) (σ : xMi) (f : Nat) (K : Nat) (hn : 131 ≤ n) (hf : f < 20) (hK : K ≤ 6) (hsz : σ 5 (x_rof f) 4 = (K : Int)) : x_F l yX0_softWeight RX0 cX0_softWeight 3 (some .int) 1 n σ [xR 0 f] (some (xI (V_X0_softWeight σ f K))) σ := by
  refine f_of (by decide) rfl (Nat.le_of_ble_eq_true rfl) rfl ?_
  refine g_iconst dX0_softWeight_0 ?_
  refine g_istore_n (lv' := [_, _]) dX0_softWeight_1 (Nat.le_of_ble_eq_true rfl) rfl ?_
  refine g_iconst dX0_softWeight_2 ?_
  refine g_istore_n (lv' := [_, _, _]) dX0_softWeight_3 (Nat.le_of_ble_eq_true rfl) rfl ?_
  refine g_sub (lv2 := [(2, xI ((0 : Nat) : Int)), _, _]) [0, 1, 2] rfl ?_
  exact f_cv rfl rfl (lh_X0_softWeight_4 l n f K hn hf hK K 0 _ _ (by omega) hsz)

def RV_X0_allOnWay_4 (f : Nat) (K : Nat) : Nat → Nat → xMi → Int → Int
  | 0, p, σ, a => a
  | k + 1, p, σ, a => (RV_X0_allOnWay_4 f K k (p + 1) σ (a + (σ 1 f p)))
theorem lh_X0_allOnWay_4 (l : Launch) (n : Nat) (f : Nat) (K : Nat) (hn : 131 ≤ n) (hf : f < 20) (hK : K ≤ 6) : ∀ (k p : Nat) (σ : xMi) (a : Int), p + k = K → (σ 5 (x_rof f) 4 = (K : Int)) →  x_G l RX0 cX0_allOnWay 3 (some .int) 0 n (some (xI (RV_X0_allOnWay_4 f K k p σ a))) σ 4 [(2, xI (p : Int)), (1, xI a), (0, xR 0 f)] [] σ := by
  intro k
  induction k with
  | zero =>
    intro p σ a hk hsz
    refine g_iload_n dX0_allOnWay_4 rfl ?_
    refine g_aload_n dX0_allOnWay_5 rfl ?_
    refine g_getR (t2 := 5) (i2 := (x_rof f)) dX0_allOnWay_6 fl_X0_47 (x_vC hn (Nat.le_of_ble_eq_true rfl) hf) rfl rfl rfl ?_
    refine g_getI dX0_allOnWay_9 fl_X0_85 (x_vC hn (Nat.le_of_ble_eq_true rfl) (x_rof_lt _)) rfl rfl ?_
    refine g_cmp_ge 30 dX0_allOnWay_12 rfl (fun c_12 => ?_) (fun c_12 => absurd (by rw [hsz, x_nat (by omega), x_nat (by omega)]; omega) c_12)
    refine g_iload_n dX0_allOnWay_30 rfl ?_
    exact f_iret dX0_allOnWay_31 rfl rfl
  | succ k ih =>
    intro p σ a hk hsz
    have hp : p < 6 := by omega
    refine g_iload_n dX0_allOnWay_4 rfl ?_
    refine g_aload_n dX0_allOnWay_5 rfl ?_
    refine g_getR (t2 := 5) (i2 := (x_rof f)) dX0_allOnWay_6 fl_X0_47 (x_vC hn (Nat.le_of_ble_eq_true rfl) hf) rfl rfl rfl ?_
    refine g_getI dX0_allOnWay_9 fl_X0_85 (x_vC hn (Nat.le_of_ble_eq_true rfl) (x_rof_lt _)) rfl rfl ?_
    refine g_cmp_ge 30 dX0_allOnWay_12 rfl (fun c_12 => absurd c_12 (by rw [hsz, x_nat (by omega), x_nat (by omega)]; omega)) (fun c_12 => ?_)
    refine g_iload_n dX0_allOnWay_15 rfl ?_
    refine g_aload_n dX0_allOnWay_16 rfl ?_
    refine g_getR (t2 := 1) (i2 := f) dX0_allOnWay_17 fl_X0_9 (x_vC hn (Nat.le_of_ble_eq_true rfl) hf) rfl rfl rfl ?_
    refine g_iload_n dX0_allOnWay_20 rfl ?_
    refine g_iald p dX0_allOnWay_21 rfl hp (x_vC hn (Nat.le_of_ble_eq_true rfl) hf) rfl ?_
    refine g_iadd dX0_allOnWay_22 ?_
    refine g_istore_n (lv' := [_, _, _]) dX0_allOnWay_23 (Nat.le_of_ble_eq_true rfl) rfl ?_
    refine g_iinc (lv' := [(2, xI (((p + 1) : Nat) : Int)), _, _]) dX0_allOnWay_24 (Nat.le_of_ble_eq_true rfl) rfl rfl ?_
    refine g_goto 4 dX0_allOnWay_27 rfl ?_
    refine g_sub (lv2 := [(2, xI (((p + 1) : Nat) : Int)), _, _]) [0, 1, 2] rfl ?_
    exact f_cv rfl rfl (ih (p + 1) _ _ (by omega) hsz)
def V_X0_allOnWay (σ : xMi) (f : Nat) (K : Nat) : Int := (RV_X0_allOnWay_4 f K K 0 σ 0)
theorem c_X0_allOnWay (l : Launch) (n : Nat) (σ : xMi) (f : Nat) (K : Nat) (hn : 131 ≤ n) (hf : f < 20) (hK : K ≤ 6) (hsz : σ 5 (x_rof f) 4 = (K : Int)) : x_F l yX0_allOnWay RX0 cX0_allOnWay 3 (some .int) 0 n σ [xR 0 f] (some (xI (V_X0_allOnWay σ f K))) σ := by
  refine f_of (by decide) rfl (Nat.le_of_ble_eq_true rfl) rfl ?_
  refine g_iconst dX0_allOnWay_0 ?_
  refine g_istore_n (lv' := [_, _]) dX0_allOnWay_1 (Nat.le_of_ble_eq_true rfl) rfl ?_
  refine g_iconst dX0_allOnWay_2 ?_
  refine g_istore_n (lv' := [_, _, _]) dX0_allOnWay_3 (Nat.le_of_ble_eq_true rfl) rfl ?_
  refine g_sub (lv2 := [(2, xI ((0 : Nat) : Int)), _, _]) [0, 1, 2] rfl ?_
  exact f_cv rfl rfl (lh_X0_allOnWay_4 l n f K hn hf hK K 0 _ _ (by omega) hsz)

def RV_X0_eatingBits_4 (f : Nat) (K : Nat) : Nat → Nat → xMi → Int → Int
  | 0, p, σ, a => a
  | k + 1, p, σ, a => (if x_wr (σ 3 f p) ≤ 0 then (RV_X0_eatingBits_4 f K k (p + 1) σ a) else (RV_X0_eatingBits_4 f K k (p + 1) σ (x_or a (x_shl 1 (p : Int)))))
theorem lh_X0_eatingBits_4 (l : Launch) (n : Nat) (f : Nat) (K : Nat) (hn : 131 ≤ n) (hf : f < 20) (hK : K ≤ 6) : ∀ (k p : Nat) (σ : xMi) (a : Int), p + k = K → (σ 5 (x_rof f) 4 = (K : Int)) →  x_G l RX0 cX0_eatingBits 3 (some .int) 0 n (some (xI (RV_X0_eatingBits_4 f K k p σ a))) σ 4 [(2, xI (p : Int)), (1, xI a), (0, xR 0 f)] [] σ := by
  intro k
  induction k with
  | zero =>
    intro p σ a hk hsz
    refine g_iload_n dX0_eatingBits_4 rfl ?_
    refine g_aload_n dX0_eatingBits_5 rfl ?_
    refine g_getR (t2 := 5) (i2 := (x_rof f)) dX0_eatingBits_6 fl_X0_47 (x_vC hn (Nat.le_of_ble_eq_true rfl) hf) rfl rfl rfl ?_
    refine g_getI dX0_eatingBits_9 fl_X0_85 (x_vC hn (Nat.le_of_ble_eq_true rfl) (x_rof_lt _)) rfl rfl ?_
    refine g_cmp_ge 36 dX0_eatingBits_12 rfl (fun c_12 => ?_) (fun c_12 => absurd (by rw [hsz, x_nat (by omega), x_nat (by omega)]; omega) c_12)
    refine g_iload_n dX0_eatingBits_36 rfl ?_
    exact f_iret dX0_eatingBits_37 rfl rfl
  | succ k ih =>
    intro p σ a hk hsz
    have hp : p < 6 := by omega
    refine g_iload_n dX0_eatingBits_4 rfl ?_
    refine g_aload_n dX0_eatingBits_5 rfl ?_
    refine g_getR (t2 := 5) (i2 := (x_rof f)) dX0_eatingBits_6 fl_X0_47 (x_vC hn (Nat.le_of_ble_eq_true rfl) hf) rfl rfl rfl ?_
    refine g_getI dX0_eatingBits_9 fl_X0_85 (x_vC hn (Nat.le_of_ble_eq_true rfl) (x_rof_lt _)) rfl rfl ?_
    refine g_cmp_ge 36 dX0_eatingBits_12 rfl (fun c_12 => absurd c_12 (by rw [hsz, x_nat (by omega), x_nat (by omega)]; omega)) (fun c_12 => ?_)
    refine g_aload_n dX0_eatingBits_15 rfl ?_
    refine g_getR (t2 := 3) (i2 := f) dX0_eatingBits_16 fl_X0_18 (x_vC hn (Nat.le_of_ble_eq_true rfl) hf) rfl rfl rfl ?_
    refine g_iload_n dX0_eatingBits_19 rfl ?_
    refine g_iald p dX0_eatingBits_20 rfl hp (x_vC hn (Nat.le_of_ble_eq_true rfl) hf) rfl ?_
    refine g_if_le 30 dX0_eatingBits_21 rfl (fun c_21 => ?_) (fun c_21 => ?_)
    · refine g_iinc (lv' := [(2, xI (((p + 1) : Nat) : Int)), _, _]) dX0_eatingBits_30 (Nat.le_of_ble_eq_true rfl) rfl rfl ?_
      refine g_goto 4 dX0_eatingBits_33 rfl ?_
      refine g_sub (lv2 := [(2, xI (((p + 1) : Nat) : Int)), _, _]) [0, 1, 2] rfl ?_
      exact f_cv (by rw [RV_X0_eatingBits_4, if_pos c_21]) rfl (ih (p + 1) _ _ (by omega) hsz)
    · refine g_iload_n dX0_eatingBits_24 rfl ?_
      refine g_iconst dX0_eatingBits_25 ?_
      refine g_iload_n dX0_eatingBits_26 rfl ?_
      refine g_ishl dX0_eatingBits_27 ?_
      refine g_ior dX0_eatingBits_28 ?_
      refine g_istore_n (lv' := [_, _, _]) dX0_eatingBits_29 (Nat.le_of_ble_eq_true rfl) rfl ?_
      refine g_iinc (lv' := [(2, xI (((p + 1) : Nat) : Int)), _, _]) dX0_eatingBits_30 (Nat.le_of_ble_eq_true rfl) rfl rfl ?_
      refine g_goto 4 dX0_eatingBits_33 rfl ?_
      refine g_sub (lv2 := [(2, xI (((p + 1) : Nat) : Int)), _, _]) [0, 1, 2] rfl ?_
      exact f_cv (by rw [RV_X0_eatingBits_4, if_neg c_21]) rfl (ih (p + 1) _ _ (by omega) hsz)
def V_X0_eatingBits (σ : xMi) (f : Nat) (K : Nat) : Int := (RV_X0_eatingBits_4 f K K 0 σ 0)
theorem c_X0_eatingBits (l : Launch) (n : Nat) (σ : xMi) (f : Nat) (K : Nat) (hn : 131 ≤ n) (hf : f < 20) (hK : K ≤ 6) (hsz : σ 5 (x_rof f) 4 = (K : Int)) : x_F l yX0_eatingBits RX0 cX0_eatingBits 3 (some .int) 0 n σ [xR 0 f] (some (xI (V_X0_eatingBits σ f K))) σ := by
  refine f_of (by decide) rfl (Nat.le_of_ble_eq_true rfl) rfl ?_
  refine g_iconst dX0_eatingBits_0 ?_
  refine g_istore_n (lv' := [_, _]) dX0_eatingBits_1 (Nat.le_of_ble_eq_true rfl) rfl ?_
  refine g_iconst dX0_eatingBits_2 ?_
  refine g_istore_n (lv' := [_, _, _]) dX0_eatingBits_3 (Nat.le_of_ble_eq_true rfl) rfl ?_
  refine g_sub (lv2 := [(2, xI ((0 : Nat) : Int)), _, _]) [0, 1, 2] rfl ?_
  exact f_cv rfl rfl (lh_X0_eatingBits_4 l n f K hn hf hK K 0 _ _ (by omega) hsz)

def RV_X0_toldBits_4 (f : Nat) (K : Nat) : Nat → Nat → xMi → Int → Int
  | 0, p, σ, a => a
  | k + 1, p, σ, a => (if x_wr (V_X0_isTold σ f p) = 0 then (RV_X0_toldBits_4 f K k (p + 1) σ a) else (RV_X0_toldBits_4 f K k (p + 1) σ (x_or a (x_shl 1 (p : Int)))))
theorem lh_X0_toldBits_4 (l : Launch) (n : Nat) (f : Nat) (K : Nat) (hn : 131 ≤ n) (hf : f < 20) (hK : K ≤ 6) : ∀ (k p : Nat) (σ : xMi) (a : Int), p + k = K → (σ 5 (x_rof f) 4 = (K : Int)) →  x_G l RX0 cX0_toldBits 3 (some .int) 1 n (some (xI (RV_X0_toldBits_4 f K k p σ a))) σ 4 [(2, xI (p : Int)), (1, xI a), (0, xR 0 f)] [] σ := by
  intro k
  induction k with
  | zero =>
    intro p σ a hk hsz
    refine g_iload_n dX0_toldBits_4 rfl ?_
    refine g_aload_n dX0_toldBits_5 rfl ?_
    refine g_getR (t2 := 5) (i2 := (x_rof f)) dX0_toldBits_6 fl_X0_47 (x_vC hn (Nat.le_of_ble_eq_true rfl) hf) rfl rfl rfl ?_
    refine g_getI dX0_toldBits_9 fl_X0_85 (x_vC hn (Nat.le_of_ble_eq_true rfl) (x_rof_lt _)) rfl rfl ?_
    refine g_cmp_ge 35 dX0_toldBits_12 rfl (fun c_12 => ?_) (fun c_12 => absurd (by rw [hsz, x_nat (by omega), x_nat (by omega)]; omega) c_12)
    refine g_iload_n dX0_toldBits_35 rfl ?_
    exact f_iret dX0_toldBits_36 rfl rfl
  | succ k ih =>
    intro p σ a hk hsz
    have hp : p < 6 := by omega
    refine g_iload_n dX0_toldBits_4 rfl ?_
    refine g_aload_n dX0_toldBits_5 rfl ?_
    refine g_getR (t2 := 5) (i2 := (x_rof f)) dX0_toldBits_6 fl_X0_47 (x_vC hn (Nat.le_of_ble_eq_true rfl) hf) rfl rfl rfl ?_
    refine g_getI dX0_toldBits_9 fl_X0_85 (x_vC hn (Nat.le_of_ble_eq_true rfl) (x_rof_lt _)) rfl rfl ?_
    refine g_cmp_ge 35 dX0_toldBits_12 rfl (fun c_12 => absurd c_12 (by rw [hsz, x_nat (by omega), x_nat (by omega)]; omega)) (fun c_12 => ?_)
    refine g_aload_n dX0_toldBits_15 rfl ?_
    refine g_iload_n dX0_toldBits_16 rfl ?_
    refine f_V dX0_toldBits_17 cs_X0_64 mb_X0_isTold (c_X0_isTold l n _ f p hn hf hp) rfl (x_vC hn (Nat.le_of_ble_eq_true rfl) hf) rfl rfl rfl (Nat.le_of_ble_eq_true rfl) (by decide) (Nat.le_of_ble_eq_true rfl) (Nat.le_refl _) (Nat.le_refl _) ?_
    refine g_if_eq 29 dX0_toldBits_20 rfl (fun c_20 => ?_) (fun c_20 => ?_)
    · refine g_iinc (lv' := [(2, xI (((p + 1) : Nat) : Int)), _, _]) dX0_toldBits_29 (Nat.le_of_ble_eq_true rfl) rfl rfl ?_
      refine g_goto 4 dX0_toldBits_32 rfl ?_
      refine g_sub (lv2 := [(2, xI (((p + 1) : Nat) : Int)), _, _]) [0, 1, 2] rfl ?_
      exact f_cv (by rw [RV_X0_toldBits_4, if_pos c_20]) rfl (ih (p + 1) _ _ (by omega) hsz)
    · refine g_iload_n dX0_toldBits_23 rfl ?_
      refine g_iconst dX0_toldBits_24 ?_
      refine g_iload_n dX0_toldBits_25 rfl ?_
      refine g_ishl dX0_toldBits_26 ?_
      refine g_ior dX0_toldBits_27 ?_
      refine g_istore_n (lv' := [_, _, _]) dX0_toldBits_28 (Nat.le_of_ble_eq_true rfl) rfl ?_
      refine g_iinc (lv' := [(2, xI (((p + 1) : Nat) : Int)), _, _]) dX0_toldBits_29 (Nat.le_of_ble_eq_true rfl) rfl rfl ?_
      refine g_goto 4 dX0_toldBits_32 rfl ?_
      refine g_sub (lv2 := [(2, xI (((p + 1) : Nat) : Int)), _, _]) [0, 1, 2] rfl ?_
      exact f_cv (by rw [RV_X0_toldBits_4, if_neg c_20]) rfl (ih (p + 1) _ _ (by omega) hsz)
def V_X0_toldBits (σ : xMi) (f : Nat) (K : Nat) : Int := (RV_X0_toldBits_4 f K K 0 σ 0)
theorem c_X0_toldBits (l : Launch) (n : Nat) (σ : xMi) (f : Nat) (K : Nat) (hn : 131 ≤ n) (hf : f < 20) (hK : K ≤ 6) (hsz : σ 5 (x_rof f) 4 = (K : Int)) : x_F l yX0_toldBits RX0 cX0_toldBits 3 (some .int) 1 n σ [xR 0 f] (some (xI (V_X0_toldBits σ f K))) σ := by
  refine f_of (by decide) rfl (Nat.le_of_ble_eq_true rfl) rfl ?_
  refine g_iconst dX0_toldBits_0 ?_
  refine g_istore_n (lv' := [_, _]) dX0_toldBits_1 (Nat.le_of_ble_eq_true rfl) rfl ?_
  refine g_iconst dX0_toldBits_2 ?_
  refine g_istore_n (lv' := [_, _, _]) dX0_toldBits_3 (Nat.le_of_ble_eq_true rfl) rfl ?_
  refine g_sub (lv2 := [(2, xI ((0 : Nat) : Int)), _, _]) [0, 1, 2] rfl ?_
  exact f_cv rfl rfl (lh_X0_toldBits_4 l n f K hn hf hK K 0 _ _ (by omega) hsz)

def RS_X0_passDay_131 (f : Nat) (b : Int) (K : Nat) : Nat → Nat → xMi → xMi
  | 0, p, σ => (x_up (x_up σ 0 f 10 ((σ 0 f 10) + 1)) 0 f 11 0)
  | k + 1, p, σ => (if x_wr (σ 3 f p) ≤ 0 then (RS_X0_passDay_131 f b K k (p + 1) σ ) else (RS_X0_passDay_131 f b K k (p + 1) (x_up σ 3 f p ((σ 3 f p) - 1)) ))
theorem fr_RS_X0_passDay_131 (f : Nat) (b : Int) (K : Nat) {t i k' : Nat} (h : ¬ (t ≤ 4 ∧ i = f)) : ∀ (k p : Nat) (σ : xMi) , RS_X0_passDay_131 f b K k p σ  t i k' = σ t i k' := by
  intro k
  induction k with
  | zero =>
    intro p σ 
    simp only [RS_X0_passDay_131]
    all_goals ((repeat' split) <;> simp (disch := first | omega | assumption) only [x_up_o, x_up_k, x_cp_o])
  | succ k ih =>
    intro p σ 
    simp only [RS_X0_passDay_131]
    all_goals (repeat' split)
    all_goals (first | rw [ih] | skip)
    all_goals first | done | simp (disch := first | omega | assumption) only [x_up_o, x_up_k, x_cp_o]
theorem lh_X0_passDay_131 (l : Launch) (n : Nat) (f : Nat) (b : Int) (K : Nat) (hn : 131 ≤ n) (hf : f < 20) (hK : K ≤ 6) : ∀ (k p : Nat) (σ : xMi) , p + k = K → (σ 5 (x_rof f) 4 = (K : Int)) →  x_G l RX0 cX0_passDay 3 none 3 n none (RS_X0_passDay_131 f b K k p σ ) 131 [(2, xI (p : Int)), (0, xR 0 f), (1, xI b)] [] σ := by
  intro k
  induction k with
  | zero =>
    intro p σ  hk hsz
    refine g_iload_n dX0_passDay_131 rfl ?_
    refine g_aload_n dX0_passDay_132 rfl ?_
    refine g_getR (t2 := 5) (i2 := (x_rof f)) dX0_passDay_133 fl_X0_47 (x_vC hn (Nat.le_of_ble_eq_true rfl) hf) rfl rfl rfl ?_
    refine g_getI dX0_passDay_136 fl_X0_85 (x_vC hn (Nat.le_of_ble_eq_true rfl) (x_rof_lt _)) rfl rfl ?_
    refine g_cmp_ge 167 dX0_passDay_139 rfl (fun c_139 => ?_) (fun c_139 => absurd (by rw [hsz, x_nat (by omega), x_nat (by omega)]; omega) c_139)
    refine g_aload_n dX0_passDay_167 rfl ?_
    refine g_dup dX0_passDay_168 rfl ?_
    refine g_getI dX0_passDay_169 fl_X0_40 (x_vC hn (Nat.le_of_ble_eq_true rfl) hf) rfl rfl ?_
    refine g_iconst dX0_passDay_172 ?_
    refine g_iadd dX0_passDay_173 ?_
    refine g_putI dX0_passDay_174 fl_X0_40 (x_vC hn (Nat.le_of_ble_eq_true rfl) hf) rfl rfl ?_
    refine g_aload_n dX0_passDay_177 rfl ?_
    refine g_iconst dX0_passDay_178 ?_
    refine g_putZ dX0_passDay_179 fl_X0_43 (x_vC hn (Nat.le_of_ble_eq_true rfl) hf) rfl rfl rfl ?_
    exact f_vret dX0_passDay_182 rfl rfl
  | succ k ih =>
    intro p σ  hk hsz
    have hp : p < 6 := by omega
    refine g_iload_n dX0_passDay_131 rfl ?_
    refine g_aload_n dX0_passDay_132 rfl ?_
    refine g_getR (t2 := 5) (i2 := (x_rof f)) dX0_passDay_133 fl_X0_47 (x_vC hn (Nat.le_of_ble_eq_true rfl) hf) rfl rfl rfl ?_
    refine g_getI dX0_passDay_136 fl_X0_85 (x_vC hn (Nat.le_of_ble_eq_true rfl) (x_rof_lt _)) rfl rfl ?_
    refine g_cmp_ge 167 dX0_passDay_139 rfl (fun c_139 => absurd c_139 (by rw [hsz, x_nat (by omega), x_nat (by omega)]; omega)) (fun c_139 => ?_)
    refine g_aload_n dX0_passDay_142 rfl ?_
    refine g_getR (t2 := 3) (i2 := f) dX0_passDay_143 fl_X0_18 (x_vC hn (Nat.le_of_ble_eq_true rfl) hf) rfl rfl rfl ?_
    refine g_iload_n dX0_passDay_146 rfl ?_
    refine g_iald p dX0_passDay_147 rfl hp (x_vC hn (Nat.le_of_ble_eq_true rfl) hf) rfl ?_
    refine g_if_le 161 dX0_passDay_148 rfl (fun c_148 => ?_) (fun c_148 => ?_)
    · refine g_iinc (lv' := [(2, xI (((p + 1) : Nat) : Int)), _, _]) dX0_passDay_161 (Nat.le_of_ble_eq_true rfl) rfl rfl ?_
      refine g_goto 131 dX0_passDay_164 rfl ?_
      refine g_sub (lv2 := [(2, xI (((p + 1) : Nat) : Int)), _, _]) [0, 1, 2] rfl ?_
      exact f_cv rfl (by rw [RS_X0_passDay_131, if_pos c_148]) (ih (p + 1) _  (by omega) hsz)
    · refine g_aload_n dX0_passDay_151 rfl ?_
      refine g_getR (t2 := 3) (i2 := f) dX0_passDay_152 fl_X0_18 (x_vC hn (Nat.le_of_ble_eq_true rfl) hf) rfl rfl rfl ?_
      refine g_iload_n dX0_passDay_155 rfl ?_
      refine g_dup2 dX0_passDay_156 rfl rfl ?_
      refine g_iald p dX0_passDay_157 rfl hp (x_vC hn (Nat.le_of_ble_eq_true rfl) hf) rfl ?_
      refine g_iconst dX0_passDay_158 ?_
      refine g_isub dX0_passDay_159 ?_
      refine g_iast p dX0_passDay_160 rfl hp (x_vC hn (Nat.le_of_ble_eq_true rfl) hf) rfl ?_
      refine g_iinc (lv' := [(2, xI (((p + 1) : Nat) : Int)), _, _]) dX0_passDay_161 (Nat.le_of_ble_eq_true rfl) rfl rfl ?_
      refine g_goto 131 dX0_passDay_164 rfl ?_
      refine g_sub (lv2 := [(2, xI (((p + 1) : Nat) : Int)), _, _]) [0, 1, 2] rfl ?_
      exact f_cv rfl (by rw [RS_X0_passDay_131, if_neg c_148]) (ih (p + 1) _  (by omega) (by first | exact hsz | (simp (disch := omega) only [x_up_o, x_up_k, x_cp_o]; exact hsz) | (simp (disch := first | omega | assumption) only [x_up_o, x_up_k, x_cp_o]; exact hsz)))
def RS_X0_passDay_52 (f : Nat) (b : Int) (K : Nat) : Nat → Nat → xMi → xMi
  | 0, p, σ => (RS_X0_passDay_131 f b K K 0 σ )
  | k + 1, p, σ => (if x_wr (σ 0 f 10) < x_wr (σ 8 (x_rof f) p) then (RS_X0_passDay_52 f b K k (p + 1) σ ) else (if x_wr (V_X0_isTold σ f p) = 0 then (if x_wr (σ 3 f p) = 0 then (RS_X0_passDay_52 f b K k (p + 1) (x_up (x_up σ 4 f p (σ 0 f 10)) 0 f 6 (x_or ((x_up σ 4 f p (σ 0 f 10)) 0 f 6) (x_and ((x_up σ 4 f p (σ 0 f 10)) 0 f 5) (x_shl 1 (p : Int))))) ) else (RS_X0_passDay_52 f b K k (p + 1) σ )) else (RS_X0_passDay_52 f b K k (p + 1) σ )))
theorem fr_RS_X0_passDay_52 (f : Nat) (b : Int) (K : Nat) {t i k' : Nat} (h : ¬ (t ≤ 4 ∧ i = f)) : ∀ (k p : Nat) (σ : xMi) , RS_X0_passDay_52 f b K k p σ  t i k' = σ t i k' := by
  intro k
  induction k with
  | zero =>
    intro p σ 
    simp only [RS_X0_passDay_52]
    all_goals ((repeat' split) <;> simp (disch := first | omega | assumption) only [x_up_o, x_up_k, x_cp_o, fr_RS_X0_passDay_131])
  | succ k ih =>
    intro p σ 
    simp only [RS_X0_passDay_52]
    all_goals (repeat' split)
    all_goals (first | rw [ih] | skip)
    all_goals first | done | simp (disch := first | omega | assumption) only [x_up_o, x_up_k, x_cp_o]
theorem lh_X0_passDay_52 (l : Launch) (n : Nat) (f : Nat) (b : Int) (K : Nat) (hn : 131 ≤ n) (hf : f < 20) (hK : K ≤ 6) : ∀ (k p : Nat) (σ : xMi) , p + k = K → (σ 5 (x_rof f) 4 = (K : Int)) →  x_G l RX0 cX0_passDay 3 none 3 n none (RS_X0_passDay_52 f b K k p σ ) 52 [(2, xI (p : Int)), (0, xR 0 f), (1, xI b)] [] σ := by
  intro k
  induction k with
  | zero =>
    intro p σ  hk hsz
    refine g_iload_n dX0_passDay_52 rfl ?_
    refine g_aload_n dX0_passDay_53 rfl ?_
    refine g_getR (t2 := 5) (i2 := (x_rof f)) dX0_passDay_54 fl_X0_47 (x_vC hn (Nat.le_of_ble_eq_true rfl) hf) rfl rfl rfl ?_
    refine g_getI dX0_passDay_57 fl_X0_85 (x_vC hn (Nat.le_of_ble_eq_true rfl) (x_rof_lt _)) rfl rfl ?_
    refine g_cmp_ge 129 dX0_passDay_60 rfl (fun c_60 => ?_) (fun c_60 => absurd (by rw [hsz, x_nat (by omega), x_nat (by omega)]; omega) c_60)
    refine g_iconst dX0_passDay_129 ?_
    refine g_istore_n (lv' := [_, _, _]) dX0_passDay_130 (Nat.le_of_ble_eq_true rfl) rfl ?_
    refine g_sub (lv2 := [(2, xI ((0 : Nat) : Int)), _, _]) [0, 1, 2] rfl ?_
    exact f_cv rfl rfl (lh_X0_passDay_131 l n f b K hn hf hK K 0 _  (by omega) hsz)
  | succ k ih =>
    intro p σ  hk hsz
    have hp : p < 6 := by omega
    refine g_iload_n dX0_passDay_52 rfl ?_
    refine g_aload_n dX0_passDay_53 rfl ?_
    refine g_getR (t2 := 5) (i2 := (x_rof f)) dX0_passDay_54 fl_X0_47 (x_vC hn (Nat.le_of_ble_eq_true rfl) hf) rfl rfl rfl ?_
    refine g_getI dX0_passDay_57 fl_X0_85 (x_vC hn (Nat.le_of_ble_eq_true rfl) (x_rof_lt _)) rfl rfl ?_
    refine g_cmp_ge 129 dX0_passDay_60 rfl (fun c_60 => absurd c_60 (by rw [hsz, x_nat (by omega), x_nat (by omega)]; omega)) (fun c_60 => ?_)
    refine g_aload_n dX0_passDay_63 rfl ?_
    refine g_getR (t2 := 5) (i2 := (x_rof f)) dX0_passDay_64 fl_X0_47 (x_vC hn (Nat.le_of_ble_eq_true rfl) hf) rfl rfl rfl ?_
    refine g_getR (t2 := 8) (i2 := (x_rof f)) dX0_passDay_67 fl_X0_92 (x_vC hn (Nat.le_of_ble_eq_true rfl) (x_rof_lt _)) rfl rfl rfl ?_
    refine g_iload_n dX0_passDay_70 rfl ?_
    refine g_iald p dX0_passDay_71 rfl hp (x_vC hn (Nat.le_of_ble_eq_true rfl) (x_rof_lt _)) rfl ?_
    refine g_aload_n dX0_passDay_72 rfl ?_
    refine g_getI dX0_passDay_73 fl_X0_40 (x_vC hn (Nat.le_of_ble_eq_true rfl) hf) rfl rfl ?_
    refine g_cmp_gt 123 dX0_passDay_76 rfl (fun c_76 => ?_) (fun c_76 => ?_)
    · refine g_iinc (lv' := [(2, xI (((p + 1) : Nat) : Int)), _, _]) dX0_passDay_123 (Nat.le_of_ble_eq_true rfl) rfl rfl ?_
      refine g_goto 52 dX0_passDay_126 rfl ?_
      refine g_sub (lv2 := [(2, xI (((p + 1) : Nat) : Int)), _, _]) [0, 1, 2] rfl ?_
      exact f_cv rfl (by rw [RS_X0_passDay_52, if_pos c_76]) (ih (p + 1) _  (by omega) hsz)
    · refine g_aload_n dX0_passDay_79 rfl ?_
      refine g_iload_n dX0_passDay_80 rfl ?_
      refine f_V dX0_passDay_81 cs_X0_64 mb_X0_isTold (c_X0_isTold l n _ f p hn hf hp) rfl (x_vC hn (Nat.le_of_ble_eq_true rfl) hf) rfl rfl rfl (Nat.le_of_ble_eq_true rfl) (by decide) (Nat.le_of_ble_eq_true rfl) (Nat.le_refl _) (Nat.le_refl _) ?_
      refine g_if_ne 123 dX0_passDay_84 rfl (fun c_84 => ?_) (fun c_84 => ?_)
      · refine g_iinc (lv' := [(2, xI (((p + 1) : Nat) : Int)), _, _]) dX0_passDay_123 (Nat.le_of_ble_eq_true rfl) rfl rfl ?_
        refine g_goto 52 dX0_passDay_126 rfl ?_
        refine g_sub (lv2 := [(2, xI (((p + 1) : Nat) : Int)), _, _]) [0, 1, 2] rfl ?_
        exact f_cv rfl (by rw [RS_X0_passDay_52, if_neg c_76, if_neg c_84]) (ih (p + 1) _  (by omega) hsz)
      · refine g_aload_n dX0_passDay_87 rfl ?_
        refine g_getR (t2 := 3) (i2 := f) dX0_passDay_88 fl_X0_18 (x_vC hn (Nat.le_of_ble_eq_true rfl) hf) rfl rfl rfl ?_
        refine g_iload_n dX0_passDay_91 rfl ?_
        refine g_iald p dX0_passDay_92 rfl hp (x_vC hn (Nat.le_of_ble_eq_true rfl) hf) rfl ?_
        refine g_if_ne 123 dX0_passDay_93 rfl (fun c_93 => ?_) (fun c_93 => ?_)
        · refine g_iinc (lv' := [(2, xI (((p + 1) : Nat) : Int)), _, _]) dX0_passDay_123 (Nat.le_of_ble_eq_true rfl) rfl rfl ?_
          refine g_goto 52 dX0_passDay_126 rfl ?_
          refine g_sub (lv2 := [(2, xI (((p + 1) : Nat) : Int)), _, _]) [0, 1, 2] rfl ?_
          exact f_cv rfl (by rw [RS_X0_passDay_52, if_neg c_76, if_pos c_84, if_neg c_93]) (ih (p + 1) _  (by omega) hsz)
        · refine g_aload_n dX0_passDay_96 rfl ?_
          refine g_getR (t2 := 4) (i2 := f) dX0_passDay_97 fl_X0_21 (x_vC hn (Nat.le_of_ble_eq_true rfl) hf) rfl rfl rfl ?_
          refine g_iload_n dX0_passDay_100 rfl ?_
          refine g_aload_n dX0_passDay_101 rfl ?_
          refine g_getI dX0_passDay_102 fl_X0_40 (x_vC hn (Nat.le_of_ble_eq_true rfl) hf) rfl rfl ?_
          refine g_iast p dX0_passDay_105 rfl hp (x_vC hn (Nat.le_of_ble_eq_true rfl) hf) rfl ?_
          refine g_aload_n dX0_passDay_106 rfl ?_
          refine g_dup dX0_passDay_107 rfl ?_
          refine g_getI dX0_passDay_108 fl_X0_28 (x_vC hn (Nat.le_of_ble_eq_true rfl) hf) rfl rfl ?_
          refine g_aload_n dX0_passDay_111 rfl ?_
          refine g_getI dX0_passDay_112 fl_X0_24 (x_vC hn (Nat.le_of_ble_eq_true rfl) hf) rfl rfl ?_
          refine g_iconst dX0_passDay_115 ?_
          refine g_iload_n dX0_passDay_116 rfl ?_
          refine g_ishl dX0_passDay_117 ?_
          refine g_iand dX0_passDay_118 ?_
          refine g_ior dX0_passDay_119 ?_
          refine g_putI dX0_passDay_120 fl_X0_28 (x_vC hn (Nat.le_of_ble_eq_true rfl) hf) rfl rfl ?_
          refine g_iinc (lv' := [(2, xI (((p + 1) : Nat) : Int)), _, _]) dX0_passDay_123 (Nat.le_of_ble_eq_true rfl) rfl rfl ?_
          refine g_goto 52 dX0_passDay_126 rfl ?_
          refine g_sub (lv2 := [(2, xI (((p + 1) : Nat) : Int)), _, _]) [0, 1, 2] rfl ?_
          exact f_cv rfl (by rw [RS_X0_passDay_52, if_neg c_76, if_pos c_84, if_pos c_93]) (ih (p + 1) _  (by omega) (by first | exact hsz | (simp (disch := omega) only [x_up_o, x_up_k, x_cp_o]; exact hsz) | (simp (disch := first | omega | assumption) only [x_up_o, x_up_k, x_cp_o]; exact hsz)))
def RS_X0_passDay_2 (f : Nat) (b : Int) (K : Nat) : Nat → Nat → xMi → xMi
  | 0, p, σ => (RS_X0_passDay_52 f b K K 0 σ )
  | k + 1, p, σ => (if x_wr b = 0 then (if x_wr (σ 1 f p) ≤ 0 then (RS_X0_passDay_2 f b K k (p + 1) σ ) else (if x_wr (σ 0 f 10) < x_wr (σ 2 f p) then (RS_X0_passDay_2 f b K k (p + 1) σ ) else (RS_X0_passDay_2 f b K k (p + 1) (S_X0_comeIn σ f p) ))) else (RS_X0_passDay_52 f b K K 0 σ ))
theorem fr_RS_X0_passDay_2 (f : Nat) (b : Int) (K : Nat) {t i k' : Nat} (h : ¬ (t ≤ 4 ∧ i = f)) : ∀ (k p : Nat) (σ : xMi) , RS_X0_passDay_2 f b K k p σ  t i k' = σ t i k' := by
  intro k
  induction k with
  | zero =>
    intro p σ 
    simp only [RS_X0_passDay_2]
    all_goals ((repeat' split) <;> simp (disch := first | omega | assumption) only [x_up_o, x_up_k, x_cp_o, fr_RS_X0_passDay_52])
  | succ k ih =>
    intro p σ 
    simp only [RS_X0_passDay_2]
    all_goals (repeat' split)
    all_goals (first | rw [ih] | skip)
    all_goals first | done | simp (disch := first | omega | assumption) only [x_up_o, x_up_k, x_cp_o, fr_RS_X0_passDay_52, fr_S_X0_comeIn]
theorem lh_X0_passDay_2 (l : Launch) (n : Nat) (f : Nat) (b : Int) (K : Nat) (hn : 131 ≤ n) (hf : f < 20) (hK : K ≤ 6) : ∀ (k p : Nat) (σ : xMi) , p + k = K → (σ 5 (x_rof f) 4 = (K : Int)) →  x_G l RX0 cX0_passDay 3 none 3 n none (RS_X0_passDay_2 f b K k p σ ) 2 [(2, xI (p : Int)), (0, xR 0 f), (1, xI b)] [] σ := by
  intro k
  induction k with
  | zero =>
    intro p σ  hk hsz
    refine g_iload_n dX0_passDay_2 rfl ?_
    refine g_aload_n dX0_passDay_3 rfl ?_
    refine g_getR (t2 := 5) (i2 := (x_rof f)) dX0_passDay_4 fl_X0_47 (x_vC hn (Nat.le_of_ble_eq_true rfl) hf) rfl rfl rfl ?_
    refine g_getI dX0_passDay_7 fl_X0_85 (x_vC hn (Nat.le_of_ble_eq_true rfl) (x_rof_lt _)) rfl rfl ?_
    refine g_cmp_ge 50 dX0_passDay_10 rfl (fun c_10 => ?_) (fun c_10 => absurd (by rw [hsz, x_nat (by omega), x_nat (by omega)]; omega) c_10)
    refine g_iconst dX0_passDay_50 ?_
    refine g_istore_n (lv' := [_, _, _]) dX0_passDay_51 (Nat.le_of_ble_eq_true rfl) rfl ?_
    refine g_sub (lv2 := [(2, xI ((0 : Nat) : Int)), _, _]) [0, 1, 2] rfl ?_
    exact f_cv rfl rfl (lh_X0_passDay_52 l n f b K hn hf hK K 0 _  (by omega) hsz)
  | succ k ih =>
    intro p σ  hk hsz
    have hp : p < 6 := by omega
    refine g_iload_n dX0_passDay_2 rfl ?_
    refine g_aload_n dX0_passDay_3 rfl ?_
    refine g_getR (t2 := 5) (i2 := (x_rof f)) dX0_passDay_4 fl_X0_47 (x_vC hn (Nat.le_of_ble_eq_true rfl) hf) rfl rfl rfl ?_
    refine g_getI dX0_passDay_7 fl_X0_85 (x_vC hn (Nat.le_of_ble_eq_true rfl) (x_rof_lt _)) rfl rfl ?_
    refine g_cmp_ge 50 dX0_passDay_10 rfl (fun c_10 => absurd c_10 (by rw [hsz, x_nat (by omega), x_nat (by omega)]; omega)) (fun c_10 => ?_)
    refine g_iload_n dX0_passDay_13 rfl ?_
    refine g_if_ne 50 dX0_passDay_14 rfl (fun c_14 => ?_) (fun c_14 => ?_)
    · refine g_iconst dX0_passDay_50 ?_
      refine g_istore_n (lv' := [_, _, _]) dX0_passDay_51 (Nat.le_of_ble_eq_true rfl) rfl ?_
      refine g_sub (lv2 := [(2, xI ((0 : Nat) : Int)), _, _]) [0, 1, 2] rfl ?_
      exact f_cv rfl (by rw [RS_X0_passDay_2, if_neg c_14]) (lh_X0_passDay_52 l n f b K hn hf hK K 0 _  (by omega) hsz)
    · refine g_aload_n dX0_passDay_17 rfl ?_
      refine g_getR (t2 := 1) (i2 := f) dX0_passDay_18 fl_X0_9 (x_vC hn (Nat.le_of_ble_eq_true rfl) hf) rfl rfl rfl ?_
      refine g_iload_n dX0_passDay_21 rfl ?_
      refine g_iald p dX0_passDay_22 rfl hp (x_vC hn (Nat.le_of_ble_eq_true rfl) hf) rfl ?_
      refine g_if_le 44 dX0_passDay_23 rfl (fun c_23 => ?_) (fun c_23 => ?_)
      · refine g_iinc (lv' := [(2, xI (((p + 1) : Nat) : Int)), _, _]) dX0_passDay_44 (Nat.le_of_ble_eq_true rfl) rfl rfl ?_
        refine g_goto 2 dX0_passDay_47 rfl ?_
        refine g_sub (lv2 := [(2, xI (((p + 1) : Nat) : Int)), _, _]) [0, 1, 2] rfl ?_
        exact f_cv rfl (by rw [RS_X0_passDay_2, if_pos c_14, if_pos c_23]) (ih (p + 1) _  (by omega) hsz)
      · refine g_aload_n dX0_passDay_26 rfl ?_
        refine g_getR (t2 := 2) (i2 := f) dX0_passDay_27 fl_X0_15 (x_vC hn (Nat.le_of_ble_eq_true rfl) hf) rfl rfl rfl ?_
        refine g_iload_n dX0_passDay_30 rfl ?_
        refine g_iald p dX0_passDay_31 rfl hp (x_vC hn (Nat.le_of_ble_eq_true rfl) hf) rfl ?_
        refine g_aload_n dX0_passDay_32 rfl ?_
        refine g_getI dX0_passDay_33 fl_X0_40 (x_vC hn (Nat.le_of_ble_eq_true rfl) hf) rfl rfl ?_
        refine g_cmp_gt 44 dX0_passDay_36 rfl (fun c_36 => ?_) (fun c_36 => ?_)
        · refine g_iinc (lv' := [(2, xI (((p + 1) : Nat) : Int)), _, _]) dX0_passDay_44 (Nat.le_of_ble_eq_true rfl) rfl rfl ?_
          refine g_goto 2 dX0_passDay_47 rfl ?_
          refine g_sub (lv2 := [(2, xI (((p + 1) : Nat) : Int)), _, _]) [0, 1, 2] rfl ?_
          exact f_cv rfl (by rw [RS_X0_passDay_2, if_pos c_14, if_neg c_23, if_pos c_36]) (ih (p + 1) _  (by omega) hsz)
        · refine g_aload_n dX0_passDay_39 rfl ?_
          refine g_iload_n dX0_passDay_40 rfl ?_
          refine f_Vv dX0_passDay_41 cs_X0_88 mb_X0_comeIn (c_X0_comeIn l n _ f p hn hf hp) rfl (x_vC hn (Nat.le_of_ble_eq_true rfl) hf) rfl rfl rfl (Nat.le_of_ble_eq_true rfl) (by decide) (Nat.le_of_ble_eq_true rfl) (Nat.le_refl _) (Nat.le_refl _) ?_
          refine g_iinc (lv' := [(2, xI (((p + 1) : Nat) : Int)), _, _]) dX0_passDay_44 (Nat.le_of_ble_eq_true rfl) rfl rfl ?_
          refine g_goto 2 dX0_passDay_47 rfl ?_
          refine g_sub (lv2 := [(2, xI (((p + 1) : Nat) : Int)), _, _]) [0, 1, 2] rfl ?_
          exact f_cv rfl (by rw [RS_X0_passDay_2, if_pos c_14, if_neg c_23, if_neg c_36]) (ih (p + 1) _  (by omega) (by first | exact hsz | (simp (disch := omega) only [x_up_o, x_up_k, x_cp_o, fr_S_X0_comeIn]; exact hsz) | (simp (disch := first | omega | assumption) only [x_up_o, x_up_k, x_cp_o, fr_S_X0_comeIn]; exact hsz)))
def S_X0_passDay (σ : xMi) (f : Nat) (b : Int) (K : Nat) : xMi := (RS_X0_passDay_2 f b K K 0 σ )
theorem fr_S_X0_passDay (σ : xMi) (f : Nat) (b : Int) (K : Nat) {t i k : Nat} (h : ¬ (t ≤ 4 ∧ i = f)) : S_X0_passDay σ f b K t i k = σ t i k := by
  unfold S_X0_passDay
  all_goals ((repeat' split) <;> first | rfl | simp (disch := first | omega | assumption) only [x_up_o, x_up_k, x_cp_o, fr_RS_X0_passDay_2])
theorem c_X0_passDay (l : Launch) (n : Nat) (σ : xMi) (f : Nat) (b : Int) (K : Nat) (hn : 131 ≤ n) (hf : f < 20) (hK : K ≤ 6) (hsz : σ 5 (x_rof f) 4 = (K : Int)) : x_F l yX0_passDay RX0 cX0_passDay 3 none 3 n σ [xR 0 f, xI b] none (S_X0_passDay σ f b K) := by
  refine f_of (by decide) rfl (Nat.le_of_ble_eq_true rfl) rfl ?_
  refine g_iconst dX0_passDay_0 ?_
  refine g_istore_n (lv' := [_, _, _]) dX0_passDay_1 (Nat.le_of_ble_eq_true rfl) rfl ?_
  refine g_sub (lv2 := [(2, xI ((0 : Nat) : Int)), _, _]) [0, 1, 2] rfl ?_
  exact f_cv rfl rfl (lh_X0_passDay_2 l n f b K hn hf hK K 0 _  (by omega) hsz)

def RV_X0_finalWeight_4 (f : Nat) (b : Int) (K : Nat) : Nat → Nat → xMi → Int → Int
  | 0, p, σ, a => a
  | k + 1, p, σ, a => (if x_wr (V_X0_endsSoft σ f p) = 0 then (if x_wr (V_X0_isIn σ b (p : Int)) = 0 then (RV_X0_finalWeight_4 f b K k (p + 1) σ a) else (if x_wr (V_X0_spareDays σ f p) < 0 then (RV_X0_finalWeight_4 f b K k (p + 1) σ a) else (RV_X0_finalWeight_4 f b K k (p + 1) σ (a + (σ 9 (x_rof f) p))))) else (RV_X0_finalWeight_4 f b K k (p + 1) σ (a + (σ 9 (x_rof f) p))))
theorem lh_X0_finalWeight_4 (l : Launch) (n : Nat) (f : Nat) (b : Int) (K : Nat) (hn : 131 ≤ n) (hf : f < 20) (hK : K ≤ 6) : ∀ (k p : Nat) (σ : xMi) (a : Int), p + k = K → (σ 5 (x_rof f) 4 = (K : Int)) →  x_G l RX0 cX0_finalWeight 4 (some .int) 3 n (some (xI (RV_X0_finalWeight_4 f b K k p σ a))) σ 4 [(3, xI (p : Int)), (2, xI a), (0, xR 0 f), (1, xI b)] [] σ := by
  intro k
  induction k with
  | zero =>
    intro p σ a hk hsz
    refine g_iload_n dX0_finalWeight_4 rfl ?_
    refine g_aload_n dX0_finalWeight_5 rfl ?_
    refine g_getR (t2 := 5) (i2 := (x_rof f)) dX0_finalWeight_6 fl_X0_47 (x_vC hn (Nat.le_of_ble_eq_true rfl) hf) rfl rfl rfl ?_
    refine g_getI dX0_finalWeight_9 fl_X0_85 (x_vC hn (Nat.le_of_ble_eq_true rfl) (x_rof_lt _)) rfl rfl ?_
    refine g_cmp_ge 57 dX0_finalWeight_12 rfl (fun c_12 => ?_) (fun c_12 => absurd (by rw [hsz, x_nat (by omega), x_nat (by omega)]; omega) c_12)
    refine g_iload_n dX0_finalWeight_57 rfl ?_
    exact f_iret dX0_finalWeight_58 rfl rfl
  | succ k ih =>
    intro p σ a hk hsz
    have hp : p < 6 := by omega
    refine g_iload_n dX0_finalWeight_4 rfl ?_
    refine g_aload_n dX0_finalWeight_5 rfl ?_
    refine g_getR (t2 := 5) (i2 := (x_rof f)) dX0_finalWeight_6 fl_X0_47 (x_vC hn (Nat.le_of_ble_eq_true rfl) hf) rfl rfl rfl ?_
    refine g_getI dX0_finalWeight_9 fl_X0_85 (x_vC hn (Nat.le_of_ble_eq_true rfl) (x_rof_lt _)) rfl rfl ?_
    refine g_cmp_ge 57 dX0_finalWeight_12 rfl (fun c_12 => absurd c_12 (by rw [hsz, x_nat (by omega), x_nat (by omega)]; omega)) (fun c_12 => ?_)
    refine g_aload_n dX0_finalWeight_15 rfl ?_
    refine g_iload_n dX0_finalWeight_16 rfl ?_
    refine f_V dX0_finalWeight_17 cs_X0_116 mb_X0_endsSoft (c_X0_endsSoft l n _ f p hn hf hp) rfl (x_vC hn (Nat.le_of_ble_eq_true rfl) hf) rfl rfl rfl (Nat.le_of_ble_eq_true rfl) (by decide) (Nat.le_of_ble_eq_true rfl) (Nat.le_refl _) (Nat.le_refl _) ?_
    refine g_if_ne 39 dX0_finalWeight_20 rfl (fun c_20 => ?_) (fun c_20 => ?_)
    · refine g_iload_n dX0_finalWeight_39 rfl ?_
      refine g_aload_n dX0_finalWeight_40 rfl ?_
      refine g_getR (t2 := 5) (i2 := (x_rof f)) dX0_finalWeight_41 fl_X0_47 (x_vC hn (Nat.le_of_ble_eq_true rfl) hf) rfl rfl rfl ?_
      refine g_getR (t2 := 9) (i2 := (x_rof f)) dX0_finalWeight_44 fl_X0_122 (x_vC hn (Nat.le_of_ble_eq_true rfl) (x_rof_lt _)) rfl rfl rfl ?_
      refine g_iload_n dX0_finalWeight_47 rfl ?_
      refine g_iald p dX0_finalWeight_48 rfl hp (x_vC hn (Nat.le_of_ble_eq_true rfl) (x_rof_lt _)) rfl ?_
      refine g_iadd dX0_finalWeight_49 ?_
      refine g_istore_n (lv' := [_, _, _, _]) dX0_finalWeight_50 (Nat.le_of_ble_eq_true rfl) rfl ?_
      refine g_iinc (lv' := [(3, xI (((p + 1) : Nat) : Int)), _, _, _]) dX0_finalWeight_51 (Nat.le_of_ble_eq_true rfl) rfl rfl ?_
      refine g_goto 4 dX0_finalWeight_54 rfl ?_
      refine g_sub (lv2 := [(3, xI (((p + 1) : Nat) : Int)), _, _, _]) [0, 1, 2, 3] rfl ?_
      exact f_cv (by rw [RV_X0_finalWeight_4, if_neg c_20]) rfl (ih (p + 1) _ _ (by omega) hsz)
    · refine g_iload_n dX0_finalWeight_23 rfl ?_
      refine g_iload_n dX0_finalWeight_24 rfl ?_
      refine f_S dX0_finalWeight_25 cs_X0_60 mb_X0_isIn (c_X0_isIn l n _ b (p : Int) hn) rfl (Nat.lt_of_lt_of_le (by decide) hn) rfl (Nat.le_of_ble_eq_true rfl) (by decide) (Nat.le_of_ble_eq_true rfl) (Nat.le_refl _) (Nat.le_refl _) ?_
      refine g_if_eq 51 dX0_finalWeight_28 rfl (fun c_28 => ?_) (fun c_28 => ?_)
      · refine g_iinc (lv' := [(3, xI (((p + 1) : Nat) : Int)), _, _, _]) dX0_finalWeight_51 (Nat.le_of_ble_eq_true rfl) rfl rfl ?_
        refine g_goto 4 dX0_finalWeight_54 rfl ?_
        refine g_sub (lv2 := [(3, xI (((p + 1) : Nat) : Int)), _, _, _]) [0, 1, 2, 3] rfl ?_
        exact f_cv (by rw [RV_X0_finalWeight_4, if_pos c_20, if_pos c_28]) rfl (ih (p + 1) _ _ (by omega) hsz)
      · refine g_aload_n dX0_finalWeight_31 rfl ?_
        refine g_iload_n dX0_finalWeight_32 rfl ?_
        refine f_V dX0_finalWeight_33 cs_X0_119 mb_X0_spareDays (c_X0_spareDays l n _ f p hn hf hp) rfl (x_vC hn (Nat.le_of_ble_eq_true rfl) hf) rfl rfl rfl (Nat.le_of_ble_eq_true rfl) (by decide) (Nat.le_of_ble_eq_true rfl) (Nat.le_refl _) (Nat.le_refl _) ?_
        refine g_if_lt 51 dX0_finalWeight_36 rfl (fun c_36 => ?_) (fun c_36 => ?_)
        · refine g_iinc (lv' := [(3, xI (((p + 1) : Nat) : Int)), _, _, _]) dX0_finalWeight_51 (Nat.le_of_ble_eq_true rfl) rfl rfl ?_
          refine g_goto 4 dX0_finalWeight_54 rfl ?_
          refine g_sub (lv2 := [(3, xI (((p + 1) : Nat) : Int)), _, _, _]) [0, 1, 2, 3] rfl ?_
          exact f_cv (by rw [RV_X0_finalWeight_4, if_pos c_20, if_neg c_28, if_pos c_36]) rfl (ih (p + 1) _ _ (by omega) hsz)
        · refine g_iload_n dX0_finalWeight_39 rfl ?_
          refine g_aload_n dX0_finalWeight_40 rfl ?_
          refine g_getR (t2 := 5) (i2 := (x_rof f)) dX0_finalWeight_41 fl_X0_47 (x_vC hn (Nat.le_of_ble_eq_true rfl) hf) rfl rfl rfl ?_
          refine g_getR (t2 := 9) (i2 := (x_rof f)) dX0_finalWeight_44 fl_X0_122 (x_vC hn (Nat.le_of_ble_eq_true rfl) (x_rof_lt _)) rfl rfl rfl ?_
          refine g_iload_n dX0_finalWeight_47 rfl ?_
          refine g_iald p dX0_finalWeight_48 rfl hp (x_vC hn (Nat.le_of_ble_eq_true rfl) (x_rof_lt _)) rfl ?_
          refine g_iadd dX0_finalWeight_49 ?_
          refine g_istore_n (lv' := [_, _, _, _]) dX0_finalWeight_50 (Nat.le_of_ble_eq_true rfl) rfl ?_
          refine g_iinc (lv' := [(3, xI (((p + 1) : Nat) : Int)), _, _, _]) dX0_finalWeight_51 (Nat.le_of_ble_eq_true rfl) rfl rfl ?_
          refine g_goto 4 dX0_finalWeight_54 rfl ?_
          refine g_sub (lv2 := [(3, xI (((p + 1) : Nat) : Int)), _, _, _]) [0, 1, 2, 3] rfl ?_
          exact f_cv (by rw [RV_X0_finalWeight_4, if_pos c_20, if_neg c_28, if_neg c_36]) rfl (ih (p + 1) _ _ (by omega) hsz)
def V_X0_finalWeight (σ : xMi) (f : Nat) (b : Int) (K : Nat) : Int := (RV_X0_finalWeight_4 f b K K 0 σ 0)
theorem c_X0_finalWeight (l : Launch) (n : Nat) (σ : xMi) (f : Nat) (b : Int) (K : Nat) (hn : 131 ≤ n) (hf : f < 20) (hK : K ≤ 6) (hsz : σ 5 (x_rof f) 4 = (K : Int)) : x_F l yX0_finalWeight RX0 cX0_finalWeight 4 (some .int) 3 n σ [xR 0 f, xI b] (some (xI (V_X0_finalWeight σ f b K))) σ := by
  refine f_of (by decide) rfl (Nat.le_of_ble_eq_true rfl) rfl ?_
  refine g_iconst dX0_finalWeight_0 ?_
  refine g_istore_n (lv' := [_, _, _]) dX0_finalWeight_1 (Nat.le_of_ble_eq_true rfl) rfl ?_
  refine g_iconst dX0_finalWeight_2 ?_
  refine g_istore_n (lv' := [_, _, _, _]) dX0_finalWeight_3 (Nat.le_of_ble_eq_true rfl) rfl ?_
  refine g_sub (lv2 := [(3, xI ((0 : Nat) : Int)), _, _, _]) [0, 1, 2, 3] rfl ?_
  exact f_cv rfl rfl (lh_X0_finalWeight_4 l n f b K hn hf hK K 0 _ _ (by omega) hsz)

def RS_X0_start_2 (f : Nat) : Nat → Nat → xMi → xMi
  | 0, p, σ => (x_up (x_up (x_up (x_up (x_up (x_up (x_up σ 0 f 5 0) 0 f 6 0) 0 f 7 0) 0 f 8 0) 0 f 9 ((x_up (x_up (x_up (x_up σ 0 f 5 0) 0 f 6 0) 0 f 7 0) 0 f 8 0) 5 (x_rof f) 5)) 0 f 10 0) 0 f 11 0)
  | k + 1, p, σ => (RS_X0_start_2 f k (p + 1) (x_up (x_up (x_up (x_up σ 1 f p 0) 2 f p (-4)) 3 f p 0) 4 f p (-4)) )
theorem fr_RS_X0_start_2 (f : Nat) {t i k' : Nat} (h : ¬ (t ≤ 4 ∧ i = f)) : ∀ (k p : Nat) (σ : xMi) , RS_X0_start_2 f k p σ  t i k' = σ t i k' := by
  intro k
  induction k with
  | zero =>
    intro p σ 
    simp only [RS_X0_start_2]
    all_goals ((repeat' split) <;> simp (disch := first | omega | assumption) only [x_up_o, x_up_k, x_cp_o])
  | succ k ih =>
    intro p σ 
    simp only [RS_X0_start_2]
    all_goals (repeat' split)
    all_goals (first | rw [ih] | skip)
    all_goals first | done | simp (disch := first | omega | assumption) only [x_up_o, x_up_k, x_cp_o]
theorem lh_X0_start_2 (l : Launch) (n : Nat) (f : Nat) (hn : 131 ≤ n) (hf : f < 20) : ∀ (k p : Nat) (σ : xMi) , p + k = 6 →  x_G l RX0 cX0_start 2 none 0 n none (RS_X0_start_2 f k p σ ) 2 [(1, xI (p : Int)), (0, xR 0 f)] [] σ := by
  intro k
  induction k with
  | zero =>
    intro p σ  hk 
    refine g_iload_n dX0_start_2 rfl ?_
    refine g_bipush dX0_start_3 (by decide) ?_
    refine g_cmp_ge 44 dX0_start_5 rfl (fun c_5 => ?_) (fun c_5 => absurd (by rw [show x_wr 6 = 6 from by decide, x_nat (by omega)]; omega) c_5)
    refine g_aload_n dX0_start_44 rfl ?_
    refine g_iconst dX0_start_45 ?_
    refine g_putI dX0_start_46 fl_X0_24 (x_vC hn (Nat.le_of_ble_eq_true rfl) hf) rfl rfl ?_
    refine g_aload_n dX0_start_49 rfl ?_
    refine g_iconst dX0_start_50 ?_
    refine g_putI dX0_start_51 fl_X0_28 (x_vC hn (Nat.le_of_ble_eq_true rfl) hf) rfl rfl ?_
    refine g_aload_n dX0_start_54 rfl ?_
    refine g_iconst dX0_start_55 ?_
    refine g_putI dX0_start_56 fl_X0_31 (x_vC hn (Nat.le_of_ble_eq_true rfl) hf) rfl rfl ?_
    refine g_aload_n dX0_start_59 rfl ?_
    refine g_iconst dX0_start_60 ?_
    refine g_putI dX0_start_61 fl_X0_34 (x_vC hn (Nat.le_of_ble_eq_true rfl) hf) rfl rfl ?_
    refine g_aload_n dX0_start_64 rfl ?_
    refine g_aload_n dX0_start_65 rfl ?_
    refine g_getR (t2 := 5) (i2 := (x_rof f)) dX0_start_66 fl_X0_47 (x_vC hn (Nat.le_of_ble_eq_true rfl) hf) rfl rfl rfl ?_
    refine g_getI dX0_start_69 fl_X0_51 (x_vC hn (Nat.le_of_ble_eq_true rfl) (x_rof_lt _)) rfl rfl ?_
    refine g_putI dX0_start_72 fl_X0_37 (x_vC hn (Nat.le_of_ble_eq_true rfl) hf) rfl rfl ?_
    refine g_aload_n dX0_start_75 rfl ?_
    refine g_iconst dX0_start_76 ?_
    refine g_putI dX0_start_77 fl_X0_40 (x_vC hn (Nat.le_of_ble_eq_true rfl) hf) rfl rfl ?_
    refine g_aload_n dX0_start_80 rfl ?_
    refine g_iconst dX0_start_81 ?_
    refine g_putZ dX0_start_82 fl_X0_43 (x_vC hn (Nat.le_of_ble_eq_true rfl) hf) rfl rfl rfl ?_
    exact f_vret dX0_start_85 rfl rfl
  | succ k ih =>
    intro p σ  hk 
    have hp : p < 6 := by omega
    refine g_iload_n dX0_start_2 rfl ?_
    refine g_bipush dX0_start_3 (by decide) ?_
    refine g_cmp_ge 44 dX0_start_5 rfl (fun c_5 => absurd c_5 (by rw [show x_wr 6 = 6 from by decide, x_nat (by omega)]; omega)) (fun c_5 => ?_)
    refine g_aload_n dX0_start_8 rfl ?_
    refine g_getR (t2 := 1) (i2 := f) dX0_start_9 fl_X0_9 (x_vC hn (Nat.le_of_ble_eq_true rfl) hf) rfl rfl rfl ?_
    refine g_iload_n dX0_start_12 rfl ?_
    refine g_iconst dX0_start_13 ?_
    refine g_iast p dX0_start_14 rfl hp (x_vC hn (Nat.le_of_ble_eq_true rfl) hf) rfl ?_
    refine g_aload_n dX0_start_15 rfl ?_
    refine g_getR (t2 := 2) (i2 := f) dX0_start_16 fl_X0_15 (x_vC hn (Nat.le_of_ble_eq_true rfl) hf) rfl rfl rfl ?_
    refine g_iload_n dX0_start_19 rfl ?_
    refine g_bipush dX0_start_20 (by decide) ?_
    refine g_iast p dX0_start_22 rfl hp (x_vC hn (Nat.le_of_ble_eq_true rfl) hf) rfl ?_
    refine g_aload_n dX0_start_23 rfl ?_
    refine g_getR (t2 := 3) (i2 := f) dX0_start_24 fl_X0_18 (x_vC hn (Nat.le_of_ble_eq_true rfl) hf) rfl rfl rfl ?_
    refine g_iload_n dX0_start_27 rfl ?_
    refine g_iconst dX0_start_28 ?_
    refine g_iast p dX0_start_29 rfl hp (x_vC hn (Nat.le_of_ble_eq_true rfl) hf) rfl ?_
    refine g_aload_n dX0_start_30 rfl ?_
    refine g_getR (t2 := 4) (i2 := f) dX0_start_31 fl_X0_21 (x_vC hn (Nat.le_of_ble_eq_true rfl) hf) rfl rfl rfl ?_
    refine g_iload_n dX0_start_34 rfl ?_
    refine g_bipush dX0_start_35 (by decide) ?_
    refine g_iast p dX0_start_37 rfl hp (x_vC hn (Nat.le_of_ble_eq_true rfl) hf) rfl ?_
    refine g_iinc (lv' := [(1, xI (((p + 1) : Nat) : Int)), _]) dX0_start_38 (Nat.le_of_ble_eq_true rfl) rfl rfl ?_
    refine g_goto 2 dX0_start_41 rfl ?_
    refine g_sub (lv2 := [(1, xI (((p + 1) : Nat) : Int)), _]) [0, 1] rfl ?_
    exact f_cv rfl rfl (ih (p + 1) _  (by omega) )
def S_X0_start (σ : xMi) (f : Nat) : xMi := (RS_X0_start_2 f 6 0 σ )
theorem fr_S_X0_start (σ : xMi) (f : Nat) {t i k : Nat} (h : ¬ (t ≤ 4 ∧ i = f)) : S_X0_start σ f t i k = σ t i k := by
  unfold S_X0_start
  all_goals ((repeat' split) <;> first | rfl | simp (disch := first | omega | assumption) only [x_up_o, x_up_k, x_cp_o, fr_RS_X0_start_2])
theorem c_X0_start (l : Launch) (n : Nat) (σ : xMi) (f : Nat) (hn : 131 ≤ n) (hf : f < 20)  : x_F l yX0_start RX0 cX0_start 2 none 0 n σ [xR 0 f] none (S_X0_start σ f) := by
  refine f_of (by decide) rfl (Nat.le_of_ble_eq_true rfl) rfl ?_
  refine g_iconst dX0_start_0 ?_
  refine g_istore_n (lv' := [_, _]) dX0_start_1 (Nat.le_of_ble_eq_true rfl) rfl ?_
  refine g_sub (lv2 := [(1, xI ((0 : Nat) : Int)), _]) [0, 1] rfl ?_
  exact f_cv rfl rfl (lh_X0_start_2 l n f hn hf 6 0 _  (by omega) )

def RS_X0_passDays_2 (f : Nat) (m : Nat) (K : Nat) : Nat → Nat → xMi → xMi
  | 0, e, σ => σ
  | k + 1, e, σ => (RS_X0_passDays_2 f m K k (e + 1) (S_X0_passDay σ f 0 K) )
theorem fr_RS_X0_passDays_2 (f : Nat) (m : Nat) (K : Nat) {t i k' : Nat} (h : ¬ (t ≤ 4 ∧ i = f)) : ∀ (k e : Nat) (σ : xMi) , RS_X0_passDays_2 f m K k e σ  t i k' = σ t i k' := by
  intro k
  induction k with
  | zero =>
    intro e σ 
    simp only [RS_X0_passDays_2]
    all_goals ((repeat' split) <;> simp (disch := first | omega | assumption) only [x_up_o, x_up_k, x_cp_o])
  | succ k ih =>
    intro e σ 
    simp only [RS_X0_passDays_2]
    all_goals (repeat' split)
    all_goals (first | rw [ih] | skip)
    all_goals first | done | simp (disch := first | omega | assumption) only [x_up_o, x_up_k, x_cp_o, fr_S_X0_passDay]
theorem lh_X0_passDays_2 (l : Launch) (n : Nat) (f : Nat) (m : Nat) (K : Nat) (hn : 131 ≤ n) (hf : f < 20) (hm : m ≤ 1000000) (hK : K ≤ 6) : ∀ (k e : Nat) (σ : xMi) , e + k = m → (σ 5 (x_rof f) 4 = (K : Int)) →  x_G l RX0 cX0_passDays 3 none 4 n none (RS_X0_passDays_2 f m K k e σ ) 2 [(2, xI (e : Int)), (0, xR 0 f), (1, xI (m : Int))] [] σ := by
  intro k
  induction k with
  | zero =>
    intro e σ  hk hsz
    refine g_iload_n dX0_passDays_2 rfl ?_
    refine g_iload_n dX0_passDays_3 rfl ?_
    refine g_cmp_ge 18 dX0_passDays_4 rfl (fun c_4 => ?_) (fun c_4 => absurd (by rw [x_nat (by omega), x_nat (by omega)]; omega) c_4)
    exact f_vret dX0_passDays_18 rfl rfl
  | succ k ih =>
    intro e σ  hk hsz
    refine g_iload_n dX0_passDays_2 rfl ?_
    refine g_iload_n dX0_passDays_3 rfl ?_
    refine g_cmp_ge 18 dX0_passDays_4 rfl (fun c_4 => absurd c_4 (by rw [x_nat (by omega), x_nat (by omega)]; omega)) (fun c_4 => ?_)
    refine g_aload_n dX0_passDays_7 rfl ?_
    refine g_iconst dX0_passDays_8 ?_
    refine f_Vv dX0_passDays_9 cs_X0_81 mb_X0_passDay (c_X0_passDay l n _ f 0 K hn hf hK hsz) rfl (x_vC hn (Nat.le_of_ble_eq_true rfl) hf) rfl rfl rfl (Nat.le_of_ble_eq_true rfl) (by decide) (Nat.le_of_ble_eq_true rfl) (Nat.le_refl _) (Nat.le_refl _) ?_
    refine g_iinc (lv' := [(2, xI (((e + 1) : Nat) : Int)), _, _]) dX0_passDays_12 (Nat.le_of_ble_eq_true rfl) rfl rfl ?_
    refine g_goto 2 dX0_passDays_15 rfl ?_
    refine g_sub (lv2 := [(2, xI (((e + 1) : Nat) : Int)), _, _]) [0, 1, 2] rfl ?_
    exact f_cv rfl rfl (ih (e + 1) _  (by omega) (by first | exact hsz | (simp (disch := omega) only [x_up_o, x_up_k, x_cp_o, fr_S_X0_passDay]; exact hsz) | (simp (disch := first | omega | assumption) only [x_up_o, x_up_k, x_cp_o, fr_S_X0_passDay]; exact hsz)))
def S_X0_passDays (σ : xMi) (f : Nat) (m : Nat) (K : Nat) : xMi := (RS_X0_passDays_2 f m K m 0 σ )
theorem fr_S_X0_passDays (σ : xMi) (f : Nat) (m : Nat) (K : Nat) {t i k : Nat} (h : ¬ (t ≤ 4 ∧ i = f)) : S_X0_passDays σ f m K t i k = σ t i k := by
  unfold S_X0_passDays
  all_goals ((repeat' split) <;> first | rfl | simp (disch := first | omega | assumption) only [x_up_o, x_up_k, x_cp_o, fr_RS_X0_passDays_2])
theorem c_X0_passDays (l : Launch) (n : Nat) (σ : xMi) (f : Nat) (m : Nat) (K : Nat) (hn : 131 ≤ n) (hf : f < 20) (hm : m ≤ 1000000) (hK : K ≤ 6) (hsz : σ 5 (x_rof f) 4 = (K : Int)) : x_F l yX0_passDays RX0 cX0_passDays 3 none 4 n σ [xR 0 f, xI (m : Int)] none (S_X0_passDays σ f m K) := by
  refine f_of (by decide) rfl (Nat.le_of_ble_eq_true rfl) rfl ?_
  refine g_iconst dX0_passDays_0 ?_
  refine g_istore_n (lv' := [_, _, _]) dX0_passDays_1 (Nat.le_of_ble_eq_true rfl) rfl ?_
  refine g_sub (lv2 := [(2, xI ((0 : Nat) : Int)), _, _]) [0, 1, 2] rfl ?_
  exact f_cv rfl rfl (lh_X0_passDays_2 l n f m K hn hf hm hK m 0 _  (by omega) hsz)

def S_X0_actByDraw (σ : xMi) (f : Nat) (q : Nat) (K : Nat) : xMi := (if x_wr 2 ≤ x_wr (x_rem (x_div (q : Int) 8) 4) then (if x_wr (x_rem (x_div (q : Int) 8) 4) = x_wr 2 then (if x_wr (σ 1 f (q % K)) ≤ 0 then (if x_wr (x_rem (x_div (q : Int) 8) 4) = x_wr 3 then (if x_wr 20 ≤ x_wr (σ 0 f 9) then σ else (x_up σ 0 f 9 ((σ 0 f 9) + 1))) else σ) else (S_X0_recall σ f (q % K))) else (if x_wr (x_rem (x_div (q : Int) 8) 4) = x_wr 3 then (if x_wr 20 ≤ x_wr (σ 0 f 9) then σ else (x_up σ 0 f 9 ((σ 0 f 9) + 1))) else σ)) else (if x_wr (V_X0_canSendNow σ f (q % K)) = 0 then (if x_wr (x_rem (x_div (q : Int) 8) 4) = x_wr 2 then (if x_wr (σ 1 f (q % K)) ≤ 0 then (if x_wr (x_rem (x_div (q : Int) 8) 4) = x_wr 3 then (if x_wr 20 ≤ x_wr (σ 0 f 9) then σ else (x_up σ 0 f 9 ((σ 0 f 9) + 1))) else σ) else (S_X0_recall σ f (q % K))) else (if x_wr (x_rem (x_div (q : Int) 8) 4) = x_wr 3 then (if x_wr 20 ≤ x_wr (σ 0 f 9) then σ else (x_up σ 0 f 9 ((σ 0 f 9) + 1))) else σ)) else (S_X0_dispatch σ f (q % K))))
theorem fr_S_X0_actByDraw (σ : xMi) (f : Nat) (q : Nat) (K : Nat) {t i k : Nat} (h : ¬ (t ≤ 4 ∧ i = f)) : S_X0_actByDraw σ f q K t i k = σ t i k := by
  unfold S_X0_actByDraw
  all_goals ((repeat' split) <;> first | rfl | simp (disch := first | omega | assumption) only [x_up_o, x_up_k, x_cp_o, fr_S_X0_dispatch, fr_S_X0_recall])
theorem c_X0_actByDraw (l : Launch) (n : Nat) (σ : xMi) (f : Nat) (q : Nat) (K : Nat) (hn : 131 ≤ n) (hf : f < 20) (hq : q ≤ 1000000) (hK : K ≤ 6) (hK0 : 0 < K) (hsz : σ 5 (x_rof f) 4 = (K : Int)) : x_F l yX0_actByDraw RX0 cX0_actByDraw 4 none 3 n σ [xR 0 f, xI (q : Int)] none (S_X0_actByDraw σ f q K) := by
  refine f_of (by decide) rfl (Nat.le_of_ble_eq_true rfl) rfl ?_
  refine g_aload_n dX0_actByDraw_0 rfl ?_
  refine g_getR (t2 := 5) (i2 := (x_rof f)) dX0_actByDraw_1 fl_X0_47 (x_vC hn (Nat.le_of_ble_eq_true rfl) hf) rfl rfl rfl ?_
  refine g_getI dX0_actByDraw_4 fl_X0_85 (x_vC hn (Nat.le_of_ble_eq_true rfl) (x_rof_lt _)) rfl rfl ?_
  refine g_if_gt 11 dX0_actByDraw_7 rfl (fun c_7 => ?_) (fun c_7 => absurd (by rw [hsz, x_nat (by omega)]; omega) c_7)
  refine g_iload_n dX0_actByDraw_11 rfl ?_
  refine g_aload_n dX0_actByDraw_12 rfl ?_
  refine g_getR (t2 := 5) (i2 := (x_rof f)) dX0_actByDraw_13 fl_X0_47 (x_vC hn (Nat.le_of_ble_eq_true rfl) hf) rfl rfl rfl ?_
  refine g_getI dX0_actByDraw_16 fl_X0_85 (x_vC hn (Nat.le_of_ble_eq_true rfl) (x_rof_lt _)) rfl rfl ?_
  refine g_irem dX0_actByDraw_19 (by rw [hsz, x_nat (by omega)]; omega) ?_
  refine g_eqI (((q % K) : Nat) : Int) (by rw [hsz]; exact x_remN (by omega) hK0 (by omega)) ?_
  refine g_istore_n (lv' := [_, _, _]) dX0_actByDraw_20 (Nat.le_of_ble_eq_true rfl) rfl ?_
  refine g_iload_n dX0_actByDraw_21 rfl ?_
  refine g_bipush dX0_actByDraw_22 (by decide) ?_
  refine g_idiv dX0_actByDraw_24 (by decide) ?_
  refine g_iconst dX0_actByDraw_25 ?_
  refine g_irem dX0_actByDraw_26 (by decide) ?_
  refine g_istore_n (lv' := [_, _, _, _]) dX0_actByDraw_27 (Nat.le_of_ble_eq_true rfl) rfl ?_
  refine g_iload_n dX0_actByDraw_28 rfl ?_
  refine g_iconst dX0_actByDraw_29 ?_
  refine g_cmp_ge 49 dX0_actByDraw_30 rfl (fun c_30 => ?_) (fun c_30 => ?_)
  · refine g_iload_n dX0_actByDraw_49 rfl ?_
    refine g_iconst dX0_actByDraw_50 ?_
    refine g_cmp_ne 71 dX0_actByDraw_51 rfl (fun c_51 => ?_) (fun c_51 => ?_)
    · refine g_iload_n dX0_actByDraw_71 rfl ?_
      refine g_iconst dX0_actByDraw_72 ?_
      refine g_cmp_ne 95 dX0_actByDraw_73 rfl (fun c_73 => ?_) (fun c_73 => ?_)
      · exact f_vret dX0_actByDraw_95 rfl (by rw [S_X0_actByDraw, if_pos c_30, if_neg c_51, if_neg c_73])
      · refine g_aload_n dX0_actByDraw_76 rfl ?_
        refine g_getI dX0_actByDraw_77 fl_X0_37 (x_vC hn (Nat.le_of_ble_eq_true rfl) hf) rfl rfl ?_
        refine g_bipush dX0_actByDraw_80 (by decide) ?_
        refine g_cmp_ge 95 dX0_actByDraw_82 rfl (fun c_82 => ?_) (fun c_82 => ?_)
        · exact f_vret dX0_actByDraw_95 rfl (by rw [S_X0_actByDraw, if_pos c_30, if_neg c_51, if_pos c_73, if_pos c_82])
        · refine g_aload_n dX0_actByDraw_85 rfl ?_
          refine g_dup dX0_actByDraw_86 rfl ?_
          refine g_getI dX0_actByDraw_87 fl_X0_37 (x_vC hn (Nat.le_of_ble_eq_true rfl) hf) rfl rfl ?_
          refine g_iconst dX0_actByDraw_90 ?_
          refine g_iadd dX0_actByDraw_91 ?_
          refine g_putI dX0_actByDraw_92 fl_X0_37 (x_vC hn (Nat.le_of_ble_eq_true rfl) hf) rfl rfl ?_
          exact f_vret dX0_actByDraw_95 rfl (by rw [S_X0_actByDraw, if_pos c_30, if_neg c_51, if_pos c_73, if_neg c_82])
    · refine g_aload_n dX0_actByDraw_54 rfl ?_
      refine g_getR (t2 := 1) (i2 := f) dX0_actByDraw_55 fl_X0_9 (x_vC hn (Nat.le_of_ble_eq_true rfl) hf) rfl rfl rfl ?_
      refine g_iload_n dX0_actByDraw_58 rfl ?_
      refine g_iald (q % K) dX0_actByDraw_59 rfl (Nat.lt_of_lt_of_le (Nat.mod_lt _ hK0) hK) (x_vC hn (Nat.le_of_ble_eq_true rfl) hf) rfl ?_
      refine g_if_le 71 dX0_actByDraw_60 rfl (fun c_60 => ?_) (fun c_60 => ?_)
      · refine g_iload_n dX0_actByDraw_71 rfl ?_
        refine g_iconst dX0_actByDraw_72 ?_
        refine g_cmp_ne 95 dX0_actByDraw_73 rfl (fun c_73 => ?_) (fun c_73 => ?_)
        · exact f_vret dX0_actByDraw_95 rfl (by rw [S_X0_actByDraw, if_pos c_30, if_pos c_51, if_pos c_60, if_neg c_73])
        · refine g_aload_n dX0_actByDraw_76 rfl ?_
          refine g_getI dX0_actByDraw_77 fl_X0_37 (x_vC hn (Nat.le_of_ble_eq_true rfl) hf) rfl rfl ?_
          refine g_bipush dX0_actByDraw_80 (by decide) ?_
          refine g_cmp_ge 95 dX0_actByDraw_82 rfl (fun c_82 => ?_) (fun c_82 => ?_)
          · exact f_vret dX0_actByDraw_95 rfl (by rw [S_X0_actByDraw, if_pos c_30, if_pos c_51, if_pos c_60, if_pos c_73, if_pos c_82])
          · refine g_aload_n dX0_actByDraw_85 rfl ?_
            refine g_dup dX0_actByDraw_86 rfl ?_
            refine g_getI dX0_actByDraw_87 fl_X0_37 (x_vC hn (Nat.le_of_ble_eq_true rfl) hf) rfl rfl ?_
            refine g_iconst dX0_actByDraw_90 ?_
            refine g_iadd dX0_actByDraw_91 ?_
            refine g_putI dX0_actByDraw_92 fl_X0_37 (x_vC hn (Nat.le_of_ble_eq_true rfl) hf) rfl rfl ?_
            exact f_vret dX0_actByDraw_95 rfl (by rw [S_X0_actByDraw, if_pos c_30, if_pos c_51, if_pos c_60, if_pos c_73, if_neg c_82])
      · refine g_aload_n dX0_actByDraw_63 rfl ?_
        refine g_iload_n dX0_actByDraw_64 rfl ?_
        refine f_Vv dX0_actByDraw_65 cs_X0_110 mb_X0_recall (c_X0_recall l n _ f (q % K) hn hf (Nat.lt_of_lt_of_le (Nat.mod_lt _ hK0) hK)) rfl (x_vC hn (Nat.le_of_ble_eq_true rfl) hf) rfl rfl rfl (Nat.le_of_ble_eq_true rfl) (by decide) (Nat.le_of_ble_eq_true rfl) (Nat.le_refl _) (Nat.le_refl _) ?_
        refine g_goto 95 dX0_actByDraw_68 rfl ?_
        exact f_vret dX0_actByDraw_95 rfl (by rw [S_X0_actByDraw, if_pos c_30, if_pos c_51, if_neg c_60])
  · refine g_aload_n dX0_actByDraw_33 rfl ?_
    refine g_iload_n dX0_actByDraw_34 rfl ?_
    refine f_V dX0_actByDraw_35 cs_X0_104 mb_X0_canSendNow (c_X0_canSendNow l n _ f (q % K) hn hf (Nat.lt_of_lt_of_le (Nat.mod_lt _ hK0) hK)) rfl (x_vC hn (Nat.le_of_ble_eq_true rfl) hf) rfl rfl rfl (Nat.le_of_ble_eq_true rfl) (by decide) (Nat.le_of_ble_eq_true rfl) (Nat.le_refl _) (Nat.le_refl _) ?_
    refine g_if_eq 49 dX0_actByDraw_38 rfl (fun c_38 => ?_) (fun c_38 => ?_)
    · refine g_iload_n dX0_actByDraw_49 rfl ?_
      refine g_iconst dX0_actByDraw_50 ?_
      refine g_cmp_ne 71 dX0_actByDraw_51 rfl (fun c_51 => ?_) (fun c_51 => ?_)
      · refine g_iload_n dX0_actByDraw_71 rfl ?_
        refine g_iconst dX0_actByDraw_72 ?_
        refine g_cmp_ne 95 dX0_actByDraw_73 rfl (fun c_73 => ?_) (fun c_73 => ?_)
        · exact f_vret dX0_actByDraw_95 rfl (by rw [S_X0_actByDraw, if_neg c_30, if_pos c_38, if_neg c_51, if_neg c_73])
        · refine g_aload_n dX0_actByDraw_76 rfl ?_
          refine g_getI dX0_actByDraw_77 fl_X0_37 (x_vC hn (Nat.le_of_ble_eq_true rfl) hf) rfl rfl ?_
          refine g_bipush dX0_actByDraw_80 (by decide) ?_
          refine g_cmp_ge 95 dX0_actByDraw_82 rfl (fun c_82 => ?_) (fun c_82 => ?_)
          · exact f_vret dX0_actByDraw_95 rfl (by rw [S_X0_actByDraw, if_neg c_30, if_pos c_38, if_neg c_51, if_pos c_73, if_pos c_82])
          · refine g_aload_n dX0_actByDraw_85 rfl ?_
            refine g_dup dX0_actByDraw_86 rfl ?_
            refine g_getI dX0_actByDraw_87 fl_X0_37 (x_vC hn (Nat.le_of_ble_eq_true rfl) hf) rfl rfl ?_
            refine g_iconst dX0_actByDraw_90 ?_
            refine g_iadd dX0_actByDraw_91 ?_
            refine g_putI dX0_actByDraw_92 fl_X0_37 (x_vC hn (Nat.le_of_ble_eq_true rfl) hf) rfl rfl ?_
            exact f_vret dX0_actByDraw_95 rfl (by rw [S_X0_actByDraw, if_neg c_30, if_pos c_38, if_neg c_51, if_pos c_73, if_neg c_82])
      · refine g_aload_n dX0_actByDraw_54 rfl ?_
        refine g_getR (t2 := 1) (i2 := f) dX0_actByDraw_55 fl_X0_9 (x_vC hn (Nat.le_of_ble_eq_true rfl) hf) rfl rfl rfl ?_
        refine g_iload_n dX0_actByDraw_58 rfl ?_
        refine g_iald (q % K) dX0_actByDraw_59 rfl (Nat.lt_of_lt_of_le (Nat.mod_lt _ hK0) hK) (x_vC hn (Nat.le_of_ble_eq_true rfl) hf) rfl ?_
        refine g_if_le 71 dX0_actByDraw_60 rfl (fun c_60 => ?_) (fun c_60 => ?_)
        · refine g_iload_n dX0_actByDraw_71 rfl ?_
          refine g_iconst dX0_actByDraw_72 ?_
          refine g_cmp_ne 95 dX0_actByDraw_73 rfl (fun c_73 => ?_) (fun c_73 => ?_)
          · exact f_vret dX0_actByDraw_95 rfl (by rw [S_X0_actByDraw, if_neg c_30, if_pos c_38, if_pos c_51, if_pos c_60, if_neg c_73])
          · refine g_aload_n dX0_actByDraw_76 rfl ?_
            refine g_getI dX0_actByDraw_77 fl_X0_37 (x_vC hn (Nat.le_of_ble_eq_true rfl) hf) rfl rfl ?_
            refine g_bipush dX0_actByDraw_80 (by decide) ?_
            refine g_cmp_ge 95 dX0_actByDraw_82 rfl (fun c_82 => ?_) (fun c_82 => ?_)
            · exact f_vret dX0_actByDraw_95 rfl (by rw [S_X0_actByDraw, if_neg c_30, if_pos c_38, if_pos c_51, if_pos c_60, if_pos c_73, if_pos c_82])
            · refine g_aload_n dX0_actByDraw_85 rfl ?_
              refine g_dup dX0_actByDraw_86 rfl ?_
              refine g_getI dX0_actByDraw_87 fl_X0_37 (x_vC hn (Nat.le_of_ble_eq_true rfl) hf) rfl rfl ?_
              refine g_iconst dX0_actByDraw_90 ?_
              refine g_iadd dX0_actByDraw_91 ?_
              refine g_putI dX0_actByDraw_92 fl_X0_37 (x_vC hn (Nat.le_of_ble_eq_true rfl) hf) rfl rfl ?_
              exact f_vret dX0_actByDraw_95 rfl (by rw [S_X0_actByDraw, if_neg c_30, if_pos c_38, if_pos c_51, if_pos c_60, if_pos c_73, if_neg c_82])
        · refine g_aload_n dX0_actByDraw_63 rfl ?_
          refine g_iload_n dX0_actByDraw_64 rfl ?_
          refine f_Vv dX0_actByDraw_65 cs_X0_110 mb_X0_recall (c_X0_recall l n _ f (q % K) hn hf (Nat.lt_of_lt_of_le (Nat.mod_lt _ hK0) hK)) rfl (x_vC hn (Nat.le_of_ble_eq_true rfl) hf) rfl rfl rfl (Nat.le_of_ble_eq_true rfl) (by decide) (Nat.le_of_ble_eq_true rfl) (Nat.le_refl _) (Nat.le_refl _) ?_
          refine g_goto 95 dX0_actByDraw_68 rfl ?_
          exact f_vret dX0_actByDraw_95 rfl (by rw [S_X0_actByDraw, if_neg c_30, if_pos c_38, if_pos c_51, if_neg c_60])
    · refine g_aload_n dX0_actByDraw_41 rfl ?_
      refine g_iload_n dX0_actByDraw_42 rfl ?_
      refine f_Vv dX0_actByDraw_43 cs_X0_107 mb_X0_dispatch (c_X0_dispatch l n _ f (q % K) hn hf (Nat.lt_of_lt_of_le (Nat.mod_lt _ hK0) hK)) rfl (x_vC hn (Nat.le_of_ble_eq_true rfl) hf) rfl rfl rfl (Nat.le_of_ble_eq_true rfl) (by decide) (Nat.le_of_ble_eq_true rfl) (Nat.le_refl _) (Nat.le_refl _) ?_
      refine g_goto 95 dX0_actByDraw_46 rfl ?_
      exact f_vret dX0_actByDraw_95 rfl (by rw [S_X0_actByDraw, if_neg c_30, if_neg c_38])
