theorem fr_S_X2_push (σ : xMi) (j f τ : Nat) {t i k : Nat} (hτL : τ < x_ln 14 j) (hτ : σ 13 j 2 = (τ : Int)) (h : ¬ ((t = 13 ∧ i = j) ∨ (t ≤ 4 ∧ 3 ≤ i ∧ i < 13))) : S_X2_push σ j f τ t i k = σ t i k := by
  have h8 := x_ln14 j
  unfold S_X2_push
  split
  · have e0 : 3 ≤ x_pf j 0 ∧ x_pf j 0 < 13 := by unfold x_pf; split <;> omega
    rw [x_up_o (by omega), fr_S_X0_copyFrom _ _ _ (by omega), x_up_o (by omega)]
  · rename_i c
    have e1 : τ + 1 < x_ln 14 j := by
      rw [show σ 13 j 2 + 1 = ((τ + 1 : Nat) : Int) by rw [hτ]; rfl, x_nat (by omega), x_nat (by omega)] at c; omega
    have e0 : 3 ≤ x_pf j (τ + 1) ∧ x_pf j (τ + 1) < 13 := by unfold x_pf; split <;> omega
    rw [x_up_o (by omega), fr_S_X0_copyFrom _ _ _ (by omega), x_up_o (by omega)]
def V_X6_isPerson (σ : xMi) (a : Int) : Int := (if x_wr a < 0 then 0 else (if x_wr (σ 5 0 4) ≤ x_wr a then 0 else 1))
theorem z_X6_isPerson (σ : xMi) (a : Int) : V_X6_isPerson σ a = 0 ∨ V_X6_isPerson σ a = 1 := by
  unfold V_X6_isPerson
  (repeat' split) <;> first | exact Or.inl rfl | exact Or.inr rfl
theorem c_X6_isPerson (l : Launch) (n : Nat) (σ : xMi) (a : Int) (hn : 131 ≤ n)   : x_F l yX6_isPerson RX6 cX6_isPerson 2 (some .boolean) 0 n σ [xR 23 0, xI a] (some (xI (V_X6_isPerson σ a))) σ := by
  refine f_of (by decide) rfl (Nat.le_of_ble_eq_true rfl) rfl ?_
  refine g_iload_n dX6_isPerson_0 rfl ?_
  refine g_if_lt 19 dX6_isPerson_1 rfl (fun c_1 => ?_) (fun c_1 => ?_)
  · refine g_iconst dX6_isPerson_19 ?_
    exact f_zret dX6_isPerson_20 (by decide) (by rw [V_X6_isPerson, if_pos c_1]) rfl
  · refine g_iload_n dX6_isPerson_4 rfl ?_
    refine g_aload_n dX6_isPerson_5 rfl ?_
    refine g_getR (t2 := 5) (i2 := 0) dX6_isPerson_6 fl_X6_19 (x_vC hn (Nat.le_of_ble_eq_true rfl) (Nat.le_of_ble_eq_true rfl)) rfl rfl rfl ?_
    refine g_getI dX6_isPerson_9 fl_X6_99 (x_vC hn (Nat.le_of_ble_eq_true rfl) (Nat.le_of_ble_eq_true rfl)) rfl rfl ?_
    refine g_cmp_ge 19 dX6_isPerson_12 rfl (fun c_12 => ?_) (fun c_12 => ?_)
    · refine g_iconst dX6_isPerson_19 ?_
      exact f_zret dX6_isPerson_20 (by decide) (by rw [V_X6_isPerson, if_neg c_1, if_pos c_12]) rfl
    · refine g_iconst dX6_isPerson_15 ?_
      refine g_goto 20 dX6_isPerson_16 rfl ?_
      exact f_zret dX6_isPerson_20 (by decide) (by rw [V_X6_isPerson, if_neg c_1, if_neg c_12]) rfl

theorem l_isPerson {σ : xMi} {a : Int} {K : Nat} (ha : x_wr a = a) (hK : K ≤ 6) (hsz : σ 5 0 4 = (K : Int)) (h : ¬ x_wr (V_X6_isPerson σ a) = 0) : a = ((a.toNat : Nat) : Int) ∧ a.toNat < K ∧ a.toNat < 6 := by
  unfold V_X6_isPerson at h
  rw [ha, hsz, x_nat (by omega)] at h
  split at h
  · exact absurd (by decide) h
  · split at h
    · exact absurd (by decide) h
    · omega
theorem l_cpsize (σ : xMi) (r q : Nat) : S_X3_copyFrom σ r q 5 r 4 = σ 5 q 4 := by
  simp [S_X3_copyFrom, T_X3_copyFrom_1, x_up, x_cp]
def V_X6_write (σ : xMi) (c1 : Int) (z : Nat) : Int := (if x_wr c1 < x_wr 32 then (-1) else (if x_wr c1 ≤ x_wr 126 then (if x_wr (σ 10 0 2) < x_wr 200 then (V_X5_append σ c1 z) else (-3)) else (-1)))
def S_X6_write (σ : xMi) (c1 : Int) (z : Nat) : xMi := (if x_wr c1 < x_wr 32 then σ else (if x_wr c1 ≤ x_wr 126 then (if x_wr (σ 10 0 2) < x_wr 200 then (S_X5_append σ c1 z) else σ) else σ))
theorem c_X6_write (l : Launch) (n : Nat) (σ : xMi) (c1 : Int) (z : Nat) (hn : 131 ≤ n) (hz2 : z ≤ 200) (hz : σ 10 0 2 = (z : Int)) : x_F l yX6_write RX6 cX6_write 2 (some .int) 1 n σ [xR 23 0, xI c1] (some (xI (V_X6_write σ c1 z))) (S_X6_write σ c1 z) := by
  refine f_of (by decide) rfl (Nat.le_of_ble_eq_true rfl) rfl ?_
  refine g_iload_n dX6_write_0 rfl ?_
  refine g_bipush dX6_write_1 (by decide) ?_
  refine g_cmp_lt 12 dX6_write_3 rfl (fun c_3 => ?_) (fun c_3 => ?_)
  · refine g_iconst dX6_write_12 ?_
    exact f_iret dX6_write_13 (by rw [V_X6_write, if_pos c_3]) (by rw [S_X6_write, if_pos c_3])
  · refine g_iload_n dX6_write_6 rfl ?_
    refine g_bipush dX6_write_7 (by decide) ?_
    refine g_cmp_le 14 dX6_write_9 rfl (fun c_9 => ?_) (fun c_9 => ?_)
    · refine g_aload_n dX6_write_14 rfl ?_
      refine g_getR (t2 := 10) (i2 := 0) dX6_write_15 fl_X6_10 (x_vC hn (Nat.le_of_ble_eq_true rfl) (Nat.le_of_ble_eq_true rfl)) rfl rfl rfl ?_
      refine g_getI dX6_write_18 fl_X6_96 (x_vC hn (Nat.le_of_ble_eq_true rfl) (Nat.le_of_ble_eq_true rfl)) rfl rfl ?_
      refine g_sipush dX6_write_21 (by decide) ?_
      refine g_cmp_lt 30 dX6_write_24 rfl (fun c_24 => ?_) (fun c_24 => ?_)
      · refine g_aload_n dX6_write_30 rfl ?_
        refine g_getR (t2 := 10) (i2 := 0) dX6_write_31 fl_X6_10 (x_vC hn (Nat.le_of_ble_eq_true rfl) (Nat.le_of_ble_eq_true rfl)) rfl rfl rfl ?_
        refine g_iload_n dX6_write_34 rfl ?_
        refine f_V dX6_write_35 cs_X6_82 mb_X5_append (c_X5_append l n _ c1 z hn hz2 hz) rfl (x_vC hn (Nat.le_of_ble_eq_true rfl) (Nat.le_of_ble_eq_true rfl)) rfl rfl rfl (Nat.le_of_ble_eq_true rfl) (by decide) (Nat.le_of_ble_eq_true rfl) (Nat.le_refl _) (Nat.le_refl _) ?_
        exact f_iret dX6_write_38 (by rw [V_X6_write, if_neg c_3, if_pos c_9, if_pos c_24]) (by rw [S_X6_write, if_neg c_3, if_pos c_9, if_pos c_24])
      · refine g_bipush dX6_write_27 (by decide) ?_
        exact f_iret dX6_write_29 (by rw [V_X6_write, if_neg c_3, if_pos c_9, if_neg c_24]) (by rw [S_X6_write, if_neg c_3, if_pos c_9, if_neg c_24])
    · refine g_iconst dX6_write_12 ?_
      exact f_iret dX6_write_13 (by rw [V_X6_write, if_neg c_3, if_neg c_9]) (by rw [S_X6_write, if_neg c_3, if_neg c_9])

def V_X6_wipe (σ : xMi)  : Int := (V_X5_empty σ )
def S_X6_wipe (σ : xMi)  : xMi := (S_X5_empty σ )
theorem c_X6_wipe (l : Launch) (n : Nat) (σ : xMi)  (hn : 131 ≤ n)   : x_F l yX6_wipe RX6 cX6_wipe 1 (some .int) 1 n σ [xR 23 0] (some (xI (V_X6_wipe σ ))) (S_X6_wipe σ ) := by
  refine f_of (by decide) rfl (Nat.le_of_ble_eq_true rfl) rfl ?_
  refine g_aload_n dX6_wipe_0 rfl ?_
  refine g_getR (t2 := 10) (i2 := 0) dX6_wipe_1 fl_X6_10 (x_vC hn (Nat.le_of_ble_eq_true rfl) (Nat.le_of_ble_eq_true rfl)) rfl rfl rfl ?_
  refine f_V dX6_wipe_4 cs_X6_93 mb_X5_empty (c_X5_empty l n _  hn) rfl (x_vC hn (Nat.le_of_ble_eq_true rfl) (Nat.le_of_ble_eq_true rfl)) rfl rfl rfl (Nat.le_of_ble_eq_true rfl) (by decide) (Nat.le_of_ble_eq_true rfl) (Nat.le_refl _) (Nat.le_refl _) ?_
  exact f_iret dX6_wipe_7 rfl rfl

def V_X6_fault (σ : xMi)  : Int := (V_X5_readInto σ 1)
def S_X6_fault (σ : xMi)  : xMi := (S_X5_readInto σ 1)
theorem c_X6_fault (l : Launch) (n : Nat) (σ : xMi)  (hn : 131 ≤ n)  (hch : ∀ k, 0 ≤ σ 11 0 k ∧ σ 11 0 k < 65536) : x_F l yX6_fault RX6 cX6_fault 1 (some .int) 5 n σ [xR 23 0] (some (xI (V_X6_fault σ ))) (S_X6_fault σ ) := by
  refine f_of (by decide) rfl (Nat.le_of_ble_eq_true rfl) rfl ?_
  refine g_aload_n dX6_fault_0 rfl ?_
  refine g_getR (t2 := 10) (i2 := 0) dX6_fault_1 fl_X6_10 (x_vC hn (Nat.le_of_ble_eq_true rfl) (Nat.le_of_ble_eq_true rfl)) rfl rfl rfl ?_
  refine g_aload_n dX6_fault_4 rfl ?_
  refine g_getR (t2 := 5) (i2 := 1) dX6_fault_5 fl_X6_23 (x_vC hn (Nat.le_of_ble_eq_true rfl) (Nat.le_of_ble_eq_true rfl)) rfl rfl rfl ?_
  refine f_V dX6_fault_8 cs_X6_86 mb_X5_readInto (c_X5_readInto l n _ 1 hn (Nat.le_of_ble_eq_true rfl) hch) rfl (x_vC hn (Nat.le_of_ble_eq_true rfl) (Nat.le_of_ble_eq_true rfl)) rfl rfl rfl (Nat.le_of_ble_eq_true rfl) (by decide) (Nat.le_of_ble_eq_true rfl) (Nat.le_refl _) (Nat.le_refl _) ?_
  exact f_iret dX6_fault_11 rfl rfl

def S_X6_startFromDraft (σ : xMi)  : xMi := (x_up (x_up (x_up (S_X0_start (S_X3_copyFrom σ 0 1) 0) 15 0 3 0) 13 0 1 0) 13 1 1 0)
theorem c_X6_startFromDraft (l : Launch) (n : Nat) (σ : xMi)  (hn : 131 ≤ n)   : x_F l yX6_startFromDraft RX6 cX6_startFromDraft 1 none 2 n σ [xR 23 0] none (S_X6_startFromDraft σ ) := by
  refine f_of (by decide) rfl (Nat.le_of_ble_eq_true rfl) rfl ?_
  refine g_aload_n dX6_startFromDraft_0 rfl ?_
  refine g_getR (t2 := 5) (i2 := 0) dX6_startFromDraft_1 fl_X6_19 (x_vC hn (Nat.le_of_ble_eq_true rfl) (Nat.le_of_ble_eq_true rfl)) rfl rfl rfl ?_
  refine g_aload_n dX6_startFromDraft_4 rfl ?_
  refine g_getR (t2 := 5) (i2 := 1) dX6_startFromDraft_5 fl_X6_23 (x_vC hn (Nat.le_of_ble_eq_true rfl) (Nat.le_of_ble_eq_true rfl)) rfl rfl rfl ?_
  refine f_Vv dX6_startFromDraft_8 cs_X6_194 mb_X3_copyFrom (c_X3_copyFrom l n _ 0 1 hn (Nat.le_of_ble_eq_true rfl) (Nat.le_of_ble_eq_true rfl)) rfl (x_vC hn (Nat.le_of_ble_eq_true rfl) (Nat.le_of_ble_eq_true rfl)) rfl rfl rfl (Nat.le_of_ble_eq_true rfl) (by decide) (Nat.le_of_ble_eq_true rfl) (Nat.le_refl _) (Nat.le_refl _) ?_
  refine g_aload_n dX6_startFromDraft_11 rfl ?_
  refine g_getR (t2 := 0) (i2 := 0) dX6_startFromDraft_12 fl_X6_34 (x_vC hn (Nat.le_of_ble_eq_true rfl) (Nat.le_of_ble_eq_true rfl)) rfl rfl rfl ?_
  refine f_Vv dX6_startFromDraft_15 cs_X6_232 mb_X0_start (c_X0_start l n _ 0 hn (Nat.le_of_ble_eq_true rfl)) rfl (x_vC hn (Nat.le_of_ble_eq_true rfl) (Nat.le_of_ble_eq_true rfl)) rfl rfl rfl (Nat.le_of_ble_eq_true rfl) (by decide) (Nat.le_of_ble_eq_true rfl) (Nat.le_refl _) (Nat.le_refl _) ?_
  refine g_aload_n dX6_startFromDraft_18 rfl ?_
  refine g_getR (t2 := 15) (i2 := 0) dX6_startFromDraft_19 fl_X6_59 (x_vC hn (Nat.le_of_ble_eq_true rfl) (Nat.le_of_ble_eq_true rfl)) rfl rfl rfl ?_
  refine g_iconst dX6_startFromDraft_22 ?_
  refine g_putI dX6_startFromDraft_23 fl_X6_189 (x_vC hn (Nat.le_of_ble_eq_true rfl) (Nat.le_of_ble_eq_true rfl)) rfl rfl ?_
  refine g_aload_n dX6_startFromDraft_26 rfl ?_
  refine g_getR (t2 := 13) (i2 := 0) dX6_startFromDraft_27 fl_X6_49 (x_vC hn (Nat.le_of_ble_eq_true rfl) (Nat.le_of_ble_eq_true rfl)) rfl rfl rfl ?_
  refine g_iconst dX6_startFromDraft_30 ?_
  refine g_putI dX6_startFromDraft_31 fl_X6_155 (x_vC hn (Nat.le_of_ble_eq_true rfl) (Nat.le_of_ble_eq_true rfl)) rfl rfl ?_
  refine g_aload_n dX6_startFromDraft_34 rfl ?_
  refine g_getR (t2 := 13) (i2 := 1) dX6_startFromDraft_35 fl_X6_53 (x_vC hn (Nat.le_of_ble_eq_true rfl) (Nat.le_of_ble_eq_true rfl)) rfl rfl rfl ?_
  refine g_iconst dX6_startFromDraft_38 ?_
  refine g_putI dX6_startFromDraft_39 fl_X6_155 (x_vC hn (Nat.le_of_ble_eq_true rfl) (Nat.le_of_ble_eq_true rfl)) rfl rfl ?_
  exact f_vret dX6_startFromDraft_42 rfl rfl

def V_X6_lay (σ : xMi)  : Int := (if x_wr (V_X5_readInto σ 1) = x_wr (-4) then (if x_wr ((S_X5_readInto σ 1) 5 1 4) = 0 then (-2) else ((S_X6_startFromDraft (S_X5_readInto σ 1) ) 5 0 4)) else (-2))
def S_X6_lay (σ : xMi)  : xMi := (if x_wr (V_X5_readInto σ 1) = x_wr (-4) then (if x_wr ((S_X5_readInto σ 1) 5 1 4) = 0 then (S_X5_readInto σ 1) else (S_X6_startFromDraft (S_X5_readInto σ 1) )) else (S_X5_readInto σ 1))
theorem c_X6_lay (l : Launch) (n : Nat) (σ : xMi)  (hn : 131 ≤ n)  (hch : ∀ k, 0 ≤ σ 11 0 k ∧ σ 11 0 k < 65536) : x_F l yX6_lay RX6 cX6_lay 1 (some .int) 5 n σ [xR 23 0] (some (xI (V_X6_lay σ ))) (S_X6_lay σ ) := by
  refine f_of (by decide) rfl (Nat.le_of_ble_eq_true rfl) rfl ?_
  refine g_aload_n dX6_lay_0 rfl ?_
  refine g_getR (t2 := 10) (i2 := 0) dX6_lay_1 fl_X6_10 (x_vC hn (Nat.le_of_ble_eq_true rfl) (Nat.le_of_ble_eq_true rfl)) rfl rfl rfl ?_
  refine g_aload_n dX6_lay_4 rfl ?_
  refine g_getR (t2 := 5) (i2 := 1) dX6_lay_5 fl_X6_23 (x_vC hn (Nat.le_of_ble_eq_true rfl) (Nat.le_of_ble_eq_true rfl)) rfl rfl rfl ?_
  refine f_V dX6_lay_8 cs_X6_86 mb_X5_readInto (c_X5_readInto l n _ 1 hn (Nat.le_of_ble_eq_true rfl) hch) rfl (x_vC hn (Nat.le_of_ble_eq_true rfl) (Nat.le_of_ble_eq_true rfl)) rfl rfl rfl (Nat.le_of_ble_eq_true rfl) (by decide) (Nat.le_of_ble_eq_true rfl) (Nat.le_refl _) (Nat.le_refl _) ?_
  refine g_bipush dX6_lay_11 (by decide) ?_
  refine g_cmp_ne 26 dX6_lay_13 rfl (fun c_13 => ?_) (fun c_13 => ?_)
  · refine g_bipush dX6_lay_26 (by decide) ?_
    exact f_iret dX6_lay_28 (by rw [V_X6_lay, if_neg c_13]) (by rw [S_X6_lay, if_neg c_13])
  · refine g_aload_n dX6_lay_16 rfl ?_
    refine g_getR (t2 := 5) (i2 := 1) dX6_lay_17 fl_X6_23 (x_vC hn (Nat.le_of_ble_eq_true rfl) (Nat.le_of_ble_eq_true rfl)) rfl rfl rfl ?_
    refine g_getI dX6_lay_20 fl_X6_99 (x_vC hn (Nat.le_of_ble_eq_true rfl) (Nat.le_of_ble_eq_true rfl)) rfl rfl ?_
    refine g_if_ne 29 dX6_lay_23 rfl (fun c_23 => ?_) (fun c_23 => ?_)
    · refine g_aload_n dX6_lay_29 rfl ?_
      refine f_Vv dX6_lay_30 cs_X6_90 mb_X6_startFromDraft (c_X6_startFromDraft l n _  hn) rfl (x_vC hn (Nat.le_of_ble_eq_true rfl) (Nat.le_of_ble_eq_true rfl)) rfl rfl rfl (Nat.le_of_ble_eq_true rfl) (by decide) (Nat.le_of_ble_eq_true rfl) (Nat.le_refl _) (Nat.le_refl _) ?_
      refine g_aload_n dX6_lay_33 rfl ?_
      refine g_getR (t2 := 5) (i2 := 0) dX6_lay_34 fl_X6_19 (x_vC hn (Nat.le_of_ble_eq_true rfl) (Nat.le_of_ble_eq_true rfl)) rfl rfl rfl ?_
      refine g_getI dX6_lay_37 fl_X6_99 (x_vC hn (Nat.le_of_ble_eq_true rfl) (Nat.le_of_ble_eq_true rfl)) rfl rfl ?_
      exact f_iret dX6_lay_40 (by rw [V_X6_lay, if_pos c_13, if_neg c_23]) (by rw [S_X6_lay, if_pos c_13, if_neg c_23])
    · refine g_bipush dX6_lay_26 (by decide) ?_
      exact f_iret dX6_lay_28 (by rw [V_X6_lay, if_pos c_13, if_pos c_23]) (by rw [S_X6_lay, if_pos c_13, if_pos c_23])

def V_X6_person (σ : xMi) (p1 : Int) (w1 : Int) (K : Nat) : Int := (if x_wr (V_X6_isPerson σ p1) = 0 then (-1) else (if x_wr w1 < 0 then (-1) else (if x_wr w1 ≤ x_wr 10 then (if x_wr 4 ≤ x_wr w1 then (V_X0_standing σ 0 (p1.toNat) w1) else (V_X3_fact σ 0 (p1.toNat) w1)) else (-1))))
theorem c_X6_person (l : Launch) (n : Nat) (σ : xMi) (p1 : Int) (w1 : Int) (K : Nat) (hn : 131 ≤ n) (hK : K ≤ 6) (h1w : x_wr p1 = p1) (hsz : σ 5 0 4 = (K : Int)) : x_F l yX6_person RX6 cX6_person 3 (some .int) 1 n σ [xR 23 0, xI p1, xI w1] (some (xI (V_X6_person σ p1 w1 K))) σ := by
  refine f_of (by decide) rfl (Nat.le_of_ble_eq_true rfl) rfl ?_
  refine g_aload_n dX6_person_0 rfl ?_
  refine g_iload_n dX6_person_1 rfl ?_
  refine f_V dX6_person_2 cs_X6_102 mb_X6_isPerson (c_X6_isPerson l n _ p1 hn) rfl (x_vC hn (Nat.le_of_ble_eq_true rfl) (Nat.le_of_ble_eq_true rfl)) rfl rfl rfl (Nat.le_of_ble_eq_true rfl) (by decide) (Nat.le_of_ble_eq_true rfl) (Nat.le_refl _) (Nat.le_refl _) ?_
  refine g_if_eq 18 dX6_person_5 rfl (fun c_5 => ?_) (fun c_5 => ?_)
  · refine g_iconst dX6_person_18 ?_
    exact f_iret dX6_person_19 (by rw [V_X6_person, if_pos c_5]) rfl
  · refine g_iload_n dX6_person_8 rfl ?_
    refine g_if_lt 18 dX6_person_9 rfl (fun c_9 => ?_) (fun c_9 => ?_)
    · refine g_iconst dX6_person_18 ?_
      exact f_iret dX6_person_19 (by rw [V_X6_person, if_neg c_5, if_pos c_9]) rfl
    · refine g_iload_n dX6_person_12 rfl ?_
      refine g_bipush dX6_person_13 (by decide) ?_
      refine g_cmp_le 20 dX6_person_15 rfl (fun c_15 => ?_) (fun c_15 => ?_)
      · have hP := l_isPerson h1w hK hsz c_5
        have hP6 := hP.2.2
        refine g_lveq (lv2 := [(0, xR 23 0), (1, xI ((p1.toNat : Nat) : Int)), (2, xI w1)]) (by rw [← hP.1] <;> rfl) ?_
        refine g_iload_n dX6_person_20 rfl ?_
        refine g_iconst dX6_person_21 ?_
        refine g_cmp_ge 37 dX6_person_22 rfl (fun c_22 => ?_) (fun c_22 => ?_)
        · refine g_aload_n dX6_person_37 rfl ?_
          refine g_getR (t2 := 0) (i2 := 0) dX6_person_38 fl_X6_34 (x_vC hn (Nat.le_of_ble_eq_true rfl) (Nat.le_of_ble_eq_true rfl)) rfl rfl rfl ?_
          refine g_iload_n dX6_person_41 rfl ?_
          refine g_iload_n dX6_person_42 rfl ?_
          refine f_V dX6_person_43 cs_X6_110 mb_X0_standing (c_X0_standing l n _ 0 (p1.toNat) w1 hn (Nat.le_of_ble_eq_true rfl) hP6) rfl (x_vC hn (Nat.le_of_ble_eq_true rfl) (Nat.le_of_ble_eq_true rfl)) rfl rfl rfl (Nat.le_of_ble_eq_true rfl) (by decide) (Nat.le_of_ble_eq_true rfl) (Nat.le_refl _) (Nat.le_refl _) ?_
          exact f_iret dX6_person_46 (by rw [V_X6_person, if_neg c_5, if_neg c_9, if_pos c_15, if_pos c_22]) rfl
        · refine g_aload_n dX6_person_25 rfl ?_
          refine g_getR (t2 := 5) (i2 := 0) dX6_person_26 fl_X6_19 (x_vC hn (Nat.le_of_ble_eq_true rfl) (Nat.le_of_ble_eq_true rfl)) rfl rfl rfl ?_
          refine g_iload_n dX6_person_29 rfl ?_
          refine g_iload_n dX6_person_30 rfl ?_
          refine f_V dX6_person_31 cs_X6_106 mb_X3_fact (c_X3_fact l n _ 0 (p1.toNat) w1 hn (Nat.le_of_ble_eq_true rfl) hP6) rfl (x_vC hn (Nat.le_of_ble_eq_true rfl) (Nat.le_of_ble_eq_true rfl)) rfl rfl rfl (Nat.le_of_ble_eq_true rfl) (by decide) (Nat.le_of_ble_eq_true rfl) (Nat.le_refl _) (Nat.le_refl _) ?_
          refine g_goto 46 dX6_person_34 rfl ?_
          exact f_iret dX6_person_46 (by rw [V_X6_person, if_neg c_5, if_neg c_9, if_pos c_15, if_neg c_22]) rfl
      · refine g_iconst dX6_person_18 ?_
        exact f_iret dX6_person_19 (by rw [V_X6_person, if_neg c_5, if_neg c_9, if_neg c_15]) rfl

def V_X6_send (σ : xMi) (p1 : Int) (K : Nat) (τ0 : Nat) : Int := (if x_wr (V_X6_isPerson σ p1) = 0 then (-1) else (if x_wr (V_X0_canSendNow σ 0 (p1.toNat)) = 0 then (-2) else ((S_X0_dispatch (S_X2_push σ 0 0 τ0) 0 (p1.toNat)) 2 0 (p1.toNat))))
def S_X6_send (σ : xMi) (p1 : Int) (K : Nat) (τ0 : Nat) : xMi := (if x_wr (V_X6_isPerson σ p1) = 0 then σ else (if x_wr (V_X0_canSendNow σ 0 (p1.toNat)) = 0 then σ else (S_X0_dispatch (S_X2_push σ 0 0 τ0) 0 (p1.toNat))))
theorem c_X6_send (l : Launch) (n : Nat) (σ : xMi) (p1 : Int) (K : Nat) (τ0 : Nat) (hn : 131 ≤ n) (hK : K ≤ 6) (hτ0L : τ0 < x_ln 14 0) (h1w : x_wr p1 = p1) (hsz : σ 5 0 4 = (K : Int)) (hτ0 : σ 13 0 2 = (τ0 : Int)) : x_F l yX6_send RX6 cX6_send 2 (some .int) 3 n σ [xR 23 0, xI p1] (some (xI (V_X6_send σ p1 K τ0))) (S_X6_send σ p1 K τ0) := by
  refine f_of (by decide) rfl (Nat.le_of_ble_eq_true rfl) rfl ?_
  refine g_aload_n dX6_send_0 rfl ?_
  refine g_iload_n dX6_send_1 rfl ?_
  refine f_V dX6_send_2 cs_X6_102 mb_X6_isPerson (c_X6_isPerson l n _ p1 hn) rfl (x_vC hn (Nat.le_of_ble_eq_true rfl) (Nat.le_of_ble_eq_true rfl)) rfl rfl rfl (Nat.le_of_ble_eq_true rfl) (by decide) (Nat.le_of_ble_eq_true rfl) (Nat.le_refl _) (Nat.le_refl _) ?_
  refine g_if_ne 10 dX6_send_5 rfl (fun c_5 => ?_) (fun c_5 => ?_)
  · have hP := l_isPerson h1w hK hsz c_5
    have hP6 := hP.2.2
    refine g_lveq (lv2 := [(0, xR 23 0), (1, xI ((p1.toNat : Nat) : Int))]) (by rw [← hP.1] <;> rfl) ?_
    refine g_aload_n dX6_send_10 rfl ?_
    refine g_getR (t2 := 0) (i2 := 0) dX6_send_11 fl_X6_34 (x_vC hn (Nat.le_of_ble_eq_true rfl) (Nat.le_of_ble_eq_true rfl)) rfl rfl rfl ?_
    refine g_iload_n dX6_send_14 rfl ?_
    refine f_V dX6_send_15 cs_X6_113 mb_X0_canSendNow (c_X0_canSendNow l n _ 0 (p1.toNat) hn (Nat.le_of_ble_eq_true rfl) hP6) rfl (x_vC hn (Nat.le_of_ble_eq_true rfl) (Nat.le_of_ble_eq_true rfl)) rfl rfl rfl (Nat.le_of_ble_eq_true rfl) (by decide) (Nat.le_of_ble_eq_true rfl) (Nat.le_refl _) (Nat.le_refl _) ?_
    refine g_if_ne 24 dX6_send_18 rfl (fun c_18 => ?_) (fun c_18 => ?_)
    · refine g_aload_n dX6_send_24 rfl ?_
      refine g_getR (t2 := 13) (i2 := 0) dX6_send_25 fl_X6_49 (x_vC hn (Nat.le_of_ble_eq_true rfl) (Nat.le_of_ble_eq_true rfl)) rfl rfl rfl ?_
      refine g_aload_n dX6_send_28 rfl ?_
      refine g_getR (t2 := 0) (i2 := 0) dX6_send_29 fl_X6_34 (x_vC hn (Nat.le_of_ble_eq_true rfl) (Nat.le_of_ble_eq_true rfl)) rfl rfl rfl ?_
      refine f_Vv dX6_send_32 cs_X6_116 mb_X2_push (c_X2_push l n _ 0 0 τ0 hn (Nat.le_of_ble_eq_true rfl) (Nat.le_of_ble_eq_true rfl) hτ0L hτ0) rfl (x_vC hn (Nat.le_of_ble_eq_true rfl) (Nat.le_of_ble_eq_true rfl)) rfl rfl rfl (Nat.le_of_ble_eq_true rfl) (by decide) (Nat.le_of_ble_eq_true rfl) (Nat.le_refl _) (Nat.le_refl _) ?_
      refine g_aload_n dX6_send_35 rfl ?_
      refine g_getR (t2 := 0) (i2 := 0) dX6_send_36 fl_X6_34 (x_vC hn (Nat.le_of_ble_eq_true rfl) (Nat.le_of_ble_eq_true rfl)) rfl rfl rfl ?_
      refine g_iload_n dX6_send_39 rfl ?_
      refine f_Vv dX6_send_40 cs_X6_120 mb_X0_dispatch (c_X0_dispatch l n _ 0 (p1.toNat) hn (Nat.le_of_ble_eq_true rfl) hP6) rfl (x_vC hn (Nat.le_of_ble_eq_true rfl) (Nat.le_of_ble_eq_true rfl)) rfl rfl rfl (Nat.le_of_ble_eq_true rfl) (by decide) (Nat.le_of_ble_eq_true rfl) (Nat.le_refl _) (Nat.le_refl _) ?_
      refine g_aload_n dX6_send_43 rfl ?_
      refine g_getR (t2 := 0) (i2 := 0) dX6_send_44 fl_X6_34 (x_vC hn (Nat.le_of_ble_eq_true rfl) (Nat.le_of_ble_eq_true rfl)) rfl rfl rfl ?_
      refine g_getR (t2 := 2) (i2 := 0) dX6_send_47 fl_X6_124 (x_vC hn (Nat.le_of_ble_eq_true rfl) (Nat.le_of_ble_eq_true rfl)) rfl rfl rfl ?_
      refine g_iload_n dX6_send_50 rfl ?_
      refine g_iald (p1.toNat) dX6_send_51 rfl hP6 (x_vC hn (Nat.le_of_ble_eq_true rfl) (Nat.le_of_ble_eq_true rfl)) rfl ?_
      exact f_iret dX6_send_52 (by rw [V_X6_send, if_neg c_5, if_neg c_18]) (by rw [S_X6_send, if_neg c_5, if_neg c_18])
    · refine g_bipush dX6_send_21 (by decide) ?_
      exact f_iret dX6_send_23 (by rw [V_X6_send, if_neg c_5, if_pos c_18]) (by rw [S_X6_send, if_neg c_5, if_pos c_18])
  · refine g_iconst dX6_send_8 ?_
    exact f_iret dX6_send_9 (by rw [V_X6_send, if_pos c_5]) (by rw [S_X6_send, if_pos c_5])

def V_X6_call (σ : xMi) (p1 : Int) (K : Nat) (τ0 : Nat) : Int := (if x_wr (V_X6_isPerson σ p1) = 0 then (-1) else (if x_wr (σ 1 0 (p1.toNat)) = 0 then (-2) else ((S_X0_recall (S_X2_push σ 0 0 τ0) 0 (p1.toNat)) 0 0 9)))
def S_X6_call (σ : xMi) (p1 : Int) (K : Nat) (τ0 : Nat) : xMi := (if x_wr (V_X6_isPerson σ p1) = 0 then σ else (if x_wr (σ 1 0 (p1.toNat)) = 0 then σ else (S_X0_recall (S_X2_push σ 0 0 τ0) 0 (p1.toNat))))
theorem c_X6_call (l : Launch) (n : Nat) (σ : xMi) (p1 : Int) (K : Nat) (τ0 : Nat) (hn : 131 ≤ n) (hK : K ≤ 6) (hτ0L : τ0 < x_ln 14 0) (h1w : x_wr p1 = p1) (hsz : σ 5 0 4 = (K : Int)) (hτ0 : σ 13 0 2 = (τ0 : Int)) : x_F l yX6_call RX6 cX6_call 2 (some .int) 3 n σ [xR 23 0, xI p1] (some (xI (V_X6_call σ p1 K τ0))) (S_X6_call σ p1 K τ0) := by
  refine f_of (by decide) rfl (Nat.le_of_ble_eq_true rfl) rfl ?_
  refine g_aload_n dX6_call_0 rfl ?_
  refine g_iload_n dX6_call_1 rfl ?_
  refine f_V dX6_call_2 cs_X6_102 mb_X6_isPerson (c_X6_isPerson l n _ p1 hn) rfl (x_vC hn (Nat.le_of_ble_eq_true rfl) (Nat.le_of_ble_eq_true rfl)) rfl rfl rfl (Nat.le_of_ble_eq_true rfl) (by decide) (Nat.le_of_ble_eq_true rfl) (Nat.le_refl _) (Nat.le_refl _) ?_
  refine g_if_ne 10 dX6_call_5 rfl (fun c_5 => ?_) (fun c_5 => ?_)
  · have hP := l_isPerson h1w hK hsz c_5
    have hP6 := hP.2.2
    refine g_lveq (lv2 := [(0, xR 23 0), (1, xI ((p1.toNat : Nat) : Int))]) (by rw [← hP.1] <;> rfl) ?_
    refine g_aload_n dX6_call_10 rfl ?_
    refine g_getR (t2 := 0) (i2 := 0) dX6_call_11 fl_X6_34 (x_vC hn (Nat.le_of_ble_eq_true rfl) (Nat.le_of_ble_eq_true rfl)) rfl rfl rfl ?_
    refine g_getR (t2 := 1) (i2 := 0) dX6_call_14 fl_X6_128 (x_vC hn (Nat.le_of_ble_eq_true rfl) (Nat.le_of_ble_eq_true rfl)) rfl rfl rfl ?_
    refine g_iload_n dX6_call_17 rfl ?_
    refine g_iald (p1.toNat) dX6_call_18 rfl hP6 (x_vC hn (Nat.le_of_ble_eq_true rfl) (Nat.le_of_ble_eq_true rfl)) rfl ?_
    refine g_if_ne 25 dX6_call_19 rfl (fun c_19 => ?_) (fun c_19 => ?_)
    · refine g_aload_n dX6_call_25 rfl ?_
      refine g_getR (t2 := 13) (i2 := 0) dX6_call_26 fl_X6_49 (x_vC hn (Nat.le_of_ble_eq_true rfl) (Nat.le_of_ble_eq_true rfl)) rfl rfl rfl ?_
      refine g_aload_n dX6_call_29 rfl ?_
      refine g_getR (t2 := 0) (i2 := 0) dX6_call_30 fl_X6_34 (x_vC hn (Nat.le_of_ble_eq_true rfl) (Nat.le_of_ble_eq_true rfl)) rfl rfl rfl ?_
      refine f_Vv dX6_call_33 cs_X6_116 mb_X2_push (c_X2_push l n _ 0 0 τ0 hn (Nat.le_of_ble_eq_true rfl) (Nat.le_of_ble_eq_true rfl) hτ0L hτ0) rfl (x_vC hn (Nat.le_of_ble_eq_true rfl) (Nat.le_of_ble_eq_true rfl)) rfl rfl rfl (Nat.le_of_ble_eq_true rfl) (by decide) (Nat.le_of_ble_eq_true rfl) (Nat.le_refl _) (Nat.le_refl _) ?_
      refine g_aload_n dX6_call_36 rfl ?_
      refine g_getR (t2 := 0) (i2 := 0) dX6_call_37 fl_X6_34 (x_vC hn (Nat.le_of_ble_eq_true rfl) (Nat.le_of_ble_eq_true rfl)) rfl rfl rfl ?_
      refine g_iload_n dX6_call_40 rfl ?_
      refine f_Vv dX6_call_41 cs_X6_131 mb_X0_recall (c_X0_recall l n _ 0 (p1.toNat) hn (Nat.le_of_ble_eq_true rfl) hP6) rfl (x_vC hn (Nat.le_of_ble_eq_true rfl) (Nat.le_of_ble_eq_true rfl)) rfl rfl rfl (Nat.le_of_ble_eq_true rfl) (by decide) (Nat.le_of_ble_eq_true rfl) (Nat.le_refl _) (Nat.le_refl _) ?_
      refine g_aload_n dX6_call_44 rfl ?_
      refine g_getR (t2 := 0) (i2 := 0) dX6_call_45 fl_X6_34 (x_vC hn (Nat.le_of_ble_eq_true rfl) (Nat.le_of_ble_eq_true rfl)) rfl rfl rfl ?_
      refine g_getI dX6_call_48 fl_X6_134 (x_vC hn (Nat.le_of_ble_eq_true rfl) (Nat.le_of_ble_eq_true rfl)) rfl rfl ?_
      exact f_iret dX6_call_51 (by rw [V_X6_call, if_neg c_5, if_neg c_19]) (by rw [S_X6_call, if_neg c_5, if_neg c_19])
    · refine g_bipush dX6_call_22 (by decide) ?_
      exact f_iret dX6_call_24 (by rw [V_X6_call, if_neg c_5, if_pos c_19]) (by rw [S_X6_call, if_neg c_5, if_pos c_19])
  · refine g_iconst dX6_call_8 ?_
    exact f_iret dX6_call_9 (by rw [V_X6_call, if_pos c_5]) (by rw [S_X6_call, if_pos c_5])

def V_X6_buy (σ : xMi) (τ0 : Nat) : Int := (if x_wr (σ 0 0 9) < x_wr 20 then ((x_up (S_X2_push σ 0 0 τ0) 0 0 9 (((S_X2_push σ 0 0 τ0) 0 0 9) + 1)) 0 0 9) else (-3))
def S_X6_buy (σ : xMi) (τ0 : Nat) : xMi := (if x_wr (σ 0 0 9) < x_wr 20 then (x_up (S_X2_push σ 0 0 τ0) 0 0 9 (((S_X2_push σ 0 0 τ0) 0 0 9) + 1)) else σ)
theorem c_X6_buy (l : Launch) (n : Nat) (σ : xMi)  (τ0 : Nat) (hn : 131 ≤ n) (hτ0L : τ0 < x_ln 14 0) (hτ0 : σ 13 0 2 = (τ0 : Int)) : x_F l yX6_buy RX6 cX6_buy 1 (some .int) 3 n σ [xR 23 0] (some (xI (V_X6_buy σ τ0))) (S_X6_buy σ τ0) := by
  refine f_of (by decide) rfl (Nat.le_of_ble_eq_true rfl) rfl ?_
  refine g_aload_n dX6_buy_0 rfl ?_
  refine g_getR (t2 := 0) (i2 := 0) dX6_buy_1 fl_X6_34 (x_vC hn (Nat.le_of_ble_eq_true rfl) (Nat.le_of_ble_eq_true rfl)) rfl rfl rfl ?_
  refine g_getI dX6_buy_4 fl_X6_134 (x_vC hn (Nat.le_of_ble_eq_true rfl) (Nat.le_of_ble_eq_true rfl)) rfl rfl ?_
  refine g_bipush dX6_buy_7 (by decide) ?_
  refine g_cmp_lt 15 dX6_buy_9 rfl (fun c_9 => ?_) (fun c_9 => ?_)
  · refine g_aload_n dX6_buy_15 rfl ?_
    refine g_getR (t2 := 13) (i2 := 0) dX6_buy_16 fl_X6_49 (x_vC hn (Nat.le_of_ble_eq_true rfl) (Nat.le_of_ble_eq_true rfl)) rfl rfl rfl ?_
    refine g_aload_n dX6_buy_19 rfl ?_
    refine g_getR (t2 := 0) (i2 := 0) dX6_buy_20 fl_X6_34 (x_vC hn (Nat.le_of_ble_eq_true rfl) (Nat.le_of_ble_eq_true rfl)) rfl rfl rfl ?_
    refine f_Vv dX6_buy_23 cs_X6_116 mb_X2_push (c_X2_push l n _ 0 0 τ0 hn (Nat.le_of_ble_eq_true rfl) (Nat.le_of_ble_eq_true rfl) hτ0L hτ0) rfl (x_vC hn (Nat.le_of_ble_eq_true rfl) (Nat.le_of_ble_eq_true rfl)) rfl rfl rfl (Nat.le_of_ble_eq_true rfl) (by decide) (Nat.le_of_ble_eq_true rfl) (Nat.le_refl _) (Nat.le_refl _) ?_
    refine g_aload_n dX6_buy_26 rfl ?_
    refine g_getR (t2 := 0) (i2 := 0) dX6_buy_27 fl_X6_34 (x_vC hn (Nat.le_of_ble_eq_true rfl) (Nat.le_of_ble_eq_true rfl)) rfl rfl rfl ?_
    refine g_dup dX6_buy_30 rfl ?_
    refine g_getI dX6_buy_31 fl_X6_134 (x_vC hn (Nat.le_of_ble_eq_true rfl) (Nat.le_of_ble_eq_true rfl)) rfl rfl ?_
    refine g_iconst dX6_buy_34 ?_
    refine g_iadd dX6_buy_35 ?_
    refine g_putI dX6_buy_36 fl_X6_134 (x_vC hn (Nat.le_of_ble_eq_true rfl) (Nat.le_of_ble_eq_true rfl)) rfl rfl ?_
    refine g_aload_n dX6_buy_39 rfl ?_
    refine g_getR (t2 := 0) (i2 := 0) dX6_buy_40 fl_X6_34 (x_vC hn (Nat.le_of_ble_eq_true rfl) (Nat.le_of_ble_eq_true rfl)) rfl rfl rfl ?_
    refine g_getI dX6_buy_43 fl_X6_134 (x_vC hn (Nat.le_of_ble_eq_true rfl) (Nat.le_of_ble_eq_true rfl)) rfl rfl ?_
    exact f_iret dX6_buy_46 (by rw [V_X6_buy, if_pos c_9]) (by rw [S_X6_buy, if_pos c_9])
  · refine g_bipush dX6_buy_12 (by decide) ?_
    exact f_iret dX6_buy_14 (by rw [V_X6_buy, if_neg c_9]) (by rw [S_X6_buy, if_neg c_9])

def V_X6_pass (σ : xMi) (n1 : Int) (K : Nat) (τ0 : Nat) : Int := (if x_wr n1 < x_wr 1 then (-1) else (if x_wr n1 ≤ x_wr 20 then (if x_wr ((σ 0 0 10) + n1) ≤ x_wr 999 then ((V_J6_bitCount_0f7a4 (S_X0_passDays (S_X2_push σ 0 0 τ0) 0 (n1.toNat) K) (V_X0_toldBits (S_X0_passDays (S_X2_push σ 0 0 τ0) 0 (n1.toNat) K) 0 K)) - (V_J6_bitCount_0f7a4 (S_X2_push σ 0 0 τ0) (V_X0_toldBits (S_X2_push σ 0 0 τ0) 0 K))) else (-2)) else (-1)))
def S_X6_pass (σ : xMi) (n1 : Int) (K : Nat) (τ0 : Nat) : xMi := (if x_wr n1 < x_wr 1 then σ else (if x_wr n1 ≤ x_wr 20 then (if x_wr ((σ 0 0 10) + n1) ≤ x_wr 999 then (S_X0_passDays (S_X2_push σ 0 0 τ0) 0 (n1.toNat) K) else σ) else σ))
theorem c_X6_pass (l : Launch) (n : Nat) (σ : xMi) (n1 : Int) (K : Nat) (τ0 : Nat) (hn : 131 ≤ n) (hK : K ≤ 6) (hτ0L : τ0 < x_ln 14 0) (h1w : x_wr n1 = n1) (hsz : σ 5 0 4 = (K : Int)) (hτ0 : σ 13 0 2 = (τ0 : Int)) : x_F l yX6_pass RX6 cX6_pass 3 (some .int) 5 n σ [xR 23 0, xI n1] (some (xI (V_X6_pass σ n1 K τ0))) (S_X6_pass σ n1 K τ0) := by
  refine f_of (by decide) rfl (Nat.le_of_ble_eq_true rfl) rfl ?_
  refine g_iload_n dX6_pass_0 rfl ?_
  refine g_iconst dX6_pass_1 ?_
  refine g_cmp_lt 11 dX6_pass_2 rfl (fun c_2 => ?_) (fun c_2 => ?_)
  · refine g_iconst dX6_pass_11 ?_
    exact f_iret dX6_pass_12 (by rw [V_X6_pass, if_pos c_2]) (by rw [S_X6_pass, if_pos c_2])
  · refine g_iload_n dX6_pass_5 rfl ?_
    refine g_bipush dX6_pass_6 (by decide) ?_
    refine g_cmp_le 13 dX6_pass_8 rfl (fun c_8 => ?_) (fun c_8 => ?_)
    · refine g_aload_n dX6_pass_13 rfl ?_
      refine g_getR (t2 := 0) (i2 := 0) dX6_pass_14 fl_X6_34 (x_vC hn (Nat.le_of_ble_eq_true rfl) (Nat.le_of_ble_eq_true rfl)) rfl rfl rfl ?_
      refine g_getI dX6_pass_17 fl_X6_137 (x_vC hn (Nat.le_of_ble_eq_true rfl) (Nat.le_of_ble_eq_true rfl)) rfl rfl ?_
      refine g_iload_n dX6_pass_20 rfl ?_
      refine g_iadd dX6_pass_21 ?_
      refine g_sipush dX6_pass_22 (by decide) ?_
      refine g_cmp_le 31 dX6_pass_25 rfl (fun c_25 => ?_) (fun c_25 => ?_)
      · have hN : n1 = ((n1.toNat : Nat) : Int) ∧ n1.toNat ≤ 20 := by rw [h1w, show x_wr 1 = 1 from by decide] at c_2; rw [h1w, show x_wr 20 = 20 from by decide] at c_8; omega
        refine g_lveq (lv2 := [(0, xR 23 0), (1, xI ((n1.toNat : Nat) : Int))]) (by rw [← hN.1] <;> rfl) ?_
        refine g_aload_n dX6_pass_31 rfl ?_
        refine g_getR (t2 := 13) (i2 := 0) dX6_pass_32 fl_X6_49 (x_vC hn (Nat.le_of_ble_eq_true rfl) (Nat.le_of_ble_eq_true rfl)) rfl rfl rfl ?_
        refine g_aload_n dX6_pass_35 rfl ?_
        refine g_getR (t2 := 0) (i2 := 0) dX6_pass_36 fl_X6_34 (x_vC hn (Nat.le_of_ble_eq_true rfl) (Nat.le_of_ble_eq_true rfl)) rfl rfl rfl ?_
        refine f_Vv dX6_pass_39 cs_X6_116 mb_X2_push (c_X2_push l n _ 0 0 τ0 hn (Nat.le_of_ble_eq_true rfl) (Nat.le_of_ble_eq_true rfl) hτ0L hτ0) rfl (x_vC hn (Nat.le_of_ble_eq_true rfl) (Nat.le_of_ble_eq_true rfl)) rfl rfl rfl (Nat.le_of_ble_eq_true rfl) (by decide) (Nat.le_of_ble_eq_true rfl) (Nat.le_refl _) (Nat.le_refl _) ?_
        refine g_aload_n dX6_pass_42 rfl ?_
        refine g_getR (t2 := 0) (i2 := 0) dX6_pass_43 fl_X6_34 (x_vC hn (Nat.le_of_ble_eq_true rfl) (Nat.le_of_ble_eq_true rfl)) rfl rfl rfl ?_
        refine f_V dX6_pass_46 cs_X6_140 mb_X0_toldBits (c_X0_toldBits l n _ 0 K hn (Nat.le_of_ble_eq_true rfl) hK (by first | exact hsz | (simp (disch := first | omega | assumption) only [x_up_o, x_up_k, x_cp_o, fr_S_X2_push]; exact hsz))) rfl (x_vC hn (Nat.le_of_ble_eq_true rfl) (Nat.le_of_ble_eq_true rfl)) rfl rfl rfl (Nat.le_of_ble_eq_true rfl) (by decide) (Nat.le_of_ble_eq_true rfl) (Nat.le_refl _) (Nat.le_refl _) ?_
        refine f_S dX6_pass_49 cs_X6_143 mb_J6_bitCount_0f7a4 (c_J6_bitCount_0f7a4 l n _ (V_X0_toldBits (S_X2_push σ 0 0 τ0) 0 K) hn) rfl (Nat.lt_of_lt_of_le (by decide) hn) rfl (Nat.le_of_ble_eq_true rfl) (by decide) (Nat.le_of_ble_eq_true rfl) (Nat.le_refl _) (Nat.le_refl _) ?_
        refine g_istore_n (lv' := [_, _, _]) dX6_pass_52 (Nat.le_of_ble_eq_true rfl) rfl ?_
        refine g_aload_n dX6_pass_53 rfl ?_
        refine g_getR (t2 := 0) (i2 := 0) dX6_pass_54 fl_X6_34 (x_vC hn (Nat.le_of_ble_eq_true rfl) (Nat.le_of_ble_eq_true rfl)) rfl rfl rfl ?_
        refine g_iload_n dX6_pass_57 rfl ?_
        refine f_Vv dX6_pass_58 cs_X6_148 mb_X0_passDays (c_X0_passDays l n _ 0 (n1.toNat) K hn (Nat.le_of_ble_eq_true rfl) (by omega) hK (by first | exact hsz | (simp (disch := first | omega | assumption) only [x_up_o, x_up_k, x_cp_o, fr_S_X2_push]; exact hsz))) rfl (x_vC hn (Nat.le_of_ble_eq_true rfl) (Nat.le_of_ble_eq_true rfl)) rfl rfl rfl (Nat.le_of_ble_eq_true rfl) (by decide) (Nat.le_of_ble_eq_true rfl) (Nat.le_refl _) (Nat.le_refl _) ?_
        refine g_aload_n dX6_pass_61 rfl ?_
        refine g_getR (t2 := 0) (i2 := 0) dX6_pass_62 fl_X6_34 (x_vC hn (Nat.le_of_ble_eq_true rfl) (Nat.le_of_ble_eq_true rfl)) rfl rfl rfl ?_
        refine f_V dX6_pass_65 cs_X6_140 mb_X0_toldBits (c_X0_toldBits l n _ 0 K hn (Nat.le_of_ble_eq_true rfl) hK (by first | exact hsz | (simp (disch := first | omega | assumption) only [x_up_o, x_up_k, x_cp_o, fr_S_X0_passDays, fr_S_X2_push]; exact hsz))) rfl (x_vC hn (Nat.le_of_ble_eq_true rfl) (Nat.le_of_ble_eq_true rfl)) rfl rfl rfl (Nat.le_of_ble_eq_true rfl) (by decide) (Nat.le_of_ble_eq_true rfl) (Nat.le_refl _) (Nat.le_refl _) ?_
        refine f_S dX6_pass_68 cs_X6_143 mb_J6_bitCount_0f7a4 (c_J6_bitCount_0f7a4 l n _ (V_X0_toldBits (S_X0_passDays (S_X2_push σ 0 0 τ0) 0 (n1.toNat) K) 0 K) hn) rfl (Nat.lt_of_lt_of_le (by decide) hn) rfl (Nat.le_of_ble_eq_true rfl) (by decide) (Nat.le_of_ble_eq_true rfl) (Nat.le_refl _) (Nat.le_refl _) ?_
        refine g_iload_n dX6_pass_71 rfl ?_
        refine g_isub dX6_pass_72 ?_
        exact f_iret dX6_pass_73 (by rw [V_X6_pass, if_neg c_2, if_pos c_8, if_pos c_25]) (by rw [S_X6_pass, if_neg c_2, if_pos c_8, if_pos c_25])
      · refine g_bipush dX6_pass_28 (by decide) ?_
        exact f_iret dX6_pass_30 (by rw [V_X6_pass, if_neg c_2, if_pos c_8, if_neg c_25]) (by rw [S_X6_pass, if_neg c_2, if_pos c_8, if_neg c_25])
    · refine g_iconst dX6_pass_11 ?_
      exact f_iret dX6_pass_12 (by rw [V_X6_pass, if_neg c_2, if_neg c_8]) (by rw [S_X6_pass, if_neg c_2, if_neg c_8])

def V_X6_undo (σ : xMi) (τ0 : Nat) : Int := (if x_wr (V_X2_popInto σ 0 0 τ0) = 0 then (-2) else ((S_X2_popInto σ 0 0 τ0) 13 0 1))
def S_X6_undo (σ : xMi) (τ0 : Nat) : xMi := (if x_wr (V_X2_popInto σ 0 0 τ0) = 0 then (S_X2_popInto σ 0 0 τ0) else (S_X2_popInto σ 0 0 τ0))
theorem c_X6_undo (l : Launch) (n : Nat) (σ : xMi)  (τ0 : Nat) (hn : 131 ≤ n) (hτ0L : τ0 < x_ln 14 0) (hτ0 : σ 13 0 2 = (τ0 : Int)) : x_F l yX6_undo RX6 cX6_undo 1 (some .int) 3 n σ [xR 23 0] (some (xI (V_X6_undo σ τ0))) (S_X6_undo σ τ0) := by
  refine f_of (by decide) rfl (Nat.le_of_ble_eq_true rfl) rfl ?_
  refine g_aload_n dX6_undo_0 rfl ?_
  refine g_getR (t2 := 13) (i2 := 0) dX6_undo_1 fl_X6_49 (x_vC hn (Nat.le_of_ble_eq_true rfl) (Nat.le_of_ble_eq_true rfl)) rfl rfl rfl ?_
  refine g_aload_n dX6_undo_4 rfl ?_
  refine g_getR (t2 := 0) (i2 := 0) dX6_undo_5 fl_X6_34 (x_vC hn (Nat.le_of_ble_eq_true rfl) (Nat.le_of_ble_eq_true rfl)) rfl rfl rfl ?_
  refine f_V dX6_undo_8 cs_X6_151 mb_X2_popInto (c_X2_popInto l n _ 0 0 τ0 hn (Nat.le_of_ble_eq_true rfl) (Nat.le_of_ble_eq_true rfl) hτ0L hτ0) rfl (x_vC hn (Nat.le_of_ble_eq_true rfl) (Nat.le_of_ble_eq_true rfl)) rfl rfl rfl (Nat.le_of_ble_eq_true rfl) (by decide) (Nat.le_of_ble_eq_true rfl) (Nat.le_refl _) (Nat.le_refl _) ?_
  refine g_if_ne 17 dX6_undo_11 rfl (fun c_11 => ?_) (fun c_11 => ?_)
  · refine g_aload_n dX6_undo_17 rfl ?_
    refine g_getR (t2 := 13) (i2 := 0) dX6_undo_18 fl_X6_49 (x_vC hn (Nat.le_of_ble_eq_true rfl) (Nat.le_of_ble_eq_true rfl)) rfl rfl rfl ?_
    refine g_getI dX6_undo_21 fl_X6_155 (x_vC hn (Nat.le_of_ble_eq_true rfl) (Nat.le_of_ble_eq_true rfl)) rfl rfl ?_
    exact f_iret dX6_undo_24 (by rw [V_X6_undo, if_neg c_11]) (by rw [S_X6_undo, if_neg c_11])
  · refine g_bipush dX6_undo_14 (by decide) ?_
    exact f_iret dX6_undo_16 (by rw [V_X6_undo, if_pos c_11]) (by rw [S_X6_undo, if_pos c_11])

def V_X6_keep (σ : xMi) (τ1 : Nat) : Int := (if x_wr (σ 13 1 1) < x_wr 2 then ((S_X2_push σ 1 0 τ1) 13 1 1) else (-3))
def S_X6_keep (σ : xMi) (τ1 : Nat) : xMi := (if x_wr (σ 13 1 1) < x_wr 2 then (S_X2_push σ 1 0 τ1) else σ)
theorem c_X6_keep (l : Launch) (n : Nat) (σ : xMi)  (τ1 : Nat) (hn : 131 ≤ n) (hτ1L : τ1 < x_ln 14 1) (hτ1 : σ 13 1 2 = (τ1 : Int)) : x_F l yX6_keep RX6 cX6_keep 1 (some .int) 3 n σ [xR 23 0] (some (xI (V_X6_keep σ τ1))) (S_X6_keep σ τ1) := by
  refine f_of (by decide) rfl (Nat.le_of_ble_eq_true rfl) rfl ?_
  refine g_aload_n dX6_keep_0 rfl ?_
  refine g_getR (t2 := 13) (i2 := 1) dX6_keep_1 fl_X6_53 (x_vC hn (Nat.le_of_ble_eq_true rfl) (Nat.le_of_ble_eq_true rfl)) rfl rfl rfl ?_
  refine g_getI dX6_keep_4 fl_X6_155 (x_vC hn (Nat.le_of_ble_eq_true rfl) (Nat.le_of_ble_eq_true rfl)) rfl rfl ?_
  refine g_iconst dX6_keep_7 ?_
  refine g_cmp_lt 14 dX6_keep_8 rfl (fun c_8 => ?_) (fun c_8 => ?_)
  · refine g_aload_n dX6_keep_14 rfl ?_
    refine g_getR (t2 := 13) (i2 := 1) dX6_keep_15 fl_X6_53 (x_vC hn (Nat.le_of_ble_eq_true rfl) (Nat.le_of_ble_eq_true rfl)) rfl rfl rfl ?_
    refine g_aload_n dX6_keep_18 rfl ?_
    refine g_getR (t2 := 0) (i2 := 0) dX6_keep_19 fl_X6_34 (x_vC hn (Nat.le_of_ble_eq_true rfl) (Nat.le_of_ble_eq_true rfl)) rfl rfl rfl ?_
    refine f_Vv dX6_keep_22 cs_X6_116 mb_X2_push (c_X2_push l n _ 1 0 τ1 hn (Nat.le_of_ble_eq_true rfl) (Nat.le_of_ble_eq_true rfl) hτ1L hτ1) rfl (x_vC hn (Nat.le_of_ble_eq_true rfl) (Nat.le_of_ble_eq_true rfl)) rfl rfl rfl (Nat.le_of_ble_eq_true rfl) (by decide) (Nat.le_of_ble_eq_true rfl) (Nat.le_refl _) (Nat.le_refl _) ?_
    refine g_aload_n dX6_keep_25 rfl ?_
    refine g_getR (t2 := 13) (i2 := 1) dX6_keep_26 fl_X6_53 (x_vC hn (Nat.le_of_ble_eq_true rfl) (Nat.le_of_ble_eq_true rfl)) rfl rfl rfl ?_
    refine g_getI dX6_keep_29 fl_X6_155 (x_vC hn (Nat.le_of_ble_eq_true rfl) (Nat.le_of_ble_eq_true rfl)) rfl rfl ?_
    exact f_iret dX6_keep_32 (by rw [V_X6_keep, if_pos c_8]) (by rw [S_X6_keep, if_pos c_8])
  · refine g_bipush dX6_keep_11 (by decide) ?_
    exact f_iret dX6_keep_13 (by rw [V_X6_keep, if_neg c_8]) (by rw [S_X6_keep, if_neg c_8])

def V_X6_back (σ : xMi) (τ1 : Nat) : Int := (if x_wr (V_X2_popInto σ 1 0 τ1) = 0 then (-2) else ((x_up (S_X2_popInto σ 1 0 τ1) 13 0 1 0) 13 1 1))
def S_X6_back (σ : xMi) (τ1 : Nat) : xMi := (if x_wr (V_X2_popInto σ 1 0 τ1) = 0 then (S_X2_popInto σ 1 0 τ1) else (x_up (S_X2_popInto σ 1 0 τ1) 13 0 1 0))
theorem c_X6_back (l : Launch) (n : Nat) (σ : xMi)  (τ1 : Nat) (hn : 131 ≤ n) (hτ1L : τ1 < x_ln 14 1) (hτ1 : σ 13 1 2 = (τ1 : Int)) : x_F l yX6_back RX6 cX6_back 1 (some .int) 3 n σ [xR 23 0] (some (xI (V_X6_back σ τ1))) (S_X6_back σ τ1) := by
  refine f_of (by decide) rfl (Nat.le_of_ble_eq_true rfl) rfl ?_
  refine g_aload_n dX6_back_0 rfl ?_
  refine g_getR (t2 := 13) (i2 := 1) dX6_back_1 fl_X6_53 (x_vC hn (Nat.le_of_ble_eq_true rfl) (Nat.le_of_ble_eq_true rfl)) rfl rfl rfl ?_
  refine g_aload_n dX6_back_4 rfl ?_
  refine g_getR (t2 := 0) (i2 := 0) dX6_back_5 fl_X6_34 (x_vC hn (Nat.le_of_ble_eq_true rfl) (Nat.le_of_ble_eq_true rfl)) rfl rfl rfl ?_
  refine f_V dX6_back_8 cs_X6_151 mb_X2_popInto (c_X2_popInto l n _ 1 0 τ1 hn (Nat.le_of_ble_eq_true rfl) (Nat.le_of_ble_eq_true rfl) hτ1L hτ1) rfl (x_vC hn (Nat.le_of_ble_eq_true rfl) (Nat.le_of_ble_eq_true rfl)) rfl rfl rfl (Nat.le_of_ble_eq_true rfl) (by decide) (Nat.le_of_ble_eq_true rfl) (Nat.le_refl _) (Nat.le_refl _) ?_
  refine g_if_ne 17 dX6_back_11 rfl (fun c_11 => ?_) (fun c_11 => ?_)
  · refine g_aload_n dX6_back_17 rfl ?_
    refine g_getR (t2 := 13) (i2 := 0) dX6_back_18 fl_X6_49 (x_vC hn (Nat.le_of_ble_eq_true rfl) (Nat.le_of_ble_eq_true rfl)) rfl rfl rfl ?_
    refine g_iconst dX6_back_21 ?_
    refine g_putI dX6_back_22 fl_X6_155 (x_vC hn (Nat.le_of_ble_eq_true rfl) (Nat.le_of_ble_eq_true rfl)) rfl rfl ?_
    refine g_aload_n dX6_back_25 rfl ?_
    refine g_getR (t2 := 13) (i2 := 1) dX6_back_26 fl_X6_53 (x_vC hn (Nat.le_of_ble_eq_true rfl) (Nat.le_of_ble_eq_true rfl)) rfl rfl rfl ?_
    refine g_getI dX6_back_29 fl_X6_155 (x_vC hn (Nat.le_of_ble_eq_true rfl) (Nat.le_of_ble_eq_true rfl)) rfl rfl ?_
    exact f_iret dX6_back_32 (by rw [V_X6_back, if_neg c_11]) (by rw [S_X6_back, if_neg c_11])
  · refine g_bipush dX6_back_14 (by decide) ?_
    exact f_iret dX6_back_16 (by rw [V_X6_back, if_pos c_11]) (by rw [S_X6_back, if_pos c_11])

def V_X6_behind (σ : xMi) (n1 : Int) (w1 : Int) (K : Nat) : Int := (if x_wr n1 < 0 then (-1) else (if x_wr 60 < x_wr n1 then (-1) else (if x_wr w1 < 0 then (-1) else (if x_wr w1 ≤ x_wr 2 then (if x_wr w1 = 0 then (V_X0_eatingBits (S_X0_passDays (S_X0_copyFrom σ 1 0) 1 (n1.toNat) K) 1 K) else (if x_wr w1 = x_wr 1 then (V_X0_toldBits (S_X0_passDays (S_X0_copyFrom σ 1 0) 1 (n1.toNat) K) 1 K) else ((S_X0_passDays (S_X0_copyFrom σ 1 0) 1 (n1.toNat) K) 0 1 6))) else (-1)))))
def S_X6_behind (σ : xMi) (n1 : Int) (w1 : Int) (K : Nat) : xMi := (if x_wr n1 < 0 then σ else (if x_wr 60 < x_wr n1 then σ else (if x_wr w1 < 0 then σ else (if x_wr w1 ≤ x_wr 2 then (if x_wr w1 = 0 then (S_X0_passDays (S_X0_copyFrom σ 1 0) 1 (n1.toNat) K) else (if x_wr w1 = x_wr 1 then (S_X0_passDays (S_X0_copyFrom σ 1 0) 1 (n1.toNat) K) else (S_X0_passDays (S_X0_copyFrom σ 1 0) 1 (n1.toNat) K))) else σ))))
theorem c_X6_behind (l : Launch) (n : Nat) (σ : xMi) (n1 : Int) (w1 : Int) (K : Nat) (hn : 131 ≤ n) (hK : K ≤ 6) (h1w : x_wr n1 = n1) (hsz : σ 5 0 4 = (K : Int)) : x_F l yX6_behind RX6 cX6_behind 3 (some .int) 5 n σ [xR 23 0, xI n1, xI w1] (some (xI (V_X6_behind σ n1 w1 K))) (S_X6_behind σ n1 w1 K) := by
  refine f_of (by decide) rfl (Nat.le_of_ble_eq_true rfl) rfl ?_
  refine g_iload_n dX6_behind_0 rfl ?_
  refine g_if_lt 19 dX6_behind_1 rfl (fun c_1 => ?_) (fun c_1 => ?_)
  · refine g_iconst dX6_behind_19 ?_
    exact f_iret dX6_behind_20 (by rw [V_X6_behind, if_pos c_1]) (by rw [S_X6_behind, if_pos c_1])
  · refine g_iload_n dX6_behind_4 rfl ?_
    refine g_bipush dX6_behind_5 (by decide) ?_
    refine g_cmp_gt 19 dX6_behind_7 rfl (fun c_7 => ?_) (fun c_7 => ?_)
    · refine g_iconst dX6_behind_19 ?_
      exact f_iret dX6_behind_20 (by rw [V_X6_behind, if_neg c_1, if_pos c_7]) (by rw [S_X6_behind, if_neg c_1, if_pos c_7])
    · refine g_iload_n dX6_behind_10 rfl ?_
      refine g_if_lt 19 dX6_behind_11 rfl (fun c_11 => ?_) (fun c_11 => ?_)
      · refine g_iconst dX6_behind_19 ?_
        exact f_iret dX6_behind_20 (by rw [V_X6_behind, if_neg c_1, if_neg c_7, if_pos c_11]) (by rw [S_X6_behind, if_neg c_1, if_neg c_7, if_pos c_11])
      · refine g_iload_n dX6_behind_14 rfl ?_
        refine g_iconst dX6_behind_15 ?_
        refine g_cmp_le 21 dX6_behind_16 rfl (fun c_16 => ?_) (fun c_16 => ?_)
        · have hN : n1 = ((n1.toNat : Nat) : Int) ∧ n1.toNat ≤ 60 := by rw [h1w] at c_1; rw [h1w, show x_wr 60 = 60 from by decide] at c_7; omega
          refine g_lveq (lv2 := [(0, xR 23 0), (1, xI ((n1.toNat : Nat) : Int)), (2, xI w1)]) (by rw [← hN.1] <;> rfl) ?_
          refine g_aload_n dX6_behind_21 rfl ?_
          refine g_getR (t2 := 0) (i2 := 1) dX6_behind_22 fl_X6_38 (x_vC hn (Nat.le_of_ble_eq_true rfl) (Nat.le_of_ble_eq_true rfl)) rfl rfl rfl ?_
          refine g_aload_n dX6_behind_25 rfl ?_
          refine g_getR (t2 := 0) (i2 := 0) dX6_behind_26 fl_X6_34 (x_vC hn (Nat.le_of_ble_eq_true rfl) (Nat.le_of_ble_eq_true rfl)) rfl rfl rfl ?_
          refine f_Vv dX6_behind_29 cs_X6_156 mb_X0_copyFrom (c_X0_copyFrom l n _ 1 0 hn (Nat.le_of_ble_eq_true rfl) (Nat.le_of_ble_eq_true rfl)) rfl (x_vC hn (Nat.le_of_ble_eq_true rfl) (Nat.le_of_ble_eq_true rfl)) rfl rfl rfl (Nat.le_of_ble_eq_true rfl) (by decide) (Nat.le_of_ble_eq_true rfl) (Nat.le_refl _) (Nat.le_refl _) ?_
          refine g_aload_n dX6_behind_32 rfl ?_
          refine g_getR (t2 := 0) (i2 := 1) dX6_behind_33 fl_X6_38 (x_vC hn (Nat.le_of_ble_eq_true rfl) (Nat.le_of_ble_eq_true rfl)) rfl rfl rfl ?_
          refine g_iload_n dX6_behind_36 rfl ?_
          refine f_Vv dX6_behind_37 cs_X6_148 mb_X0_passDays (c_X0_passDays l n _ 1 (n1.toNat) K hn (Nat.le_of_ble_eq_true rfl) (by omega) hK (by first | exact hsz | (simp (disch := first | omega | assumption) only [x_up_o, x_up_k, x_cp_o, fr_S_X0_copyFrom]; exact hsz))) rfl (x_vC hn (Nat.le_of_ble_eq_true rfl) (Nat.le_of_ble_eq_true rfl)) rfl rfl rfl (Nat.le_of_ble_eq_true rfl) (by decide) (Nat.le_of_ble_eq_true rfl) (Nat.le_refl _) (Nat.le_refl _) ?_
          refine g_iload_n dX6_behind_40 rfl ?_
          refine g_if_ne 52 dX6_behind_41 rfl (fun c_41 => ?_) (fun c_41 => ?_)
          · refine g_iload_n dX6_behind_52 rfl ?_
            refine g_iconst dX6_behind_53 ?_
            refine g_cmp_ne 67 dX6_behind_54 rfl (fun c_54 => ?_) (fun c_54 => ?_)
            · refine g_aload_n dX6_behind_67 rfl ?_
              refine g_getR (t2 := 0) (i2 := 1) dX6_behind_68 fl_X6_38 (x_vC hn (Nat.le_of_ble_eq_true rfl) (Nat.le_of_ble_eq_true rfl)) rfl rfl rfl ?_
              refine g_getI dX6_behind_71 fl_X6_162 (x_vC hn (Nat.le_of_ble_eq_true rfl) (Nat.le_of_ble_eq_true rfl)) rfl rfl ?_
              exact f_iret dX6_behind_74 (by rw [V_X6_behind, if_neg c_1, if_neg c_7, if_neg c_11, if_pos c_16, if_neg c_41, if_neg c_54]) (by rw [S_X6_behind, if_neg c_1, if_neg c_7, if_neg c_11, if_pos c_16, if_neg c_41, if_neg c_54])
            · refine g_aload_n dX6_behind_57 rfl ?_
              refine g_getR (t2 := 0) (i2 := 1) dX6_behind_58 fl_X6_38 (x_vC hn (Nat.le_of_ble_eq_true rfl) (Nat.le_of_ble_eq_true rfl)) rfl rfl rfl ?_
              refine f_V dX6_behind_61 cs_X6_140 mb_X0_toldBits (c_X0_toldBits l n _ 1 K hn (Nat.le_of_ble_eq_true rfl) hK (by first | exact hsz | (simp (disch := first | omega | assumption) only [x_up_o, x_up_k, x_cp_o, fr_S_X0_copyFrom, fr_S_X0_passDays]; exact hsz))) rfl (x_vC hn (Nat.le_of_ble_eq_true rfl) (Nat.le_of_ble_eq_true rfl)) rfl rfl rfl (Nat.le_of_ble_eq_true rfl) (by decide) (Nat.le_of_ble_eq_true rfl) (Nat.le_refl _) (Nat.le_refl _) ?_
              refine g_goto 74 dX6_behind_64 rfl ?_
              exact f_iret dX6_behind_74 (by rw [V_X6_behind, if_neg c_1, if_neg c_7, if_neg c_11, if_pos c_16, if_neg c_41, if_pos c_54]) (by rw [S_X6_behind, if_neg c_1, if_neg c_7, if_neg c_11, if_pos c_16, if_neg c_41, if_pos c_54])
          · refine g_aload_n dX6_behind_44 rfl ?_
            refine g_getR (t2 := 0) (i2 := 1) dX6_behind_45 fl_X6_38 (x_vC hn (Nat.le_of_ble_eq_true rfl) (Nat.le_of_ble_eq_true rfl)) rfl rfl rfl ?_
            refine f_V dX6_behind_48 cs_X6_159 mb_X0_eatingBits (c_X0_eatingBits l n _ 1 K hn (Nat.le_of_ble_eq_true rfl) hK (by first | exact hsz | (simp (disch := first | omega | assumption) only [x_up_o, x_up_k, x_cp_o, fr_S_X0_copyFrom, fr_S_X0_passDays]; exact hsz))) rfl (x_vC hn (Nat.le_of_ble_eq_true rfl) (Nat.le_of_ble_eq_true rfl)) rfl rfl rfl (Nat.le_of_ble_eq_true rfl) (by decide) (Nat.le_of_ble_eq_true rfl) (Nat.le_refl _) (Nat.le_refl _) ?_
            exact f_iret dX6_behind_51 (by rw [V_X6_behind, if_neg c_1, if_neg c_7, if_neg c_11, if_pos c_16, if_pos c_41]) (by rw [S_X6_behind, if_neg c_1, if_neg c_7, if_neg c_11, if_pos c_16, if_pos c_41])
        · refine g_iconst dX6_behind_19 ?_
          exact f_iret dX6_behind_20 (by rw [V_X6_behind, if_neg c_1, if_neg c_7, if_neg c_11, if_neg c_16]) (by rw [S_X6_behind, if_neg c_1, if_neg c_7, if_neg c_11, if_neg c_16])

def RV_X6_when_23 (p1 : Int) (K : Nat) : Nat → Nat → xMi → Int
  | 0, e, σ => (-4)
  | k + 1, e, σ => (if x_wr (V_X0_isTold σ 1 (p1.toNat)) = 0 then (RV_X6_when_23 p1 K k (e + 1) (S_X0_passDay σ 1 0 K) ) else (e : Int))
def RS_X6_when_23 (p1 : Int) (K : Nat) : Nat → Nat → xMi → xMi
  | 0, e, σ => σ
  | k + 1, e, σ => (if x_wr (V_X0_isTold σ 1 (p1.toNat)) = 0 then (RS_X6_when_23 p1 K k (e + 1) (S_X0_passDay σ 1 0 K) ) else σ)
theorem lh_X6_when_23 (l : Launch) (n : Nat) (p1 : Int) (K : Nat) (hn : 131 ≤ n) (hK : K ≤ 6) (h1w : x_wr p1 = p1) : ∀ (k e : Nat) (σ : xMi) , e + k = 61 ∧ p1.toNat < 6 → (σ 5 0 4 = (K : Int)) →  x_G l RX6 cX6_when 3 (some .int) 4 n (some (xI (RV_X6_when_23 p1 K k e σ ))) (RS_X6_when_23 p1 K k e σ ) 23 [(2, xI (e : Int)), (0, xR 23 0), (1, xI ((p1.toNat : Nat) : Int))] [] σ := by
  intro k
  induction k with
  | zero =>
    intro e σ  hk hsz
    refine g_iload_n dX6_when_23 rfl ?_
    refine g_bipush dX6_when_24 (by decide) ?_
    refine g_cmp_gt 56 dX6_when_26 rfl (fun c_26 => ?_) (fun c_26 => absurd (by rw [show x_wr 60 = 60 from by decide, x_nat (by omega)]; omega) c_26)
    refine g_bipush dX6_when_56 (by decide) ?_
    exact f_iret dX6_when_58 rfl rfl
  | succ k ih =>
    intro e σ  hk hsz
    have hP6 : p1.toNat < 6 := hk.2
    refine g_iload_n dX6_when_23 rfl ?_
    refine g_bipush dX6_when_24 (by decide) ?_
    refine g_cmp_gt 56 dX6_when_26 rfl (fun c_26 => absurd c_26 (by rw [show x_wr 60 = 60 from by decide, x_nat (by omega)]; omega)) (fun c_26 => ?_)
    refine g_aload_n dX6_when_29 rfl ?_
    refine g_getR (t2 := 0) (i2 := 1) dX6_when_30 fl_X6_38 (x_vC hn (Nat.le_of_ble_eq_true rfl) (Nat.le_of_ble_eq_true rfl)) rfl rfl rfl ?_
    refine g_iload_n dX6_when_33 rfl ?_
    refine f_V dX6_when_34 cs_X6_165 mb_X0_isTold (c_X0_isTold l n _ 1 (p1.toNat) hn (Nat.le_of_ble_eq_true rfl) hP6) rfl (x_vC hn (Nat.le_of_ble_eq_true rfl) (Nat.le_of_ble_eq_true rfl)) rfl rfl rfl (Nat.le_of_ble_eq_true rfl) (by decide) (Nat.le_of_ble_eq_true rfl) (Nat.le_refl _) (Nat.le_refl _) ?_
    refine g_if_eq 42 dX6_when_37 rfl (fun c_37 => ?_) (fun c_37 => ?_)
    · refine g_aload_n dX6_when_42 rfl ?_
      refine g_getR (t2 := 0) (i2 := 1) dX6_when_43 fl_X6_38 (x_vC hn (Nat.le_of_ble_eq_true rfl) (Nat.le_of_ble_eq_true rfl)) rfl rfl rfl ?_
      refine g_iconst dX6_when_46 ?_
      refine f_Vv dX6_when_47 cs_X6_168 mb_X0_passDay (c_X0_passDay l n _ 1 0 K hn (Nat.le_of_ble_eq_true rfl) hK hsz) rfl (x_vC hn (Nat.le_of_ble_eq_true rfl) (Nat.le_of_ble_eq_true rfl)) rfl rfl rfl (Nat.le_of_ble_eq_true rfl) (by decide) (Nat.le_of_ble_eq_true rfl) (Nat.le_refl _) (Nat.le_refl _) ?_
      refine g_iinc (lv' := [(2, xI (((e + 1) : Nat) : Int)), _, _]) dX6_when_50 (Nat.le_of_ble_eq_true rfl) rfl rfl ?_
      refine g_goto 23 dX6_when_53 rfl ?_
      refine g_sub (lv2 := [(2, xI (((e + 1) : Nat) : Int)), _, _]) [0, 1, 2] rfl ?_
      exact f_cv (by rw [RV_X6_when_23, if_pos c_37]) (by rw [RS_X6_when_23, if_pos c_37]) (ih (e + 1) _  (by omega) (by first | exact hsz | (simp (disch := omega) only [x_up_o, x_up_k, x_cp_o, fr_S_X0_passDay]; exact hsz) | (simp (disch := first | omega | assumption) only [x_up_o, x_up_k, x_cp_o, fr_S_X0_passDay]; exact hsz)))
    · refine g_iload_n dX6_when_40 rfl ?_
      exact f_iret dX6_when_41 (by rw [RV_X6_when_23, if_neg c_37]) (by rw [RS_X6_when_23, if_neg c_37])
def V_X6_when (σ : xMi) (p1 : Int) (K : Nat) : Int := (if x_wr (V_X6_isPerson σ p1) = 0 then (-1) else (RV_X6_when_23 p1 K 61 0 (S_X0_copyFrom σ 1 0) ))
def S_X6_when (σ : xMi) (p1 : Int) (K : Nat) : xMi := (if x_wr (V_X6_isPerson σ p1) = 0 then σ else (RS_X6_when_23 p1 K 61 0 (S_X0_copyFrom σ 1 0) ))
theorem c_X6_when (l : Launch) (n : Nat) (σ : xMi) (p1 : Int) (K : Nat) (hn : 131 ≤ n) (hK : K ≤ 6) (h1w : x_wr p1 = p1) (hsz : σ 5 0 4 = (K : Int)) : x_F l yX6_when RX6 cX6_when 3 (some .int) 4 n σ [xR 23 0, xI p1] (some (xI (V_X6_when σ p1 K))) (S_X6_when σ p1 K) := by
  refine f_of (by decide) rfl (Nat.le_of_ble_eq_true rfl) rfl ?_
  refine g_aload_n dX6_when_0 rfl ?_
  refine g_iload_n dX6_when_1 rfl ?_
  refine f_V dX6_when_2 cs_X6_102 mb_X6_isPerson (c_X6_isPerson l n _ p1 hn) rfl (x_vC hn (Nat.le_of_ble_eq_true rfl) (Nat.le_of_ble_eq_true rfl)) rfl rfl rfl (Nat.le_of_ble_eq_true rfl) (by decide) (Nat.le_of_ble_eq_true rfl) (Nat.le_refl _) (Nat.le_refl _) ?_
  refine g_if_ne 10 dX6_when_5 rfl (fun c_5 => ?_) (fun c_5 => ?_)
  · have hP := l_isPerson h1w hK hsz c_5
    have hP6 := hP.2.2
    refine g_lveq (lv2 := [(0, xR 23 0), (1, xI ((p1.toNat : Nat) : Int))]) (by rw [← hP.1] <;> rfl) ?_
    refine g_aload_n dX6_when_10 rfl ?_
    refine g_getR (t2 := 0) (i2 := 1) dX6_when_11 fl_X6_38 (x_vC hn (Nat.le_of_ble_eq_true rfl) (Nat.le_of_ble_eq_true rfl)) rfl rfl rfl ?_
    refine g_aload_n dX6_when_14 rfl ?_
    refine g_getR (t2 := 0) (i2 := 0) dX6_when_15 fl_X6_34 (x_vC hn (Nat.le_of_ble_eq_true rfl) (Nat.le_of_ble_eq_true rfl)) rfl rfl rfl ?_
    refine f_Vv dX6_when_18 cs_X6_156 mb_X0_copyFrom (c_X0_copyFrom l n _ 1 0 hn (Nat.le_of_ble_eq_true rfl) (Nat.le_of_ble_eq_true rfl)) rfl (x_vC hn (Nat.le_of_ble_eq_true rfl) (Nat.le_of_ble_eq_true rfl)) rfl rfl rfl (Nat.le_of_ble_eq_true rfl) (by decide) (Nat.le_of_ble_eq_true rfl) (Nat.le_refl _) (Nat.le_refl _) ?_
    refine g_iconst dX6_when_21 ?_
    refine g_istore_n (lv' := [_, _, _]) dX6_when_22 (Nat.le_of_ble_eq_true rfl) rfl ?_
    refine g_sub (lv2 := [(2, xI ((0 : Nat) : Int)), _, _]) [0, 1, 2] rfl ?_
    exact f_cv (by rw [V_X6_when, if_neg c_5]) (by rw [S_X6_when, if_neg c_5]) (lh_X6_when_23 l n p1 K hn hK h1w 61 0 _  (by omega) (by first | exact hsz | (simp (disch := omega) only [x_up_o, x_up_k, x_cp_o, fr_S_X0_copyFrom]; exact hsz) | (simp (disch := first | omega | assumption) only [x_up_o, x_up_k, x_cp_o, fr_S_X0_copyFrom]; exact hsz)))
  · refine g_iconst dX6_when_8 ?_
    exact f_iret dX6_when_9 (by rw [V_X6_when, if_pos c_5]) (by rw [S_X6_when, if_pos c_5])

def V_X6_gentle (σ : xMi) (K : Nat) : Int := (V_X0_finalWeight σ 0 0 K)
theorem c_X6_gentle (l : Launch) (n : Nat) (σ : xMi)  (K : Nat) (hn : 131 ≤ n) (hK : K ≤ 6) (hsz : σ 5 0 4 = (K : Int)) : x_F l yX6_gentle RX6 cX6_gentle 1 (some .int) 4 n σ [xR 23 0] (some (xI (V_X6_gentle σ K))) σ := by
  refine f_of (by decide) rfl (Nat.le_of_ble_eq_true rfl) rfl ?_
  refine g_aload_n dX6_gentle_0 rfl ?_
  refine g_getR (t2 := 0) (i2 := 0) dX6_gentle_1 fl_X6_34 (x_vC hn (Nat.le_of_ble_eq_true rfl) (Nat.le_of_ble_eq_true rfl)) rfl rfl rfl ?_
  refine g_iconst dX6_gentle_4 ?_
  refine f_V dX6_gentle_5 cs_X6_172 mb_X0_finalWeight (c_X0_finalWeight l n _ 0 0 K hn (Nat.le_of_ble_eq_true rfl) hK hsz) rfl (x_vC hn (Nat.le_of_ble_eq_true rfl) (Nat.le_of_ble_eq_true rfl)) rfl rfl rfl (Nat.le_of_ble_eq_true rfl) (by decide) (Nat.le_of_ble_eq_true rfl) (Nat.le_refl _) (Nat.le_refl _) ?_
  exact f_iret dX6_gentle_8 rfl rfl

def V_X6_latest (σ : xMi) (p1 : Int) (K : Nat) : Int := (if x_wr (V_X6_isPerson σ p1) = 0 then (-1) else (if x_wr (V_X0_canBeSentOne σ 0 (p1.toNat)) = 0 then (-2) else (if 0 ≤ x_wr (V_X0_spareDays σ 0 (p1.toNat)) then (V_X0_spareDays σ 0 (p1.toNat)) else (-4))))
theorem c_X6_latest (l : Launch) (n : Nat) (σ : xMi) (p1 : Int) (K : Nat) (hn : 131 ≤ n) (hK : K ≤ 6) (h1w : x_wr p1 = p1) (hsz : σ 5 0 4 = (K : Int)) : x_F l yX6_latest RX6 cX6_latest 3 (some .int) 3 n σ [xR 23 0, xI p1] (some (xI (V_X6_latest σ p1 K))) σ := by
  refine f_of (by decide) rfl (Nat.le_of_ble_eq_true rfl) rfl ?_
  refine g_aload_n dX6_latest_0 rfl ?_
  refine g_iload_n dX6_latest_1 rfl ?_
  refine f_V dX6_latest_2 cs_X6_102 mb_X6_isPerson (c_X6_isPerson l n _ p1 hn) rfl (x_vC hn (Nat.le_of_ble_eq_true rfl) (Nat.le_of_ble_eq_true rfl)) rfl rfl rfl (Nat.le_of_ble_eq_true rfl) (by decide) (Nat.le_of_ble_eq_true rfl) (Nat.le_refl _) (Nat.le_refl _) ?_
  refine g_if_ne 10 dX6_latest_5 rfl (fun c_5 => ?_) (fun c_5 => ?_)
  · have hP := l_isPerson h1w hK hsz c_5
    have hP6 := hP.2.2
    refine g_lveq (lv2 := [(0, xR 23 0), (1, xI ((p1.toNat : Nat) : Int))]) (by rw [← hP.1] <;> rfl) ?_
    refine g_aload_n dX6_latest_10 rfl ?_
    refine g_getR (t2 := 0) (i2 := 0) dX6_latest_11 fl_X6_34 (x_vC hn (Nat.le_of_ble_eq_true rfl) (Nat.le_of_ble_eq_true rfl)) rfl rfl rfl ?_
    refine g_iload_n dX6_latest_14 rfl ?_
    refine f_V dX6_latest_15 cs_X6_175 mb_X0_canBeSentOne (c_X0_canBeSentOne l n _ 0 (p1.toNat) hn (Nat.le_of_ble_eq_true rfl) hP6) rfl (x_vC hn (Nat.le_of_ble_eq_true rfl) (Nat.le_of_ble_eq_true rfl)) rfl rfl rfl (Nat.le_of_ble_eq_true rfl) (by decide) (Nat.le_of_ble_eq_true rfl) (Nat.le_refl _) (Nat.le_refl _) ?_
    refine g_if_ne 24 dX6_latest_18 rfl (fun c_18 => ?_) (fun c_18 => ?_)
    · refine g_aload_n dX6_latest_24 rfl ?_
      refine g_getR (t2 := 0) (i2 := 0) dX6_latest_25 fl_X6_34 (x_vC hn (Nat.le_of_ble_eq_true rfl) (Nat.le_of_ble_eq_true rfl)) rfl rfl rfl ?_
      refine g_iload_n dX6_latest_28 rfl ?_
      refine f_V dX6_latest_29 cs_X6_178 mb_X0_spareDays (c_X0_spareDays l n _ 0 (p1.toNat) hn (Nat.le_of_ble_eq_true rfl) hP6) rfl (x_vC hn (Nat.le_of_ble_eq_true rfl) (Nat.le_of_ble_eq_true rfl)) rfl rfl rfl (Nat.le_of_ble_eq_true rfl) (by decide) (Nat.le_of_ble_eq_true rfl) (Nat.le_refl _) (Nat.le_refl _) ?_
      refine g_istore_n (lv' := [_, _, _]) dX6_latest_32 (Nat.le_of_ble_eq_true rfl) rfl ?_
      refine g_iload_n dX6_latest_33 rfl ?_
      refine g_if_ge 42 dX6_latest_34 rfl (fun c_34 => ?_) (fun c_34 => ?_)
      · refine g_iload_n dX6_latest_42 rfl ?_
        exact f_iret dX6_latest_43 (by rw [V_X6_latest, if_neg c_5, if_neg c_18, if_pos c_34]) rfl
      · refine g_bipush dX6_latest_37 (by decide) ?_
        refine g_goto 43 dX6_latest_39 rfl ?_
        exact f_iret dX6_latest_43 (by rw [V_X6_latest, if_neg c_5, if_neg c_18, if_neg c_34]) rfl
    · refine g_bipush dX6_latest_21 (by decide) ?_
      exact f_iret dX6_latest_23 (by rw [V_X6_latest, if_neg c_5, if_pos c_18]) rfl
  · refine g_iconst dX6_latest_8 ?_
    exact f_iret dX6_latest_9 (by rw [V_X6_latest, if_pos c_5]) rfl

def V_X6_order (σ : xMi) (k1 : Int) (K : Nat) : Int := (if x_wr k1 < x_wr (-1) then (-1) else (if x_wr k1 < x_wr 6 then (if x_wr k1 = x_wr (-1) then (V_X1_run σ (σ 0 0 9) K) else (if x_wr ((S_X1_run σ (σ 0 0 9) K) 19 0 3) ≤ x_wr k1 then (-4) else ((S_X1_run σ (σ 0 0 9) K) 22 0 (k1.toNat)))) else (-1)))
def S_X6_order (σ : xMi) (k1 : Int) (K : Nat) : xMi := (if x_wr k1 < x_wr (-1) then σ else (if x_wr k1 < x_wr 6 then (if x_wr k1 = x_wr (-1) then (S_X1_run σ (σ 0 0 9) K) else (if x_wr ((S_X1_run σ (σ 0 0 9) K) 19 0 3) ≤ x_wr k1 then (S_X1_run σ (σ 0 0 9) K) else (S_X1_run σ (σ 0 0 9) K))) else σ))
theorem c_X6_order (l : Launch) (n : Nat) (σ : xMi) (k1 : Int) (K : Nat) (hn : 131 ≤ n) (hK : K ≤ 6) (h1w : x_wr k1 = k1) (hsz : σ 5 0 4 = (K : Int)) : x_F l yX6_order RX6 cX6_order 3 (some .int) 17 n σ [xR 23 0, xI k1] (some (xI (V_X6_order σ k1 K))) (S_X6_order σ k1 K) := by
  refine f_of (by decide) rfl (Nat.le_of_ble_eq_true rfl) rfl ?_
  refine g_iload_n dX6_order_0 rfl ?_
  refine g_iconst dX6_order_1 ?_
  refine g_cmp_lt 11 dX6_order_2 rfl (fun c_2 => ?_) (fun c_2 => ?_)
  · refine g_iconst dX6_order_11 ?_
    exact f_iret dX6_order_12 (by rw [V_X6_order, if_pos c_2]) (by rw [S_X6_order, if_pos c_2])
  · refine g_iload_n dX6_order_5 rfl ?_
    refine g_bipush dX6_order_6 (by decide) ?_
    refine g_cmp_lt 13 dX6_order_8 rfl (fun c_8 => ?_) (fun c_8 => ?_)
    · refine g_aload_n dX6_order_13 rfl ?_
      refine g_getR (t2 := 19) (i2 := 0) dX6_order_14 fl_X6_66 (x_vC hn (Nat.le_of_ble_eq_true rfl) (Nat.le_of_ble_eq_true rfl)) rfl rfl rfl ?_
      refine g_aload_n dX6_order_17 rfl ?_
      refine g_getR (t2 := 0) (i2 := 0) dX6_order_18 fl_X6_34 (x_vC hn (Nat.le_of_ble_eq_true rfl) (Nat.le_of_ble_eq_true rfl)) rfl rfl rfl ?_
      refine g_aload_n dX6_order_21 rfl ?_
      refine g_getR (t2 := 0) (i2 := 0) dX6_order_22 fl_X6_34 (x_vC hn (Nat.le_of_ble_eq_true rfl) (Nat.le_of_ble_eq_true rfl)) rfl rfl rfl ?_
      refine g_getI dX6_order_25 fl_X6_134 (x_vC hn (Nat.le_of_ble_eq_true rfl) (Nat.le_of_ble_eq_true rfl)) rfl rfl ?_
      refine f_V dX6_order_28 cs_X6_181 mb_X1_run (c_X1_run l n _ (σ 0 0 9) K hn hK hsz) rfl (x_vC hn (Nat.le_of_ble_eq_true rfl) (Nat.le_of_ble_eq_true rfl)) rfl rfl rfl (Nat.le_of_ble_eq_true rfl) (by decide) (Nat.le_of_ble_eq_true rfl) (Nat.le_refl _) (Nat.le_refl _) ?_
      refine g_istore_n (lv' := [_, _, _]) dX6_order_31 (Nat.le_of_ble_eq_true rfl) rfl ?_
      refine g_iload_n dX6_order_32 rfl ?_
      refine g_iconst dX6_order_33 ?_
      refine g_cmp_ne 39 dX6_order_34 rfl (fun c_34 => ?_) (fun c_34 => ?_)
      · refine g_iload_n dX6_order_39 rfl ?_
        refine g_aload_n dX6_order_40 rfl ?_
        refine g_getR (t2 := 19) (i2 := 0) dX6_order_41 fl_X6_66 (x_vC hn (Nat.le_of_ble_eq_true rfl) (Nat.le_of_ble_eq_true rfl)) rfl rfl rfl ?_
        refine g_getI dX6_order_44 fl_X6_185 (x_vC hn (Nat.le_of_ble_eq_true rfl) (Nat.le_of_ble_eq_true rfl)) rfl rfl ?_
        refine g_cmp_ge 62 dX6_order_47 rfl (fun c_47 => ?_) (fun c_47 => ?_)
        · refine g_bipush dX6_order_62 (by decide) ?_
          exact f_iret dX6_order_64 (by rw [V_X6_order, if_neg c_2, if_pos c_8, if_neg c_34, if_pos c_47]) (by rw [S_X6_order, if_neg c_2, if_pos c_8, if_neg c_34, if_pos c_47])
        · have hN : k1 = ((k1.toNat : Nat) : Int) ∧ k1.toNat < 6 := by rw [h1w, show x_wr (-1) = (-1) from by decide] at c_2; rw [h1w, show x_wr 6 = 6 from by decide] at c_8; rw [h1w, show x_wr (-1) = (-1) from by decide] at c_34; omega
          refine g_lveq (lv2 := [(2, xI (V_X1_run σ (σ 0 0 9) K)), (0, xR 23 0), (1, xI ((k1.toNat : Nat) : Int))]) (by rw [← hN.1] <;> rfl) ?_
          refine g_aload_n dX6_order_50 rfl ?_
          refine g_getR (t2 := 19) (i2 := 0) dX6_order_51 fl_X6_66 (x_vC hn (Nat.le_of_ble_eq_true rfl) (Nat.le_of_ble_eq_true rfl)) rfl rfl rfl ?_
          refine g_getR (t2 := 22) (i2 := 0) dX6_order_54 fl_X6_186 (x_vC hn (Nat.le_of_ble_eq_true rfl) (Nat.le_of_ble_eq_true rfl)) rfl rfl rfl ?_
          refine g_iload_n dX6_order_57 rfl ?_
          refine g_iald (k1.toNat) dX6_order_58 rfl hN.2 (x_vC hn (Nat.le_of_ble_eq_true rfl) (Nat.le_of_ble_eq_true rfl)) rfl ?_
          refine g_goto 64 dX6_order_59 rfl ?_
          exact f_iret dX6_order_64 (by rw [V_X6_order, if_neg c_2, if_pos c_8, if_neg c_34, if_neg c_47]) (by rw [S_X6_order, if_neg c_2, if_pos c_8, if_neg c_34, if_neg c_47])
      · refine g_iload_n dX6_order_37 rfl ?_
        exact f_iret dX6_order_38 (by rw [V_X6_order, if_neg c_2, if_pos c_8, if_pos c_34]) (by rw [S_X6_order, if_neg c_2, if_pos c_8, if_pos c_34])
    · refine g_iconst dX6_order_11 ?_
      exact f_iret dX6_order_12 (by rw [V_X6_order, if_neg c_2, if_neg c_8]) (by rw [S_X6_order, if_neg c_2, if_neg c_8])

def RV_X6_need_16 (K : Nat) : Nat → Nat → xMi → Int → Int
  | 0, e, σ, a => 20
  | k + 1, e, σ, a => (if x_wr (V_X1_run σ (e : Int) K) = x_wr a then (e : Int) else (RV_X6_need_16 K k (e + 1) (S_X1_run σ (e : Int) K) a))
def RS_X6_need_16 (K : Nat) : Nat → Nat → xMi → Int → xMi
  | 0, e, σ, a => σ
  | k + 1, e, σ, a => (if x_wr (V_X1_run σ (e : Int) K) = x_wr a then (S_X1_run σ (e : Int) K) else (RS_X6_need_16 K k (e + 1) (S_X1_run σ (e : Int) K) a))
theorem lh_X6_need_16 (l : Launch) (n : Nat)  (K : Nat) (hn : 131 ≤ n) (hK : K ≤ 6) : ∀ (k e : Nat) (σ : xMi) (a : Int), e + k = 20 → (σ 5 0 4 = (K : Int)) →  x_G l RX6 cX6_need 3 (some .int) 17 n (some (xI (RV_X6_need_16 K k e σ a))) (RS_X6_need_16 K k e σ a) 16 [(2, xI (e : Int)), (1, xI a), (0, xR 23 0)] [] σ := by
  intro k
  induction k with
  | zero =>
    intro e σ a hk hsz
    refine g_iload_n dX6_need_16 rfl ?_
    refine g_bipush dX6_need_17 (by decide) ?_
    refine g_cmp_ge 46 dX6_need_19 rfl (fun c_19 => ?_) (fun c_19 => absurd (by rw [show x_wr 20 = 20 from by decide, x_nat (by omega)]; omega) c_19)
    refine g_bipush dX6_need_46 (by decide) ?_
    exact f_iret dX6_need_48 rfl rfl
  | succ k ih =>
    intro e σ a hk hsz
    refine g_iload_n dX6_need_16 rfl ?_
    refine g_bipush dX6_need_17 (by decide) ?_
    refine g_cmp_ge 46 dX6_need_19 rfl (fun c_19 => absurd c_19 (by rw [show x_wr 20 = 20 from by decide, x_nat (by omega)]; omega)) (fun c_19 => ?_)
    refine g_aload_n dX6_need_22 rfl ?_
    refine g_getR (t2 := 19) (i2 := 0) dX6_need_23 fl_X6_66 (x_vC hn (Nat.le_of_ble_eq_true rfl) (Nat.le_of_ble_eq_true rfl)) rfl rfl rfl ?_
    refine g_aload_n dX6_need_26 rfl ?_
    refine g_getR (t2 := 0) (i2 := 0) dX6_need_27 fl_X6_34 (x_vC hn (Nat.le_of_ble_eq_true rfl) (Nat.le_of_ble_eq_true rfl)) rfl rfl rfl ?_
    refine g_iload_n dX6_need_30 rfl ?_
    refine f_V dX6_need_31 cs_X6_181 mb_X1_run (c_X1_run l n _ (e : Int) K hn hK hsz) rfl (x_vC hn (Nat.le_of_ble_eq_true rfl) (Nat.le_of_ble_eq_true rfl)) rfl rfl rfl (Nat.le_of_ble_eq_true rfl) (by decide) (Nat.le_of_ble_eq_true rfl) (Nat.le_refl _) (Nat.le_refl _) ?_
    refine g_iload_n dX6_need_34 rfl ?_
    refine g_cmp_ne 40 dX6_need_35 rfl (fun c_35 => ?_) (fun c_35 => ?_)
    · refine g_iinc (lv' := [(2, xI (((e + 1) : Nat) : Int)), _, _]) dX6_need_40 (Nat.le_of_ble_eq_true rfl) rfl rfl ?_
      refine g_goto 16 dX6_need_43 rfl ?_
      refine g_sub (lv2 := [(2, xI (((e + 1) : Nat) : Int)), _, _]) [0, 1, 2] rfl ?_
      exact f_cv (by rw [RV_X6_need_16, if_neg c_35]) (by rw [RS_X6_need_16, if_neg c_35]) (ih (e + 1) _ _ (by omega) (by first | exact hsz | (simp (disch := omega) only [x_up_o, x_up_k, x_cp_o, fr_S_X1_run]; exact hsz) | (simp (disch := first | omega | assumption) only [x_up_o, x_up_k, x_cp_o, fr_S_X1_run]; exact hsz)))
    · refine g_iload_n dX6_need_38 rfl ?_
      exact f_iret dX6_need_39 (by rw [RV_X6_need_16, if_pos c_35]) (by rw [RS_X6_need_16, if_pos c_35])
def V_X6_need (σ : xMi) (K : Nat) : Int := (RV_X6_need_16 K 20 0 (S_X1_run σ 20 K) (V_X1_run σ 20 K))
def S_X6_need (σ : xMi) (K : Nat) : xMi := (RS_X6_need_16 K 20 0 (S_X1_run σ 20 K) (V_X1_run σ 20 K))
theorem c_X6_need (l : Launch) (n : Nat) (σ : xMi)  (K : Nat) (hn : 131 ≤ n) (hK : K ≤ 6) (hsz : σ 5 0 4 = (K : Int)) : x_F l yX6_need RX6 cX6_need 3 (some .int) 17 n σ [xR 23 0] (some (xI (V_X6_need σ K))) (S_X6_need σ K) := by
  refine f_of (by decide) rfl (Nat.le_of_ble_eq_true rfl) rfl ?_
  refine g_aload_n dX6_need_0 rfl ?_
  refine g_getR (t2 := 19) (i2 := 0) dX6_need_1 fl_X6_66 (x_vC hn (Nat.le_of_ble_eq_true rfl) (Nat.le_of_ble_eq_true rfl)) rfl rfl rfl ?_
  refine g_aload_n dX6_need_4 rfl ?_
  refine g_getR (t2 := 0) (i2 := 0) dX6_need_5 fl_X6_34 (x_vC hn (Nat.le_of_ble_eq_true rfl) (Nat.le_of_ble_eq_true rfl)) rfl rfl rfl ?_
  refine g_bipush dX6_need_8 (by decide) ?_
  refine f_V dX6_need_10 cs_X6_181 mb_X1_run (c_X1_run l n _ 20 K hn hK hsz) rfl (x_vC hn (Nat.le_of_ble_eq_true rfl) (Nat.le_of_ble_eq_true rfl)) rfl rfl rfl (Nat.le_of_ble_eq_true rfl) (by decide) (Nat.le_of_ble_eq_true rfl) (Nat.le_refl _) (Nat.le_refl _) ?_
  refine g_istore_n (lv' := [_, _]) dX6_need_13 (Nat.le_of_ble_eq_true rfl) rfl ?_
  refine g_iconst dX6_need_14 ?_
  refine g_istore_n (lv' := [_, _, _]) dX6_need_15 (Nat.le_of_ble_eq_true rfl) rfl ?_
  refine g_sub (lv2 := [(2, xI ((0 : Nat) : Int)), _, _]) [0, 1, 2] rfl ?_
  exact f_cv rfl rfl (lh_X6_need_16 l n K hn hK 20 0 _ _ (by omega) (by first | exact hsz | (simp (disch := omega) only [x_up_o, x_up_k, x_cp_o, fr_S_X1_run]; exact hsz) | (simp (disch := first | omega | assumption) only [x_up_o, x_up_k, x_cp_o, fr_S_X1_run]; exact hsz)))

def V_X6_seen (σ : xMi) (n1 : Int) (p1 : Int) (i1 : Int) (z : Nat) : Int := (if x_wr n1 < 0 then (-1) else (if x_wr 40 < x_wr n1 then (-1) else (if x_wr (V_X6_isPerson σ p1) = 0 then (-1) else (if x_wr i1 < 0 then (-1) else (if x_wr i1 ≤ x_wr 1 then (if x_wr (σ 15 0 3) < x_wr 6 then (if x_wr i1 = x_wr 1 then ((S_X4_add σ n1 p1 1 z) 15 0 3) else ((S_X4_add σ n1 p1 0 z) 15 0 3)) else (-3)) else (-1))))))
def S_X6_seen (σ : xMi) (n1 : Int) (p1 : Int) (i1 : Int) (z : Nat) : xMi := (if x_wr n1 < 0 then σ else (if x_wr 40 < x_wr n1 then σ else (if x_wr (V_X6_isPerson σ p1) = 0 then σ else (if x_wr i1 < 0 then σ else (if x_wr i1 ≤ x_wr 1 then (if x_wr (σ 15 0 3) < x_wr 6 then (if x_wr i1 = x_wr 1 then (S_X4_add σ n1 p1 1 z) else (S_X4_add σ n1 p1 0 z)) else σ) else σ)))))
theorem c_X6_seen (l : Launch) (n : Nat) (σ : xMi) (n1 : Int) (p1 : Int) (i1 : Int) (z : Nat) (hn : 131 ≤ n) (hz6 : z ≤ 6) (hz : σ 15 0 3 = (z : Int)) : x_F l yX6_seen RX6 cX6_seen 4 (some .int) 1 n σ [xR 23 0, xI n1, xI p1, xI i1] (some (xI (V_X6_seen σ n1 p1 i1 z))) (S_X6_seen σ n1 p1 i1 z) := by
  refine f_of (by decide) rfl (Nat.le_of_ble_eq_true rfl) rfl ?_
  refine g_iload_n dX6_seen_0 rfl ?_
  refine g_if_lt 27 dX6_seen_1 rfl (fun c_1 => ?_) (fun c_1 => ?_)
  · refine g_iconst dX6_seen_27 ?_
    exact f_iret dX6_seen_28 (by rw [V_X6_seen, if_pos c_1]) (by rw [S_X6_seen, if_pos c_1])
  · refine g_iload_n dX6_seen_4 rfl ?_
    refine g_bipush dX6_seen_5 (by decide) ?_
    refine g_cmp_gt 27 dX6_seen_7 rfl (fun c_7 => ?_) (fun c_7 => ?_)
    · refine g_iconst dX6_seen_27 ?_
      exact f_iret dX6_seen_28 (by rw [V_X6_seen, if_neg c_1, if_pos c_7]) (by rw [S_X6_seen, if_neg c_1, if_pos c_7])
    · refine g_aload_n dX6_seen_10 rfl ?_
      refine g_iload_n dX6_seen_11 rfl ?_
      refine f_V dX6_seen_12 cs_X6_102 mb_X6_isPerson (c_X6_isPerson l n _ p1 hn) rfl (x_vC hn (Nat.le_of_ble_eq_true rfl) (Nat.le_of_ble_eq_true rfl)) rfl rfl rfl (Nat.le_of_ble_eq_true rfl) (by decide) (Nat.le_of_ble_eq_true rfl) (Nat.le_refl _) (Nat.le_refl _) ?_
      refine g_if_eq 27 dX6_seen_15 rfl (fun c_15 => ?_) (fun c_15 => ?_)
      · refine g_iconst dX6_seen_27 ?_
        exact f_iret dX6_seen_28 (by rw [V_X6_seen, if_neg c_1, if_neg c_7, if_pos c_15]) (by rw [S_X6_seen, if_neg c_1, if_neg c_7, if_pos c_15])
      · refine g_iload_n dX6_seen_18 rfl ?_
        refine g_if_lt 27 dX6_seen_19 rfl (fun c_19 => ?_) (fun c_19 => ?_)
        · refine g_iconst dX6_seen_27 ?_
          exact f_iret dX6_seen_28 (by rw [V_X6_seen, if_neg c_1, if_neg c_7, if_neg c_15, if_pos c_19]) (by rw [S_X6_seen, if_neg c_1, if_neg c_7, if_neg c_15, if_pos c_19])
        · refine g_iload_n dX6_seen_22 rfl ?_
          refine g_iconst dX6_seen_23 ?_
          refine g_cmp_le 29 dX6_seen_24 rfl (fun c_24 => ?_) (fun c_24 => ?_)
          · refine g_aload_n dX6_seen_29 rfl ?_
            refine g_getR (t2 := 15) (i2 := 0) dX6_seen_30 fl_X6_59 (x_vC hn (Nat.le_of_ble_eq_true rfl) (Nat.le_of_ble_eq_true rfl)) rfl rfl rfl ?_
            refine g_getI dX6_seen_33 fl_X6_189 (x_vC hn (Nat.le_of_ble_eq_true rfl) (Nat.le_of_ble_eq_true rfl)) rfl rfl ?_
            refine g_bipush dX6_seen_36 (by decide) ?_
            refine g_cmp_lt 44 dX6_seen_38 rfl (fun c_38 => ?_) (fun c_38 => ?_)
            · refine g_aload_n dX6_seen_44 rfl ?_
              refine g_getR (t2 := 15) (i2 := 0) dX6_seen_45 fl_X6_59 (x_vC hn (Nat.le_of_ble_eq_true rfl) (Nat.le_of_ble_eq_true rfl)) rfl rfl rfl ?_
              refine g_iload_n dX6_seen_48 rfl ?_
              refine g_iload_n dX6_seen_49 rfl ?_
              refine g_iload_n dX6_seen_50 rfl ?_
              refine g_iconst dX6_seen_51 ?_
              refine g_cmp_ne 59 dX6_seen_52 rfl (fun c_52 => ?_) (fun c_52 => ?_)
              · refine g_iconst dX6_seen_59 ?_
                refine f_Vv dX6_seen_60 cs_X6_190 mb_X4_add (c_X4_add l n _ n1 p1 0 z hn hz6 (by decide) hz) rfl (x_vC hn (Nat.le_of_ble_eq_true rfl) (Nat.le_of_ble_eq_true rfl)) rfl rfl rfl (Nat.le_of_ble_eq_true rfl) (by decide) (Nat.le_of_ble_eq_true rfl) (Nat.le_refl _) (Nat.le_refl _) ?_
                refine g_aload_n dX6_seen_63 rfl ?_
                refine g_getR (t2 := 15) (i2 := 0) dX6_seen_64 fl_X6_59 (x_vC hn (Nat.le_of_ble_eq_true rfl) (Nat.le_of_ble_eq_true rfl)) rfl rfl rfl ?_
                refine g_getI dX6_seen_67 fl_X6_189 (x_vC hn (Nat.le_of_ble_eq_true rfl) (Nat.le_of_ble_eq_true rfl)) rfl rfl ?_
                exact f_iret dX6_seen_70 (by rw [V_X6_seen, if_neg c_1, if_neg c_7, if_neg c_15, if_neg c_19, if_pos c_24, if_pos c_38, if_neg c_52]) (by rw [S_X6_seen, if_neg c_1, if_neg c_7, if_neg c_15, if_neg c_19, if_pos c_24, if_pos c_38, if_neg c_52])
              · refine g_iconst dX6_seen_55 ?_
                refine g_goto 60 dX6_seen_56 rfl ?_
                refine f_Vv dX6_seen_60 cs_X6_190 mb_X4_add (c_X4_add l n _ n1 p1 1 z hn hz6 (by decide) hz) rfl (x_vC hn (Nat.le_of_ble_eq_true rfl) (Nat.le_of_ble_eq_true rfl)) rfl rfl rfl (Nat.le_of_ble_eq_true rfl) (by decide) (Nat.le_of_ble_eq_true rfl) (Nat.le_refl _) (Nat.le_refl _) ?_
                refine g_aload_n dX6_seen_63 rfl ?_
                refine g_getR (t2 := 15) (i2 := 0) dX6_seen_64 fl_X6_59 (x_vC hn (Nat.le_of_ble_eq_true rfl) (Nat.le_of_ble_eq_true rfl)) rfl rfl rfl ?_
                refine g_getI dX6_seen_67 fl_X6_189 (x_vC hn (Nat.le_of_ble_eq_true rfl) (Nat.le_of_ble_eq_true rfl)) rfl rfl ?_
                exact f_iret dX6_seen_70 (by rw [V_X6_seen, if_neg c_1, if_neg c_7, if_neg c_15, if_neg c_19, if_pos c_24, if_pos c_38, if_pos c_52]) (by rw [S_X6_seen, if_neg c_1, if_neg c_7, if_neg c_15, if_neg c_19, if_pos c_24, if_pos c_38, if_pos c_52])
            · refine g_bipush dX6_seen_41 (by decide) ?_
              exact f_iret dX6_seen_43 (by rw [V_X6_seen, if_neg c_1, if_neg c_7, if_neg c_15, if_neg c_19, if_pos c_24, if_neg c_38]) (by rw [S_X6_seen, if_neg c_1, if_neg c_7, if_neg c_15, if_neg c_19, if_pos c_24, if_neg c_38])
          · refine g_iconst dX6_seen_27 ?_
            exact f_iret dX6_seen_28 (by rw [V_X6_seen, if_neg c_1, if_neg c_7, if_neg c_15, if_neg c_19, if_neg c_24]) (by rw [S_X6_seen, if_neg c_1, if_neg c_7, if_neg c_15, if_neg c_19, if_neg c_24])

def V_X6_forget (σ : xMi)  : Int := (σ 15 0 3)
def S_X6_forget (σ : xMi)  : xMi := (x_up σ 15 0 3 0)
theorem c_X6_forget (l : Launch) (n : Nat) (σ : xMi)  (hn : 131 ≤ n)   : x_F l yX6_forget RX6 cX6_forget 2 (some .int) 0 n σ [xR 23 0] (some (xI (V_X6_forget σ ))) (S_X6_forget σ ) := by
  refine f_of (by decide) rfl (Nat.le_of_ble_eq_true rfl) rfl ?_
  refine g_aload_n dX6_forget_0 rfl ?_
  refine g_getR (t2 := 15) (i2 := 0) dX6_forget_1 fl_X6_59 (x_vC hn (Nat.le_of_ble_eq_true rfl) (Nat.le_of_ble_eq_true rfl)) rfl rfl rfl ?_
  refine g_getI dX6_forget_4 fl_X6_189 (x_vC hn (Nat.le_of_ble_eq_true rfl) (Nat.le_of_ble_eq_true rfl)) rfl rfl ?_
  refine g_istore_n (lv' := [_, _]) dX6_forget_7 (Nat.le_of_ble_eq_true rfl) rfl ?_
  refine g_aload_n dX6_forget_8 rfl ?_
  refine g_getR (t2 := 15) (i2 := 0) dX6_forget_9 fl_X6_59 (x_vC hn (Nat.le_of_ble_eq_true rfl) (Nat.le_of_ble_eq_true rfl)) rfl rfl rfl ?_
  refine g_iconst dX6_forget_12 ?_
  refine g_putI dX6_forget_13 fl_X6_189 (x_vC hn (Nat.le_of_ble_eq_true rfl) (Nat.le_of_ble_eq_true rfl)) rfl rfl ?_
  refine g_iload_n dX6_forget_16 rfl ?_
  exact f_iret dX6_forget_17 rfl rfl

def V_X6_guessFits (σ : xMi) (K : Nat) (z : Nat) : Int := (V_X4_allHold (S_X0_copyFrom σ 2 0) 2 K z)
theorem z_X6_guessFits (σ : xMi) (K : Nat) (z : Nat) : V_X6_guessFits σ K z = 0 ∨ V_X6_guessFits σ K z = 1 := by
  unfold V_X6_guessFits
  (repeat' split) <;> first | exact Or.inl rfl | exact Or.inr rfl | exact z_X4_allHold _ _ _ _
def S_X6_guessFits (σ : xMi) (K : Nat) (z : Nat) : xMi := (S_X4_allHold (S_X0_copyFrom σ 2 0) 2 K z)
theorem fr_S_X6_guessFits (σ : xMi) (K : Nat) (z : Nat) {t i k : Nat} (h : ¬ (t ≤ 4 ∧ i = 2)) : S_X6_guessFits σ K z t i k = σ t i k := by
  unfold S_X6_guessFits
  all_goals ((repeat' split) <;> first | rfl | simp (disch := first | omega | assumption) only [x_up_o, x_up_k, x_cp_o, fr_S_X0_copyFrom, fr_S_X4_allHold])
theorem c_X6_guessFits (l : Launch) (n : Nat) (σ : xMi)  (K : Nat) (z : Nat) (hn : 131 ≤ n) (hK : K ≤ 6) (hz6 : z ≤ 6) (hsz2 : σ 5 2 4 = (K : Int)) (hz : σ 15 0 3 = (z : Int)) (hwh : ∀ k, 0 ≤ σ 17 0 k ∧ σ 17 0 k < 6) (hdb : ∀ k, 0 ≤ σ 16 0 k ∧ σ 16 0 k ≤ 40) : x_F l yX6_guessFits RX6 cX6_guessFits 1 (some .boolean) 5 n σ [xR 23 0] (some (xI (V_X6_guessFits σ K z))) (S_X6_guessFits σ K z) := by
  refine f_of (by decide) rfl (Nat.le_of_ble_eq_true rfl) rfl ?_
  refine g_aload_n dX6_guessFits_0 rfl ?_
  refine g_getR (t2 := 0) (i2 := 2) dX6_guessFits_1 fl_X6_41 (x_vC hn (Nat.le_of_ble_eq_true rfl) (Nat.le_of_ble_eq_true rfl)) rfl rfl rfl ?_
  refine g_aload_n dX6_guessFits_4 rfl ?_
  refine g_getR (t2 := 0) (i2 := 0) dX6_guessFits_5 fl_X6_34 (x_vC hn (Nat.le_of_ble_eq_true rfl) (Nat.le_of_ble_eq_true rfl)) rfl rfl rfl ?_
  refine f_Vv dX6_guessFits_8 cs_X6_156 mb_X0_copyFrom (c_X0_copyFrom l n _ 2 0 hn (Nat.le_of_ble_eq_true rfl) (Nat.le_of_ble_eq_true rfl)) rfl (x_vC hn (Nat.le_of_ble_eq_true rfl) (Nat.le_of_ble_eq_true rfl)) rfl rfl rfl (Nat.le_of_ble_eq_true rfl) (by decide) (Nat.le_of_ble_eq_true rfl) (Nat.le_refl _) (Nat.le_refl _) ?_
  refine g_aload_n dX6_guessFits_11 rfl ?_
  refine g_getR (t2 := 15) (i2 := 0) dX6_guessFits_12 fl_X6_59 (x_vC hn (Nat.le_of_ble_eq_true rfl) (Nat.le_of_ble_eq_true rfl)) rfl rfl rfl ?_
  refine g_aload_n dX6_guessFits_15 rfl ?_
  refine g_getR (t2 := 0) (i2 := 2) dX6_guessFits_16 fl_X6_41 (x_vC hn (Nat.le_of_ble_eq_true rfl) (Nat.le_of_ble_eq_true rfl)) rfl rfl rfl ?_
  refine f_V dX6_guessFits_19 cs_X6_235 mb_X4_allHold (c_X4_allHold l n _ 2 K z hn (Nat.le_of_ble_eq_true rfl) hK hz6 (by first | exact hsz2 | (simp (disch := first | omega | assumption) only [x_up_o, x_up_k, x_cp_o, fr_S_X0_copyFrom]; exact hsz2)) (by first | exact hz | (simp (disch := first | omega | assumption) only [x_up_o, x_up_k, x_cp_o, fr_S_X0_copyFrom]; exact hz)) (by first | exact hwh | (simp (disch := first | omega | assumption) only [x_up_o, x_up_k, x_cp_o, fr_S_X0_copyFrom]; exact hwh)) (by first | exact hdb | (simp (disch := first | omega | assumption) only [x_up_o, x_up_k, x_cp_o, fr_S_X0_copyFrom]; exact hdb))) rfl (x_vC hn (Nat.le_of_ble_eq_true rfl) (Nat.le_of_ble_eq_true rfl)) rfl rfl rfl (Nat.le_of_ble_eq_true rfl) (by decide) (Nat.le_of_ble_eq_true rfl) (Nat.le_refl _) (Nat.le_refl _) ?_
  exact f_zret dX6_guessFits_22 (z_X4_allHold _ _ _ _) rfl rfl
