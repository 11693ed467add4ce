def V_X0_isTold (σ : xMi) (f : Nat) (p : Nat) : Int := (if x_wr (σ 4 f p) < 0 then 0 else 1)
theorem c_X0_isTold (l : Launch) (n : Nat) (σ : xMi) (f : Nat) (p : Nat) (hn : 131 ≤ n) (hf : f < 20) (hp : p < 6) : x_F l yX0_isTold RX0 cX0_isTold 2 (some .boolean) 0 n σ [xR 0 f, xI (p : Int)] (some (xI (V_X0_isTold σ f p))) σ := by
  refine f_of (by decide) rfl (Nat.le_of_ble_eq_true rfl) rfl ?_
  refine g_aload_n dX0_isTold_0 rfl ?_
  refine g_getR (t2 := 4) (i2 := f) dX0_isTold_1 fl_X0_21 (x_vC hn (Nat.le_of_ble_eq_true rfl) hf) rfl rfl rfl ?_
  refine g_iload_n dX0_isTold_4 rfl ?_
  refine g_iald p dX0_isTold_5 rfl hp (x_vC hn (Nat.le_of_ble_eq_true rfl) hf) rfl ?_
  refine g_if_lt 13 dX0_isTold_6 rfl (fun c_6 => ?_) (fun c_6 => ?_)
  · refine g_iconst dX0_isTold_13 ?_
    exact f_zret dX0_isTold_14 (by decide) (by unfold V_X0_isTold; rw [if_pos c_6]) rfl
  · refine g_iconst dX0_isTold_9 ?_
    refine g_goto 14 dX0_isTold_10 rfl ?_
    exact f_zret dX0_isTold_14 (by decide) (by unfold V_X0_isTold; rw [if_neg c_6]) rfl

def V_X0_isIn (σ : xMi) (b : Int) (q : Int) : Int := (if x_wr (x_and (x_shr b q) 1) = x_wr 1 then 1 else 0)
theorem c_X0_isIn (l : Launch) (n : Nat) (σ : xMi) (b : Int) (q : Int) (hn : 131 ≤ n)  : x_F l yX0_isIn RX0 cX0_isIn 2 (some .boolean) 0 n σ [xI b, xI q] (some (xI (V_X0_isIn σ b q))) σ := by
  refine f_of (by decide) rfl (Nat.le_of_ble_eq_true rfl) rfl ?_
  refine g_iload_n dX0_isIn_0 rfl ?_
  refine g_iload_n dX0_isIn_1 rfl ?_
  refine g_ishr dX0_isIn_2 ?_
  refine g_iconst dX0_isIn_3 ?_
  refine g_iand dX0_isIn_4 ?_
  refine g_iconst dX0_isIn_5 ?_
  refine g_cmp_ne 13 dX0_isIn_6 rfl (fun c_6 => ?_) (fun c_6 => ?_)
  · refine g_iconst dX0_isIn_13 ?_
    exact f_zret dX0_isIn_14 (by decide) (by unfold V_X0_isIn; rw [if_neg c_6]) rfl
  · refine g_iconst dX0_isIn_9 ?_
    refine g_goto 14 dX0_isIn_10 rfl ?_
    exact f_zret dX0_isIn_14 (by decide) (by unfold V_X0_isIn; rw [if_pos c_6]) rfl

def V_X0_eatingDays (σ : xMi) (k : Int) (h : Int) : Int := (if x_wr k = x_wr 2 then h else (if x_wr k = x_wr 1 then ((2 * h) + 2) else (2 * h)))
theorem c_X0_eatingDays (l : Launch) (n : Nat) (σ : xMi) (k : Int) (h : Int) (hn : 131 ≤ n)  : x_F l yX0_eatingDays RX0 cX0_eatingDays 2 (some .int) 0 n σ [xI k, xI h] (some (xI (V_X0_eatingDays σ k h))) σ := by
  refine f_of (by decide) rfl (Nat.le_of_ble_eq_true rfl) rfl ?_
  refine g_iload_n dX0_eatingDays_0 rfl ?_
  refine g_iconst dX0_eatingDays_1 ?_
  refine g_cmp_ne 7 dX0_eatingDays_2 rfl (fun c_2 => ?_) (fun c_2 => ?_)
  · refine g_iload_n dX0_eatingDays_7 rfl ?_
    refine g_iconst dX0_eatingDays_8 ?_
    refine g_cmp_ne 20 dX0_eatingDays_9 rfl (fun c_9 => ?_) (fun c_9 => ?_)
    · refine g_iconst dX0_eatingDays_20 ?_
      refine g_iload_n dX0_eatingDays_21 rfl ?_
      refine g_imul dX0_eatingDays_22 ?_
      exact f_iret dX0_eatingDays_23 (by unfold V_X0_eatingDays; rw [if_neg c_2, if_neg c_9]) rfl
    · refine g_iconst dX0_eatingDays_12 ?_
      refine g_iload_n dX0_eatingDays_13 rfl ?_
      refine g_imul dX0_eatingDays_14 ?_
      refine g_iconst dX0_eatingDays_15 ?_
      refine g_iadd dX0_eatingDays_16 ?_
      refine g_goto 23 dX0_eatingDays_17 rfl ?_
      exact f_iret dX0_eatingDays_23 (by unfold V_X0_eatingDays; rw [if_neg c_2, if_pos c_9]) rfl
  · refine g_iload_n dX0_eatingDays_5 rfl ?_
    exact f_iret dX0_eatingDays_6 (by unfold V_X0_eatingDays; rw [if_pos c_2]) rfl

def V_X0_wayDays (σ : xMi) (f : Nat) (p : Nat) : Int := ((x_div (σ 7 (x_rof f) p) 10) + 1)
theorem c_X0_wayDays (l : Launch) (n : Nat) (σ : xMi) (f : Nat) (p : Nat) (hn : 131 ≤ n) (hf : f < 20) (hp : p < 6) : x_F l yX0_wayDays RX0 cX0_wayDays 2 (some .int) 0 n σ [xR 0 f, xI (p : Int)] (some (xI (V_X0_wayDays σ f p))) σ := by
  refine f_of (by decide) rfl (Nat.le_of_ble_eq_true rfl) rfl ?_
  refine g_aload_n dX0_wayDays_0 rfl ?_
  refine g_getR (t2 := 5) (i2 := (x_rof f)) dX0_wayDays_1 fl_X0_47 (x_vC hn (Nat.le_of_ble_eq_true rfl) hf) rfl rfl rfl ?_
  refine g_getR (t2 := 7) (i2 := (x_rof f)) dX0_wayDays_4 fl_X0_125 (x_vC hn (Nat.le_of_ble_eq_true rfl) (x_rof_lt _)) rfl rfl rfl ?_
  refine g_iload_n dX0_wayDays_7 rfl ?_
  refine g_iald p dX0_wayDays_8 rfl hp (x_vC hn (Nat.le_of_ble_eq_true rfl) (x_rof_lt _)) rfl ?_
  refine g_bipush dX0_wayDays_9 (by decide) ?_
  refine g_idiv dX0_wayDays_11 (by decide) ?_
  refine g_iconst dX0_wayDays_12 ?_
  refine g_iadd dX0_wayDays_13 ?_
  exact f_iret dX0_wayDays_14 rfl rfl

def V_X0_canBeSentOne (σ : xMi) (f : Nat) (p : Nat) : Int := (if x_wr (σ 1 f p) = 0 then (if x_wr (V_X0_isIn σ (σ 0 f 5) (p : Int)) = 0 then (if x_wr (V_X0_isTold σ f p) = 0 then 1 else 0) else 0) else 0)
theorem c_X0_canBeSentOne (l : Launch) (n : Nat) (σ : xMi) (f : Nat) (p : Nat) (hn : 131 ≤ n) (hf : f < 20) (hp : p < 6) : x_F l yX0_canBeSentOne RX0 cX0_canBeSentOne 2 (some .boolean) 1 n σ [xR 0 f, xI (p : Int)] (some (xI (V_X0_canBeSentOne σ f p))) σ := by
  refine f_of (by decide) rfl (Nat.le_of_ble_eq_true rfl) rfl ?_
  refine g_aload_n dX0_canBeSentOne_0 rfl ?_
  refine g_getR (t2 := 1) (i2 := f) dX0_canBeSentOne_1 fl_X0_9 (x_vC hn (Nat.le_of_ble_eq_true rfl) hf) rfl rfl rfl ?_
  refine g_iload_n dX0_canBeSentOne_4 rfl ?_
  refine g_iald p dX0_canBeSentOne_5 rfl hp (x_vC hn (Nat.le_of_ble_eq_true rfl) hf) rfl ?_
  refine g_if_ne 32 dX0_canBeSentOne_6 rfl (fun c_6 => ?_) (fun c_6 => ?_)
  · refine g_iconst dX0_canBeSentOne_32 ?_
    exact f_zret dX0_canBeSentOne_33 (by decide) (by unfold V_X0_canBeSentOne; rw [if_neg c_6]) rfl
  · refine g_aload_n dX0_canBeSentOne_9 rfl ?_
    refine g_getI dX0_canBeSentOne_10 fl_X0_24 (x_vC hn (Nat.le_of_ble_eq_true rfl) hf) rfl rfl ?_
    refine g_iload_n dX0_canBeSentOne_13 rfl ?_
    refine f_S dX0_canBeSentOne_14 cs_X0_60 mb_X0_isIn (c_X0_isIn l n _ (σ 0 f 5) (p : Int) hn) rfl (Nat.lt_of_lt_of_le (by decide) hn) rfl (Nat.le_of_ble_eq_true rfl) (by decide) (Nat.le_of_ble_eq_true rfl) (Nat.le_refl _) (Nat.le_refl _) ?_
    refine g_if_ne 32 dX0_canBeSentOne_17 rfl (fun c_17 => ?_) (fun c_17 => ?_)
    · refine g_iconst dX0_canBeSentOne_32 ?_
      exact f_zret dX0_canBeSentOne_33 (by decide) (by unfold V_X0_canBeSentOne; rw [if_pos c_6, if_neg c_17]) rfl
    · refine g_aload_n dX0_canBeSentOne_20 rfl ?_
      refine g_iload_n dX0_canBeSentOne_21 rfl ?_
      refine f_V dX0_canBeSentOne_22 cs_X0_64 mb_X0_isTold (c_X0_isTold l n _ f p hn hf hp) rfl (x_vC hn (Nat.le_of_ble_eq_true rfl) hf) rfl rfl rfl (Nat.le_of_ble_eq_true rfl) (by decide) (Nat.le_of_ble_eq_true rfl) (Nat.le_refl _) (Nat.le_refl _) ?_
      refine g_if_ne 32 dX0_canBeSentOne_25 rfl (fun c_25 => ?_) (fun c_25 => ?_)
      · refine g_iconst dX0_canBeSentOne_32 ?_
        exact f_zret dX0_canBeSentOne_33 (by decide) (by unfold V_X0_canBeSentOne; rw [if_pos c_6, if_pos c_17, if_neg c_25]) rfl
      · refine g_iconst dX0_canBeSentOne_28 ?_
        refine g_goto 33 dX0_canBeSentOne_29 rfl ?_
        exact f_zret dX0_canBeSentOne_33 (by decide) (by unfold V_X0_canBeSentOne; rw [if_pos c_6, if_pos c_17, if_pos c_25]) rfl

def V_X0_canSendNow (σ : xMi) (f : Nat) (p : Nat) : Int := (if x_wr (V_X0_canBeSentOne σ f p) = 0 then 0 else (if x_wr (σ 0 f 9) ≤ 0 then 0 else (if x_wr (x_bn (σ 0 f 11)) = 0 then 1 else 0)))
theorem c_X0_canSendNow (l : Launch) (n : Nat) (σ : xMi) (f : Nat) (p : Nat) (hn : 131 ≤ n) (hf : f < 20) (hp : p < 6) : x_F l yX0_canSendNow RX0 cX0_canSendNow 2 (some .boolean) 2 n σ [xR 0 f, xI (p : Int)] (some (xI (V_X0_canSendNow σ f p))) σ := by
  refine f_of (by decide) rfl (Nat.le_of_ble_eq_true rfl) rfl ?_
  refine g_aload_n dX0_canSendNow_0 rfl ?_
  refine g_iload_n dX0_canSendNow_1 rfl ?_
  refine f_V dX0_canSendNow_2 cs_X0_68 mb_X0_canBeSentOne (c_X0_canBeSentOne l n _ f p hn hf hp) rfl (x_vC hn (Nat.le_of_ble_eq_true rfl) hf) rfl rfl rfl (Nat.le_of_ble_eq_true rfl) (by decide) (Nat.le_of_ble_eq_true rfl) (Nat.le_refl _) (Nat.le_refl _) ?_
  refine g_if_eq 26 dX0_canSendNow_5 rfl (fun c_5 => ?_) (fun c_5 => ?_)
  · refine g_iconst dX0_canSendNow_26 ?_
    exact f_zret dX0_canSendNow_27 (by decide) (by unfold V_X0_canSendNow; rw [if_pos c_5]) rfl
  · refine g_aload_n dX0_canSendNow_8 rfl ?_
    refine g_getI dX0_canSendNow_9 fl_X0_37 (x_vC hn (Nat.le_of_ble_eq_true rfl) hf) rfl rfl ?_
    refine g_if_le 26 dX0_canSendNow_12 rfl (fun c_12 => ?_) (fun c_12 => ?_)
    · refine g_iconst dX0_canSendNow_26 ?_
      exact f_zret dX0_canSendNow_27 (by decide) (by unfold V_X0_canSendNow; rw [if_neg c_5, if_pos c_12]) rfl
    · refine g_aload_n dX0_canSendNow_15 rfl ?_
      refine g_getZ dX0_canSendNow_16 fl_X0_43 (x_vC hn (Nat.le_of_ble_eq_true rfl) hf) rfl rfl ?_
      refine g_if_ne 26 dX0_canSendNow_19 rfl (fun c_19 => ?_) (fun c_19 => ?_)
      · refine g_iconst dX0_canSendNow_26 ?_
        exact f_zret dX0_canSendNow_27 (by decide) (by unfold V_X0_canSendNow; rw [if_neg c_5, if_neg c_12, if_neg c_19]) rfl
      · refine g_iconst dX0_canSendNow_22 ?_
        refine g_goto 27 dX0_canSendNow_23 rfl ?_
        exact f_zret dX0_canSendNow_27 (by decide) (by unfold V_X0_canSendNow; rw [if_neg c_5, if_neg c_12, if_pos c_19]) rfl

def S_X0_dispatch (σ : xMi) (f : Nat) (p : Nat) : xMi := (x_up (x_up (x_up (x_up σ 0 f 9 ((σ 0 f 9) - 1)) 0 f 11 1) 1 f p 1) 2 f p (((x_up (x_up (x_up σ 0 f 9 ((σ 0 f 9) - 1)) 0 f 11 1) 1 f p 1) 0 f 10) + (V_X0_wayDays (x_up (x_up (x_up σ 0 f 9 ((σ 0 f 9) - 1)) 0 f 11 1) 1 f p 1) f p)))
theorem c_X0_dispatch (l : Launch) (n : Nat) (σ : xMi) (f : Nat) (p : Nat) (hn : 131 ≤ n) (hf : f < 20) (hp : p < 6) : x_F l yX0_dispatch RX0 cX0_dispatch 2 none 1 n σ [xR 0 f, xI (p : Int)] none (S_X0_dispatch σ f p) := by
  refine f_of (by decide) rfl (Nat.le_of_ble_eq_true rfl) rfl ?_
  refine g_aload_n dX0_dispatch_0 rfl ?_
  refine g_dup dX0_dispatch_1 rfl ?_
  refine g_getI dX0_dispatch_2 fl_X0_37 (x_vC hn (Nat.le_of_ble_eq_true rfl) hf) rfl rfl ?_
  refine g_iconst dX0_dispatch_5 ?_
  refine g_isub dX0_dispatch_6 ?_
  refine g_putI dX0_dispatch_7 fl_X0_37 (x_vC hn (Nat.le_of_ble_eq_true rfl) hf) rfl rfl ?_
  refine g_aload_n dX0_dispatch_10 rfl ?_
  refine g_iconst dX0_dispatch_11 ?_
  refine g_putZ dX0_dispatch_12 fl_X0_43 (x_vC hn (Nat.le_of_ble_eq_true rfl) hf) rfl rfl rfl ?_
  refine g_aload_n dX0_dispatch_15 rfl ?_
  refine g_getR (t2 := 1) (i2 := f) dX0_dispatch_16 fl_X0_9 (x_vC hn (Nat.le_of_ble_eq_true rfl) hf) rfl rfl rfl ?_
  refine g_iload_n dX0_dispatch_19 rfl ?_
  refine g_iconst dX0_dispatch_20 ?_
  refine g_iast p dX0_dispatch_21 rfl hp (x_vC hn (Nat.le_of_ble_eq_true rfl) hf) rfl ?_
  refine g_aload_n dX0_dispatch_22 rfl ?_
  refine g_getR (t2 := 2) (i2 := f) dX0_dispatch_23 fl_X0_15 (x_vC hn (Nat.le_of_ble_eq_true rfl) hf) rfl rfl rfl ?_
  refine g_iload_n dX0_dispatch_26 rfl ?_
  refine g_aload_n dX0_dispatch_27 rfl ?_
  refine g_getI dX0_dispatch_28 fl_X0_40 (x_vC hn (Nat.le_of_ble_eq_true rfl) hf) rfl rfl ?_
  refine g_aload_n dX0_dispatch_31 rfl ?_
  refine g_iload_n dX0_dispatch_32 rfl ?_
  refine f_V dX0_dispatch_33 cs_X0_71 mb_X0_wayDays (c_X0_wayDays l n _ f p hn hf hp) rfl (x_vC hn (Nat.le_of_ble_eq_true rfl) hf) rfl rfl rfl (Nat.le_of_ble_eq_true rfl) (by decide) (Nat.le_of_ble_eq_true rfl) (Nat.le_refl _) (Nat.le_refl _) ?_
  refine g_iadd dX0_dispatch_36 ?_
  refine g_iast p dX0_dispatch_37 rfl hp (x_vC hn (Nat.le_of_ble_eq_true rfl) hf) rfl ?_
  exact f_vret dX0_dispatch_38 rfl rfl

def S_X0_recall (σ : xMi) (f : Nat) (p : Nat) : xMi := (x_up (x_up (x_up (x_up σ 0 f 9 (x_min 20 ((σ 0 f 9) + (σ 1 f p)))) 1 f p 0) 2 f p (-4)) 0 f 7 (x_and ((x_up (x_up (x_up σ 0 f 9 (x_min 20 ((σ 0 f 9) + (σ 1 f p)))) 1 f p 0) 2 f p (-4)) 0 f 7) (x_xor (x_shl 1 (p : Int)) (-1))))
theorem c_X0_recall (l : Launch) (n : Nat) (σ : xMi) (f : Nat) (p : Nat) (hn : 131 ≤ n) (hf : f < 20) (hp : p < 6) : x_F l yX0_recall RX0 cX0_recall 2 none 1 n σ [xR 0 f, xI (p : Int)] none (S_X0_recall σ f p) := by
  refine f_of (by decide) rfl (Nat.le_of_ble_eq_true rfl) rfl ?_
  refine g_aload_n dX0_recall_0 rfl ?_
  refine g_bipush dX0_recall_1 (by decide) ?_
  refine g_aload_n dX0_recall_3 rfl ?_
  refine g_getI dX0_recall_4 fl_X0_37 (x_vC hn (Nat.le_of_ble_eq_true rfl) hf) rfl rfl ?_
  refine g_aload_n dX0_recall_7 rfl ?_
  refine g_getR (t2 := 1) (i2 := f) dX0_recall_8 fl_X0_9 (x_vC hn (Nat.le_of_ble_eq_true rfl) hf) rfl rfl rfl ?_
  refine g_iload_n dX0_recall_11 rfl ?_
  refine g_iald p dX0_recall_12 rfl hp (x_vC hn (Nat.le_of_ble_eq_true rfl) hf) rfl ?_
  refine g_iadd dX0_recall_13 ?_
  refine g_min dX0_recall_14 cx_X0_75 w_min.1 w_min.2.1 w_min.2.2 (by decide) (Nat.le_of_ble_eq_true rfl) (Nat.le_refl _) (Nat.le_refl _) ?_
  refine g_putI dX0_recall_17 fl_X0_37 (x_vC hn (Nat.le_of_ble_eq_true rfl) hf) rfl rfl ?_
  refine g_aload_n dX0_recall_20 rfl ?_
  refine g_getR (t2 := 1) (i2 := f) dX0_recall_21 fl_X0_9 (x_vC hn (Nat.le_of_ble_eq_true rfl) hf) rfl rfl rfl ?_
  refine g_iload_n dX0_recall_24 rfl ?_
  refine g_iconst dX0_recall_25 ?_
  refine g_iast p dX0_recall_26 rfl hp (x_vC hn (Nat.le_of_ble_eq_true rfl) hf) rfl ?_
  refine g_aload_n dX0_recall_27 rfl ?_
  refine g_getR (t2 := 2) (i2 := f) dX0_recall_28 fl_X0_15 (x_vC hn (Nat.le_of_ble_eq_true rfl) hf) rfl rfl rfl ?_
  refine g_iload_n dX0_recall_31 rfl ?_
  refine g_bipush dX0_recall_32 (by decide) ?_
  refine g_iast p dX0_recall_34 rfl hp (x_vC hn (Nat.le_of_ble_eq_true rfl) hf) rfl ?_
  refine g_aload_n dX0_recall_35 rfl ?_
  refine g_dup dX0_recall_36 rfl ?_
  refine g_getI dX0_recall_37 fl_X0_31 (x_vC hn (Nat.le_of_ble_eq_true rfl) hf) rfl rfl ?_
  refine g_iconst dX0_recall_40 ?_
  refine g_iload_n dX0_recall_41 rfl ?_
  refine g_ishl dX0_recall_42 ?_
  refine g_iconst dX0_recall_43 ?_
  refine g_ixor dX0_recall_44 ?_
  refine g_iand dX0_recall_45 ?_
  refine g_putI dX0_recall_46 fl_X0_31 (x_vC hn (Nat.le_of_ble_eq_true rfl) hf) rfl rfl ?_
  exact f_vret dX0_recall_49 rfl rfl

def V_X0_willRefuse (σ : xMi) (f : Nat) (p : Nat) : Int := (if x_wr (σ 6 (x_rof f) p) = x_wr 3 then (if x_wr (V_X0_isIn σ (σ 0 f 7) (p : Int)) = 0 then 1 else 0) else 0)
theorem c_X0_willRefuse (l : Launch) (n : Nat) (σ : xMi) (f : Nat) (p : Nat) (hn : 131 ≤ n) (hf : f < 20) (hp : p < 6) : x_F l yX0_willRefuse RX0 cX0_willRefuse 2 (some .boolean) 1 n σ [xR 0 f, xI (p : Int)] (some (xI (V_X0_willRefuse σ f p))) σ := by
  refine f_of (by decide) rfl (Nat.le_of_ble_eq_true rfl) rfl ?_
  refine g_aload_n dX0_willRefuse_0 rfl ?_
  refine g_getR (t2 := 5) (i2 := (x_rof f)) dX0_willRefuse_1 fl_X0_47 (x_vC hn (Nat.le_of_ble_eq_true rfl) hf) rfl rfl rfl ?_
  refine g_getR (t2 := 6) (i2 := (x_rof f)) dX0_willRefuse_4 fl_X0_98 (x_vC hn (Nat.le_of_ble_eq_true rfl) (x_rof_lt _)) rfl rfl rfl ?_
  refine g_iload_n dX0_willRefuse_7 rfl ?_
  refine g_iald p dX0_willRefuse_8 rfl hp (x_vC hn (Nat.le_of_ble_eq_true rfl) (x_rof_lt _)) rfl ?_
  refine g_iconst dX0_willRefuse_9 ?_
  refine g_cmp_ne 28 dX0_willRefuse_10 rfl (fun c_10 => ?_) (fun c_10 => ?_)
  · refine g_iconst dX0_willRefuse_28 ?_
    exact f_zret dX0_willRefuse_29 (by decide) (by unfold V_X0_willRefuse; rw [if_neg c_10]) rfl
  · refine g_aload_n dX0_willRefuse_13 rfl ?_
    refine g_getI dX0_willRefuse_14 fl_X0_31 (x_vC hn (Nat.le_of_ble_eq_true rfl) hf) rfl rfl ?_
    refine g_iload_n dX0_willRefuse_17 rfl ?_
    refine f_S dX0_willRefuse_18 cs_X0_60 mb_X0_isIn (c_X0_isIn l n _ (σ 0 f 7) (p : Int) hn) rfl (Nat.lt_of_lt_of_le (by decide) hn) rfl (Nat.le_of_ble_eq_true rfl) (by decide) (Nat.le_of_ble_eq_true rfl) (Nat.le_refl _) (Nat.le_refl _) ?_
    refine g_if_ne 28 dX0_willRefuse_21 rfl (fun c_21 => ?_) (fun c_21 => ?_)
    · refine g_iconst dX0_willRefuse_28 ?_
      exact f_zret dX0_willRefuse_29 (by decide) (by unfold V_X0_willRefuse; rw [if_pos c_10, if_neg c_21]) rfl
    · refine g_iconst dX0_willRefuse_24 ?_
      refine g_goto 29 dX0_willRefuse_25 rfl ?_
      exact f_zret dX0_willRefuse_29 (by decide) (by unfold V_X0_willRefuse; rw [if_pos c_10, if_pos c_21]) rfl

def S_X0_comeIn (σ : xMi) (f : Nat) (p : Nat) : xMi := (if x_wr (V_X0_willRefuse σ f p) = 0 then (x_up (x_up (x_up (x_up σ 3 f p (V_X0_eatingDays σ (σ 6 (x_rof f) p) (σ 1 f p))) 0 f 5 (x_or ((x_up σ 3 f p (V_X0_eatingDays σ (σ 6 (x_rof f) p) (σ 1 f p))) 0 f 5) (x_shl 1 (p : Int)))) 1 f p 0) 2 f p (-4)) else (if x_wr ((x_up (x_up (x_up σ 0 f 7 (x_or (σ 0 f 7) (x_shl 1 (p : Int)))) 0 f 8 (((x_up σ 0 f 7 (x_or (σ 0 f 7) (x_shl 1 (p : Int)))) 0 f 8) + 1)) 2 f p (((x_up (x_up σ 0 f 7 (x_or (σ 0 f 7) (x_shl 1 (p : Int)))) 0 f 8 (((x_up σ 0 f 7 (x_or (σ 0 f 7) (x_shl 1 (p : Int)))) 0 f 8) + 1)) 0 f 10) + 1)) 0 f 9) ≤ 0 then (x_up (x_up (x_up σ 0 f 7 (x_or (σ 0 f 7) (x_shl 1 (p : Int)))) 0 f 8 (((x_up σ 0 f 7 (x_or (σ 0 f 7) (x_shl 1 (p : Int)))) 0 f 8) + 1)) 2 f p (((x_up (x_up σ 0 f 7 (x_or (σ 0 f 7) (x_shl 1 (p : Int)))) 0 f 8 (((x_up σ 0 f 7 (x_or (σ 0 f 7) (x_shl 1 (p : Int)))) 0 f 8) + 1)) 0 f 10) + 1)) else (x_up (x_up (x_up (x_up (x_up σ 0 f 7 (x_or (σ 0 f 7) (x_shl 1 (p : Int)))) 0 f 8 (((x_up σ 0 f 7 (x_or (σ 0 f 7) (x_shl 1 (p : Int)))) 0 f 8) + 1)) 2 f p (((x_up (x_up σ 0 f 7 (x_or (σ 0 f 7) (x_shl 1 (p : Int)))) 0 f 8 (((x_up σ 0 f 7 (x_or (σ 0 f 7) (x_shl 1 (p : Int)))) 0 f 8) + 1)) 0 f 10) + 1)) 0 f 9 (((x_up (x_up (x_up σ 0 f 7 (x_or (σ 0 f 7) (x_shl 1 (p : Int)))) 0 f 8 (((x_up σ 0 f 7 (x_or (σ 0 f 7) (x_shl 1 (p : Int)))) 0 f 8) + 1)) 2 f p (((x_up (x_up σ 0 f 7 (x_or (σ 0 f 7) (x_shl 1 (p : Int)))) 0 f 8 (((x_up σ 0 f 7 (x_or (σ 0 f 7) (x_shl 1 (p : Int)))) 0 f 8) + 1)) 0 f 10) + 1)) 0 f 9) - 1)) 1 f p 2)))
theorem c_X0_comeIn (l : Launch) (n : Nat) (σ : xMi) (f : Nat) (p : Nat) (hn : 131 ≤ n) (hf : f < 20) (hp : p < 6) : x_F l yX0_comeIn RX0 cX0_comeIn 2 none 2 n σ [xR 0 f, xI (p : Int)] none (S_X0_comeIn σ f p) := by
  refine f_of (by decide) rfl (Nat.le_of_ble_eq_true rfl) rfl ?_
  refine g_aload_n dX0_comeIn_0 rfl ?_
  refine g_iload_n dX0_comeIn_1 rfl ?_
  refine f_V dX0_comeIn_2 cs_X0_95 mb_X0_willRefuse (c_X0_willRefuse l n _ f p hn hf hp) rfl (x_vC hn (Nat.le_of_ble_eq_true rfl) hf) rfl rfl rfl (Nat.le_of_ble_eq_true rfl) (by decide) (Nat.le_of_ble_eq_true rfl) (Nat.le_refl _) (Nat.le_refl _) ?_
  refine g_if_eq 67 dX0_comeIn_5 rfl (fun c_5 => ?_) (fun c_5 => ?_)
  · refine g_aload_n dX0_comeIn_67 rfl ?_
    refine g_getR (t2 := 3) (i2 := f) dX0_comeIn_68 fl_X0_18 (x_vC hn (Nat.le_of_ble_eq_true rfl) hf) rfl rfl rfl ?_
    refine g_iload_n dX0_comeIn_71 rfl ?_
    refine g_aload_n dX0_comeIn_72 rfl ?_
    refine g_getR (t2 := 5) (i2 := (x_rof f)) dX0_comeIn_73 fl_X0_47 (x_vC hn (Nat.le_of_ble_eq_true rfl) hf) rfl rfl rfl ?_
    refine g_getR (t2 := 6) (i2 := (x_rof f)) dX0_comeIn_76 fl_X0_98 (x_vC hn (Nat.le_of_ble_eq_true rfl) (x_rof_lt _)) rfl rfl rfl ?_
    refine g_iload_n dX0_comeIn_79 rfl ?_
    refine g_iald p dX0_comeIn_80 rfl hp (x_vC hn (Nat.le_of_ble_eq_true rfl) (x_rof_lt _)) rfl ?_
    refine g_aload_n dX0_comeIn_81 rfl ?_
    refine g_getR (t2 := 1) (i2 := f) dX0_comeIn_82 fl_X0_9 (x_vC hn (Nat.le_of_ble_eq_true rfl) hf) rfl rfl rfl ?_
    refine g_iload_n dX0_comeIn_85 rfl ?_
    refine g_iald p dX0_comeIn_86 rfl hp (x_vC hn (Nat.le_of_ble_eq_true rfl) hf) rfl ?_
    refine f_S dX0_comeIn_87 cs_X0_101 mb_X0_eatingDays (c_X0_eatingDays l n _ (σ 6 (x_rof f) p) (σ 1 f p) hn) rfl (Nat.lt_of_lt_of_le (by decide) hn) rfl (Nat.le_of_ble_eq_true rfl) (by decide) (Nat.le_of_ble_eq_true rfl) (Nat.le_refl _) (Nat.le_refl _) ?_
    refine g_iast p dX0_comeIn_90 rfl hp (x_vC hn (Nat.le_of_ble_eq_true rfl) hf) rfl ?_
    refine g_aload_n dX0_comeIn_91 rfl ?_
    refine g_dup dX0_comeIn_92 rfl ?_
    refine g_getI dX0_comeIn_93 fl_X0_24 (x_vC hn (Nat.le_of_ble_eq_true rfl) hf) rfl rfl ?_
    refine g_iconst dX0_comeIn_96 ?_
    refine g_iload_n dX0_comeIn_97 rfl ?_
    refine g_ishl dX0_comeIn_98 ?_
    refine g_ior dX0_comeIn_99 ?_
    refine g_putI dX0_comeIn_100 fl_X0_24 (x_vC hn (Nat.le_of_ble_eq_true rfl) hf) rfl rfl ?_
    refine g_aload_n dX0_comeIn_103 rfl ?_
    refine g_getR (t2 := 1) (i2 := f) dX0_comeIn_104 fl_X0_9 (x_vC hn (Nat.le_of_ble_eq_true rfl) hf) rfl rfl rfl ?_
    refine g_iload_n dX0_comeIn_107 rfl ?_
    refine g_iconst dX0_comeIn_108 ?_
    refine g_iast p dX0_comeIn_109 rfl hp (x_vC hn (Nat.le_of_ble_eq_true rfl) hf) rfl ?_
    refine g_aload_n dX0_comeIn_110 rfl ?_
    refine g_getR (t2 := 2) (i2 := f) dX0_comeIn_111 fl_X0_15 (x_vC hn (Nat.le_of_ble_eq_true rfl) hf) rfl rfl rfl ?_
    refine g_iload_n dX0_comeIn_114 rfl ?_
    refine g_bipush dX0_comeIn_115 (by decide) ?_
    refine g_iast p dX0_comeIn_117 rfl hp (x_vC hn (Nat.le_of_ble_eq_true rfl) hf) rfl ?_
    exact f_vret dX0_comeIn_118 rfl (by unfold S_X0_comeIn; rw [if_pos c_5])
  · refine g_aload_n dX0_comeIn_8 rfl ?_
    refine g_dup dX0_comeIn_9 rfl ?_
    refine g_getI dX0_comeIn_10 fl_X0_31 (x_vC hn (Nat.le_of_ble_eq_true rfl) hf) rfl rfl ?_
    refine g_iconst dX0_comeIn_13 ?_
    refine g_iload_n dX0_comeIn_14 rfl ?_
    refine g_ishl dX0_comeIn_15 ?_
    refine g_ior dX0_comeIn_16 ?_
    refine g_putI dX0_comeIn_17 fl_X0_31 (x_vC hn (Nat.le_of_ble_eq_true rfl) hf) rfl rfl ?_
    refine g_aload_n dX0_comeIn_20 rfl ?_
    refine g_dup dX0_comeIn_21 rfl ?_
    refine g_getI dX0_comeIn_22 fl_X0_34 (x_vC hn (Nat.le_of_ble_eq_true rfl) hf) rfl rfl ?_
    refine g_iconst dX0_comeIn_25 ?_
    refine g_iadd dX0_comeIn_26 ?_
    refine g_putI dX0_comeIn_27 fl_X0_34 (x_vC hn (Nat.le_of_ble_eq_true rfl) hf) rfl rfl ?_
    refine g_aload_n dX0_comeIn_30 rfl ?_
    refine g_getR (t2 := 2) (i2 := f) dX0_comeIn_31 fl_X0_15 (x_vC hn (Nat.le_of_ble_eq_true rfl) hf) rfl rfl rfl ?_
    refine g_iload_n dX0_comeIn_34 rfl ?_
    refine g_aload_n dX0_comeIn_35 rfl ?_
    refine g_getI dX0_comeIn_36 fl_X0_40 (x_vC hn (Nat.le_of_ble_eq_true rfl) hf) rfl rfl ?_
    refine g_iconst dX0_comeIn_39 ?_
    refine g_iadd dX0_comeIn_40 ?_
    refine g_iast p dX0_comeIn_41 rfl hp (x_vC hn (Nat.le_of_ble_eq_true rfl) hf) rfl ?_
    refine g_aload_n dX0_comeIn_42 rfl ?_
    refine g_getI dX0_comeIn_43 fl_X0_37 (x_vC hn (Nat.le_of_ble_eq_true rfl) hf) rfl rfl ?_
    refine g_if_le 66 dX0_comeIn_46 rfl (fun c_46 => ?_) (fun c_46 => ?_)
    · exact f_vret dX0_comeIn_66 rfl (by unfold S_X0_comeIn; rw [if_neg c_5, if_pos c_46])
    · refine g_aload_n dX0_comeIn_49 rfl ?_
      refine g_dup dX0_comeIn_50 rfl ?_
      refine g_getI dX0_comeIn_51 fl_X0_37 (x_vC hn (Nat.le_of_ble_eq_true rfl) hf) rfl rfl ?_
      refine g_iconst dX0_comeIn_54 ?_
      refine g_isub dX0_comeIn_55 ?_
      refine g_putI dX0_comeIn_56 fl_X0_37 (x_vC hn (Nat.le_of_ble_eq_true rfl) hf) rfl rfl ?_
      refine g_aload_n dX0_comeIn_59 rfl ?_
      refine g_getR (t2 := 1) (i2 := f) dX0_comeIn_60 fl_X0_9 (x_vC hn (Nat.le_of_ble_eq_true rfl) hf) rfl rfl rfl ?_
      refine g_iload_n dX0_comeIn_63 rfl ?_
      refine g_iconst dX0_comeIn_64 ?_
      refine g_iast p dX0_comeIn_65 rfl hp (x_vC hn (Nat.le_of_ble_eq_true rfl) hf) rfl ?_
      exact f_vret dX0_comeIn_66 rfl (by unfold S_X0_comeIn; rw [if_neg c_5, if_neg c_46])

def V_X0_endsSoft (σ : xMi) (f : Nat) (p : Nat) : Int := (if x_wr (V_X0_isTold σ f p) = 0 then (if x_wr (V_X0_isIn σ (σ 0 f 5) (p : Int)) = 0 then (if x_wr (V_X0_willRefuse σ f p) = 0 then (if x_wr (σ 1 f p) ≤ 0 then 0 else (if x_wr (σ 8 (x_rof f) p) < x_wr ((x_max (σ 2 f p) (σ 0 f 10)) + 0) then 0 else 1)) else (if x_wr (σ 1 f p) ≤ 0 then 0 else (if x_wr (σ 8 (x_rof f) p) < x_wr ((x_max (σ 2 f p) (σ 0 f 10)) + 1) then 0 else 1))) else 1) else (V_X0_isIn σ (σ 0 f 6) (p : Int)))
theorem c_X0_endsSoft (l : Launch) (n : Nat) (σ : xMi) (f : Nat) (p : Nat) (hn : 131 ≤ n) (hf : f < 20) (hp : p < 6) : x_F l yX0_endsSoft RX0 cX0_endsSoft 3 (some .boolean) 2 n σ [xR 0 f, xI (p : Int)] (some (xI (V_X0_endsSoft σ f p))) σ := by
  refine f_of (by decide) rfl (Nat.le_of_ble_eq_true rfl) rfl ?_
  refine g_aload_n dX0_endsSoft_0 rfl ?_
  refine g_iload_n dX0_endsSoft_1 rfl ?_
  refine f_V dX0_endsSoft_2 cs_X0_64 mb_X0_isTold (c_X0_isTold l n _ f p hn hf hp) rfl (x_vC hn (Nat.le_of_ble_eq_true rfl) hf) rfl rfl rfl (Nat.le_of_ble_eq_true rfl) (by decide) (Nat.le_of_ble_eq_true rfl) (Nat.le_refl _) (Nat.le_refl _) ?_
  refine g_if_eq 17 dX0_endsSoft_5 rfl (fun c_5 => ?_) (fun c_5 => ?_)
  · refine g_aload_n dX0_endsSoft_17 rfl ?_
    refine g_getI dX0_endsSoft_18 fl_X0_24 (x_vC hn (Nat.le_of_ble_eq_true rfl) hf) rfl rfl ?_
    refine g_iload_n dX0_endsSoft_21 rfl ?_
    refine f_S dX0_endsSoft_22 cs_X0_60 mb_X0_isIn (c_X0_isIn l n _ (σ 0 f 5) (p : Int) hn) rfl (Nat.lt_of_lt_of_le (by decide) hn) rfl (Nat.le_of_ble_eq_true rfl) (by decide) (Nat.le_of_ble_eq_true rfl) (Nat.le_refl _) (Nat.le_refl _) ?_
    refine g_if_eq 30 dX0_endsSoft_25 rfl (fun c_25 => ?_) (fun c_25 => ?_)
    · refine g_aload_n dX0_endsSoft_30 rfl ?_
      refine g_getR (t2 := 2) (i2 := f) dX0_endsSoft_31 fl_X0_15 (x_vC hn (Nat.le_of_ble_eq_true rfl) hf) rfl rfl rfl ?_
      refine g_iload_n dX0_endsSoft_34 rfl ?_
      refine g_iald p dX0_endsSoft_35 rfl hp (x_vC hn (Nat.le_of_ble_eq_true rfl) hf) rfl ?_
      refine g_aload_n dX0_endsSoft_36 rfl ?_
      refine g_getI dX0_endsSoft_37 fl_X0_40 (x_vC hn (Nat.le_of_ble_eq_true rfl) hf) rfl rfl ?_
      refine g_max dX0_endsSoft_40 cx_X0_113 w_max.1 w_max.2.1 w_max.2.2 (by decide) (Nat.le_of_ble_eq_true rfl) (Nat.le_refl _) (Nat.le_refl _) ?_
      refine g_aload_n dX0_endsSoft_43 rfl ?_
      refine g_iload_n dX0_endsSoft_44 rfl ?_
      refine f_V dX0_endsSoft_45 cs_X0_95 mb_X0_willRefuse (c_X0_willRefuse l n _ f p hn hf hp) rfl (x_vC hn (Nat.le_of_ble_eq_true rfl) hf) rfl rfl rfl (Nat.le_of_ble_eq_true rfl) (by decide) (Nat.le_of_ble_eq_true rfl) (Nat.le_refl _) (Nat.le_refl _) ?_
      refine g_if_eq 55 dX0_endsSoft_48 rfl (fun c_48 => ?_) (fun c_48 => ?_)
      · refine g_iconst dX0_endsSoft_55 ?_
        refine g_iadd dX0_endsSoft_56 ?_
        refine g_istore_n (lv' := [_, _, _]) dX0_endsSoft_57 (Nat.le_of_ble_eq_true rfl) rfl ?_
        refine g_aload_n dX0_endsSoft_58 rfl ?_
        refine g_getR (t2 := 1) (i2 := f) dX0_endsSoft_59 fl_X0_9 (x_vC hn (Nat.le_of_ble_eq_true rfl) hf) rfl rfl rfl ?_
        refine g_iload_n dX0_endsSoft_62 rfl ?_
        refine g_iald p dX0_endsSoft_63 rfl hp (x_vC hn (Nat.le_of_ble_eq_true rfl) hf) rfl ?_
        refine g_if_le 84 dX0_endsSoft_64 rfl (fun c_64 => ?_) (fun c_64 => ?_)
        · refine g_iconst dX0_endsSoft_84 ?_
          exact f_zret dX0_endsSoft_85 (by decide) (by unfold V_X0_endsSoft; rw [if_pos c_5, if_pos c_25, if_pos c_48, if_pos c_64]) rfl
        · refine g_iload_n dX0_endsSoft_67 rfl ?_
          refine g_aload_n dX0_endsSoft_68 rfl ?_
          refine g_getR (t2 := 5) (i2 := (x_rof f)) dX0_endsSoft_69 fl_X0_47 (x_vC hn (Nat.le_of_ble_eq_true rfl) hf) rfl rfl rfl ?_
          refine g_getR (t2 := 8) (i2 := (x_rof f)) dX0_endsSoft_72 fl_X0_92 (x_vC hn (Nat.le_of_ble_eq_true rfl) (x_rof_lt _)) rfl rfl rfl ?_
          refine g_iload_n dX0_endsSoft_75 rfl ?_
          refine g_iald p dX0_endsSoft_76 rfl hp (x_vC hn (Nat.le_of_ble_eq_true rfl) (x_rof_lt _)) rfl ?_
          refine g_cmp_gt 84 dX0_endsSoft_77 rfl (fun c_77 => ?_) (fun c_77 => ?_)
          · refine g_iconst dX0_endsSoft_84 ?_
            exact f_zret dX0_endsSoft_85 (by decide) (by unfold V_X0_endsSoft; rw [if_pos c_5, if_pos c_25, if_pos c_48, if_neg c_64, if_pos c_77]) rfl
          · refine g_iconst dX0_endsSoft_80 ?_
            refine g_goto 85 dX0_endsSoft_81 rfl ?_
            exact f_zret dX0_endsSoft_85 (by decide) (by unfold V_X0_endsSoft; rw [if_pos c_5, if_pos c_25, if_pos c_48, if_neg c_64, if_neg c_77]) rfl
      · refine g_iconst dX0_endsSoft_51 ?_
        refine g_goto 56 dX0_endsSoft_52 rfl ?_
        refine g_iadd dX0_endsSoft_56 ?_
        refine g_istore_n (lv' := [_, _, _]) dX0_endsSoft_57 (Nat.le_of_ble_eq_true rfl) rfl ?_
        refine g_aload_n dX0_endsSoft_58 rfl ?_
        refine g_getR (t2 := 1) (i2 := f) dX0_endsSoft_59 fl_X0_9 (x_vC hn (Nat.le_of_ble_eq_true rfl) hf) rfl rfl rfl ?_
        refine g_iload_n dX0_endsSoft_62 rfl ?_
        refine g_iald p dX0_endsSoft_63 rfl hp (x_vC hn (Nat.le_of_ble_eq_true rfl) hf) rfl ?_
        refine g_if_le 84 dX0_endsSoft_64 rfl (fun c_64 => ?_) (fun c_64 => ?_)
        · refine g_iconst dX0_endsSoft_84 ?_
          exact f_zret dX0_endsSoft_85 (by decide) (by unfold V_X0_endsSoft; rw [if_pos c_5, if_pos c_25, if_neg c_48, if_pos c_64]) rfl
        · refine g_iload_n dX0_endsSoft_67 rfl ?_
          refine g_aload_n dX0_endsSoft_68 rfl ?_
          refine g_getR (t2 := 5) (i2 := (x_rof f)) dX0_endsSoft_69 fl_X0_47 (x_vC hn (Nat.le_of_ble_eq_true rfl) hf) rfl rfl rfl ?_
          refine g_getR (t2 := 8) (i2 := (x_rof f)) dX0_endsSoft_72 fl_X0_92 (x_vC hn (Nat.le_of_ble_eq_true rfl) (x_rof_lt _)) rfl rfl rfl ?_
          refine g_iload_n dX0_endsSoft_75 rfl ?_
          refine g_iald p dX0_endsSoft_76 rfl hp (x_vC hn (Nat.le_of_ble_eq_true rfl) (x_rof_lt _)) rfl ?_
          refine g_cmp_gt 84 dX0_endsSoft_77 rfl (fun c_77 => ?_) (fun c_77 => ?_)
          · refine g_iconst dX0_endsSoft_84 ?_
            exact f_zret dX0_endsSoft_85 (by decide) (by unfold V_X0_endsSoft; rw [if_pos c_5, if_pos c_25, if_neg c_48, if_neg c_64, if_pos c_77]) rfl
          · refine g_iconst dX0_endsSoft_80 ?_
            refine g_goto 85 dX0_endsSoft_81 rfl ?_
            exact f_zret dX0_endsSoft_85 (by decide) (by unfold V_X0_endsSoft; rw [if_pos c_5, if_pos c_25, if_neg c_48, if_neg c_64, if_neg c_77]) rfl
    · refine g_iconst dX0_endsSoft_28 ?_
      exact f_zret dX0_endsSoft_29 (by decide) (by unfold V_X0_endsSoft; rw [if_pos c_5, if_neg c_25]) rfl
  · refine g_aload_n dX0_endsSoft_8 rfl ?_
    refine g_getI dX0_endsSoft_9 fl_X0_28 (x_vC hn (Nat.le_of_ble_eq_true rfl) hf) rfl rfl ?_
    refine g_iload_n dX0_endsSoft_12 rfl ?_
    refine f_S dX0_endsSoft_13 cs_X0_60 mb_X0_isIn (c_X0_isIn l n _ (σ 0 f 6) (p : Int) hn) rfl (Nat.lt_of_lt_of_le (by decide) hn) rfl (Nat.le_of_ble_eq_true rfl) (by decide) (Nat.le_of_ble_eq_true rfl) (Nat.le_refl _) (Nat.le_refl _) ?_
    exact f_zret dX0_endsSoft_16 (by decide) (by unfold V_X0_endsSoft; rw [if_neg c_5]) rfl

def V_X0_spareDays (σ : xMi) (f : Nat) (p : Nat) : Int := (if x_wr (V_X0_willRefuse σ f p) = 0 then ((((σ 8 (x_rof f) p) - (σ 0 f 10)) - (V_X0_wayDays σ f p)) - 0) else ((((σ 8 (x_rof f) p) - (σ 0 f 10)) - (V_X0_wayDays σ f p)) - 1))
theorem c_X0_spareDays (l : Launch) (n : Nat) (σ : xMi) (f : Nat) (p : Nat) (hn : 131 ≤ n) (hf : f < 20) (hp : p < 6) : x_F l yX0_spareDays RX0 cX0_spareDays 2 (some .int) 2 n σ [xR 0 f, xI (p : Int)] (some (xI (V_X0_spareDays σ f p))) σ := by
  refine f_of (by decide) rfl (Nat.le_of_ble_eq_true rfl) rfl ?_
  refine g_aload_n dX0_spareDays_0 rfl ?_
  refine g_getR (t2 := 5) (i2 := (x_rof f)) dX0_spareDays_1 fl_X0_47 (x_vC hn (Nat.le_of_ble_eq_true rfl) hf) rfl rfl rfl ?_
  refine g_getR (t2 := 8) (i2 := (x_rof f)) dX0_spareDays_4 fl_X0_92 (x_vC hn (Nat.le_of_ble_eq_true rfl) (x_rof_lt _)) rfl rfl rfl ?_
  refine g_iload_n dX0_spareDays_7 rfl ?_
  refine g_iald p dX0_spareDays_8 rfl hp (x_vC hn (Nat.le_of_ble_eq_true rfl) (x_rof_lt _)) rfl ?_
  refine g_aload_n dX0_spareDays_9 rfl ?_
  refine g_getI dX0_spareDays_10 fl_X0_40 (x_vC hn (Nat.le_of_ble_eq_true rfl) hf) rfl rfl ?_
  refine g_isub dX0_spareDays_13 ?_
  refine g_aload_n dX0_spareDays_14 rfl ?_
  refine g_iload_n dX0_spareDays_15 rfl ?_
  refine f_V dX0_spareDays_16 cs_X0_71 mb_X0_wayDays (c_X0_wayDays l n _ f p hn hf hp) rfl (x_vC hn (Nat.le_of_ble_eq_true rfl) hf) rfl rfl rfl (Nat.le_of_ble_eq_true rfl) (by decide) (Nat.le_of_ble_eq_true rfl) (Nat.le_refl _) (Nat.le_refl _) ?_
  refine g_isub dX0_spareDays_19 ?_
  refine g_aload_n dX0_spareDays_20 rfl ?_
  refine g_iload_n dX0_spareDays_21 rfl ?_
  refine f_V dX0_spareDays_22 cs_X0_95 mb_X0_willRefuse (c_X0_willRefuse l n _ f p hn hf hp) rfl (x_vC hn (Nat.le_of_ble_eq_true rfl) hf) rfl rfl rfl (Nat.le_of_ble_eq_true rfl) (by decide) (Nat.le_of_ble_eq_true rfl) (Nat.le_refl _) (Nat.le_refl _) ?_
  refine g_if_eq 32 dX0_spareDays_25 rfl (fun c_25 => ?_) (fun c_25 => ?_)
  · refine g_iconst dX0_spareDays_32 ?_
    refine g_isub dX0_spareDays_33 ?_
    exact f_iret dX0_spareDays_34 (by unfold V_X0_spareDays; rw [if_pos c_25]) rfl
  · refine g_iconst dX0_spareDays_28 ?_
    refine g_goto 33 dX0_spareDays_29 rfl ?_
    refine g_isub dX0_spareDays_33 ?_
    exact f_iret dX0_spareDays_34 (by unfold V_X0_spareDays; rw [if_neg c_25]) rfl
