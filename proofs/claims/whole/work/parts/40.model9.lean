theorem x_up_e {σ : xMi} {t i k : Nat} {v : Int} : x_up σ t i k v t i k = v := by rw [x_up_s, if_pos rfl]
def V_X7_here (σ : xMi)  : Int := (if x_wr (σ 24 0 22) ≤ x_wr (σ 24 0 23) then 0 else (σ 40 0 (σ 24 0 23).toNat))
theorem c_X7_here (l : Launch) (n : Nat) (σ : xMi)  (hn : 154 ≤ n)  (hsz : 0 ≤ σ 24 0 22 ∧ σ 24 0 22 ≤ 200) (hra : 0 ≤ σ 24 0 23 ∧ σ 24 0 23 ≤ 1000)  : x_F l yX7_here RX7 cX7_here 1 (some .int) 0 n σ [xR 24 0] (some (xI (V_X7_here σ ))) σ := by
  refine f_of (by decide) rfl (Nat.le_of_ble_eq_true rfl) rfl ?_
  refine g_aload_n dX7_here_0 rfl ?_
  refine g_getI dX7_here_1 fl_X7_107 (x_vM hn (Nat.le_of_ble_eq_true rfl) (Nat.le_of_ble_eq_true rfl)) rfl rfl ?_
  refine g_aload_n dX7_here_4 rfl ?_
  refine g_getI dX7_here_5 fl_X7_104 (x_vM hn (Nat.le_of_ble_eq_true rfl) (Nat.le_of_ble_eq_true rfl)) rfl rfl ?_
  refine g_cmp_ge 23 dX7_here_8 rfl (fun c_8 => ?_) (fun c_8 => ?_)
  · refine g_iconst dX7_here_23 ?_
    exact f_iret dX7_here_24 (by rw [V_X7_here, if_pos c_8]) rfl
  · refine g_aload_n dX7_here_11 rfl ?_
    refine g_getR (t2 := 40) (i2 := 0) dX7_here_12 fl_X7_55 (x_vM hn (Nat.le_of_ble_eq_true rfl) (Nat.le_of_ble_eq_true rfl)) rfl rfl rfl ?_
    refine g_aload_n dX7_here_15 rfl ?_
    refine g_getI dX7_here_16 fl_X7_107 (x_vM hn (Nat.le_of_ble_eq_true rfl) (Nat.le_of_ble_eq_true rfl)) rfl rfl ?_
    have hq : (σ 24 0 23).toNat < 200 := by rw [x_wr_of (by omega) (by omega), x_wr_of (by omega) (by omega)] at c_8; omega
    refine g_eqI (((σ 24 0 23).toNat : Nat) : Int) (by omega) ?_
    refine g_iald (σ 24 0 23).toNat dX7_here_19 rfl hq (x_vM hn (Nat.le_of_ble_eq_true rfl) (Nat.le_of_ble_eq_true rfl)) rfl ?_
    refine g_goto 24 dX7_here_20 rfl ?_
    exact f_iret dX7_here_24 (by rw [V_X7_here, if_neg c_8]) rfl

def V_X7_isFigure (σ : xMi)  : Int := (V_X7_in σ (V_X7_here σ ) 48 57)
theorem z_X7_isFigure (σ : xMi)  : V_X7_isFigure σ  = 0 ∨ V_X7_isFigure σ  = 1 := by
  unfold V_X7_isFigure
  (repeat' split) <;> first | exact Or.inl rfl | exact Or.inr rfl | exact z_X7_in _ _ _ _
theorem c_X7_isFigure (l : Launch) (n : Nat) (σ : xMi)  (hn : 154 ≤ n)  (hsz : 0 ≤ σ 24 0 22 ∧ σ 24 0 22 ≤ 200) (hra : 0 ≤ σ 24 0 23 ∧ σ 24 0 23 ≤ 1000)  : x_F l yX7_isFigure RX7 cX7_isFigure 1 (some .boolean) 1 n σ [xR 24 0] (some (xI (V_X7_isFigure σ ))) σ := by
  refine f_of (by decide) rfl (Nat.le_of_ble_eq_true rfl) rfl ?_
  refine g_aload_n dX7_isFigure_0 rfl ?_
  refine f_V dX7_isFigure_1 cs_X7_110 mb_X7_here (c_X7_here l n _  hn hsz hra) rfl (x_vM hn (Nat.le_of_ble_eq_true rfl) (Nat.le_of_ble_eq_true rfl)) rfl rfl rfl (Nat.le_of_ble_eq_true rfl) (by decide) (Nat.le_of_ble_eq_true rfl) (Nat.le_refl _) (Nat.le_refl _) ?_
  refine g_bipush dX7_isFigure_4 (by decide) ?_
  refine g_bipush dX7_isFigure_6 (by decide) ?_
  refine f_S dX7_isFigure_8 cs_X7_100 mb_X7_in (c_X7_in l n _ (V_X7_here σ ) 48 57 hn) rfl (Nat.lt_of_lt_of_le (by decide) hn) rfl (Nat.le_of_ble_eq_true rfl) (by decide) (Nat.le_of_ble_eq_true rfl) (Nat.le_refl _) (Nat.le_refl _) ?_
  exact f_zret dX7_isFigure_11 (z_X7_in _ _ _ _) rfl rfl

def T_X7_number_1 (σ : xMi) (lo : Int) (hi : Int) (en : Int) : xMi := (x_up (x_up (x_up (x_up σ 24 0 23 ((σ 24 0 23) + 1)) 24 0 23 (((x_up σ 24 0 23 ((σ 24 0 23) + 1)) 24 0 23) + 1)) 24 0 27 (((10 * ((V_X7_here σ ) - 48)) + (V_X7_here (x_up σ 24 0 23 ((σ 24 0 23) + 1)) )) - 48)) 24 0 23 (((x_up (x_up (x_up σ 24 0 23 ((σ 24 0 23) + 1)) 24 0 23 (((x_up σ 24 0 23 ((σ 24 0 23) + 1)) 24 0 23) + 1)) 24 0 27 (((10 * ((V_X7_here σ ) - 48)) + (V_X7_here (x_up σ 24 0 23 ((σ 24 0 23) + 1)) )) - 48)) 24 0 23) + 1))
def V_X7_number (σ : xMi) (lo : Int) (hi : Int) (en : Int) : Int := (if x_wr (V_X7_isFigure σ ) = 0 then 0 else (if x_wr (V_X7_isFigure (x_up σ 24 0 23 ((σ 24 0 23) + 1)) ) = 0 then (if x_wr (V_X7_here (x_up (x_up σ 24 0 23 ((σ 24 0 23) + 1)) 24 0 27 ((V_X7_here σ ) - 48)) ) = x_wr en then (if x_wr (V_X7_in (x_up (x_up σ 24 0 23 ((σ 24 0 23) + 1)) 24 0 27 ((V_X7_here σ ) - 48)) ((V_X7_here σ ) - 48) lo hi) = 0 then 0 else 1) else 0) else (if x_wr (V_X7_here (x_up (x_up (x_up σ 24 0 23 ((σ 24 0 23) + 1)) 24 0 23 (((x_up σ 24 0 23 ((σ 24 0 23) + 1)) 24 0 23) + 1)) 24 0 27 (((10 * ((V_X7_here σ ) - 48)) + (V_X7_here (x_up σ 24 0 23 ((σ 24 0 23) + 1)) )) - 48)) ) = x_wr en then (if x_wr (V_X7_in (x_up (x_up (x_up σ 24 0 23 ((σ 24 0 23) + 1)) 24 0 23 (((x_up σ 24 0 23 ((σ 24 0 23) + 1)) 24 0 23) + 1)) 24 0 27 (((10 * ((V_X7_here σ ) - 48)) + (V_X7_here (x_up σ 24 0 23 ((σ 24 0 23) + 1)) )) - 48)) (((10 * ((V_X7_here σ ) - 48)) + (V_X7_here (x_up σ 24 0 23 ((σ 24 0 23) + 1)) )) - 48) lo hi) = 0 then 0 else 1) else 0)))
theorem z_X7_number (σ : xMi) (lo : Int) (hi : Int) (en : Int) : V_X7_number σ lo hi en = 0 ∨ V_X7_number σ lo hi en = 1 := by
  unfold V_X7_number
  (repeat' split) <;> first | exact Or.inl rfl | exact Or.inr rfl
def S_X7_number (σ : xMi) (lo : Int) (hi : Int) (en : Int) : xMi := (if x_wr (V_X7_isFigure σ ) = 0 then σ else (if x_wr (V_X7_isFigure (x_up σ 24 0 23 ((σ 24 0 23) + 1)) ) = 0 then (if x_wr (V_X7_here (x_up (x_up σ 24 0 23 ((σ 24 0 23) + 1)) 24 0 27 ((V_X7_here σ ) - 48)) ) = x_wr en then (if x_wr (V_X7_in (x_up (x_up σ 24 0 23 ((σ 24 0 23) + 1)) 24 0 27 ((V_X7_here σ ) - 48)) ((V_X7_here σ ) - 48) lo hi) = 0 then (x_up (x_up σ 24 0 23 ((σ 24 0 23) + 1)) 24 0 27 ((V_X7_here σ ) - 48)) else (x_up (x_up (x_up σ 24 0 23 ((σ 24 0 23) + 1)) 24 0 27 ((V_X7_here σ ) - 48)) 24 0 23 (((x_up (x_up σ 24 0 23 ((σ 24 0 23) + 1)) 24 0 27 ((V_X7_here σ ) - 48)) 24 0 23) + 1))) else (x_up (x_up σ 24 0 23 ((σ 24 0 23) + 1)) 24 0 27 ((V_X7_here σ ) - 48))) else (if x_wr (V_X7_here (x_up (x_up (x_up σ 24 0 23 ((σ 24 0 23) + 1)) 24 0 23 (((x_up σ 24 0 23 ((σ 24 0 23) + 1)) 24 0 23) + 1)) 24 0 27 (((10 * ((V_X7_here σ ) - 48)) + (V_X7_here (x_up σ 24 0 23 ((σ 24 0 23) + 1)) )) - 48)) ) = x_wr en then (if x_wr (V_X7_in (x_up (x_up (x_up σ 24 0 23 ((σ 24 0 23) + 1)) 24 0 23 (((x_up σ 24 0 23 ((σ 24 0 23) + 1)) 24 0 23) + 1)) 24 0 27 (((10 * ((V_X7_here σ ) - 48)) + (V_X7_here (x_up σ 24 0 23 ((σ 24 0 23) + 1)) )) - 48)) (((10 * ((V_X7_here σ ) - 48)) + (V_X7_here (x_up σ 24 0 23 ((σ 24 0 23) + 1)) )) - 48) lo hi) = 0 then (x_up (x_up (x_up σ 24 0 23 ((σ 24 0 23) + 1)) 24 0 23 (((x_up σ 24 0 23 ((σ 24 0 23) + 1)) 24 0 23) + 1)) 24 0 27 (((10 * ((V_X7_here σ ) - 48)) + (V_X7_here (x_up σ 24 0 23 ((σ 24 0 23) + 1)) )) - 48)) else (T_X7_number_1 σ lo hi en)) else (x_up (x_up (x_up σ 24 0 23 ((σ 24 0 23) + 1)) 24 0 23 (((x_up σ 24 0 23 ((σ 24 0 23) + 1)) 24 0 23) + 1)) 24 0 27 (((10 * ((V_X7_here σ ) - 48)) + (V_X7_here (x_up σ 24 0 23 ((σ 24 0 23) + 1)) )) - 48)))))
theorem fr_S_X7_number (σ : xMi) (lo : Int) (hi : Int) (en : Int) {t i k : Nat} (h : ¬ (t = 24 ∧ (k = 23 ∨ k = 27))) : S_X7_number σ lo hi en t i k = σ t i k := by
  unfold S_X7_number
  all_goals ((repeat' split) <;> first | simp (disch := first | omega | assumption) only [x_up_o, x_up_k, x_cp_o, T_X7_number_1] | rfl)
theorem c_X7_number (l : Launch) (n : Nat) (σ : xMi) (lo : Int) (hi : Int) (en : Int) (hn : 154 ≤ n)  (hsz : 0 ≤ σ 24 0 22 ∧ σ 24 0 22 ≤ 200) (hrb : 0 ≤ σ 24 0 23 ∧ σ 24 0 23 ≤ 500)  : x_F l yX7_number RX7 cX7_number 5 (some .boolean) 2 n σ [xR 24 0, xI lo, xI hi, xI en] (some (xI (V_X7_number σ lo hi en))) (S_X7_number σ lo hi en) := by
  refine f_of (by decide) rfl (Nat.le_of_ble_eq_true rfl) rfl ?_
  refine g_aload_n dX7_number_0 rfl ?_
  refine f_V dX7_number_1 cs_X7_114 mb_X7_isFigure (c_X7_isFigure l n _  hn hsz (by omega)) rfl (x_vM hn (Nat.le_of_ble_eq_true rfl) (Nat.le_of_ble_eq_true rfl)) rfl rfl rfl (Nat.le_of_ble_eq_true rfl) (by decide) (Nat.le_of_ble_eq_true rfl) (Nat.le_refl _) (Nat.le_refl _) ?_
  refine g_if_ne 9 dX7_number_4 rfl (fun c_4 => ?_) (fun c_4 => ?_)
  · refine g_aload_n dX7_number_9 rfl ?_
    refine f_V dX7_number_10 cs_X7_110 mb_X7_here (c_X7_here l n _  hn hsz (by omega)) rfl (x_vM hn (Nat.le_of_ble_eq_true rfl) (Nat.le_of_ble_eq_true rfl)) rfl rfl rfl (Nat.le_of_ble_eq_true rfl) (by decide) (Nat.le_of_ble_eq_true rfl) (Nat.le_refl _) (Nat.le_refl _) ?_
    refine g_bipush dX7_number_13 (by decide) ?_
    refine g_isub dX7_number_15 ?_
    refine g_istore (lv' := [_, _, _, _, _]) dX7_number_16 (Nat.le_of_ble_eq_true rfl) rfl ?_
    refine g_aload_n dX7_number_18 rfl ?_
    refine g_dup dX7_number_19 rfl ?_
    refine g_getI dX7_number_20 fl_X7_107 (x_vM hn (Nat.le_of_ble_eq_true rfl) (Nat.le_of_ble_eq_true rfl)) rfl rfl ?_
    refine g_iconst dX7_number_23 ?_
    refine g_iadd dX7_number_24 ?_
    refine g_putI dX7_number_25 fl_X7_107 (x_vM hn (Nat.le_of_ble_eq_true rfl) (Nat.le_of_ble_eq_true rfl)) rfl rfl ?_
    refine g_aload_n dX7_number_28 rfl ?_
    refine f_V dX7_number_29 cs_X7_114 mb_X7_isFigure (c_X7_isFigure l n _  hn (by first | exact hsz | (simp (disch := first | omega | assumption) only [x_up_o, x_up_k, x_cp_o]; exact hsz)) (by simp (disch := omega) only [x_up_o, x_up_k, x_up_e]; omega)) rfl (x_vM hn (Nat.le_of_ble_eq_true rfl) (Nat.le_of_ble_eq_true rfl)) rfl rfl rfl (Nat.le_of_ble_eq_true rfl) (by decide) (Nat.le_of_ble_eq_true rfl) (Nat.le_refl _) (Nat.le_refl _) ?_
    refine g_if_eq 60 dX7_number_32 rfl (fun c_32 => ?_) (fun c_32 => ?_)
    · refine g_aload_n dX7_number_60 rfl ?_
      refine g_iload dX7_number_61 rfl ?_
      refine g_putI dX7_number_63 fl_X7_118 (x_vM hn (Nat.le_of_ble_eq_true rfl) (Nat.le_of_ble_eq_true rfl)) rfl rfl ?_
      refine g_aload_n dX7_number_66 rfl ?_
      refine f_V dX7_number_67 cs_X7_110 mb_X7_here (c_X7_here l n _  hn (by first | exact hsz | (simp (disch := first | omega | assumption) only [x_up_o, x_up_k, x_cp_o]; exact hsz)) (by simp (disch := omega) only [x_up_o, x_up_k, x_up_e]; omega)) rfl (x_vM hn (Nat.le_of_ble_eq_true rfl) (Nat.le_of_ble_eq_true rfl)) rfl rfl rfl (Nat.le_of_ble_eq_true rfl) (by decide) (Nat.le_of_ble_eq_true rfl) (Nat.le_refl _) (Nat.le_refl _) ?_
      refine g_iload_n dX7_number_70 rfl ?_
      refine g_cmp_ne 84 dX7_number_71 rfl (fun c_71 => ?_) (fun c_71 => ?_)
      · refine g_iconst dX7_number_84 ?_
        exact f_zret dX7_number_85 (by decide) (by rw [V_X7_number, if_neg c_4, if_pos c_32, if_neg c_71]) (by rw [S_X7_number, if_neg c_4, if_pos c_32, if_neg c_71])
      · refine g_iload dX7_number_74 rfl ?_
        refine g_iload_n dX7_number_76 rfl ?_
        refine g_iload_n dX7_number_77 rfl ?_
        refine f_S dX7_number_78 cs_X7_100 mb_X7_in (c_X7_in l n _ ((V_X7_here σ ) - 48) lo hi hn) rfl (Nat.lt_of_lt_of_le (by decide) hn) rfl (Nat.le_of_ble_eq_true rfl) (by decide) (Nat.le_of_ble_eq_true rfl) (Nat.le_refl _) (Nat.le_refl _) ?_
        refine g_if_ne 86 dX7_number_81 rfl (fun c_81 => ?_) (fun c_81 => ?_)
        · refine g_aload_n dX7_number_86 rfl ?_
          refine g_dup dX7_number_87 rfl ?_
          refine g_getI dX7_number_88 fl_X7_107 (x_vM hn (Nat.le_of_ble_eq_true rfl) (Nat.le_of_ble_eq_true rfl)) rfl rfl ?_
          refine g_iconst dX7_number_91 ?_
          refine g_iadd dX7_number_92 ?_
          refine g_putI dX7_number_93 fl_X7_107 (x_vM hn (Nat.le_of_ble_eq_true rfl) (Nat.le_of_ble_eq_true rfl)) rfl rfl ?_
          refine g_iconst dX7_number_96 ?_
          exact f_zret dX7_number_97 (by decide) (by rw [V_X7_number, if_neg c_4, if_pos c_32, if_pos c_71, if_neg c_81]) (by rw [S_X7_number, if_neg c_4, if_pos c_32, if_pos c_71, if_neg c_81])
        · refine g_iconst dX7_number_84 ?_
          exact f_zret dX7_number_85 (by decide) (by rw [V_X7_number, if_neg c_4, if_pos c_32, if_pos c_71, if_pos c_81]) (by rw [S_X7_number, if_neg c_4, if_pos c_32, if_pos c_71, if_pos c_81])
    · refine g_bipush dX7_number_35 (by decide) ?_
      refine g_iload dX7_number_37 rfl ?_
      refine g_imul dX7_number_39 ?_
      refine g_aload_n dX7_number_40 rfl ?_
      refine f_V dX7_number_41 cs_X7_110 mb_X7_here (c_X7_here l n _  hn (by first | exact hsz | (simp (disch := first | omega | assumption) only [x_up_o, x_up_k, x_cp_o]; exact hsz)) (by simp (disch := omega) only [x_up_o, x_up_k, x_up_e]; omega)) rfl (x_vM hn (Nat.le_of_ble_eq_true rfl) (Nat.le_of_ble_eq_true rfl)) rfl rfl rfl (Nat.le_of_ble_eq_true rfl) (by decide) (Nat.le_of_ble_eq_true rfl) (Nat.le_refl _) (Nat.le_refl _) ?_
      refine g_iadd dX7_number_44 ?_
      refine g_bipush dX7_number_45 (by decide) ?_
      refine g_isub dX7_number_47 ?_
      refine g_istore (lv' := [_, _, _, _, _]) dX7_number_48 (Nat.le_of_ble_eq_true rfl) rfl ?_
      refine g_aload_n dX7_number_50 rfl ?_
      refine g_dup dX7_number_51 rfl ?_
      refine g_getI dX7_number_52 fl_X7_107 (x_vM hn (Nat.le_of_ble_eq_true rfl) (Nat.le_of_ble_eq_true rfl)) rfl rfl ?_
      refine g_iconst dX7_number_55 ?_
      refine g_iadd dX7_number_56 ?_
      refine g_putI dX7_number_57 fl_X7_107 (x_vM hn (Nat.le_of_ble_eq_true rfl) (Nat.le_of_ble_eq_true rfl)) rfl rfl ?_
      refine g_aload_n dX7_number_60 rfl ?_
      refine g_iload dX7_number_61 rfl ?_
      refine g_putI dX7_number_63 fl_X7_118 (x_vM hn (Nat.le_of_ble_eq_true rfl) (Nat.le_of_ble_eq_true rfl)) rfl rfl ?_
      refine g_aload_n dX7_number_66 rfl ?_
      refine f_V dX7_number_67 cs_X7_110 mb_X7_here (c_X7_here l n _  hn (by first | exact hsz | (simp (disch := first | omega | assumption) only [x_up_o, x_up_k, x_cp_o]; exact hsz)) (by simp (disch := omega) only [x_up_o, x_up_k, x_up_e]; omega)) rfl (x_vM hn (Nat.le_of_ble_eq_true rfl) (Nat.le_of_ble_eq_true rfl)) rfl rfl rfl (Nat.le_of_ble_eq_true rfl) (by decide) (Nat.le_of_ble_eq_true rfl) (Nat.le_refl _) (Nat.le_refl _) ?_
      refine g_iload_n dX7_number_70 rfl ?_
      refine g_cmp_ne 84 dX7_number_71 rfl (fun c_71 => ?_) (fun c_71 => ?_)
      · refine g_iconst dX7_number_84 ?_
        exact f_zret dX7_number_85 (by decide) (by rw [V_X7_number, if_neg c_4, if_neg c_32, if_neg c_71]) (by rw [S_X7_number, if_neg c_4, if_neg c_32, if_neg c_71])
      · refine g_iload dX7_number_74 rfl ?_
        refine g_iload_n dX7_number_76 rfl ?_
        refine g_iload_n dX7_number_77 rfl ?_
        refine f_S dX7_number_78 cs_X7_100 mb_X7_in (c_X7_in l n _ (((10 * ((V_X7_here σ ) - 48)) + (V_X7_here (x_up σ 24 0 23 ((σ 24 0 23) + 1)) )) - 48) lo hi hn) rfl (Nat.lt_of_lt_of_le (by decide) hn) rfl (Nat.le_of_ble_eq_true rfl) (by decide) (Nat.le_of_ble_eq_true rfl) (Nat.le_refl _) (Nat.le_refl _) ?_
        refine g_if_ne 86 dX7_number_81 rfl (fun c_81 => ?_) (fun c_81 => ?_)
        · refine g_aload_n dX7_number_86 rfl ?_
          refine g_dup dX7_number_87 rfl ?_
          refine g_getI dX7_number_88 fl_X7_107 (x_vM hn (Nat.le_of_ble_eq_true rfl) (Nat.le_of_ble_eq_true rfl)) rfl rfl ?_
          refine g_iconst dX7_number_91 ?_
          refine g_iadd dX7_number_92 ?_
          refine g_putI dX7_number_93 fl_X7_107 (x_vM hn (Nat.le_of_ble_eq_true rfl) (Nat.le_of_ble_eq_true rfl)) rfl rfl ?_
          refine g_mem (T_X7_number_1 σ lo hi en) rfl ?_
          refine g_iconst dX7_number_96 ?_
          exact f_zret dX7_number_97 (by decide) (by rw [V_X7_number, if_neg c_4, if_neg c_32, if_pos c_71, if_neg c_81]) (by rw [S_X7_number, if_neg c_4, if_neg c_32, if_pos c_71, if_neg c_81])
        · refine g_iconst dX7_number_84 ?_
          exact f_zret dX7_number_85 (by decide) (by rw [V_X7_number, if_neg c_4, if_neg c_32, if_pos c_71, if_pos c_81]) (by rw [S_X7_number, if_neg c_4, if_neg c_32, if_pos c_71, if_pos c_81])
  · refine g_iconst dX7_number_7 ?_
    exact f_zret dX7_number_8 (by decide) (by rw [V_X7_number, if_pos c_4]) (by rw [S_X7_number, if_pos c_4])

theorem b_number (σ : xMi) (lo hi en : Int) : σ 24 0 23 ≤ S_X7_number σ lo hi en 24 0 23 ∧ S_X7_number σ lo hi en 24 0 23 ≤ σ 24 0 23 + 3 := by
  unfold S_X7_number
  (repeat' split) <;> first | (simp (disch := omega) only [T_X7_number_1, x_up_o, x_up_k, x_up_e]; omega) | omega
theorem b_num {σ : xMi} {lo hi en b : Int} (h : 0 ≤ σ 24 0 23 ∧ σ 24 0 23 ≤ b) : 0 ≤ S_X7_number σ lo hi en 24 0 23 ∧ S_X7_number σ lo hi en 24 0 23 ≤ b + 3 := by
  have := b_number σ lo hi en
  omega
def T_X7_readsOne_1 (σ : xMi)  : xMi := (x_up (S_X7_number (x_up (S_X7_number σ 0 3 44) 41 0 (4 * (σ 24 0 24).toNat) ((S_X7_number σ 0 3 44) 24 0 27)) 0 40 44) 41 0 ((4 * (σ 24 0 24).toNat) + 1) ((S_X7_number (x_up (S_X7_number σ 0 3 44) 41 0 (4 * (σ 24 0 24).toNat) ((S_X7_number σ 0 3 44) 24 0 27)) 0 40 44) 24 0 27))
def T_X7_readsOne_2 (σ : xMi)  : xMi := (x_up (S_X7_number (x_up (S_X7_number (T_X7_readsOne_1 σ ) 0 40 44) 41 0 ((4 * (σ 24 0 24).toNat) + 2) ((S_X7_number (T_X7_readsOne_1 σ ) 0 40 44) 24 0 27)) 1 9 59) 41 0 ((4 * (σ 24 0 24).toNat) + 3) ((S_X7_number (x_up (S_X7_number (T_X7_readsOne_1 σ ) 0 40 44) 41 0 ((4 * (σ 24 0 24).toNat) + 2) ((S_X7_number (T_X7_readsOne_1 σ ) 0 40 44) 24 0 27)) 1 9 59) 24 0 27))
def V_X7_readsOne (σ : xMi)  : Int := (if x_wr (σ 24 0 24) = x_wr 6 then 0 else (if x_wr (V_X7_number σ 0 3 44) = 0 then 0 else (if x_wr (V_X7_number (x_up (S_X7_number σ 0 3 44) 41 0 (4 * (σ 24 0 24).toNat) ((S_X7_number σ 0 3 44) 24 0 27)) 0 40 44) = 0 then 0 else (if x_wr (V_X7_number (T_X7_readsOne_1 σ ) 0 40 44) = 0 then 0 else (if x_wr (V_X7_number (x_up (S_X7_number (T_X7_readsOne_1 σ ) 0 40 44) 41 0 ((4 * (σ 24 0 24).toNat) + 2) ((S_X7_number (T_X7_readsOne_1 σ ) 0 40 44) 24 0 27)) 1 9 59) = 0 then 0 else 1)))))
theorem z_X7_readsOne (σ : xMi)  : V_X7_readsOne σ  = 0 ∨ V_X7_readsOne σ  = 1 := by
  unfold V_X7_readsOne
  (repeat' split) <;> first | exact Or.inl rfl | exact Or.inr rfl
def S_X7_readsOne (σ : xMi)  : xMi := (if x_wr (σ 24 0 24) = x_wr 6 then σ else (if x_wr (V_X7_number σ 0 3 44) = 0 then (S_X7_number σ 0 3 44) else (if x_wr (V_X7_number (x_up (S_X7_number σ 0 3 44) 41 0 (4 * (σ 24 0 24).toNat) ((S_X7_number σ 0 3 44) 24 0 27)) 0 40 44) = 0 then (S_X7_number (x_up (S_X7_number σ 0 3 44) 41 0 (4 * (σ 24 0 24).toNat) ((S_X7_number σ 0 3 44) 24 0 27)) 0 40 44) else (if x_wr (V_X7_number (T_X7_readsOne_1 σ ) 0 40 44) = 0 then (S_X7_number (T_X7_readsOne_1 σ ) 0 40 44) else (if x_wr (V_X7_number (x_up (S_X7_number (T_X7_readsOne_1 σ ) 0 40 44) 41 0 ((4 * (σ 24 0 24).toNat) + 2) ((S_X7_number (T_X7_readsOne_1 σ ) 0 40 44) 24 0 27)) 1 9 59) = 0 then (S_X7_number (x_up (S_X7_number (T_X7_readsOne_1 σ ) 0 40 44) 41 0 ((4 * (σ 24 0 24).toNat) + 2) ((S_X7_number (T_X7_readsOne_1 σ ) 0 40 44) 24 0 27)) 1 9 59) else (x_up (T_X7_readsOne_2 σ ) 24 0 24 (((T_X7_readsOne_2 σ ) 24 0 24) + 1)))))))
theorem fr_S_X7_readsOne (σ : xMi)  {t i k : Nat} (h : ¬ (t = 41 ∨ (t = 24 ∧ (k = 23 ∨ k = 24 ∨ k = 27)))) : S_X7_readsOne σ  t i k = σ t i k := by
  unfold S_X7_readsOne
  all_goals ((repeat' split) <;> first | simp (disch := first | omega | assumption) only [x_up_o, x_up_k, x_cp_o, T_X7_readsOne_2, T_X7_readsOne_1, fr_S_X7_number] | rfl)
theorem c_X7_readsOne (l : Launch) (n : Nat) (σ : xMi)  (hn : 154 ≤ n)  (hsz : 0 ≤ σ 24 0 22 ∧ σ 24 0 22 ≤ 200) (hrc : 0 ≤ σ 24 0 23 ∧ σ 24 0 23 ≤ 400) (hrn : 0 ≤ σ 24 0 24 ∧ σ 24 0 24 ≤ 6)  : x_F l yX7_readsOne RX7 cX7_readsOne 2 (some .boolean) 3 n σ [xR 24 0] (some (xI (V_X7_readsOne σ ))) (S_X7_readsOne σ ) := by
  refine f_of (by decide) rfl (Nat.le_of_ble_eq_true rfl) rfl ?_
  refine g_aload_n dX7_readsOne_0 rfl ?_
  refine g_getI dX7_readsOne_1 fl_X7_121 (x_vM hn (Nat.le_of_ble_eq_true rfl) (Nat.le_of_ble_eq_true rfl)) rfl rfl ?_
  refine g_bipush dX7_readsOne_4 (by decide) ?_
  refine g_cmp_eq 20 dX7_readsOne_6 rfl (fun c_6 => ?_) (fun c_6 => ?_)
  · refine g_iconst dX7_readsOne_20 ?_
    exact f_zret dX7_readsOne_21 (by decide) (by rw [V_X7_readsOne, if_pos c_6]) (by rw [S_X7_readsOne, if_pos c_6])
  · refine g_aload_n dX7_readsOne_9 rfl ?_
    refine g_iconst dX7_readsOne_10 ?_
    refine g_iconst dX7_readsOne_11 ?_
    refine g_bipush dX7_readsOne_12 (by decide) ?_
    refine f_V dX7_readsOne_14 cs_X7_124 mb_X7_number (c_X7_number l n _ 0 3 44 hn hsz (by omega)) rfl (x_vM hn (Nat.le_of_ble_eq_true rfl) (Nat.le_of_ble_eq_true rfl)) rfl rfl rfl (Nat.le_of_ble_eq_true rfl) (by decide) (Nat.le_of_ble_eq_true rfl) (Nat.le_refl _) (Nat.le_refl _) ?_
    have hq1 : 0 ≤ (S_X7_number σ 0 3 44) 24 0 23 ∧ (S_X7_number σ 0 3 44) 24 0 23 ≤ 403 := by
      refine b_num (b := 400) ?_
      exact hrc
    refine g_if_ne 22 dX7_readsOne_17 rfl (fun c_17 => ?_) (fun c_17 => ?_)
    · refine g_iconst dX7_readsOne_22 ?_
      refine g_aload_n dX7_readsOne_23 rfl ?_
      refine g_getI dX7_readsOne_24 fl_X7_121 (x_vM hn (Nat.le_of_ble_eq_true rfl) (Nat.le_of_ble_eq_true rfl)) rfl rfl ?_
      refine g_imul dX7_readsOne_27 ?_
      have hm6 : (σ 24 0 24).toNat < 6 := by rw [x_wr_of (by omega) (by omega), show x_wr 6 = 6 from by decide] at c_6; omega
      refine g_eqI (((4 * (σ 24 0 24).toNat) : Nat) : Int) (by simp (disch := omega) only [x_up_o, x_up_k, fr_S_X7_number]; omega) ?_
      refine g_istore_n (lv' := [_, _]) dX7_readsOne_28 (Nat.le_of_ble_eq_true rfl) rfl ?_
      refine g_aload_n dX7_readsOne_29 rfl ?_
      refine g_getR (t2 := 41) (i2 := 0) dX7_readsOne_30 fl_X7_58 (x_vM hn (Nat.le_of_ble_eq_true rfl) (Nat.le_of_ble_eq_true rfl)) rfl rfl rfl ?_
      refine g_iload_n dX7_readsOne_33 rfl ?_
      refine g_aload_n dX7_readsOne_34 rfl ?_
      refine g_getI dX7_readsOne_35 fl_X7_118 (x_vM hn (Nat.le_of_ble_eq_true rfl) (Nat.le_of_ble_eq_true rfl)) rfl rfl ?_
      refine g_iast (4 * (σ 24 0 24).toNat) dX7_readsOne_38 rfl (show (4 * (σ 24 0 24).toNat) < 24 by omega) (x_vM hn (Nat.le_of_ble_eq_true rfl) (Nat.le_of_ble_eq_true rfl)) rfl ?_
      refine g_aload_n dX7_readsOne_39 rfl ?_
      refine g_iconst dX7_readsOne_40 ?_
      refine g_bipush dX7_readsOne_41 (by decide) ?_
      refine g_bipush dX7_readsOne_43 (by decide) ?_
      refine f_V dX7_readsOne_45 cs_X7_124 mb_X7_number (c_X7_number l n _ 0 40 44 hn (by simp (disch := omega) only [x_up_o, x_up_k, fr_S_X7_number]; exact hsz) (by first | (simp (disch := omega) only [x_up_o, x_up_k]; omega) | (simp (disch := omega) only [x_up_o, x_up_k]; omega))) rfl (x_vM hn (Nat.le_of_ble_eq_true rfl) (Nat.le_of_ble_eq_true rfl)) rfl rfl rfl (Nat.le_of_ble_eq_true rfl) (by decide) (Nat.le_of_ble_eq_true rfl) (Nat.le_refl _) (Nat.le_refl _) ?_
      have hq2 : 0 ≤ (S_X7_number (x_up (S_X7_number σ 0 3 44) 41 0 (4 * (σ 24 0 24).toNat) ((S_X7_number σ 0 3 44) 24 0 27)) 0 40 44) 24 0 23 ∧ (S_X7_number (x_up (S_X7_number σ 0 3 44) 41 0 (4 * (σ 24 0 24).toNat) ((S_X7_number σ 0 3 44) 24 0 27)) 0 40 44) 24 0 23 ≤ 406 := by
        refine b_num (b := 403) ?_
        first | (simp (disch := omega) only [x_up_o, x_up_k]; omega) | (simp (disch := omega) only [x_up_o, x_up_k]; omega)
      refine g_if_ne 53 dX7_readsOne_48 rfl (fun c_48 => ?_) (fun c_48 => ?_)
      · refine g_aload_n dX7_readsOne_53 rfl ?_
        refine g_getR (t2 := 41) (i2 := 0) dX7_readsOne_54 fl_X7_58 (x_vM hn (Nat.le_of_ble_eq_true rfl) (Nat.le_of_ble_eq_true rfl)) rfl rfl rfl ?_
        refine g_iload_n dX7_readsOne_57 rfl ?_
        refine g_iconst dX7_readsOne_58 ?_
        refine g_iadd dX7_readsOne_59 ?_
        refine g_eqI ((((4 * (σ 24 0 24).toNat) + 1) : Nat) : Int) rfl ?_
        refine g_aload_n dX7_readsOne_60 rfl ?_
        refine g_getI dX7_readsOne_61 fl_X7_118 (x_vM hn (Nat.le_of_ble_eq_true rfl) (Nat.le_of_ble_eq_true rfl)) rfl rfl ?_
        refine g_iast ((4 * (σ 24 0 24).toNat) + 1) dX7_readsOne_64 rfl (show ((4 * (σ 24 0 24).toNat) + 1) < 24 by omega) (x_vM hn (Nat.le_of_ble_eq_true rfl) (Nat.le_of_ble_eq_true rfl)) rfl ?_
        refine g_mem (T_X7_readsOne_1 σ ) rfl ?_
        refine g_aload_n dX7_readsOne_65 rfl ?_
        refine g_iconst dX7_readsOne_66 ?_
        refine g_bipush dX7_readsOne_67 (by decide) ?_
        refine g_bipush dX7_readsOne_69 (by decide) ?_
        refine f_V dX7_readsOne_71 cs_X7_124 mb_X7_number (c_X7_number l n _ 0 40 44 hn (by simp (disch := omega) only [x_up_o, x_up_k, T_X7_readsOne_1, fr_S_X7_number]; exact hsz) (by first | (simp (disch := omega) only [x_up_o, x_up_k]; omega) | (simp (disch := omega) only [x_up_o, x_up_k, T_X7_readsOne_1]; omega))) rfl (x_vM hn (Nat.le_of_ble_eq_true rfl) (Nat.le_of_ble_eq_true rfl)) rfl rfl rfl (Nat.le_of_ble_eq_true rfl) (by decide) (Nat.le_of_ble_eq_true rfl) (Nat.le_refl _) (Nat.le_refl _) ?_
        have hq3 : 0 ≤ (S_X7_number (T_X7_readsOne_1 σ ) 0 40 44) 24 0 23 ∧ (S_X7_number (T_X7_readsOne_1 σ ) 0 40 44) 24 0 23 ≤ 409 := by
          refine b_num (b := 406) ?_
          first | (simp (disch := omega) only [x_up_o, x_up_k]; omega) | (simp (disch := omega) only [x_up_o, x_up_k, T_X7_readsOne_1]; omega)
        refine g_if_ne 79 dX7_readsOne_74 rfl (fun c_74 => ?_) (fun c_74 => ?_)
        · refine g_aload_n dX7_readsOne_79 rfl ?_
          refine g_getR (t2 := 41) (i2 := 0) dX7_readsOne_80 fl_X7_58 (x_vM hn (Nat.le_of_ble_eq_true rfl) (Nat.le_of_ble_eq_true rfl)) rfl rfl rfl ?_
          refine g_iload_n dX7_readsOne_83 rfl ?_
          refine g_iconst dX7_readsOne_84 ?_
          refine g_iadd dX7_readsOne_85 ?_
          refine g_eqI ((((4 * (σ 24 0 24).toNat) + 2) : Nat) : Int) rfl ?_
          refine g_aload_n dX7_readsOne_86 rfl ?_
          refine g_getI dX7_readsOne_87 fl_X7_118 (x_vM hn (Nat.le_of_ble_eq_true rfl) (Nat.le_of_ble_eq_true rfl)) rfl rfl ?_
          refine g_iast ((4 * (σ 24 0 24).toNat) + 2) dX7_readsOne_90 rfl (show ((4 * (σ 24 0 24).toNat) + 2) < 24 by omega) (x_vM hn (Nat.le_of_ble_eq_true rfl) (Nat.le_of_ble_eq_true rfl)) rfl ?_
          refine g_aload_n dX7_readsOne_91 rfl ?_
          refine g_iconst dX7_readsOne_92 ?_
          refine g_bipush dX7_readsOne_93 (by decide) ?_
          refine g_bipush dX7_readsOne_95 (by decide) ?_
          refine f_V dX7_readsOne_97 cs_X7_124 mb_X7_number (c_X7_number l n _ 1 9 59 hn (by simp (disch := omega) only [x_up_o, x_up_k, T_X7_readsOne_1, fr_S_X7_number]; exact hsz) (by first | (simp (disch := omega) only [x_up_o, x_up_k]; omega) | (simp (disch := omega) only [x_up_o, x_up_k, T_X7_readsOne_1]; omega))) rfl (x_vM hn (Nat.le_of_ble_eq_true rfl) (Nat.le_of_ble_eq_true rfl)) rfl rfl rfl (Nat.le_of_ble_eq_true rfl) (by decide) (Nat.le_of_ble_eq_true rfl) (Nat.le_refl _) (Nat.le_refl _) ?_
          refine g_if_ne 105 dX7_readsOne_100 rfl (fun c_100 => ?_) (fun c_100 => ?_)
          · refine g_aload_n dX7_readsOne_105 rfl ?_
            refine g_getR (t2 := 41) (i2 := 0) dX7_readsOne_106 fl_X7_58 (x_vM hn (Nat.le_of_ble_eq_true rfl) (Nat.le_of_ble_eq_true rfl)) rfl rfl rfl ?_
            refine g_iload_n dX7_readsOne_109 rfl ?_
            refine g_iconst dX7_readsOne_110 ?_
            refine g_iadd dX7_readsOne_111 ?_
            refine g_eqI ((((4 * (σ 24 0 24).toNat) + 3) : Nat) : Int) rfl ?_
            refine g_aload_n dX7_readsOne_112 rfl ?_
            refine g_getI dX7_readsOne_113 fl_X7_118 (x_vM hn (Nat.le_of_ble_eq_true rfl) (Nat.le_of_ble_eq_true rfl)) rfl rfl ?_
            refine g_iast ((4 * (σ 24 0 24).toNat) + 3) dX7_readsOne_116 rfl (show ((4 * (σ 24 0 24).toNat) + 3) < 24 by omega) (x_vM hn (Nat.le_of_ble_eq_true rfl) (Nat.le_of_ble_eq_true rfl)) rfl ?_
            refine g_mem (T_X7_readsOne_2 σ ) rfl ?_
            refine g_aload_n dX7_readsOne_117 rfl ?_
            refine g_dup dX7_readsOne_118 rfl ?_
            refine g_getI dX7_readsOne_119 fl_X7_121 (x_vM hn (Nat.le_of_ble_eq_true rfl) (Nat.le_of_ble_eq_true rfl)) rfl rfl ?_
            refine g_iconst dX7_readsOne_122 ?_
            refine g_iadd dX7_readsOne_123 ?_
            refine g_putI dX7_readsOne_124 fl_X7_121 (x_vM hn (Nat.le_of_ble_eq_true rfl) (Nat.le_of_ble_eq_true rfl)) rfl rfl ?_
            refine g_iconst dX7_readsOne_127 ?_
            exact f_zret dX7_readsOne_128 (by decide) (by rw [V_X7_readsOne, if_neg c_6, if_neg c_17, if_neg c_48, if_neg c_74, if_neg c_100]) (by rw [S_X7_readsOne, if_neg c_6, if_neg c_17, if_neg c_48, if_neg c_74, if_neg c_100])
          · refine g_iconst dX7_readsOne_103 ?_
            exact f_zret dX7_readsOne_104 (by decide) (by rw [V_X7_readsOne, if_neg c_6, if_neg c_17, if_neg c_48, if_neg c_74, if_pos c_100]) (by rw [S_X7_readsOne, if_neg c_6, if_neg c_17, if_neg c_48, if_neg c_74, if_pos c_100])
        · refine g_iconst dX7_readsOne_77 ?_
          exact f_zret dX7_readsOne_78 (by decide) (by rw [V_X7_readsOne, if_neg c_6, if_neg c_17, if_neg c_48, if_pos c_74]) (by rw [S_X7_readsOne, if_neg c_6, if_neg c_17, if_neg c_48, if_pos c_74])
      · refine g_iconst dX7_readsOne_51 ?_
        exact f_zret dX7_readsOne_52 (by decide) (by rw [V_X7_readsOne, if_neg c_6, if_neg c_17, if_pos c_48]) (by rw [S_X7_readsOne, if_neg c_6, if_neg c_17, if_pos c_48])
    · refine g_iconst dX7_readsOne_20 ?_
      exact f_zret dX7_readsOne_21 (by decide) (by rw [V_X7_readsOne, if_neg c_6, if_pos c_17]) (by rw [S_X7_readsOne, if_neg c_6, if_pos c_17])

theorem b_readsOne (σ : xMi) : σ 24 0 23 ≤ S_X7_readsOne σ 24 0 23 ∧ S_X7_readsOne σ 24 0 23 ≤ σ 24 0 23 + 12 := by
  have h1 := b_number σ 0 3 44
  have h2 := b_number (x_up (S_X7_number σ 0 3 44) 41 0 (4 * (σ 24 0 24).toNat) ((S_X7_number σ 0 3 44) 24 0 27)) 0 40 44
  have h3 := b_number (T_X7_readsOne_1 σ) 0 40 44
  have h4 := b_number (x_up (S_X7_number (T_X7_readsOne_1 σ ) 0 40 44) 41 0 ((4 * (σ 24 0 24).toNat) + 2) ((S_X7_number (T_X7_readsOne_1 σ ) 0 40 44) 24 0 27)) 1 9 59
  have e3 : T_X7_readsOne_1 σ 24 0 23 = S_X7_number (x_up (S_X7_number σ 0 3 44) 41 0 (4 * (σ 24 0 24).toNat) ((S_X7_number σ 0 3 44) 24 0 27)) 0 40 44 24 0 23 := by
    unfold T_X7_readsOne_1; rw [x_up_o (by omega)]
  have e4 : T_X7_readsOne_2 σ 24 0 23 = S_X7_number (x_up (S_X7_number (T_X7_readsOne_1 σ ) 0 40 44) 41 0 ((4 * (σ 24 0 24).toNat) + 2) ((S_X7_number (T_X7_readsOne_1 σ ) 0 40 44) 24 0 27)) 1 9 59 24 0 23 := by
    unfold T_X7_readsOne_2; rw [x_up_o (by omega)]
  rw [x_up_o (by omega)] at h2
  rw [x_up_o (by omega)] at h4
  unfold S_X7_readsOne
  (repeat' split) <;> first | omega | (rw [x_up_k (by omega)]; omega)
theorem b_readsOne2 (σ : xMi) (h : 0 ≤ σ 24 0 24 ∧ σ 24 0 24 ≤ 6) : 0 ≤ S_X7_readsOne σ 24 0 24 ∧ S_X7_readsOne σ 24 0 24 ≤ 6 := by
  have e : T_X7_readsOne_2 σ 24 0 24 = σ 24 0 24 := by simp (disch := omega) only [T_X7_readsOne_1, T_X7_readsOne_2, x_up_o, fr_S_X7_number]
  unfold S_X7_readsOne
  by_cases c : x_wr (σ 24 0 24) = x_wr 6
  · rw [if_pos c]; exact h
  · rw [if_neg c]
    have c2 : σ 24 0 24 ≠ 6 := fun z => c (by rw [z])
    (repeat' split) <;> first | (simp (disch := omega) only [fr_S_X7_number, x_up_o, x_up_e, T_X7_readsOne_1, e]; omega)

def V_X7_readsStock (σ : xMi)  : Int := (if x_wr (V_X7_number σ 0 20 59) = 0 then 0 else 1)
theorem z_X7_readsStock (σ : xMi)  : V_X7_readsStock σ  = 0 ∨ V_X7_readsStock σ  = 1 := by
  unfold V_X7_readsStock
  (repeat' split) <;> first | exact Or.inl rfl | exact Or.inr rfl
def S_X7_readsStock (σ : xMi)  : xMi := (if x_wr (V_X7_number σ 0 20 59) = 0 then (S_X7_number σ 0 20 59) else (x_up (S_X7_number σ 0 20 59) 24 0 25 ((S_X7_number σ 0 20 59) 24 0 27)))
theorem fr_S_X7_readsStock (σ : xMi)  {t i k : Nat} (h : ¬ (t = 24 ∧ (k = 23 ∨ k = 25 ∨ k = 27))) : S_X7_readsStock σ  t i k = σ t i k := by
  unfold S_X7_readsStock
  all_goals ((repeat' split) <;> first | simp (disch := first | omega | assumption) only [x_up_o, x_up_k, x_cp_o, fr_S_X7_number] | rfl)
theorem c_X7_readsStock (l : Launch) (n : Nat) (σ : xMi)  (hn : 154 ≤ n)  (hsz : 0 ≤ σ 24 0 22 ∧ σ 24 0 22 ≤ 200) (hrb : 0 ≤ σ 24 0 23 ∧ σ 24 0 23 ≤ 500)  : x_F l yX7_readsStock RX7 cX7_readsStock 1 (some .boolean) 3 n σ [xR 24 0] (some (xI (V_X7_readsStock σ ))) (S_X7_readsStock σ ) := by
  refine f_of (by decide) rfl (Nat.le_of_ble_eq_true rfl) rfl ?_
  refine g_aload_n dX7_readsStock_0 rfl ?_
  refine g_iconst dX7_readsStock_1 ?_
  refine g_bipush dX7_readsStock_2 (by decide) ?_
  refine g_bipush dX7_readsStock_4 (by decide) ?_
  refine f_V dX7_readsStock_6 cs_X7_124 mb_X7_number (c_X7_number l n _ 0 20 59 hn hsz hrb) rfl (x_vM hn (Nat.le_of_ble_eq_true rfl) (Nat.le_of_ble_eq_true rfl)) rfl rfl rfl (Nat.le_of_ble_eq_true rfl) (by decide) (Nat.le_of_ble_eq_true rfl) (Nat.le_refl _) (Nat.le_refl _) ?_
  refine g_if_ne 14 dX7_readsStock_9 rfl (fun c_9 => ?_) (fun c_9 => ?_)
  · refine g_aload_n dX7_readsStock_14 rfl ?_
    refine g_aload_n dX7_readsStock_15 rfl ?_
    refine g_getI dX7_readsStock_16 fl_X7_118 (x_vM hn (Nat.le_of_ble_eq_true rfl) (Nat.le_of_ble_eq_true rfl)) rfl rfl ?_
    refine g_putI dX7_readsStock_19 fl_X7_127 (x_vM hn (Nat.le_of_ble_eq_true rfl) (Nat.le_of_ble_eq_true rfl)) rfl rfl ?_
    refine g_iconst dX7_readsStock_22 ?_
    exact f_zret dX7_readsStock_23 (by decide) (by rw [V_X7_readsStock, if_neg c_9]) (by rw [S_X7_readsStock, if_neg c_9])
  · refine g_iconst dX7_readsStock_12 ?_
    exact f_zret dX7_readsStock_13 (by decide) (by rw [V_X7_readsStock, if_pos c_9]) (by rw [S_X7_readsStock, if_pos c_9])

theorem b_readsStock (σ : xMi) : σ 24 0 23 ≤ S_X7_readsStock σ 24 0 23 ∧ S_X7_readsStock σ 24 0 23 ≤ σ 24 0 23 + 3 := by
  have h1 := b_number σ 0 20 59
  unfold S_X7_readsStock
  (repeat' split) <;> first | omega | (rw [x_up_k (by omega)]; omega)
theorem zb_readsOne (σ : xMi) : V_X7_readsOne σ = 0 ∨ V_X7_readsOne σ = 1 := by
  unfold V_X7_readsOne
  (repeat' split) <;> first | exact Or.inl rfl | exact Or.inr rfl
def V_X7_readsItem (σ : xMi)  : Int := (if x_wr (V_X7_here σ ) = x_wr 112 then (V_X7_readsOne (x_up σ 24 0 23 ((σ 24 0 23) + 1)) ) else (if x_wr (V_X7_here σ ) = x_wr 104 then (if x_wr (V_X7_readsStock (x_up σ 24 0 23 ((σ 24 0 23) + 1)) ) = 0 then 0 else 1) else 0))
theorem z_X7_readsItem (σ : xMi)  : V_X7_readsItem σ  = 0 ∨ V_X7_readsItem σ  = 1 := by
  unfold V_X7_readsItem
  (repeat' split) <;> first | exact Or.inl rfl | exact Or.inr rfl | exact z_X7_readsOne _
def S_X7_readsItem (σ : xMi)  : xMi := (if x_wr (V_X7_here σ ) = x_wr 112 then (S_X7_readsOne (x_up σ 24 0 23 ((σ 24 0 23) + 1)) ) else (if x_wr (V_X7_here σ ) = x_wr 104 then (if x_wr (V_X7_readsStock (x_up σ 24 0 23 ((σ 24 0 23) + 1)) ) = 0 then (S_X7_readsStock (x_up σ 24 0 23 ((σ 24 0 23) + 1)) ) else (S_X7_readsStock (x_up σ 24 0 23 ((σ 24 0 23) + 1)) )) else (x_up σ 24 0 23 ((σ 24 0 23) + 1))))
theorem fr_S_X7_readsItem (σ : xMi)  {t i k : Nat} (h : ¬ (t = 41 ∨ (t = 24 ∧ (k = 23 ∨ k = 24 ∨ k = 25 ∨ k = 27)))) : S_X7_readsItem σ  t i k = σ t i k := by
  unfold S_X7_readsItem
  all_goals ((repeat' split) <;> first | simp (disch := first | omega | assumption) only [x_up_o, x_up_k, x_cp_o, fr_S_X7_readsOne, fr_S_X7_readsStock] | rfl)
theorem c_X7_readsItem (l : Launch) (n : Nat) (σ : xMi)  (hn : 154 ≤ n)  (hsz : 0 ≤ σ 24 0 22 ∧ σ 24 0 22 ≤ 200) (hrd : 0 ≤ σ 24 0 23 ∧ σ 24 0 23 ≤ 300) (hrn : 0 ≤ σ 24 0 24 ∧ σ 24 0 24 ≤ 6)  : x_F l yX7_readsItem RX7 cX7_readsItem 2 (some .boolean) 4 n σ [xR 24 0] (some (xI (V_X7_readsItem σ ))) (S_X7_readsItem σ ) := by
  refine f_of (by decide) rfl (Nat.le_of_ble_eq_true rfl) rfl ?_
  refine g_aload_n dX7_readsItem_0 rfl ?_
  refine f_V dX7_readsItem_1 cs_X7_110 mb_X7_here (c_X7_here l n _  hn hsz (by omega)) rfl (x_vM hn (Nat.le_of_ble_eq_true rfl) (Nat.le_of_ble_eq_true rfl)) rfl rfl rfl (Nat.le_of_ble_eq_true rfl) (by decide) (Nat.le_of_ble_eq_true rfl) (Nat.le_refl _) (Nat.le_refl _) ?_
  refine g_istore_n (lv' := [_, _]) dX7_readsItem_4 (Nat.le_of_ble_eq_true rfl) rfl ?_
  refine g_aload_n dX7_readsItem_5 rfl ?_
  refine g_dup dX7_readsItem_6 rfl ?_
  refine g_getI dX7_readsItem_7 fl_X7_107 (x_vM hn (Nat.le_of_ble_eq_true rfl) (Nat.le_of_ble_eq_true rfl)) rfl rfl ?_
  refine g_iconst dX7_readsItem_10 ?_
  refine g_iadd dX7_readsItem_11 ?_
  refine g_putI dX7_readsItem_12 fl_X7_107 (x_vM hn (Nat.le_of_ble_eq_true rfl) (Nat.le_of_ble_eq_true rfl)) rfl rfl ?_
  refine g_iload_n dX7_readsItem_15 rfl ?_
  refine g_bipush dX7_readsItem_16 (by decide) ?_
  refine g_cmp_ne 28 dX7_readsItem_18 rfl (fun c_18 => ?_) (fun c_18 => ?_)
  · refine g_iload_n dX7_readsItem_28 rfl ?_
    refine g_bipush dX7_readsItem_29 (by decide) ?_
    refine g_cmp_ne 45 dX7_readsItem_31 rfl (fun c_31 => ?_) (fun c_31 => ?_)
    · refine g_iconst dX7_readsItem_45 ?_
      exact f_zret dX7_readsItem_46 (by first | exact zb_readsOne _ | decide) (by rw [V_X7_readsItem, if_neg c_18, if_neg c_31]) (by rw [S_X7_readsItem, if_neg c_18, if_neg c_31])
    · refine g_aload_n dX7_readsItem_34 rfl ?_
      refine f_V dX7_readsItem_35 cs_X7_133 mb_X7_readsStock (c_X7_readsStock l n _  hn (by simp (disch := omega) only [x_up_o, x_up_k]; exact hsz) (by simp (disch := omega) only [x_up_o, x_up_k, x_up_e]; omega)) rfl (x_vM hn (Nat.le_of_ble_eq_true rfl) (Nat.le_of_ble_eq_true rfl)) rfl rfl rfl (Nat.le_of_ble_eq_true rfl) (by decide) (Nat.le_of_ble_eq_true rfl) (Nat.le_refl _) (Nat.le_refl _) ?_
      refine g_if_eq 45 dX7_readsItem_38 rfl (fun c_38 => ?_) (fun c_38 => ?_)
      · refine g_iconst dX7_readsItem_45 ?_
        exact f_zret dX7_readsItem_46 (by first | exact zb_readsOne _ | decide) (by rw [V_X7_readsItem, if_neg c_18, if_pos c_31, if_pos c_38]) (by rw [S_X7_readsItem, if_neg c_18, if_pos c_31, if_pos c_38])
      · refine g_iconst dX7_readsItem_41 ?_
        refine g_goto 46 dX7_readsItem_42 rfl ?_
        exact f_zret dX7_readsItem_46 (by first | exact zb_readsOne _ | decide) (by rw [V_X7_readsItem, if_neg c_18, if_pos c_31, if_neg c_38]) (by rw [S_X7_readsItem, if_neg c_18, if_pos c_31, if_neg c_38])
  · refine g_aload_n dX7_readsItem_21 rfl ?_
    refine f_V dX7_readsItem_22 cs_X7_130 mb_X7_readsOne (c_X7_readsOne l n _  hn (by simp (disch := omega) only [x_up_o, x_up_k]; exact hsz) (by simp (disch := omega) only [x_up_o, x_up_k, x_up_e]; omega) (by first | exact hrn | (simp (disch := first | omega | assumption) only [x_up_o, x_up_k, x_cp_o]; exact hrn))) rfl (x_vM hn (Nat.le_of_ble_eq_true rfl) (Nat.le_of_ble_eq_true rfl)) rfl rfl rfl (Nat.le_of_ble_eq_true rfl) (by decide) (Nat.le_of_ble_eq_true rfl) (Nat.le_refl _) (Nat.le_refl _) ?_
    refine g_goto 46 dX7_readsItem_25 rfl ?_
    exact f_zret dX7_readsItem_46 (by first | exact zb_readsOne _ | decide) (by rw [V_X7_readsItem, if_pos c_18]) (by rw [S_X7_readsItem, if_pos c_18])
