def V_X7_in (σ : xMi) (v1 : Int) (a1 : Int) (b1 : Int) : Int := (if x_wr v1 < x_wr a1 then 0 else (if x_wr b1 < x_wr v1 then 0 else 1))
theorem z_X7_in (σ : xMi) (v1 : Int) (a1 : Int) (b1 : Int) : V_X7_in σ v1 a1 b1 = 0 ∨ V_X7_in σ v1 a1 b1 = 1 := by
  unfold V_X7_in
  (repeat' split) <;> first | exact Or.inl rfl | exact Or.inr rfl
theorem c_X7_in (l : Launch) (n : Nat) (σ : xMi) (v1 : Int) (a1 : Int) (b1 : Int) (hn : 154 ≤ n)   : x_F l yX7_in RX7 cX7_in 3 (some .boolean) 0 n σ [xI v1, xI a1, xI b1] (some (xI (V_X7_in σ v1 a1 b1))) σ := by
  refine f_of (by decide) rfl (Nat.le_of_ble_eq_true rfl) rfl ?_
  refine g_iload_n dX7_in_0 rfl ?_
  refine g_iload_n dX7_in_1 rfl ?_
  refine g_cmp_lt 14 dX7_in_2 rfl (fun c_2 => ?_) (fun c_2 => ?_)
  · refine g_iconst dX7_in_14 ?_
    exact f_zret dX7_in_15 (by decide) (by rw [V_X7_in, if_pos c_2]) rfl
  · refine g_iload_n dX7_in_5 rfl ?_
    refine g_iload_n dX7_in_6 rfl ?_
    refine g_cmp_gt 14 dX7_in_7 rfl (fun c_7 => ?_) (fun c_7 => ?_)
    · refine g_iconst dX7_in_14 ?_
      exact f_zret dX7_in_15 (by decide) (by rw [V_X7_in, if_neg c_2, if_pos c_7]) rfl
    · refine g_iconst dX7_in_10 ?_
      refine g_goto 15 dX7_in_11 rfl ?_
      exact f_zret dX7_in_15 (by decide) (by rw [V_X7_in, if_neg c_2, if_neg c_7]) rfl

def V_X7_has (σ : xMi) (s1 : Int) (k1 : Int) : Int := (if x_wr (x_and (x_shr s1 k1) 1) = x_wr 1 then 1 else 0)
theorem z_X7_has (σ : xMi) (s1 : Int) (k1 : Int) : V_X7_has σ s1 k1 = 0 ∨ V_X7_has σ s1 k1 = 1 := by
  unfold V_X7_has
  (repeat' split) <;> first | exact Or.inl rfl | exact Or.inr rfl
theorem c_X7_has (l : Launch) (n : Nat) (σ : xMi) (s1 : Int) (k1 : Int) (hn : 154 ≤ n)   : x_F l yX7_has RX7 cX7_has 2 (some .boolean) 0 n σ [xI s1, xI k1] (some (xI (V_X7_has σ s1 k1))) σ := by
  refine f_of (by decide) rfl (Nat.le_of_ble_eq_true rfl) rfl ?_
  refine g_iload_n dX7_has_0 rfl ?_
  refine g_iload_n dX7_has_1 rfl ?_
  refine g_ishr dX7_has_2 ?_
  refine g_iconst dX7_has_3 ?_
  refine g_iand dX7_has_4 ?_
  refine g_iconst dX7_has_5 ?_
  refine g_cmp_ne 13 dX7_has_6 rfl (fun c_6 => ?_) (fun c_6 => ?_)
  · refine g_iconst dX7_has_13 ?_
    exact f_zret dX7_has_14 (by decide) (by rw [V_X7_has, if_neg c_6]) rfl
  · refine g_iconst dX7_has_9 ?_
    refine g_goto 14 dX7_has_10 rfl ?_
    exact f_zret dX7_has_14 (by decide) (by rw [V_X7_has, if_pos c_6]) rfl

def V_X7_lesser (σ : xMi) (a1 : Int) (b1 : Int) : Int := (if x_wr b1 ≤ x_wr a1 then b1 else a1)
theorem c_X7_lesser (l : Launch) (n : Nat) (σ : xMi) (a1 : Int) (b1 : Int) (hn : 154 ≤ n)   : x_F l yX7_lesser RX7 cX7_lesser 2 (some .int) 0 n σ [xI a1, xI b1] (some (xI (V_X7_lesser σ a1 b1))) σ := by
  refine f_of (by decide) rfl (Nat.le_of_ble_eq_true rfl) rfl ?_
  refine g_iload_n dX7_lesser_0 rfl ?_
  refine g_iload_n dX7_lesser_1 rfl ?_
  refine g_cmp_ge 9 dX7_lesser_2 rfl (fun c_2 => ?_) (fun c_2 => ?_)
  · refine g_iload_n dX7_lesser_9 rfl ?_
    exact f_iret dX7_lesser_10 (by rw [V_X7_lesser, if_pos c_2]) rfl
  · refine g_iload_n dX7_lesser_5 rfl ?_
    refine g_goto 10 dX7_lesser_6 rfl ?_
    exact f_iret dX7_lesser_10 (by rw [V_X7_lesser, if_neg c_2]) rfl

def RV_X7_bits_4 (s1 : Int) : Nat → Nat → xMi → Int → Int
  | 0, p, σ, a => a
  | k + 1, p, σ, a => (RV_X7_bits_4 s1 k (p + 1) σ (a + (x_and (x_shr s1 (p : Int)) 1)))
theorem lh_X7_bits_4 (l : Launch) (n : Nat) (s1 : Int) (hn : 154 ≤ n)  : ∀ (k p : Nat) (σ : xMi) (a : Int), p + k = 6 →  x_G l RX7 cX7_bits 3 (some .int) 0 n (some (xI (RV_X7_bits_4 s1 k p σ a))) σ 4 [(2, xI (p : Int)), (1, xI a), (0, xI s1)] [] σ := by
  intro k
  induction k with
  | zero =>
    intro p σ a hk 
    refine g_iload_n dX7_bits_4 rfl ?_
    refine g_bipush dX7_bits_5 (by decide) ?_
    refine g_cmp_ge 24 dX7_bits_7 rfl (fun c_7 => ?_) (fun c_7 => absurd (by rw [show x_wr 6 = 6 from by decide, x_nat (by omega)]; omega) c_7)
    refine g_iload_n dX7_bits_24 rfl ?_
    exact f_iret dX7_bits_25 rfl rfl
  | succ k ih =>
    intro p σ a hk 
    have hp : p < 6 := by omega
    refine g_iload_n dX7_bits_4 rfl ?_
    refine g_bipush dX7_bits_5 (by decide) ?_
    refine g_cmp_ge 24 dX7_bits_7 rfl (fun c_7 => absurd c_7 (by rw [show x_wr 6 = 6 from by decide, x_nat (by omega)]; omega)) (fun c_7 => ?_)
    refine g_iload_n dX7_bits_10 rfl ?_
    refine g_iload_n dX7_bits_11 rfl ?_
    refine g_iload_n dX7_bits_12 rfl ?_
    refine g_ishr dX7_bits_13 ?_
    refine g_iconst dX7_bits_14 ?_
    refine g_iand dX7_bits_15 ?_
    refine g_iadd dX7_bits_16 ?_
    refine g_istore_n (lv' := [_, _, _]) dX7_bits_17 (Nat.le_of_ble_eq_true rfl) rfl ?_
    refine g_iinc (lv' := [(2, xI (((p + 1) : Nat) : Int)), _, _]) dX7_bits_18 (Nat.le_of_ble_eq_true rfl) rfl rfl ?_
    refine g_goto 4 dX7_bits_21 rfl ?_
    refine g_sub (lv2 := [(2, xI (((p + 1) : Nat) : Int)), _, _]) [0, 1, 2] rfl ?_
    exact f_cv rfl rfl (ih (p + 1) _ _ (by omega) )
def V_X7_bits (σ : xMi) (s1 : Int) : Int := (RV_X7_bits_4 s1 6 0 σ 0)
theorem c_X7_bits (l : Launch) (n : Nat) (σ : xMi) (s1 : Int) (hn : 154 ≤ n)   : x_F l yX7_bits RX7 cX7_bits 3 (some .int) 0 n σ [xI s1] (some (xI (V_X7_bits σ s1))) σ := by
  refine f_of (by decide) rfl (Nat.le_of_ble_eq_true rfl) rfl ?_
  refine g_iconst dX7_bits_0 ?_
  refine g_istore_n (lv' := [_, _]) dX7_bits_1 (Nat.le_of_ble_eq_true rfl) rfl ?_
  refine g_iconst dX7_bits_2 ?_
  refine g_istore_n (lv' := [_, _, _]) dX7_bits_3 (Nat.le_of_ble_eq_true rfl) rfl ?_
  refine g_sub (lv2 := [(2, xI ((0 : Nat) : Int)), _, _]) [0, 1, 2] rfl ?_
  exact f_cv rfl rfl (lh_X7_bits_4 l n s1 hn 6 0 _ _ (by omega) )

def S_X7_firstOne (σ : xMi) (k1 : Int) (x1 : Int) (n1 : Int) (b1 : Int) (z : Nat) : xMi := (x_up (x_up (x_up (x_up (x_up σ 25 0 z k1) 26 0 z x1) 27 0 z n1) 28 0 z b1) 24 0 0 (((x_up (x_up (x_up (x_up σ 25 0 z k1) 26 0 z x1) 27 0 z n1) 28 0 z b1) 24 0 0) + 1))
theorem fr_S_X7_firstOne (σ : xMi) (k1 : Int) (x1 : Int) (n1 : Int) (b1 : Int) (z : Nat) {t i k : Nat} (h : ¬ ((t = 24 ∧ k = 0) ∨ (25 ≤ t ∧ t ≤ 28))) : S_X7_firstOne σ k1 x1 n1 b1 z t i k = σ t i k := by
  unfold S_X7_firstOne
  all_goals ((repeat' split) <;> first | rfl | simp (disch := first | omega | assumption) only [x_up_o, x_up_k, x_cp_o])
theorem c_X7_firstOne (l : Launch) (n : Nat) (σ : xMi) (k1 : Int) (x1 : Int) (n1 : Int) (b1 : Int) (z : Nat) (hn : 154 ≤ n) (hz6 : z < 6) (hz : σ 24 0 0 = (z : Int)) : x_F l yX7_firstOne RX7 cX7_firstOne 5 none 0 n σ [xR 24 0, xI k1, xI x1, xI n1, xI b1] none (S_X7_firstOne σ k1 x1 n1 b1 z) := by
  refine f_of (by decide) rfl (Nat.le_of_ble_eq_true rfl) rfl ?_
  refine g_aload_n dX7_firstOne_0 rfl ?_
  refine g_getR (t2 := 25) (i2 := 0) dX7_firstOne_1 fl_X7_9 (x_vM hn (Nat.le_of_ble_eq_true rfl) (Nat.le_of_ble_eq_true rfl)) rfl rfl rfl ?_
  refine g_aload_n dX7_firstOne_4 rfl ?_
  refine g_getI dX7_firstOne_5 fl_X7_84 (x_vM hn (Nat.le_of_ble_eq_true rfl) (Nat.le_of_ble_eq_true rfl)) rfl rfl ?_
  refine g_eqI ((z : Nat) : Int) hz ?_
  refine g_iload_n dX7_firstOne_8 rfl ?_
  refine g_iast z dX7_firstOne_9 rfl hz6 (x_vM hn (Nat.le_of_ble_eq_true rfl) (Nat.le_of_ble_eq_true rfl)) rfl ?_
  refine g_aload_n dX7_firstOne_10 rfl ?_
  refine g_getR (t2 := 26) (i2 := 0) dX7_firstOne_11 fl_X7_13 (x_vM hn (Nat.le_of_ble_eq_true rfl) (Nat.le_of_ble_eq_true rfl)) rfl rfl rfl ?_
  refine g_aload_n dX7_firstOne_14 rfl ?_
  refine g_getI dX7_firstOne_15 fl_X7_84 (x_vM hn (Nat.le_of_ble_eq_true rfl) (Nat.le_of_ble_eq_true rfl)) rfl rfl ?_
  refine g_eqI ((z : Nat) : Int) (by simp (disch := first | omega | assumption) only [x_up_o, x_cp_o]; exact hz) ?_
  refine g_iload_n dX7_firstOne_18 rfl ?_
  refine g_iast z dX7_firstOne_19 rfl hz6 (x_vM hn (Nat.le_of_ble_eq_true rfl) (Nat.le_of_ble_eq_true rfl)) rfl ?_
  refine g_aload_n dX7_firstOne_20 rfl ?_
  refine g_getR (t2 := 27) (i2 := 0) dX7_firstOne_21 fl_X7_16 (x_vM hn (Nat.le_of_ble_eq_true rfl) (Nat.le_of_ble_eq_true rfl)) rfl rfl rfl ?_
  refine g_aload_n dX7_firstOne_24 rfl ?_
  refine g_getI dX7_firstOne_25 fl_X7_84 (x_vM hn (Nat.le_of_ble_eq_true rfl) (Nat.le_of_ble_eq_true rfl)) rfl rfl ?_
  refine g_eqI ((z : Nat) : Int) (by simp (disch := first | omega | assumption) only [x_up_o, x_cp_o]; exact hz) ?_
  refine g_iload_n dX7_firstOne_28 rfl ?_
  refine g_iast z dX7_firstOne_29 rfl hz6 (x_vM hn (Nat.le_of_ble_eq_true rfl) (Nat.le_of_ble_eq_true rfl)) rfl ?_
  refine g_aload_n dX7_firstOne_30 rfl ?_
  refine g_getR (t2 := 28) (i2 := 0) dX7_firstOne_31 fl_X7_19 (x_vM hn (Nat.le_of_ble_eq_true rfl) (Nat.le_of_ble_eq_true rfl)) rfl rfl rfl ?_
  refine g_aload_n dX7_firstOne_34 rfl ?_
  refine g_getI dX7_firstOne_35 fl_X7_84 (x_vM hn (Nat.le_of_ble_eq_true rfl) (Nat.le_of_ble_eq_true rfl)) rfl rfl ?_
  refine g_eqI ((z : Nat) : Int) (by simp (disch := first | omega | assumption) only [x_up_o, x_cp_o]; exact hz) ?_
  refine g_iload dX7_firstOne_38 rfl ?_
  refine g_iast z dX7_firstOne_40 rfl hz6 (x_vM hn (Nat.le_of_ble_eq_true rfl) (Nat.le_of_ble_eq_true rfl)) rfl ?_
  refine g_aload_n dX7_firstOne_41 rfl ?_
  refine g_dup dX7_firstOne_42 rfl ?_
  refine g_getI dX7_firstOne_43 fl_X7_84 (x_vM hn (Nat.le_of_ble_eq_true rfl) (Nat.le_of_ble_eq_true rfl)) rfl rfl ?_
  refine g_iconst dX7_firstOne_46 ?_
  refine g_iadd dX7_firstOne_47 ?_
  refine g_putI dX7_firstOne_48 fl_X7_84 (x_vM hn (Nat.le_of_ble_eq_true rfl) (Nat.le_of_ble_eq_true rfl)) rfl rfl ?_
  exact f_vret dX7_firstOne_51 rfl rfl

def RS_X7_begin_22 (h1 : Int) : Nat → Nat → xMi → xMi
  | 0, p, σ => σ
  | k + 1, p, σ => (RS_X7_begin_22 h1 k (p + 1) (x_up (x_up (x_up (x_up (x_up (x_up (x_up (x_up σ 29 0 p 0) 30 0 p (-4)) 31 0 p 0) 32 0 p (-4)) 33 0 p 0) 34 0 p 0) 35 0 p 0) 36 0 p 0) )
theorem fr_RS_X7_begin_22 (h1 : Int) {t i k' : Nat} (h : ¬ ((t = 24 ∧ 5 ≤ k' ∧ k' ≤ 8) ∨ (29 ≤ t ∧ t ≤ 36))) : ∀ (k p : Nat) (σ : xMi) , RS_X7_begin_22 h1 k p σ  t i k' = σ t i k' := by
  intro k
  induction k with
  | zero =>
    intro p σ 
    simp only [RS_X7_begin_22]
    all_goals ((repeat' split) <;> simp (disch := first | omega | assumption) only [x_up_o, x_up_k, x_cp_o])
  | succ k ih =>
    intro p σ 
    simp only [RS_X7_begin_22]
    all_goals (repeat' split)
    all_goals (first | rw [ih] | skip)
    all_goals first | done | simp (disch := first | omega | assumption) only [x_up_o, x_up_k, x_cp_o]
theorem lh_X7_begin_22 (l : Launch) (n : Nat) (h1 : Int) (hn : 154 ≤ n)  : ∀ (k p : Nat) (σ : xMi) , p + k = 6 →  x_G l RX7 cX7_begin 3 none 0 n none (RS_X7_begin_22 h1 k p σ ) 22 [(2, xI (p : Int)), (0, xR 24 0), (1, xI h1)] [] σ := by
  intro k
  induction k with
  | zero =>
    intro p σ  hk 
    refine g_iload_n dX7_begin_22 rfl ?_
    refine g_bipush dX7_begin_23 (by decide) ?_
    refine g_cmp_ge 92 dX7_begin_25 rfl (fun c_25 => ?_) (fun c_25 => absurd (by rw [show x_wr 6 = 6 from by decide, x_nat (by omega)]; omega) c_25)
    exact f_vret dX7_begin_92 rfl rfl
  | succ k ih =>
    intro p σ  hk 
    have hp : p < 6 := by omega
    refine g_iload_n dX7_begin_22 rfl ?_
    refine g_bipush dX7_begin_23 (by decide) ?_
    refine g_cmp_ge 92 dX7_begin_25 rfl (fun c_25 => absurd c_25 (by rw [show x_wr 6 = 6 from by decide, x_nat (by omega)]; omega)) (fun c_25 => ?_)
    refine g_aload_n dX7_begin_28 rfl ?_
    refine g_getR (t2 := 29) (i2 := 0) dX7_begin_29 fl_X7_22 (x_vM hn (Nat.le_of_ble_eq_true rfl) (Nat.le_of_ble_eq_true rfl)) rfl rfl rfl ?_
    refine g_iload_n dX7_begin_32 rfl ?_
    refine g_iconst dX7_begin_33 ?_
    refine g_iast p dX7_begin_34 rfl hp (x_vM hn (Nat.le_of_ble_eq_true rfl) (Nat.le_of_ble_eq_true rfl)) rfl ?_
    refine g_aload_n dX7_begin_35 rfl ?_
    refine g_getR (t2 := 30) (i2 := 0) dX7_begin_36 fl_X7_25 (x_vM hn (Nat.le_of_ble_eq_true rfl) (Nat.le_of_ble_eq_true rfl)) rfl rfl rfl ?_
    refine g_iload_n dX7_begin_39 rfl ?_
    refine g_bipush dX7_begin_40 (by decide) ?_
    refine g_iast p dX7_begin_42 rfl hp (x_vM hn (Nat.le_of_ble_eq_true rfl) (Nat.le_of_ble_eq_true rfl)) rfl ?_
    refine g_aload_n dX7_begin_43 rfl ?_
    refine g_getR (t2 := 31) (i2 := 0) dX7_begin_44 fl_X7_28 (x_vM hn (Nat.le_of_ble_eq_true rfl) (Nat.le_of_ble_eq_true rfl)) rfl rfl rfl ?_
    refine g_iload_n dX7_begin_47 rfl ?_
    refine g_iconst dX7_begin_48 ?_
    refine g_iast p dX7_begin_49 rfl hp (x_vM hn (Nat.le_of_ble_eq_true rfl) (Nat.le_of_ble_eq_true rfl)) rfl ?_
    refine g_aload_n dX7_begin_50 rfl ?_
    refine g_getR (t2 := 32) (i2 := 0) dX7_begin_51 fl_X7_31 (x_vM hn (Nat.le_of_ble_eq_true rfl) (Nat.le_of_ble_eq_true rfl)) rfl rfl rfl ?_
    refine g_iload_n dX7_begin_54 rfl ?_
    refine g_bipush dX7_begin_55 (by decide) ?_
    refine g_iast p dX7_begin_57 rfl hp (x_vM hn (Nat.le_of_ble_eq_true rfl) (Nat.le_of_ble_eq_true rfl)) rfl ?_
    refine g_aload_n dX7_begin_58 rfl ?_
    refine g_getR (t2 := 33) (i2 := 0) dX7_begin_59 fl_X7_34 (x_vM hn (Nat.le_of_ble_eq_true rfl) (Nat.le_of_ble_eq_true rfl)) rfl rfl rfl ?_
    refine g_iload_n dX7_begin_62 rfl ?_
    refine g_iconst dX7_begin_63 ?_
    refine g_iast p dX7_begin_64 rfl hp (x_vM hn (Nat.le_of_ble_eq_true rfl) (Nat.le_of_ble_eq_true rfl)) rfl ?_
    refine g_aload_n dX7_begin_65 rfl ?_
    refine g_getR (t2 := 34) (i2 := 0) dX7_begin_66 fl_X7_37 (x_vM hn (Nat.le_of_ble_eq_true rfl) (Nat.le_of_ble_eq_true rfl)) rfl rfl rfl ?_
    refine g_iload_n dX7_begin_69 rfl ?_
    refine g_iconst dX7_begin_70 ?_
    refine g_iast p dX7_begin_71 rfl hp (x_vM hn (Nat.le_of_ble_eq_true rfl) (Nat.le_of_ble_eq_true rfl)) rfl ?_
    refine g_aload_n dX7_begin_72 rfl ?_
    refine g_getR (t2 := 35) (i2 := 0) dX7_begin_73 fl_X7_40 (x_vM hn (Nat.le_of_ble_eq_true rfl) (Nat.le_of_ble_eq_true rfl)) rfl rfl rfl ?_
    refine g_iload_n dX7_begin_76 rfl ?_
    refine g_iconst dX7_begin_77 ?_
    refine g_iast p dX7_begin_78 rfl hp (x_vM hn (Nat.le_of_ble_eq_true rfl) (Nat.le_of_ble_eq_true rfl)) rfl ?_
    refine g_aload_n dX7_begin_79 rfl ?_
    refine g_getR (t2 := 36) (i2 := 0) dX7_begin_80 fl_X7_43 (x_vM hn (Nat.le_of_ble_eq_true rfl) (Nat.le_of_ble_eq_true rfl)) rfl rfl rfl ?_
    refine g_iload_n dX7_begin_83 rfl ?_
    refine g_iconst dX7_begin_84 ?_
    refine g_iast p dX7_begin_85 rfl hp (x_vM hn (Nat.le_of_ble_eq_true rfl) (Nat.le_of_ble_eq_true rfl)) rfl ?_
    refine g_iinc (lv' := [(2, xI (((p + 1) : Nat) : Int)), _, _]) dX7_begin_86 (Nat.le_of_ble_eq_true rfl) rfl rfl ?_
    refine g_goto 22 dX7_begin_89 rfl ?_
    refine g_sub (lv2 := [(2, xI (((p + 1) : Nat) : Int)), _, _]) [0, 1, 2] rfl ?_
    exact f_cv rfl rfl (ih (p + 1) _  (by omega) )
def S_X7_begin (σ : xMi) (h1 : Int) : xMi := (RS_X7_begin_22 h1 6 0 (x_up (x_up (x_up (x_up σ 24 0 5 0) 24 0 6 h1) 24 0 7 0) 24 0 8 0) )
theorem fr_S_X7_begin (σ : xMi) (h1 : Int) {t i k : Nat} (h : ¬ ((t = 24 ∧ 5 ≤ k ∧ k ≤ 8) ∨ (29 ≤ t ∧ t ≤ 36))) : S_X7_begin σ h1 t i k = σ t i k := by
  unfold S_X7_begin
  all_goals ((repeat' split) <;> first | rfl | simp (disch := first | omega | assumption) only [x_up_o, x_up_k, x_cp_o, fr_RS_X7_begin_22])
theorem c_X7_begin (l : Launch) (n : Nat) (σ : xMi) (h1 : Int) (hn : 154 ≤ n)   : x_F l yX7_begin RX7 cX7_begin 3 none 0 n σ [xR 24 0, xI h1] none (S_X7_begin σ h1) := by
  refine f_of (by decide) rfl (Nat.le_of_ble_eq_true rfl) rfl ?_
  refine g_aload_n dX7_begin_0 rfl ?_
  refine g_iconst dX7_begin_1 ?_
  refine g_putI dX7_begin_2 fl_X7_88 (x_vM hn (Nat.le_of_ble_eq_true rfl) (Nat.le_of_ble_eq_true rfl)) rfl rfl ?_
  refine g_aload_n dX7_begin_5 rfl ?_
  refine g_iload_n dX7_begin_6 rfl ?_
  refine g_putI dX7_begin_7 fl_X7_91 (x_vM hn (Nat.le_of_ble_eq_true rfl) (Nat.le_of_ble_eq_true rfl)) rfl rfl ?_
  refine g_aload_n dX7_begin_10 rfl ?_
  refine g_iconst dX7_begin_11 ?_
  refine g_putI dX7_begin_12 fl_X7_94 (x_vM hn (Nat.le_of_ble_eq_true rfl) (Nat.le_of_ble_eq_true rfl)) rfl rfl ?_
  refine g_aload_n dX7_begin_15 rfl ?_
  refine g_iconst dX7_begin_16 ?_
  refine g_putI dX7_begin_17 fl_X7_97 (x_vM hn (Nat.le_of_ble_eq_true rfl) (Nat.le_of_ble_eq_true rfl)) rfl rfl ?_
  refine g_iconst dX7_begin_20 ?_
  refine g_istore_n (lv' := [_, _, _]) dX7_begin_21 (Nat.le_of_ble_eq_true rfl) rfl ?_
  refine g_sub (lv2 := [(2, xI ((0 : Nat) : Int)), _, _]) [0, 1, 2] rfl ?_
  exact f_cv rfl rfl (lh_X7_begin_22 l n h1 hn 6 0 _  (by omega) )

def V_X7_isOne (σ : xMi) (a1 : Int) : Int := (V_X7_in σ a1 0 ((σ 24 0 0) - 1))
theorem z_X7_isOne (σ : xMi) (a1 : Int) : V_X7_isOne σ a1 = 0 ∨ V_X7_isOne σ a1 = 1 := by
  unfold V_X7_isOne
  (repeat' split) <;> first | exact Or.inl rfl | exact Or.inr rfl | exact z_X7_in _ _ _ _
theorem c_X7_isOne (l : Launch) (n : Nat) (σ : xMi) (a1 : Int) (hn : 154 ≤ n)   : x_F l yX7_isOne RX7 cX7_isOne 2 (some .boolean) 1 n σ [xR 24 0, xI a1] (some (xI (V_X7_isOne σ a1))) σ := by
  refine f_of (by decide) rfl (Nat.le_of_ble_eq_true rfl) rfl ?_
  refine g_iload_n dX7_isOne_0 rfl ?_
  refine g_iconst dX7_isOne_1 ?_
  refine g_aload_n dX7_isOne_2 rfl ?_
  refine g_getI dX7_isOne_3 fl_X7_84 (x_vM hn (Nat.le_of_ble_eq_true rfl) (Nat.le_of_ble_eq_true rfl)) rfl rfl ?_
  refine g_iconst dX7_isOne_6 ?_
  refine g_isub dX7_isOne_7 ?_
  refine f_S dX7_isOne_8 cs_X7_100 mb_X7_in (c_X7_in l n _ a1 0 ((σ 24 0 0) - 1) hn) rfl (Nat.lt_of_lt_of_le (by decide) hn) rfl (Nat.le_of_ble_eq_true rfl) (by decide) (Nat.le_of_ble_eq_true rfl) (Nat.le_refl _) (Nat.le_refl _) ?_
  exact f_zret dX7_isOne_11 (z_X7_in _ _ _ _) rfl rfl

def V_X7_write (σ : xMi) (c1 : Int) (z : Nat) : Int := (if x_wr (V_X7_in σ c1 32 126) = 0 then (-1) else (if x_wr (σ 24 0 22) = x_wr 200 then (-3) else ((x_up (x_up σ 40 0 z c1) 24 0 22 (((x_up σ 40 0 z c1) 24 0 22) + 1)) 24 0 22)))
def S_X7_write (σ : xMi) (c1 : Int) (z : Nat) : xMi := (if x_wr (V_X7_in σ c1 32 126) = 0 then σ else (if x_wr (σ 24 0 22) = x_wr 200 then σ else (x_up (x_up σ 40 0 z c1) 24 0 22 (((x_up σ 40 0 z c1) 24 0 22) + 1))))
theorem c_X7_write (l : Launch) (n : Nat) (σ : xMi) (c1 : Int) (z : Nat) (hn : 154 ≤ n) (hz2 : z ≤ 200) (hz : σ 24 0 22 = (z : Int)) : x_F l yX7_write RX7 cX7_write 2 (some .int) 1 n σ [xR 24 0, xI c1] (some (xI (V_X7_write σ c1 z))) (S_X7_write σ c1 z) := by
  refine f_of (by decide) rfl (Nat.le_of_ble_eq_true rfl) rfl ?_
  refine g_iload_n dX7_write_0 rfl ?_
  refine g_bipush dX7_write_1 (by decide) ?_
  refine g_bipush dX7_write_3 (by decide) ?_
  refine f_S dX7_write_5 cs_X7_100 mb_X7_in (c_X7_in l n _ c1 32 126 hn) rfl (Nat.lt_of_lt_of_le (by decide) hn) rfl (Nat.le_of_ble_eq_true rfl) (by decide) (Nat.le_of_ble_eq_true rfl) (Nat.le_refl _) (Nat.le_refl _) ?_
  refine g_if_ne 13 dX7_write_8 rfl (fun c_8 => ?_) (fun c_8 => ?_)
  · refine g_aload_n dX7_write_13 rfl ?_
    refine g_getI dX7_write_14 fl_X7_104 (x_vM hn (Nat.le_of_ble_eq_true rfl) (Nat.le_of_ble_eq_true rfl)) rfl rfl ?_
    refine g_sipush dX7_write_17 (by decide) ?_
    refine g_cmp_ne 26 dX7_write_20 rfl (fun c_20 => ?_) (fun c_20 => ?_)
    · refine g_aload_n dX7_write_26 rfl ?_
      refine g_getR (t2 := 40) (i2 := 0) dX7_write_27 fl_X7_55 (x_vM hn (Nat.le_of_ble_eq_true rfl) (Nat.le_of_ble_eq_true rfl)) rfl rfl rfl ?_
      refine g_aload_n dX7_write_30 rfl ?_
      refine g_getI dX7_write_31 fl_X7_104 (x_vM hn (Nat.le_of_ble_eq_true rfl) (Nat.le_of_ble_eq_true rfl)) rfl rfl ?_
      have hz5 : z < 200 := by rw [hz, x_nat (by omega), show x_wr 200 = 200 from by decide] at c_20; omega
      refine g_eqI ((z : Nat) : Int) hz ?_
      refine g_iload_n dX7_write_34 rfl ?_
      refine g_iast z dX7_write_35 rfl hz5 (x_vM hn (Nat.le_of_ble_eq_true rfl) (Nat.le_of_ble_eq_true rfl)) rfl ?_
      refine g_aload_n dX7_write_36 rfl ?_
      refine g_dup dX7_write_37 rfl ?_
      refine g_getI dX7_write_38 fl_X7_104 (x_vM hn (Nat.le_of_ble_eq_true rfl) (Nat.le_of_ble_eq_true rfl)) rfl rfl ?_
      refine g_iconst dX7_write_41 ?_
      refine g_iadd dX7_write_42 ?_
      refine g_putI dX7_write_43 fl_X7_104 (x_vM hn (Nat.le_of_ble_eq_true rfl) (Nat.le_of_ble_eq_true rfl)) rfl rfl ?_
      refine g_aload_n dX7_write_46 rfl ?_
      refine g_getI dX7_write_47 fl_X7_104 (x_vM hn (Nat.le_of_ble_eq_true rfl) (Nat.le_of_ble_eq_true rfl)) rfl rfl ?_
      exact f_iret dX7_write_50 (by rw [V_X7_write, if_neg c_8, if_neg c_20]) (by rw [S_X7_write, if_neg c_8, if_neg c_20])
    · refine g_bipush dX7_write_23 (by decide) ?_
      exact f_iret dX7_write_25 (by rw [V_X7_write, if_neg c_8, if_pos c_20]) (by rw [S_X7_write, if_neg c_8, if_pos c_20])
  · refine g_iconst dX7_write_11 ?_
    exact f_iret dX7_write_12 (by rw [V_X7_write, if_pos c_8]) (by rw [S_X7_write, if_pos c_8])

def V_X7_wipe (σ : xMi)  : Int := (σ 24 0 22)
def S_X7_wipe (σ : xMi)  : xMi := (x_up σ 24 0 22 0)
theorem c_X7_wipe (l : Launch) (n : Nat) (σ : xMi)  (hn : 154 ≤ n)   : x_F l yX7_wipe RX7 cX7_wipe 2 (some .int) 0 n σ [xR 24 0] (some (xI (V_X7_wipe σ ))) (S_X7_wipe σ ) := by
  refine f_of (by decide) rfl (Nat.le_of_ble_eq_true rfl) rfl ?_
  refine g_aload_n dX7_wipe_0 rfl ?_
  refine g_getI dX7_wipe_1 fl_X7_104 (x_vM hn (Nat.le_of_ble_eq_true rfl) (Nat.le_of_ble_eq_true rfl)) rfl rfl ?_
  refine g_istore_n (lv' := [_, _]) dX7_wipe_4 (Nat.le_of_ble_eq_true rfl) rfl ?_
  refine g_aload_n dX7_wipe_5 rfl ?_
  refine g_iconst dX7_wipe_6 ?_
  refine g_putI dX7_wipe_7 fl_X7_104 (x_vM hn (Nat.le_of_ble_eq_true rfl) (Nat.le_of_ble_eq_true rfl)) rfl rfl ?_
  refine g_iload_n dX7_wipe_10 rfl ?_
  exact f_iret dX7_wipe_11 rfl rfl

def V_X7_eatsBy (σ : xMi) (k1 : Int) (n1 : Int) : Int := (if x_wr k1 = x_wr 1 then ((2 * n1) + 2) else (if x_wr k1 = x_wr 2 then n1 else (2 * n1)))
theorem c_X7_eatsBy (l : Launch) (n : Nat) (σ : xMi) (k1 : Int) (n1 : Int) (hn : 154 ≤ n)   : x_F l yX7_eatsBy RX7 cX7_eatsBy 2 (some .int) 0 n σ [xI k1, xI n1] (some (xI (V_X7_eatsBy σ k1 n1))) σ := by
  refine f_of (by decide) rfl (Nat.le_of_ble_eq_true rfl) rfl ?_
  refine g_iload_n dX7_eatsBy_0 rfl ?_
  refine g_iconst dX7_eatsBy_1 ?_
  refine g_cmp_ne 13 dX7_eatsBy_2 rfl (fun c_2 => ?_) (fun c_2 => ?_)
  · refine g_iload_n dX7_eatsBy_13 rfl ?_
    refine g_iconst dX7_eatsBy_14 ?_
    refine g_cmp_ne 22 dX7_eatsBy_15 rfl (fun c_15 => ?_) (fun c_15 => ?_)
    · refine g_iconst dX7_eatsBy_22 ?_
      refine g_iload_n dX7_eatsBy_23 rfl ?_
      refine g_imul dX7_eatsBy_24 ?_
      exact f_iret dX7_eatsBy_25 (by rw [V_X7_eatsBy, if_neg c_2, if_neg c_15]) rfl
    · refine g_iload_n dX7_eatsBy_18 rfl ?_
      refine g_goto 25 dX7_eatsBy_19 rfl ?_
      exact f_iret dX7_eatsBy_25 (by rw [V_X7_eatsBy, if_neg c_2, if_pos c_15]) rfl
  · refine g_iconst dX7_eatsBy_5 ?_
    refine g_iload_n dX7_eatsBy_6 rfl ?_
    refine g_imul dX7_eatsBy_7 ?_
    refine g_iconst dX7_eatsBy_8 ?_
    refine g_iadd dX7_eatsBy_9 ?_
    refine g_goto 25 dX7_eatsBy_10 rfl ?_
    exact f_iret dX7_eatsBy_25 (by rw [V_X7_eatsBy, if_pos c_2]) rfl

def T_X7_comesIn_1 (σ : xMi) (p : Nat) : xMi := (x_up (x_up (x_up (x_up (x_up σ 35 0 p 1) 24 0 8 (((x_up σ 35 0 p 1) 24 0 8) + 1)) 30 0 p (((x_up (x_up σ 35 0 p 1) 24 0 8 (((x_up σ 35 0 p 1) 24 0 8) + 1)) 24 0 5) + 1)) 29 0 p 1) 24 0 6 (((x_up (x_up (x_up (x_up σ 35 0 p 1) 24 0 8 (((x_up σ 35 0 p 1) 24 0 8) + 1)) 30 0 p (((x_up (x_up σ 35 0 p 1) 24 0 8 (((x_up σ 35 0 p 1) 24 0 8) + 1)) 24 0 5) + 1)) 29 0 p 1) 24 0 6) - (((x_up (x_up (x_up (x_up σ 35 0 p 1) 24 0 8 (((x_up σ 35 0 p 1) 24 0 8) + 1)) 30 0 p (((x_up (x_up σ 35 0 p 1) 24 0 8 (((x_up σ 35 0 p 1) 24 0 8) + 1)) 24 0 5) + 1)) 29 0 p 1) 29 0 p) - 1)))
def T_X7_comesIn_2 (σ : xMi) (p : Nat) : xMi := (x_up (x_up (x_up (x_up (x_up σ 35 0 p 1) 24 0 8 (((x_up σ 35 0 p 1) 24 0 8) + 1)) 30 0 p (((x_up (x_up σ 35 0 p 1) 24 0 8 (((x_up σ 35 0 p 1) 24 0 8) + 1)) 24 0 5) + 1)) 29 0 p 2) 24 0 6 (((x_up (x_up (x_up (x_up σ 35 0 p 1) 24 0 8 (((x_up σ 35 0 p 1) 24 0 8) + 1)) 30 0 p (((x_up (x_up σ 35 0 p 1) 24 0 8 (((x_up σ 35 0 p 1) 24 0 8) + 1)) 24 0 5) + 1)) 29 0 p 2) 24 0 6) - (((x_up (x_up (x_up (x_up σ 35 0 p 1) 24 0 8 (((x_up σ 35 0 p 1) 24 0 8) + 1)) 30 0 p (((x_up (x_up σ 35 0 p 1) 24 0 8 (((x_up σ 35 0 p 1) 24 0 8) + 1)) 24 0 5) + 1)) 29 0 p 2) 29 0 p) - 1)))
def S_X7_comesIn (σ : xMi) (p : Nat) : xMi := (if x_wr (σ 25 0 p) = x_wr 3 then (if x_wr (σ 35 0 p) = 0 then (if x_wr ((x_up (x_up (x_up σ 35 0 p 1) 24 0 8 (((x_up σ 35 0 p 1) 24 0 8) + 1)) 30 0 p (((x_up (x_up σ 35 0 p 1) 24 0 8 (((x_up σ 35 0 p 1) 24 0 8) + 1)) 24 0 5) + 1)) 24 0 6) ≤ 0 then (T_X7_comesIn_1 σ p) else (T_X7_comesIn_2 σ p)) else (x_up (x_up (x_up (x_up σ 34 0 p 1) 31 0 p (V_X7_eatsBy (x_up σ 34 0 p 1) ((x_up σ 34 0 p 1) 25 0 p) ((x_up σ 34 0 p 1) 29 0 p))) 29 0 p 0) 30 0 p (-4))) else (x_up (x_up (x_up (x_up σ 34 0 p 1) 31 0 p (V_X7_eatsBy (x_up σ 34 0 p 1) ((x_up σ 34 0 p 1) 25 0 p) ((x_up σ 34 0 p 1) 29 0 p))) 29 0 p 0) 30 0 p (-4)))
theorem fr_S_X7_comesIn (σ : xMi) (p : Nat) {t i k : Nat} (h : ¬ ((t = 24 ∧ 5 ≤ k ∧ k ≤ 8) ∨ (29 ≤ t ∧ t ≤ 36))) : S_X7_comesIn σ p t i k = σ t i k := by
  unfold S_X7_comesIn
  all_goals ((repeat' split) <;> first | rfl | simp (disch := first | omega | assumption) only [x_up_o, x_up_k, x_cp_o, T_X7_comesIn_2, T_X7_comesIn_1])
theorem c_X7_comesIn (l : Launch) (n : Nat) (σ : xMi) (p : Nat) (hn : 154 ≤ n) (hp : p < 6)  : x_F l yX7_comesIn RX7 cX7_comesIn 2 none 1 n σ [xR 24 0, xI (p : Int)] none (S_X7_comesIn σ p) := by
  refine f_of (by decide) rfl (Nat.le_of_ble_eq_true rfl) rfl ?_
  refine g_aload_n dX7_comesIn_0 rfl ?_
  refine g_getR (t2 := 25) (i2 := 0) dX7_comesIn_1 fl_X7_9 (x_vM hn (Nat.le_of_ble_eq_true rfl) (Nat.le_of_ble_eq_true rfl)) rfl rfl rfl ?_
  refine g_iload_n dX7_comesIn_4 rfl ?_
  refine g_iald p dX7_comesIn_5 rfl hp (x_vM hn (Nat.le_of_ble_eq_true rfl) (Nat.le_of_ble_eq_true rfl)) rfl ?_
  refine g_iconst dX7_comesIn_6 ?_
  refine g_cmp_ne 86 dX7_comesIn_7 rfl (fun c_7 => ?_) (fun c_7 => ?_)
  · refine g_aload_n dX7_comesIn_86 rfl ?_
    refine g_getR (t2 := 34) (i2 := 0) dX7_comesIn_87 fl_X7_37 (x_vM hn (Nat.le_of_ble_eq_true rfl) (Nat.le_of_ble_eq_true rfl)) rfl rfl rfl ?_
    refine g_iload_n dX7_comesIn_90 rfl ?_
    refine g_iconst dX7_comesIn_91 ?_
    refine g_iast p dX7_comesIn_92 rfl hp (x_vM hn (Nat.le_of_ble_eq_true rfl) (Nat.le_of_ble_eq_true rfl)) rfl ?_
    refine g_aload_n dX7_comesIn_93 rfl ?_
    refine g_getR (t2 := 31) (i2 := 0) dX7_comesIn_94 fl_X7_28 (x_vM hn (Nat.le_of_ble_eq_true rfl) (Nat.le_of_ble_eq_true rfl)) rfl rfl rfl ?_
    refine g_iload_n dX7_comesIn_97 rfl ?_
    refine g_aload_n dX7_comesIn_98 rfl ?_
    refine g_getR (t2 := 25) (i2 := 0) dX7_comesIn_99 fl_X7_9 (x_vM hn (Nat.le_of_ble_eq_true rfl) (Nat.le_of_ble_eq_true rfl)) rfl rfl rfl ?_
    refine g_iload_n dX7_comesIn_102 rfl ?_
    refine g_iald p dX7_comesIn_103 rfl hp (x_vM hn (Nat.le_of_ble_eq_true rfl) (Nat.le_of_ble_eq_true rfl)) rfl ?_
    refine g_aload_n dX7_comesIn_104 rfl ?_
    refine g_getR (t2 := 29) (i2 := 0) dX7_comesIn_105 fl_X7_22 (x_vM hn (Nat.le_of_ble_eq_true rfl) (Nat.le_of_ble_eq_true rfl)) rfl rfl rfl ?_
    refine g_iload_n dX7_comesIn_108 rfl ?_
    refine g_iald p dX7_comesIn_109 rfl hp (x_vM hn (Nat.le_of_ble_eq_true rfl) (Nat.le_of_ble_eq_true rfl)) rfl ?_
    refine f_S dX7_comesIn_110 cs_X7_151 mb_X7_eatsBy (c_X7_eatsBy l n _ ((x_up σ 34 0 p 1) 25 0 p) ((x_up σ 34 0 p 1) 29 0 p) hn) rfl (Nat.lt_of_lt_of_le (by decide) hn) rfl (Nat.le_of_ble_eq_true rfl) (by decide) (Nat.le_of_ble_eq_true rfl) (Nat.le_refl _) (Nat.le_refl _) ?_
    refine g_iast p dX7_comesIn_113 rfl hp (x_vM hn (Nat.le_of_ble_eq_true rfl) (Nat.le_of_ble_eq_true rfl)) rfl ?_
    refine g_aload_n dX7_comesIn_114 rfl ?_
    refine g_getR (t2 := 29) (i2 := 0) dX7_comesIn_115 fl_X7_22 (x_vM hn (Nat.le_of_ble_eq_true rfl) (Nat.le_of_ble_eq_true rfl)) rfl rfl rfl ?_
    refine g_iload_n dX7_comesIn_118 rfl ?_
    refine g_iconst dX7_comesIn_119 ?_
    refine g_iast p dX7_comesIn_120 rfl hp (x_vM hn (Nat.le_of_ble_eq_true rfl) (Nat.le_of_ble_eq_true rfl)) rfl ?_
    refine g_aload_n dX7_comesIn_121 rfl ?_
    refine g_getR (t2 := 30) (i2 := 0) dX7_comesIn_122 fl_X7_25 (x_vM hn (Nat.le_of_ble_eq_true rfl) (Nat.le_of_ble_eq_true rfl)) rfl rfl rfl ?_
    refine g_iload_n dX7_comesIn_125 rfl ?_
    refine g_bipush dX7_comesIn_126 (by decide) ?_
    refine g_iast p dX7_comesIn_128 rfl hp (x_vM hn (Nat.le_of_ble_eq_true rfl) (Nat.le_of_ble_eq_true rfl)) rfl ?_
    exact f_vret dX7_comesIn_129 rfl (by rw [S_X7_comesIn, if_neg c_7])
  · refine g_aload_n dX7_comesIn_10 rfl ?_
    refine g_getR (t2 := 35) (i2 := 0) dX7_comesIn_11 fl_X7_40 (x_vM hn (Nat.le_of_ble_eq_true rfl) (Nat.le_of_ble_eq_true rfl)) rfl rfl rfl ?_
    refine g_iload_n dX7_comesIn_14 rfl ?_
    refine g_iald p dX7_comesIn_15 rfl hp (x_vM hn (Nat.le_of_ble_eq_true rfl) (Nat.le_of_ble_eq_true rfl)) rfl ?_
    refine g_if_ne 86 dX7_comesIn_16 rfl (fun c_16 => ?_) (fun c_16 => ?_)
    · refine g_aload_n dX7_comesIn_86 rfl ?_
      refine g_getR (t2 := 34) (i2 := 0) dX7_comesIn_87 fl_X7_37 (x_vM hn (Nat.le_of_ble_eq_true rfl) (Nat.le_of_ble_eq_true rfl)) rfl rfl rfl ?_
      refine g_iload_n dX7_comesIn_90 rfl ?_
      refine g_iconst dX7_comesIn_91 ?_
      refine g_iast p dX7_comesIn_92 rfl hp (x_vM hn (Nat.le_of_ble_eq_true rfl) (Nat.le_of_ble_eq_true rfl)) rfl ?_
      refine g_aload_n dX7_comesIn_93 rfl ?_
      refine g_getR (t2 := 31) (i2 := 0) dX7_comesIn_94 fl_X7_28 (x_vM hn (Nat.le_of_ble_eq_true rfl) (Nat.le_of_ble_eq_true rfl)) rfl rfl rfl ?_
      refine g_iload_n dX7_comesIn_97 rfl ?_
      refine g_aload_n dX7_comesIn_98 rfl ?_
      refine g_getR (t2 := 25) (i2 := 0) dX7_comesIn_99 fl_X7_9 (x_vM hn (Nat.le_of_ble_eq_true rfl) (Nat.le_of_ble_eq_true rfl)) rfl rfl rfl ?_
      refine g_iload_n dX7_comesIn_102 rfl ?_
      refine g_iald p dX7_comesIn_103 rfl hp (x_vM hn (Nat.le_of_ble_eq_true rfl) (Nat.le_of_ble_eq_true rfl)) rfl ?_
      refine g_aload_n dX7_comesIn_104 rfl ?_
      refine g_getR (t2 := 29) (i2 := 0) dX7_comesIn_105 fl_X7_22 (x_vM hn (Nat.le_of_ble_eq_true rfl) (Nat.le_of_ble_eq_true rfl)) rfl rfl rfl ?_
      refine g_iload_n dX7_comesIn_108 rfl ?_
      refine g_iald p dX7_comesIn_109 rfl hp (x_vM hn (Nat.le_of_ble_eq_true rfl) (Nat.le_of_ble_eq_true rfl)) rfl ?_
      refine f_S dX7_comesIn_110 cs_X7_151 mb_X7_eatsBy (c_X7_eatsBy l n _ ((x_up σ 34 0 p 1) 25 0 p) ((x_up σ 34 0 p 1) 29 0 p) hn) rfl (Nat.lt_of_lt_of_le (by decide) hn) rfl (Nat.le_of_ble_eq_true rfl) (by decide) (Nat.le_of_ble_eq_true rfl) (Nat.le_refl _) (Nat.le_refl _) ?_
      refine g_iast p dX7_comesIn_113 rfl hp (x_vM hn (Nat.le_of_ble_eq_true rfl) (Nat.le_of_ble_eq_true rfl)) rfl ?_
      refine g_aload_n dX7_comesIn_114 rfl ?_
      refine g_getR (t2 := 29) (i2 := 0) dX7_comesIn_115 fl_X7_22 (x_vM hn (Nat.le_of_ble_eq_true rfl) (Nat.le_of_ble_eq_true rfl)) rfl rfl rfl ?_
      refine g_iload_n dX7_comesIn_118 rfl ?_
      refine g_iconst dX7_comesIn_119 ?_
      refine g_iast p dX7_comesIn_120 rfl hp (x_vM hn (Nat.le_of_ble_eq_true rfl) (Nat.le_of_ble_eq_true rfl)) rfl ?_
      refine g_aload_n dX7_comesIn_121 rfl ?_
      refine g_getR (t2 := 30) (i2 := 0) dX7_comesIn_122 fl_X7_25 (x_vM hn (Nat.le_of_ble_eq_true rfl) (Nat.le_of_ble_eq_true rfl)) rfl rfl rfl ?_
      refine g_iload_n dX7_comesIn_125 rfl ?_
      refine g_bipush dX7_comesIn_126 (by decide) ?_
      refine g_iast p dX7_comesIn_128 rfl hp (x_vM hn (Nat.le_of_ble_eq_true rfl) (Nat.le_of_ble_eq_true rfl)) rfl ?_
      exact f_vret dX7_comesIn_129 rfl (by rw [S_X7_comesIn, if_pos c_7, if_neg c_16])
    · refine g_aload_n dX7_comesIn_19 rfl ?_
      refine g_getR (t2 := 35) (i2 := 0) dX7_comesIn_20 fl_X7_40 (x_vM hn (Nat.le_of_ble_eq_true rfl) (Nat.le_of_ble_eq_true rfl)) rfl rfl rfl ?_
      refine g_iload_n dX7_comesIn_23 rfl ?_
      refine g_iconst dX7_comesIn_24 ?_
      refine g_iast p dX7_comesIn_25 rfl hp (x_vM hn (Nat.le_of_ble_eq_true rfl) (Nat.le_of_ble_eq_true rfl)) rfl ?_
      refine g_aload_n dX7_comesIn_26 rfl ?_
      refine g_dup dX7_comesIn_27 rfl ?_
      refine g_getI dX7_comesIn_28 fl_X7_97 (x_vM hn (Nat.le_of_ble_eq_true rfl) (Nat.le_of_ble_eq_true rfl)) rfl rfl ?_
      refine g_iconst dX7_comesIn_31 ?_
      refine g_iadd dX7_comesIn_32 ?_
      refine g_putI dX7_comesIn_33 fl_X7_97 (x_vM hn (Nat.le_of_ble_eq_true rfl) (Nat.le_of_ble_eq_true rfl)) rfl rfl ?_
      refine g_aload_n dX7_comesIn_36 rfl ?_
      refine g_getR (t2 := 30) (i2 := 0) dX7_comesIn_37 fl_X7_25 (x_vM hn (Nat.le_of_ble_eq_true rfl) (Nat.le_of_ble_eq_true rfl)) rfl rfl rfl ?_
      refine g_iload_n dX7_comesIn_40 rfl ?_
      refine g_aload_n dX7_comesIn_41 rfl ?_
      refine g_getI dX7_comesIn_42 fl_X7_88 (x_vM hn (Nat.le_of_ble_eq_true rfl) (Nat.le_of_ble_eq_true rfl)) rfl rfl ?_
      refine g_iconst dX7_comesIn_45 ?_
      refine g_iadd dX7_comesIn_46 ?_
      refine g_iast p dX7_comesIn_47 rfl hp (x_vM hn (Nat.le_of_ble_eq_true rfl) (Nat.le_of_ble_eq_true rfl)) rfl ?_
      refine g_aload_n dX7_comesIn_48 rfl ?_
      refine g_getR (t2 := 29) (i2 := 0) dX7_comesIn_49 fl_X7_22 (x_vM hn (Nat.le_of_ble_eq_true rfl) (Nat.le_of_ble_eq_true rfl)) rfl rfl rfl ?_
      refine g_iload_n dX7_comesIn_52 rfl ?_
      refine g_aload_n dX7_comesIn_53 rfl ?_
      refine g_getI dX7_comesIn_54 fl_X7_91 (x_vM hn (Nat.le_of_ble_eq_true rfl) (Nat.le_of_ble_eq_true rfl)) rfl rfl ?_
      refine g_if_le 64 dX7_comesIn_57 rfl (fun c_57 => ?_) (fun c_57 => ?_)
      · refine g_iconst dX7_comesIn_64 ?_
        refine g_iast p dX7_comesIn_65 rfl hp (x_vM hn (Nat.le_of_ble_eq_true rfl) (Nat.le_of_ble_eq_true rfl)) rfl ?_
        refine g_aload_n dX7_comesIn_66 rfl ?_
        refine g_dup dX7_comesIn_67 rfl ?_
        refine g_getI dX7_comesIn_68 fl_X7_91 (x_vM hn (Nat.le_of_ble_eq_true rfl) (Nat.le_of_ble_eq_true rfl)) rfl rfl ?_
        refine g_aload_n dX7_comesIn_71 rfl ?_
        refine g_getR (t2 := 29) (i2 := 0) dX7_comesIn_72 fl_X7_22 (x_vM hn (Nat.le_of_ble_eq_true rfl) (Nat.le_of_ble_eq_true rfl)) rfl rfl rfl ?_
        refine g_iload_n dX7_comesIn_75 rfl ?_
        refine g_iald p dX7_comesIn_76 rfl hp (x_vM hn (Nat.le_of_ble_eq_true rfl) (Nat.le_of_ble_eq_true rfl)) rfl ?_
        refine g_iconst dX7_comesIn_77 ?_
        refine g_isub dX7_comesIn_78 ?_
        refine g_isub dX7_comesIn_79 ?_
        refine g_putI dX7_comesIn_80 fl_X7_91 (x_vM hn (Nat.le_of_ble_eq_true rfl) (Nat.le_of_ble_eq_true rfl)) rfl rfl ?_
        refine g_mem (T_X7_comesIn_1 σ p) rfl ?_
        refine g_goto 129 dX7_comesIn_83 rfl ?_
        exact f_vret dX7_comesIn_129 rfl (by rw [S_X7_comesIn, if_pos c_7, if_pos c_16, if_pos c_57])
      · refine g_iconst dX7_comesIn_60 ?_
        refine g_goto 65 dX7_comesIn_61 rfl ?_
        refine g_iast p dX7_comesIn_65 rfl hp (x_vM hn (Nat.le_of_ble_eq_true rfl) (Nat.le_of_ble_eq_true rfl)) rfl ?_
        refine g_aload_n dX7_comesIn_66 rfl ?_
        refine g_dup dX7_comesIn_67 rfl ?_
        refine g_getI dX7_comesIn_68 fl_X7_91 (x_vM hn (Nat.le_of_ble_eq_true rfl) (Nat.le_of_ble_eq_true rfl)) rfl rfl ?_
        refine g_aload_n dX7_comesIn_71 rfl ?_
        refine g_getR (t2 := 29) (i2 := 0) dX7_comesIn_72 fl_X7_22 (x_vM hn (Nat.le_of_ble_eq_true rfl) (Nat.le_of_ble_eq_true rfl)) rfl rfl rfl ?_
        refine g_iload_n dX7_comesIn_75 rfl ?_
        refine g_iald p dX7_comesIn_76 rfl hp (x_vM hn (Nat.le_of_ble_eq_true rfl) (Nat.le_of_ble_eq_true rfl)) rfl ?_
        refine g_iconst dX7_comesIn_77 ?_
        refine g_isub dX7_comesIn_78 ?_
        refine g_isub dX7_comesIn_79 ?_
        refine g_putI dX7_comesIn_80 fl_X7_91 (x_vM hn (Nat.le_of_ble_eq_true rfl) (Nat.le_of_ble_eq_true rfl)) rfl rfl ?_
        refine g_mem (T_X7_comesIn_2 σ p) rfl ?_
        refine g_goto 129 dX7_comesIn_83 rfl ?_
        exact f_vret dX7_comesIn_129 rfl (by rw [S_X7_comesIn, if_pos c_7, if_pos c_16, if_neg c_57])

def RV_X7_passes_51 (b : Int) (K : Nat) : Nat → Nat → xMi → Int → Int
  | 0, p, σ, a => a
  | k + 1, p, σ, a => (if x_wr (σ 24 0 5) < x_wr (σ 27 0 p) then (if x_wr (σ 31 0 p) ≤ 0 then (RV_X7_passes_51 b K k (p + 1) (x_up σ 31 0 p ((σ 31 0 p) - 0)) a) else (RV_X7_passes_51 b K k (p + 1) (x_up σ 31 0 p ((σ 31 0 p) - 1)) a)) else (if x_wr (σ 32 0 p) = x_wr (-4) then (if x_wr (σ 31 0 p) = 0 then (if x_wr ((x_up (x_up σ 32 0 p (σ 24 0 5)) 33 0 p ((x_up σ 32 0 p (σ 24 0 5)) 34 0 p)) 31 0 p) ≤ 0 then (RV_X7_passes_51 b K k (p + 1) (x_up (x_up (x_up σ 32 0 p (σ 24 0 5)) 33 0 p ((x_up σ 32 0 p (σ 24 0 5)) 34 0 p)) 31 0 p (((x_up (x_up σ 32 0 p (σ 24 0 5)) 33 0 p ((x_up σ 32 0 p (σ 24 0 5)) 34 0 p)) 31 0 p) - 0)) (a + 1)) else (RV_X7_passes_51 b K k (p + 1) (x_up (x_up (x_up σ 32 0 p (σ 24 0 5)) 33 0 p ((x_up σ 32 0 p (σ 24 0 5)) 34 0 p)) 31 0 p (((x_up (x_up σ 32 0 p (σ 24 0 5)) 33 0 p ((x_up σ 32 0 p (σ 24 0 5)) 34 0 p)) 31 0 p) - 1)) (a + 1))) else (if x_wr (σ 31 0 p) ≤ 0 then (RV_X7_passes_51 b K k (p + 1) (x_up σ 31 0 p ((σ 31 0 p) - 0)) a) else (RV_X7_passes_51 b K k (p + 1) (x_up σ 31 0 p ((σ 31 0 p) - 1)) a))) else (if x_wr (σ 31 0 p) ≤ 0 then (RV_X7_passes_51 b K k (p + 1) (x_up σ 31 0 p ((σ 31 0 p) - 0)) a) else (RV_X7_passes_51 b K k (p + 1) (x_up σ 31 0 p ((σ 31 0 p) - 1)) a))))
def RS_X7_passes_51 (b : Int) (K : Nat) : Nat → Nat → xMi → Int → xMi
  | 0, p, σ, a => (x_up (x_up σ 24 0 5 ((σ 24 0 5) + 1)) 24 0 7 0)
  | k + 1, p, σ, a => (if x_wr (σ 24 0 5) < x_wr (σ 27 0 p) then (if x_wr (σ 31 0 p) ≤ 0 then (RS_X7_passes_51 b K k (p + 1) (x_up σ 31 0 p ((σ 31 0 p) - 0)) a) else (RS_X7_passes_51 b K k (p + 1) (x_up σ 31 0 p ((σ 31 0 p) - 1)) a)) else (if x_wr (σ 32 0 p) = x_wr (-4) then (if x_wr (σ 31 0 p) = 0 then (if x_wr ((x_up (x_up σ 32 0 p (σ 24 0 5)) 33 0 p ((x_up σ 32 0 p (σ 24 0 5)) 34 0 p)) 31 0 p) ≤ 0 then (RS_X7_passes_51 b K k (p + 1) (x_up (x_up (x_up σ 32 0 p (σ 24 0 5)) 33 0 p ((x_up σ 32 0 p (σ 24 0 5)) 34 0 p)) 31 0 p (((x_up (x_up σ 32 0 p (σ 24 0 5)) 33 0 p ((x_up σ 32 0 p (σ 24 0 5)) 34 0 p)) 31 0 p) - 0)) (a + 1)) else (RS_X7_passes_51 b K k (p + 1) (x_up (x_up (x_up σ 32 0 p (σ 24 0 5)) 33 0 p ((x_up σ 32 0 p (σ 24 0 5)) 34 0 p)) 31 0 p (((x_up (x_up σ 32 0 p (σ 24 0 5)) 33 0 p ((x_up σ 32 0 p (σ 24 0 5)) 34 0 p)) 31 0 p) - 1)) (a + 1))) else (if x_wr (σ 31 0 p) ≤ 0 then (RS_X7_passes_51 b K k (p + 1) (x_up σ 31 0 p ((σ 31 0 p) - 0)) a) else (RS_X7_passes_51 b K k (p + 1) (x_up σ 31 0 p ((σ 31 0 p) - 1)) a))) else (if x_wr (σ 31 0 p) ≤ 0 then (RS_X7_passes_51 b K k (p + 1) (x_up σ 31 0 p ((σ 31 0 p) - 0)) a) else (RS_X7_passes_51 b K k (p + 1) (x_up σ 31 0 p ((σ 31 0 p) - 1)) a))))
theorem fr_RS_X7_passes_51 (b : Int) (K : Nat) {t i k' : Nat} (h : ¬ ((t = 24 ∧ 5 ≤ k' ∧ k' ≤ 8) ∨ (29 ≤ t ∧ t ≤ 36))) : ∀ (k p : Nat) (σ : xMi) (a : Int), RS_X7_passes_51 b K k p σ a t i k' = σ t i k' := by
  intro k
  induction k with
  | zero =>
    intro p σ a
    simp only [RS_X7_passes_51]
    all_goals ((repeat' split) <;> simp (disch := first | omega | assumption) only [x_up_o, x_up_k, x_cp_o])
  | succ k ih =>
    intro p σ a
    simp only [RS_X7_passes_51]
    all_goals (repeat' split)
    all_goals (first | rw [ih] | skip)
    all_goals first | done | simp (disch := first | omega | assumption) only [x_up_o, x_up_k, x_cp_o]
theorem lh_X7_passes_51 (l : Launch) (n : Nat) (b : Int) (K : Nat) (hn : 154 ≤ n) (hK : K ≤ 6) : ∀ (k p : Nat) (σ : xMi) (a : Int), p + k = K → (σ 24 0 0 = (K : Int)) →  x_G l RX7 cX7_passes 4 (some .int) 2 n (some (xI (RV_X7_passes_51 b K k p σ a))) (RS_X7_passes_51 b K k p σ a) 51 [(3, xI (p : Int)), (2, xI a), (0, xR 24 0), (1, xI b)] [] σ := by
  intro k
  induction k with
  | zero =>
    intro p σ a hk hmy
    refine g_iload_n dX7_passes_51 rfl ?_
    refine g_aload_n dX7_passes_52 rfl ?_
    refine g_getI dX7_passes_53 fl_X7_84 (x_vM hn (Nat.le_of_ble_eq_true rfl) (Nat.le_of_ble_eq_true rfl)) rfl rfl ?_
    refine g_cmp_ge 146 dX7_passes_56 rfl (fun c_56 => ?_) (fun c_56 => absurd (by rw [hmy, x_nat (by omega), x_nat (by omega)]; omega) c_56)
    refine g_aload_n dX7_passes_146 rfl ?_
    refine g_dup dX7_passes_147 rfl ?_
    refine g_getI dX7_passes_148 fl_X7_88 (x_vM hn (Nat.le_of_ble_eq_true rfl) (Nat.le_of_ble_eq_true rfl)) rfl rfl ?_
    refine g_iconst dX7_passes_151 ?_
    refine g_iadd dX7_passes_152 ?_
    refine g_putI dX7_passes_153 fl_X7_88 (x_vM hn (Nat.le_of_ble_eq_true rfl) (Nat.le_of_ble_eq_true rfl)) rfl rfl ?_
    refine g_aload_n dX7_passes_156 rfl ?_
    refine g_iconst dX7_passes_157 ?_
    refine g_putI dX7_passes_158 fl_X7_94 (x_vM hn (Nat.le_of_ble_eq_true rfl) (Nat.le_of_ble_eq_true rfl)) rfl rfl ?_
    refine g_iload_n dX7_passes_161 rfl ?_
    exact f_iret dX7_passes_162 rfl rfl
  | succ k ih =>
    intro p σ a hk hmy
    have hp : p < 6 := by omega
    refine g_iload_n dX7_passes_51 rfl ?_
    refine g_aload_n dX7_passes_52 rfl ?_
    refine g_getI dX7_passes_53 fl_X7_84 (x_vM hn (Nat.le_of_ble_eq_true rfl) (Nat.le_of_ble_eq_true rfl)) rfl rfl ?_
    refine g_cmp_ge 146 dX7_passes_56 rfl (fun c_56 => absurd c_56 (by rw [hmy, x_nat (by omega), x_nat (by omega)]; omega)) (fun c_56 => ?_)
    refine g_aload_n dX7_passes_59 rfl ?_
    refine g_getR (t2 := 27) (i2 := 0) dX7_passes_60 fl_X7_16 (x_vM hn (Nat.le_of_ble_eq_true rfl) (Nat.le_of_ble_eq_true rfl)) rfl rfl rfl ?_
    refine g_iload_n dX7_passes_63 rfl ?_
    refine g_iald p dX7_passes_64 rfl hp (x_vM hn (Nat.le_of_ble_eq_true rfl) (Nat.le_of_ble_eq_true rfl)) rfl ?_
    refine g_aload_n dX7_passes_65 rfl ?_
    refine g_getI dX7_passes_66 fl_X7_88 (x_vM hn (Nat.le_of_ble_eq_true rfl) (Nat.le_of_ble_eq_true rfl)) rfl rfl ?_
    refine g_cmp_gt 117 dX7_passes_69 rfl (fun c_69 => ?_) (fun c_69 => ?_)
    · refine g_aload_n dX7_passes_117 rfl ?_
      refine g_getR (t2 := 31) (i2 := 0) dX7_passes_118 fl_X7_28 (x_vM hn (Nat.le_of_ble_eq_true rfl) (Nat.le_of_ble_eq_true rfl)) rfl rfl rfl ?_
      refine g_iload_n dX7_passes_121 rfl ?_
      refine g_dup2 dX7_passes_122 rfl rfl ?_
      refine g_iald p dX7_passes_123 rfl hp (x_vM hn (Nat.le_of_ble_eq_true rfl) (Nat.le_of_ble_eq_true rfl)) rfl ?_
      refine g_aload_n dX7_passes_124 rfl ?_
      refine g_getR (t2 := 31) (i2 := 0) dX7_passes_125 fl_X7_28 (x_vM hn (Nat.le_of_ble_eq_true rfl) (Nat.le_of_ble_eq_true rfl)) rfl rfl rfl ?_
      refine g_iload_n dX7_passes_128 rfl ?_
      refine g_iald p dX7_passes_129 rfl hp (x_vM hn (Nat.le_of_ble_eq_true rfl) (Nat.le_of_ble_eq_true rfl)) rfl ?_
      refine g_if_le 137 dX7_passes_130 rfl (fun c_130 => ?_) (fun c_130 => ?_)
      · refine g_iconst dX7_passes_137 ?_
        refine g_isub dX7_passes_138 ?_
        refine g_iast p dX7_passes_139 rfl hp (x_vM hn (Nat.le_of_ble_eq_true rfl) (Nat.le_of_ble_eq_true rfl)) rfl ?_
        refine g_iinc (lv' := [(3, xI (((p + 1) : Nat) : Int)), _, _, _]) dX7_passes_140 (Nat.le_of_ble_eq_true rfl) rfl rfl ?_
        refine g_goto 51 dX7_passes_143 rfl ?_
        refine g_sub (lv2 := [(3, xI (((p + 1) : Nat) : Int)), _, _, _]) [0, 1, 2, 3] rfl ?_
        exact f_cv (by rw [RV_X7_passes_51, if_pos c_69, if_pos c_130]) (by rw [RS_X7_passes_51, if_pos c_69, if_pos c_130]) (ih (p + 1) _ _ (by omega) (by first | exact hmy | (simp (disch := omega) only [x_up_o, x_up_k, x_cp_o]; exact hmy) | (simp (disch := first | omega | assumption) only [x_up_o, x_up_k, x_cp_o]; exact hmy)))
      · refine g_iconst dX7_passes_133 ?_
        refine g_goto 138 dX7_passes_134 rfl ?_
        refine g_isub dX7_passes_138 ?_
        refine g_iast p dX7_passes_139 rfl hp (x_vM hn (Nat.le_of_ble_eq_true rfl) (Nat.le_of_ble_eq_true rfl)) rfl ?_
        refine g_iinc (lv' := [(3, xI (((p + 1) : Nat) : Int)), _, _, _]) dX7_passes_140 (Nat.le_of_ble_eq_true rfl) rfl rfl ?_
        refine g_goto 51 dX7_passes_143 rfl ?_
        refine g_sub (lv2 := [(3, xI (((p + 1) : Nat) : Int)), _, _, _]) [0, 1, 2, 3] rfl ?_
        exact f_cv (by rw [RV_X7_passes_51, if_pos c_69, if_neg c_130]) (by rw [RS_X7_passes_51, if_pos c_69, if_neg c_130]) (ih (p + 1) _ _ (by omega) (by first | exact hmy | (simp (disch := omega) only [x_up_o, x_up_k, x_cp_o]; exact hmy) | (simp (disch := first | omega | assumption) only [x_up_o, x_up_k, x_cp_o]; exact hmy)))
    · refine g_aload_n dX7_passes_72 rfl ?_
      refine g_getR (t2 := 32) (i2 := 0) dX7_passes_73 fl_X7_31 (x_vM hn (Nat.le_of_ble_eq_true rfl) (Nat.le_of_ble_eq_true rfl)) rfl rfl rfl ?_
      refine g_iload_n dX7_passes_76 rfl ?_
      refine g_iald p dX7_passes_77 rfl hp (x_vM hn (Nat.le_of_ble_eq_true rfl) (Nat.le_of_ble_eq_true rfl)) rfl ?_
      refine g_bipush dX7_passes_78 (by decide) ?_
      refine g_cmp_ne 117 dX7_passes_80 rfl (fun c_80 => ?_) (fun c_80 => ?_)
      · refine g_aload_n dX7_passes_117 rfl ?_
        refine g_getR (t2 := 31) (i2 := 0) dX7_passes_118 fl_X7_28 (x_vM hn (Nat.le_of_ble_eq_true rfl) (Nat.le_of_ble_eq_true rfl)) rfl rfl rfl ?_
        refine g_iload_n dX7_passes_121 rfl ?_
        refine g_dup2 dX7_passes_122 rfl rfl ?_
        refine g_iald p dX7_passes_123 rfl hp (x_vM hn (Nat.le_of_ble_eq_true rfl) (Nat.le_of_ble_eq_true rfl)) rfl ?_
        refine g_aload_n dX7_passes_124 rfl ?_
        refine g_getR (t2 := 31) (i2 := 0) dX7_passes_125 fl_X7_28 (x_vM hn (Nat.le_of_ble_eq_true rfl) (Nat.le_of_ble_eq_true rfl)) rfl rfl rfl ?_
        refine g_iload_n dX7_passes_128 rfl ?_
        refine g_iald p dX7_passes_129 rfl hp (x_vM hn (Nat.le_of_ble_eq_true rfl) (Nat.le_of_ble_eq_true rfl)) rfl ?_
        refine g_if_le 137 dX7_passes_130 rfl (fun c_130 => ?_) (fun c_130 => ?_)
        · refine g_iconst dX7_passes_137 ?_
          refine g_isub dX7_passes_138 ?_
          refine g_iast p dX7_passes_139 rfl hp (x_vM hn (Nat.le_of_ble_eq_true rfl) (Nat.le_of_ble_eq_true rfl)) rfl ?_
          refine g_iinc (lv' := [(3, xI (((p + 1) : Nat) : Int)), _, _, _]) dX7_passes_140 (Nat.le_of_ble_eq_true rfl) rfl rfl ?_
          refine g_goto 51 dX7_passes_143 rfl ?_
          refine g_sub (lv2 := [(3, xI (((p + 1) : Nat) : Int)), _, _, _]) [0, 1, 2, 3] rfl ?_
          exact f_cv (by rw [RV_X7_passes_51, if_neg c_69, if_neg c_80, if_pos c_130]) (by rw [RS_X7_passes_51, if_neg c_69, if_neg c_80, if_pos c_130]) (ih (p + 1) _ _ (by omega) (by first | exact hmy | (simp (disch := omega) only [x_up_o, x_up_k, x_cp_o]; exact hmy) | (simp (disch := first | omega | assumption) only [x_up_o, x_up_k, x_cp_o]; exact hmy)))
        · refine g_iconst dX7_passes_133 ?_
          refine g_goto 138 dX7_passes_134 rfl ?_
          refine g_isub dX7_passes_138 ?_
          refine g_iast p dX7_passes_139 rfl hp (x_vM hn (Nat.le_of_ble_eq_true rfl) (Nat.le_of_ble_eq_true rfl)) rfl ?_
          refine g_iinc (lv' := [(3, xI (((p + 1) : Nat) : Int)), _, _, _]) dX7_passes_140 (Nat.le_of_ble_eq_true rfl) rfl rfl ?_
          refine g_goto 51 dX7_passes_143 rfl ?_
          refine g_sub (lv2 := [(3, xI (((p + 1) : Nat) : Int)), _, _, _]) [0, 1, 2, 3] rfl ?_
          exact f_cv (by rw [RV_X7_passes_51, if_neg c_69, if_neg c_80, if_neg c_130]) (by rw [RS_X7_passes_51, if_neg c_69, if_neg c_80, if_neg c_130]) (ih (p + 1) _ _ (by omega) (by first | exact hmy | (simp (disch := omega) only [x_up_o, x_up_k, x_cp_o]; exact hmy) | (simp (disch := first | omega | assumption) only [x_up_o, x_up_k, x_cp_o]; exact hmy)))
      · refine g_aload_n dX7_passes_83 rfl ?_
        refine g_getR (t2 := 31) (i2 := 0) dX7_passes_84 fl_X7_28 (x_vM hn (Nat.le_of_ble_eq_true rfl) (Nat.le_of_ble_eq_true rfl)) rfl rfl rfl ?_
        refine g_iload_n dX7_passes_87 rfl ?_
        refine g_iald p dX7_passes_88 rfl hp (x_vM hn (Nat.le_of_ble_eq_true rfl) (Nat.le_of_ble_eq_true rfl)) rfl ?_
        refine g_if_ne 117 dX7_passes_89 rfl (fun c_89 => ?_) (fun c_89 => ?_)
        · refine g_aload_n dX7_passes_117 rfl ?_
          refine g_getR (t2 := 31) (i2 := 0) dX7_passes_118 fl_X7_28 (x_vM hn (Nat.le_of_ble_eq_true rfl) (Nat.le_of_ble_eq_true rfl)) rfl rfl rfl ?_
          refine g_iload_n dX7_passes_121 rfl ?_
          refine g_dup2 dX7_passes_122 rfl rfl ?_
          refine g_iald p dX7_passes_123 rfl hp (x_vM hn (Nat.le_of_ble_eq_true rfl) (Nat.le_of_ble_eq_true rfl)) rfl ?_
          refine g_aload_n dX7_passes_124 rfl ?_
          refine g_getR (t2 := 31) (i2 := 0) dX7_passes_125 fl_X7_28 (x_vM hn (Nat.le_of_ble_eq_true rfl) (Nat.le_of_ble_eq_true rfl)) rfl rfl rfl ?_
          refine g_iload_n dX7_passes_128 rfl ?_
          refine g_iald p dX7_passes_129 rfl hp (x_vM hn (Nat.le_of_ble_eq_true rfl) (Nat.le_of_ble_eq_true rfl)) rfl ?_
          refine g_if_le 137 dX7_passes_130 rfl (fun c_130 => ?_) (fun c_130 => ?_)
          · refine g_iconst dX7_passes_137 ?_
            refine g_isub dX7_passes_138 ?_
            refine g_iast p dX7_passes_139 rfl hp (x_vM hn (Nat.le_of_ble_eq_true rfl) (Nat.le_of_ble_eq_true rfl)) rfl ?_
            refine g_iinc (lv' := [(3, xI (((p + 1) : Nat) : Int)), _, _, _]) dX7_passes_140 (Nat.le_of_ble_eq_true rfl) rfl rfl ?_
            refine g_goto 51 dX7_passes_143 rfl ?_
            refine g_sub (lv2 := [(3, xI (((p + 1) : Nat) : Int)), _, _, _]) [0, 1, 2, 3] rfl ?_
            exact f_cv (by rw [RV_X7_passes_51, if_neg c_69, if_pos c_80, if_neg c_89, if_pos c_130]) (by rw [RS_X7_passes_51, if_neg c_69, if_pos c_80, if_neg c_89, if_pos c_130]) (ih (p + 1) _ _ (by omega) (by first | exact hmy | (simp (disch := omega) only [x_up_o, x_up_k, x_cp_o]; exact hmy) | (simp (disch := first | omega | assumption) only [x_up_o, x_up_k, x_cp_o]; exact hmy)))
          · refine g_iconst dX7_passes_133 ?_
            refine g_goto 138 dX7_passes_134 rfl ?_
            refine g_isub dX7_passes_138 ?_
            refine g_iast p dX7_passes_139 rfl hp (x_vM hn (Nat.le_of_ble_eq_true rfl) (Nat.le_of_ble_eq_true rfl)) rfl ?_
            refine g_iinc (lv' := [(3, xI (((p + 1) : Nat) : Int)), _, _, _]) dX7_passes_140 (Nat.le_of_ble_eq_true rfl) rfl rfl ?_
            refine g_goto 51 dX7_passes_143 rfl ?_
            refine g_sub (lv2 := [(3, xI (((p + 1) : Nat) : Int)), _, _, _]) [0, 1, 2, 3] rfl ?_
            exact f_cv (by rw [RV_X7_passes_51, if_neg c_69, if_pos c_80, if_neg c_89, if_neg c_130]) (by rw [RS_X7_passes_51, if_neg c_69, if_pos c_80, if_neg c_89, if_neg c_130]) (ih (p + 1) _ _ (by omega) (by first | exact hmy | (simp (disch := omega) only [x_up_o, x_up_k, x_cp_o]; exact hmy) | (simp (disch := first | omega | assumption) only [x_up_o, x_up_k, x_cp_o]; exact hmy)))
        · refine g_aload_n dX7_passes_92 rfl ?_
          refine g_getR (t2 := 32) (i2 := 0) dX7_passes_93 fl_X7_31 (x_vM hn (Nat.le_of_ble_eq_true rfl) (Nat.le_of_ble_eq_true rfl)) rfl rfl rfl ?_
          refine g_iload_n dX7_passes_96 rfl ?_
          refine g_aload_n dX7_passes_97 rfl ?_
          refine g_getI dX7_passes_98 fl_X7_88 (x_vM hn (Nat.le_of_ble_eq_true rfl) (Nat.le_of_ble_eq_true rfl)) rfl rfl ?_
          refine g_iast p dX7_passes_101 rfl hp (x_vM hn (Nat.le_of_ble_eq_true rfl) (Nat.le_of_ble_eq_true rfl)) rfl ?_
          refine g_aload_n dX7_passes_102 rfl ?_
          refine g_getR (t2 := 33) (i2 := 0) dX7_passes_103 fl_X7_34 (x_vM hn (Nat.le_of_ble_eq_true rfl) (Nat.le_of_ble_eq_true rfl)) rfl rfl rfl ?_
          refine g_iload_n dX7_passes_106 rfl ?_
          refine g_aload_n dX7_passes_107 rfl ?_
          refine g_getR (t2 := 34) (i2 := 0) dX7_passes_108 fl_X7_37 (x_vM hn (Nat.le_of_ble_eq_true rfl) (Nat.le_of_ble_eq_true rfl)) rfl rfl rfl ?_
          refine g_iload_n dX7_passes_111 rfl ?_
          refine g_iald p dX7_passes_112 rfl hp (x_vM hn (Nat.le_of_ble_eq_true rfl) (Nat.le_of_ble_eq_true rfl)) rfl ?_
          refine g_iast p dX7_passes_113 rfl hp (x_vM hn (Nat.le_of_ble_eq_true rfl) (Nat.le_of_ble_eq_true rfl)) rfl ?_
          refine g_iinc (lv' := [_, _, _, _]) dX7_passes_114 (Nat.le_of_ble_eq_true rfl) rfl rfl ?_
          refine g_aload_n dX7_passes_117 rfl ?_
          refine g_getR (t2 := 31) (i2 := 0) dX7_passes_118 fl_X7_28 (x_vM hn (Nat.le_of_ble_eq_true rfl) (Nat.le_of_ble_eq_true rfl)) rfl rfl rfl ?_
          refine g_iload_n dX7_passes_121 rfl ?_
          refine g_dup2 dX7_passes_122 rfl rfl ?_
          refine g_iald p dX7_passes_123 rfl hp (x_vM hn (Nat.le_of_ble_eq_true rfl) (Nat.le_of_ble_eq_true rfl)) rfl ?_
          refine g_aload_n dX7_passes_124 rfl ?_
          refine g_getR (t2 := 31) (i2 := 0) dX7_passes_125 fl_X7_28 (x_vM hn (Nat.le_of_ble_eq_true rfl) (Nat.le_of_ble_eq_true rfl)) rfl rfl rfl ?_
          refine g_iload_n dX7_passes_128 rfl ?_
          refine g_iald p dX7_passes_129 rfl hp (x_vM hn (Nat.le_of_ble_eq_true rfl) (Nat.le_of_ble_eq_true rfl)) rfl ?_
          refine g_if_le 137 dX7_passes_130 rfl (fun c_130 => ?_) (fun c_130 => ?_)
          · refine g_iconst dX7_passes_137 ?_
            refine g_isub dX7_passes_138 ?_
            refine g_iast p dX7_passes_139 rfl hp (x_vM hn (Nat.le_of_ble_eq_true rfl) (Nat.le_of_ble_eq_true rfl)) rfl ?_
            refine g_iinc (lv' := [(3, xI (((p + 1) : Nat) : Int)), _, _, _]) dX7_passes_140 (Nat.le_of_ble_eq_true rfl) rfl rfl ?_
            refine g_goto 51 dX7_passes_143 rfl ?_
            refine g_sub (lv2 := [(3, xI (((p + 1) : Nat) : Int)), _, _, _]) [0, 1, 2, 3] rfl ?_
            exact f_cv (by rw [RV_X7_passes_51, if_neg c_69, if_pos c_80, if_pos c_89, if_pos c_130]) (by rw [RS_X7_passes_51, if_neg c_69, if_pos c_80, if_pos c_89, if_pos c_130]) (ih (p + 1) _ _ (by omega) (by first | exact hmy | (simp (disch := omega) only [x_up_o, x_up_k, x_cp_o]; exact hmy) | (simp (disch := first | omega | assumption) only [x_up_o, x_up_k, x_cp_o]; exact hmy)))
          · refine g_iconst dX7_passes_133 ?_
            refine g_goto 138 dX7_passes_134 rfl ?_
            refine g_isub dX7_passes_138 ?_
            refine g_iast p dX7_passes_139 rfl hp (x_vM hn (Nat.le_of_ble_eq_true rfl) (Nat.le_of_ble_eq_true rfl)) rfl ?_
            refine g_iinc (lv' := [(3, xI (((p + 1) : Nat) : Int)), _, _, _]) dX7_passes_140 (Nat.le_of_ble_eq_true rfl) rfl rfl ?_
            refine g_goto 51 dX7_passes_143 rfl ?_
            refine g_sub (lv2 := [(3, xI (((p + 1) : Nat) : Int)), _, _, _]) [0, 1, 2, 3] rfl ?_
            exact f_cv (by rw [RV_X7_passes_51, if_neg c_69, if_pos c_80, if_pos c_89, if_neg c_130]) (by rw [RS_X7_passes_51, if_neg c_69, if_pos c_80, if_pos c_89, if_neg c_130]) (ih (p + 1) _ _ (by omega) (by first | exact hmy | (simp (disch := omega) only [x_up_o, x_up_k, x_cp_o]; exact hmy) | (simp (disch := first | omega | assumption) only [x_up_o, x_up_k, x_cp_o]; exact hmy)))
def RV_X7_passes_4 (b : Int) (K : Nat) : Nat → Nat → xMi → Int → Int
  | 0, p, σ, a => (RV_X7_passes_51 b K K 0 σ a)
  | k + 1, p, σ, a => (if x_wr b = 0 then (if x_wr (σ 29 0 p) ≤ 0 then (RV_X7_passes_4 b K k (p + 1) σ a) else (if x_wr (σ 24 0 5) < x_wr (σ 30 0 p) then (RV_X7_passes_4 b K k (p + 1) σ a) else (RV_X7_passes_4 b K k (p + 1) (S_X7_comesIn σ p) a))) else (RV_X7_passes_4 b K k (p + 1) σ a))
def RS_X7_passes_4 (b : Int) (K : Nat) : Nat → Nat → xMi → Int → xMi
  | 0, p, σ, a => (RS_X7_passes_51 b K K 0 σ a)
  | k + 1, p, σ, a => (if x_wr b = 0 then (if x_wr (σ 29 0 p) ≤ 0 then (RS_X7_passes_4 b K k (p + 1) σ a) else (if x_wr (σ 24 0 5) < x_wr (σ 30 0 p) then (RS_X7_passes_4 b K k (p + 1) σ a) else (RS_X7_passes_4 b K k (p + 1) (S_X7_comesIn σ p) a))) else (RS_X7_passes_4 b K k (p + 1) σ a))
theorem fr_RS_X7_passes_4 (b : Int) (K : Nat) {t i k' : Nat} (h : ¬ ((t = 24 ∧ 5 ≤ k' ∧ k' ≤ 8) ∨ (29 ≤ t ∧ t ≤ 36))) : ∀ (k p : Nat) (σ : xMi) (a : Int), RS_X7_passes_4 b K k p σ a t i k' = σ t i k' := by
  intro k
  induction k with
  | zero =>
    intro p σ a
    simp only [RS_X7_passes_4]
    all_goals ((repeat' split) <;> simp (disch := first | omega | assumption) only [x_up_o, x_up_k, x_cp_o, fr_RS_X7_passes_51])
  | succ k ih =>
    intro p σ a
    simp only [RS_X7_passes_4]
    all_goals (repeat' split)
    all_goals (first | rw [ih] | skip)
    all_goals first | done | simp (disch := first | omega | assumption) only [x_up_o, x_up_k, x_cp_o, fr_S_X7_comesIn]
theorem lh_X7_passes_4 (l : Launch) (n : Nat) (b : Int) (K : Nat) (hn : 154 ≤ n) (hK : K ≤ 6) : ∀ (k p : Nat) (σ : xMi) (a : Int), p + k = K → (σ 24 0 0 = (K : Int)) →  x_G l RX7 cX7_passes 4 (some .int) 2 n (some (xI (RV_X7_passes_4 b K k p σ a))) (RS_X7_passes_4 b K k p σ a) 4 [(3, xI (p : Int)), (2, xI a), (0, xR 24 0), (1, xI b)] [] σ := by
  intro k
  induction k with
  | zero =>
    intro p σ a hk hmy
    refine g_iload_n dX7_passes_4 rfl ?_
    refine g_aload_n dX7_passes_5 rfl ?_
    refine g_getI dX7_passes_6 fl_X7_84 (x_vM hn (Nat.le_of_ble_eq_true rfl) (Nat.le_of_ble_eq_true rfl)) rfl rfl ?_
    refine g_cmp_ge 49 dX7_passes_9 rfl (fun c_9 => ?_) (fun c_9 => absurd (by rw [hmy, x_nat (by omega), x_nat (by omega)]; omega) c_9)
    refine g_iconst dX7_passes_49 ?_
    refine g_istore_n (lv' := [_, _, _, _]) dX7_passes_50 (Nat.le_of_ble_eq_true rfl) rfl ?_
    refine g_sub (lv2 := [(3, xI ((0 : Nat) : Int)), _, _, _]) [0, 1, 2, 3] rfl ?_
    exact f_cv rfl rfl (lh_X7_passes_51 l n b K hn hK K 0 _ _ (by omega) hmy)
  | succ k ih =>
    intro p σ a hk hmy
    have hp : p < 6 := by omega
    refine g_iload_n dX7_passes_4 rfl ?_
    refine g_aload_n dX7_passes_5 rfl ?_
    refine g_getI dX7_passes_6 fl_X7_84 (x_vM hn (Nat.le_of_ble_eq_true rfl) (Nat.le_of_ble_eq_true rfl)) rfl rfl ?_
    refine g_cmp_ge 49 dX7_passes_9 rfl (fun c_9 => absurd c_9 (by rw [hmy, x_nat (by omega), x_nat (by omega)]; omega)) (fun c_9 => ?_)
    refine g_iload_n dX7_passes_12 rfl ?_
    refine g_if_ne 43 dX7_passes_13 rfl (fun c_13 => ?_) (fun c_13 => ?_)
    · refine g_iinc (lv' := [(3, xI (((p + 1) : Nat) : Int)), _, _, _]) dX7_passes_43 (Nat.le_of_ble_eq_true rfl) rfl rfl ?_
      refine g_goto 4 dX7_passes_46 rfl ?_
      refine g_sub (lv2 := [(3, xI (((p + 1) : Nat) : Int)), _, _, _]) [0, 1, 2, 3] rfl ?_
      exact f_cv (by rw [RV_X7_passes_4, if_neg c_13]) (by rw [RS_X7_passes_4, if_neg c_13]) (ih (p + 1) _ _ (by omega) hmy)
    · refine g_aload_n dX7_passes_16 rfl ?_
      refine g_getR (t2 := 29) (i2 := 0) dX7_passes_17 fl_X7_22 (x_vM hn (Nat.le_of_ble_eq_true rfl) (Nat.le_of_ble_eq_true rfl)) rfl rfl rfl ?_
      refine g_iload_n dX7_passes_20 rfl ?_
      refine g_iald p dX7_passes_21 rfl hp (x_vM hn (Nat.le_of_ble_eq_true rfl) (Nat.le_of_ble_eq_true rfl)) rfl ?_
      refine g_if_le 43 dX7_passes_22 rfl (fun c_22 => ?_) (fun c_22 => ?_)
      · refine g_iinc (lv' := [(3, xI (((p + 1) : Nat) : Int)), _, _, _]) dX7_passes_43 (Nat.le_of_ble_eq_true rfl) rfl rfl ?_
        refine g_goto 4 dX7_passes_46 rfl ?_
        refine g_sub (lv2 := [(3, xI (((p + 1) : Nat) : Int)), _, _, _]) [0, 1, 2, 3] rfl ?_
        exact f_cv (by rw [RV_X7_passes_4, if_pos c_13, if_pos c_22]) (by rw [RS_X7_passes_4, if_pos c_13, if_pos c_22]) (ih (p + 1) _ _ (by omega) hmy)
      · refine g_aload_n dX7_passes_25 rfl ?_
        refine g_getR (t2 := 30) (i2 := 0) dX7_passes_26 fl_X7_25 (x_vM hn (Nat.le_of_ble_eq_true rfl) (Nat.le_of_ble_eq_true rfl)) rfl rfl rfl ?_
        refine g_iload_n dX7_passes_29 rfl ?_
        refine g_iald p dX7_passes_30 rfl hp (x_vM hn (Nat.le_of_ble_eq_true rfl) (Nat.le_of_ble_eq_true rfl)) rfl ?_
        refine g_aload_n dX7_passes_31 rfl ?_
        refine g_getI dX7_passes_32 fl_X7_88 (x_vM hn (Nat.le_of_ble_eq_true rfl) (Nat.le_of_ble_eq_true rfl)) rfl rfl ?_
        refine g_cmp_gt 43 dX7_passes_35 rfl (fun c_35 => ?_) (fun c_35 => ?_)
        · refine g_iinc (lv' := [(3, xI (((p + 1) : Nat) : Int)), _, _, _]) dX7_passes_43 (Nat.le_of_ble_eq_true rfl) rfl rfl ?_
          refine g_goto 4 dX7_passes_46 rfl ?_
          refine g_sub (lv2 := [(3, xI (((p + 1) : Nat) : Int)), _, _, _]) [0, 1, 2, 3] rfl ?_
          exact f_cv (by rw [RV_X7_passes_4, if_pos c_13, if_neg c_22, if_pos c_35]) (by rw [RS_X7_passes_4, if_pos c_13, if_neg c_22, if_pos c_35]) (ih (p + 1) _ _ (by omega) hmy)
        · refine g_aload_n dX7_passes_38 rfl ?_
          refine g_iload_n dX7_passes_39 rfl ?_
          refine f_Vv dX7_passes_40 cs_X7_155 mb_X7_comesIn (c_X7_comesIn l n _ p hn hp) rfl (x_vM hn (Nat.le_of_ble_eq_true rfl) (Nat.le_of_ble_eq_true rfl)) rfl rfl rfl (Nat.le_of_ble_eq_true rfl) (by decide) (Nat.le_of_ble_eq_true rfl) (Nat.le_refl _) (Nat.le_refl _) ?_
          refine g_iinc (lv' := [(3, xI (((p + 1) : Nat) : Int)), _, _, _]) dX7_passes_43 (Nat.le_of_ble_eq_true rfl) rfl rfl ?_
          refine g_goto 4 dX7_passes_46 rfl ?_
          refine g_sub (lv2 := [(3, xI (((p + 1) : Nat) : Int)), _, _, _]) [0, 1, 2, 3] rfl ?_
          exact f_cv (by rw [RV_X7_passes_4, if_pos c_13, if_neg c_22, if_neg c_35]) (by rw [RS_X7_passes_4, if_pos c_13, if_neg c_22, if_neg c_35]) (ih (p + 1) _ _ (by omega) (by first | exact hmy | (simp (disch := omega) only [x_up_o, x_up_k, x_cp_o, fr_S_X7_comesIn]; exact hmy) | (simp (disch := first | omega | assumption) only [x_up_o, x_up_k, x_cp_o, fr_S_X7_comesIn]; exact hmy)))
def V_X7_passes (σ : xMi) (b : Int) (K : Nat) : Int := (RV_X7_passes_4 b K K 0 σ 0)
def S_X7_passes (σ : xMi) (b : Int) (K : Nat) : xMi := (RS_X7_passes_4 b K K 0 σ 0)
theorem fr_S_X7_passes (σ : xMi) (b : Int) (K : Nat) {t i k : Nat} (h : ¬ ((t = 24 ∧ 5 ≤ k ∧ k ≤ 8) ∨ (29 ≤ t ∧ t ≤ 36))) : S_X7_passes σ b K t i k = σ t i k := by
  unfold S_X7_passes
  all_goals ((repeat' split) <;> first | rfl | simp (disch := first | omega | assumption) only [x_up_o, x_up_k, x_cp_o, fr_RS_X7_passes_4])
theorem c_X7_passes (l : Launch) (n : Nat) (σ : xMi) (b : Int) (K : Nat) (hn : 154 ≤ n) (hK : K ≤ 6) (hmy : σ 24 0 0 = (K : Int)) : x_F l yX7_passes RX7 cX7_passes 4 (some .int) 2 n σ [xR 24 0, xI b] (some (xI (V_X7_passes σ b K))) (S_X7_passes σ b K) := by
  refine f_of (by decide) rfl (Nat.le_of_ble_eq_true rfl) rfl ?_
  refine g_iconst dX7_passes_0 ?_
  refine g_istore_n (lv' := [_, _, _]) dX7_passes_1 (Nat.le_of_ble_eq_true rfl) rfl ?_
  refine g_iconst dX7_passes_2 ?_
  refine g_istore_n (lv' := [_, _, _, _]) dX7_passes_3 (Nat.le_of_ble_eq_true rfl) rfl ?_
  refine g_sub (lv2 := [(3, xI ((0 : Nat) : Int)), _, _, _]) [0, 1, 2, 3] rfl ?_
  exact f_cv rfl rfl (lh_X7_passes_4 l n b K hn hK K 0 _ _ (by omega) hmy)

def RV_X7_eatSet_4 (K : Nat) : Nat → Nat → xMi → Int → Int
  | 0, p, σ, a => a
  | k + 1, p, σ, a => (if x_wr (σ 31 0 p) ≤ 0 then (RV_X7_eatSet_4 K k (p + 1) σ (x_or a 0)) else (RV_X7_eatSet_4 K k (p + 1) σ (x_or a (x_shl 1 (p : Int)))))
theorem lh_X7_eatSet_4 (l : Launch) (n : Nat)  (K : Nat) (hn : 154 ≤ n) (hK : K ≤ 6) : ∀ (k p : Nat) (σ : xMi) (a : Int), p + k = K → (σ 24 0 0 = (K : Int)) →  x_G l RX7 cX7_eatSet 3 (some .int) 0 n (some (xI (RV_X7_eatSet_4 K k p σ a))) σ 4 [(2, xI (p : Int)), (1, xI a), (0, xR 24 0)] [] σ := by
  intro k
  induction k with
  | zero =>
    intro p σ a hk hmy
    refine g_iload_n dX7_eatSet_4 rfl ?_
    refine g_aload_n dX7_eatSet_5 rfl ?_
    refine g_getI dX7_eatSet_6 fl_X7_84 (x_vM hn (Nat.le_of_ble_eq_true rfl) (Nat.le_of_ble_eq_true rfl)) rfl rfl ?_
    refine g_cmp_ge 37 dX7_eatSet_9 rfl (fun c_9 => ?_) (fun c_9 => absurd (by rw [hmy, x_nat (by omega), x_nat (by omega)]; omega) c_9)
    refine g_iload_n dX7_eatSet_37 rfl ?_
    exact f_iret dX7_eatSet_38 rfl rfl
  | succ k ih =>
    intro p σ a hk hmy
    have hp : p < 6 := by omega
    refine g_iload_n dX7_eatSet_4 rfl ?_
    refine g_aload_n dX7_eatSet_5 rfl ?_
    refine g_getI dX7_eatSet_6 fl_X7_84 (x_vM hn (Nat.le_of_ble_eq_true rfl) (Nat.le_of_ble_eq_true rfl)) rfl rfl ?_
    refine g_cmp_ge 37 dX7_eatSet_9 rfl (fun c_9 => absurd c_9 (by rw [hmy, x_nat (by omega), x_nat (by omega)]; omega)) (fun c_9 => ?_)
    refine g_iload_n dX7_eatSet_12 rfl ?_
    refine g_aload_n dX7_eatSet_13 rfl ?_
    refine g_getR (t2 := 31) (i2 := 0) dX7_eatSet_14 fl_X7_28 (x_vM hn (Nat.le_of_ble_eq_true rfl) (Nat.le_of_ble_eq_true rfl)) rfl rfl rfl ?_
    refine g_iload_n dX7_eatSet_17 rfl ?_
    refine g_iald p dX7_eatSet_18 rfl hp (x_vM hn (Nat.le_of_ble_eq_true rfl) (Nat.le_of_ble_eq_true rfl)) rfl ?_
    refine g_if_le 28 dX7_eatSet_19 rfl (fun c_19 => ?_) (fun c_19 => ?_)
    · refine g_iconst dX7_eatSet_28 ?_
      refine g_ior dX7_eatSet_29 ?_
      refine g_istore_n (lv' := [_, _, _]) dX7_eatSet_30 (Nat.le_of_ble_eq_true rfl) rfl ?_
      refine g_iinc (lv' := [(2, xI (((p + 1) : Nat) : Int)), _, _]) dX7_eatSet_31 (Nat.le_of_ble_eq_true rfl) rfl rfl ?_
      refine g_goto 4 dX7_eatSet_34 rfl ?_
      refine g_sub (lv2 := [(2, xI (((p + 1) : Nat) : Int)), _, _]) [0, 1, 2] rfl ?_
      exact f_cv (by rw [RV_X7_eatSet_4, if_pos c_19]) rfl (ih (p + 1) _ _ (by omega) hmy)
    · refine g_iconst dX7_eatSet_22 ?_
      refine g_iload_n dX7_eatSet_23 rfl ?_
      refine g_ishl dX7_eatSet_24 ?_
      refine g_goto 29 dX7_eatSet_25 rfl ?_
      refine g_ior dX7_eatSet_29 ?_
      refine g_istore_n (lv' := [_, _, _]) dX7_eatSet_30 (Nat.le_of_ble_eq_true rfl) rfl ?_
      refine g_iinc (lv' := [(2, xI (((p + 1) : Nat) : Int)), _, _]) dX7_eatSet_31 (Nat.le_of_ble_eq_true rfl) rfl rfl ?_
      refine g_goto 4 dX7_eatSet_34 rfl ?_
      refine g_sub (lv2 := [(2, xI (((p + 1) : Nat) : Int)), _, _]) [0, 1, 2] rfl ?_
      exact f_cv (by rw [RV_X7_eatSet_4, if_neg c_19]) rfl (ih (p + 1) _ _ (by omega) hmy)
def V_X7_eatSet (σ : xMi) (K : Nat) : Int := (RV_X7_eatSet_4 K K 0 σ 0)
theorem c_X7_eatSet (l : Launch) (n : Nat) (σ : xMi)  (K : Nat) (hn : 154 ≤ n) (hK : K ≤ 6) (hmy : σ 24 0 0 = (K : Int)) : x_F l yX7_eatSet RX7 cX7_eatSet 3 (some .int) 0 n σ [xR 24 0] (some (xI (V_X7_eatSet σ K))) σ := by
  refine f_of (by decide) rfl (Nat.le_of_ble_eq_true rfl) rfl ?_
  refine g_iconst dX7_eatSet_0 ?_
  refine g_istore_n (lv' := [_, _]) dX7_eatSet_1 (Nat.le_of_ble_eq_true rfl) rfl ?_
  refine g_iconst dX7_eatSet_2 ?_
  refine g_istore_n (lv' := [_, _, _]) dX7_eatSet_3 (Nat.le_of_ble_eq_true rfl) rfl ?_
  refine g_sub (lv2 := [(2, xI ((0 : Nat) : Int)), _, _]) [0, 1, 2] rfl ?_
  exact f_cv rfl rfl (lh_X7_eatSet_4 l n K hn hK K 0 _ _ (by omega) hmy)

def RV_X7_toldSet_4 (K : Nat) : Nat → Nat → xMi → Int → Int
  | 0, p, σ, a => a
  | k + 1, p, σ, a => (if x_wr (σ 32 0 p) = x_wr (-4) then (RV_X7_toldSet_4 K k (p + 1) σ (x_or a 0)) else (RV_X7_toldSet_4 K k (p + 1) σ (x_or a (x_shl 1 (p : Int)))))
theorem lh_X7_toldSet_4 (l : Launch) (n : Nat)  (K : Nat) (hn : 154 ≤ n) (hK : K ≤ 6) : ∀ (k p : Nat) (σ : xMi) (a : Int), p + k = K → (σ 24 0 0 = (K : Int)) →  x_G l RX7 cX7_toldSet 3 (some .int) 0 n (some (xI (RV_X7_toldSet_4 K k p σ a))) σ 4 [(2, xI (p : Int)), (1, xI a), (0, xR 24 0)] [] σ := by
  intro k
  induction k with
  | zero =>
    intro p σ a hk hmy
    refine g_iload_n dX7_toldSet_4 rfl ?_
    refine g_aload_n dX7_toldSet_5 rfl ?_
    refine g_getI dX7_toldSet_6 fl_X7_84 (x_vM hn (Nat.le_of_ble_eq_true rfl) (Nat.le_of_ble_eq_true rfl)) rfl rfl ?_
    refine g_cmp_ge 39 dX7_toldSet_9 rfl (fun c_9 => ?_) (fun c_9 => absurd (by rw [hmy, x_nat (by omega), x_nat (by omega)]; omega) c_9)
    refine g_iload_n dX7_toldSet_39 rfl ?_
    exact f_iret dX7_toldSet_40 rfl rfl
  | succ k ih =>
    intro p σ a hk hmy
    have hp : p < 6 := by omega
    refine g_iload_n dX7_toldSet_4 rfl ?_
    refine g_aload_n dX7_toldSet_5 rfl ?_
    refine g_getI dX7_toldSet_6 fl_X7_84 (x_vM hn (Nat.le_of_ble_eq_true rfl) (Nat.le_of_ble_eq_true rfl)) rfl rfl ?_
    refine g_cmp_ge 39 dX7_toldSet_9 rfl (fun c_9 => absurd c_9 (by rw [hmy, x_nat (by omega), x_nat (by omega)]; omega)) (fun c_9 => ?_)
    refine g_iload_n dX7_toldSet_12 rfl ?_
    refine g_aload_n dX7_toldSet_13 rfl ?_
    refine g_getR (t2 := 32) (i2 := 0) dX7_toldSet_14 fl_X7_31 (x_vM hn (Nat.le_of_ble_eq_true rfl) (Nat.le_of_ble_eq_true rfl)) rfl rfl rfl ?_
    refine g_iload_n dX7_toldSet_17 rfl ?_
    refine g_iald p dX7_toldSet_18 rfl hp (x_vM hn (Nat.le_of_ble_eq_true rfl) (Nat.le_of_ble_eq_true rfl)) rfl ?_
    refine g_bipush dX7_toldSet_19 (by decide) ?_
    refine g_cmp_ne 28 dX7_toldSet_21 rfl (fun c_21 => ?_) (fun c_21 => ?_)
    · refine g_iconst dX7_toldSet_28 ?_
      refine g_iload_n dX7_toldSet_29 rfl ?_
      refine g_ishl dX7_toldSet_30 ?_
      refine g_ior dX7_toldSet_31 ?_
      refine g_istore_n (lv' := [_, _, _]) dX7_toldSet_32 (Nat.le_of_ble_eq_true rfl) rfl ?_
      refine g_iinc (lv' := [(2, xI (((p + 1) : Nat) : Int)), _, _]) dX7_toldSet_33 (Nat.le_of_ble_eq_true rfl) rfl rfl ?_
      refine g_goto 4 dX7_toldSet_36 rfl ?_
      refine g_sub (lv2 := [(2, xI (((p + 1) : Nat) : Int)), _, _]) [0, 1, 2] rfl ?_
      exact f_cv (by rw [RV_X7_toldSet_4, if_neg c_21]) rfl (ih (p + 1) _ _ (by omega) hmy)
    · refine g_iconst dX7_toldSet_24 ?_
      refine g_goto 31 dX7_toldSet_25 rfl ?_
      refine g_ior dX7_toldSet_31 ?_
      refine g_istore_n (lv' := [_, _, _]) dX7_toldSet_32 (Nat.le_of_ble_eq_true rfl) rfl ?_
      refine g_iinc (lv' := [(2, xI (((p + 1) : Nat) : Int)), _, _]) dX7_toldSet_33 (Nat.le_of_ble_eq_true rfl) rfl rfl ?_
      refine g_goto 4 dX7_toldSet_36 rfl ?_
      refine g_sub (lv2 := [(2, xI (((p + 1) : Nat) : Int)), _, _]) [0, 1, 2] rfl ?_
      exact f_cv (by rw [RV_X7_toldSet_4, if_pos c_21]) rfl (ih (p + 1) _ _ (by omega) hmy)
def V_X7_toldSet (σ : xMi) (K : Nat) : Int := (RV_X7_toldSet_4 K K 0 σ 0)
theorem c_X7_toldSet (l : Launch) (n : Nat) (σ : xMi)  (K : Nat) (hn : 154 ≤ n) (hK : K ≤ 6) (hmy : σ 24 0 0 = (K : Int)) : x_F l yX7_toldSet RX7 cX7_toldSet 3 (some .int) 0 n σ [xR 24 0] (some (xI (V_X7_toldSet σ K))) σ := by
  refine f_of (by decide) rfl (Nat.le_of_ble_eq_true rfl) rfl ?_
  refine g_iconst dX7_toldSet_0 ?_
  refine g_istore_n (lv' := [_, _]) dX7_toldSet_1 (Nat.le_of_ble_eq_true rfl) rfl ?_
  refine g_iconst dX7_toldSet_2 ?_
  refine g_istore_n (lv' := [_, _, _]) dX7_toldSet_3 (Nat.le_of_ble_eq_true rfl) rfl ?_
  refine g_sub (lv2 := [(2, xI ((0 : Nat) : Int)), _, _]) [0, 1, 2] rfl ?_
  exact f_cv rfl rfl (lh_X7_toldSet_4 l n K hn hK K 0 _ _ (by omega) hmy)

def RV_X7_softSet_4 (K : Nat) : Nat → Nat → xMi → Int → Int
  | 0, p, σ, a => a
  | k + 1, p, σ, a => (RV_X7_softSet_4 K k (p + 1) σ (x_or a (x_shl (σ 33 0 p) (p : Int))))
theorem lh_X7_softSet_4 (l : Launch) (n : Nat)  (K : Nat) (hn : 154 ≤ n) (hK : K ≤ 6) : ∀ (k p : Nat) (σ : xMi) (a : Int), p + k = K → (σ 24 0 0 = (K : Int)) →  x_G l RX7 cX7_softSet 3 (some .int) 0 n (some (xI (RV_X7_softSet_4 K k p σ a))) σ 4 [(2, xI (p : Int)), (1, xI a), (0, xR 24 0)] [] σ := by
  intro k
  induction k with
  | zero =>
    intro p σ a hk hmy
    refine g_iload_n dX7_softSet_4 rfl ?_
    refine g_aload_n dX7_softSet_5 rfl ?_
    refine g_getI dX7_softSet_6 fl_X7_84 (x_vM hn (Nat.le_of_ble_eq_true rfl) (Nat.le_of_ble_eq_true rfl)) rfl rfl ?_
    refine g_cmp_ge 29 dX7_softSet_9 rfl (fun c_9 => ?_) (fun c_9 => absurd (by rw [hmy, x_nat (by omega), x_nat (by omega)]; omega) c_9)
    refine g_iload_n dX7_softSet_29 rfl ?_
    exact f_iret dX7_softSet_30 rfl rfl
  | succ k ih =>
    intro p σ a hk hmy
    have hp : p < 6 := by omega
    refine g_iload_n dX7_softSet_4 rfl ?_
    refine g_aload_n dX7_softSet_5 rfl ?_
    refine g_getI dX7_softSet_6 fl_X7_84 (x_vM hn (Nat.le_of_ble_eq_true rfl) (Nat.le_of_ble_eq_true rfl)) rfl rfl ?_
    refine g_cmp_ge 29 dX7_softSet_9 rfl (fun c_9 => absurd c_9 (by rw [hmy, x_nat (by omega), x_nat (by omega)]; omega)) (fun c_9 => ?_)
    refine g_iload_n dX7_softSet_12 rfl ?_
    refine g_aload_n dX7_softSet_13 rfl ?_
    refine g_getR (t2 := 33) (i2 := 0) dX7_softSet_14 fl_X7_34 (x_vM hn (Nat.le_of_ble_eq_true rfl) (Nat.le_of_ble_eq_true rfl)) rfl rfl rfl ?_
    refine g_iload_n dX7_softSet_17 rfl ?_
    refine g_iald p dX7_softSet_18 rfl hp (x_vM hn (Nat.le_of_ble_eq_true rfl) (Nat.le_of_ble_eq_true rfl)) rfl ?_
    refine g_iload_n dX7_softSet_19 rfl ?_
    refine g_ishl dX7_softSet_20 ?_
    refine g_ior dX7_softSet_21 ?_
    refine g_istore_n (lv' := [_, _, _]) dX7_softSet_22 (Nat.le_of_ble_eq_true rfl) rfl ?_
    refine g_iinc (lv' := [(2, xI (((p + 1) : Nat) : Int)), _, _]) dX7_softSet_23 (Nat.le_of_ble_eq_true rfl) rfl rfl ?_
    refine g_goto 4 dX7_softSet_26 rfl ?_
    refine g_sub (lv2 := [(2, xI (((p + 1) : Nat) : Int)), _, _]) [0, 1, 2] rfl ?_
    exact f_cv rfl rfl (ih (p + 1) _ _ (by omega) hmy)
def V_X7_softSet (σ : xMi) (K : Nat) : Int := (RV_X7_softSet_4 K K 0 σ 0)
theorem c_X7_softSet (l : Launch) (n : Nat) (σ : xMi)  (K : Nat) (hn : 154 ≤ n) (hK : K ≤ 6) (hmy : σ 24 0 0 = (K : Int)) : x_F l yX7_softSet RX7 cX7_softSet 3 (some .int) 0 n σ [xR 24 0] (some (xI (V_X7_softSet σ K))) σ := by
  refine f_of (by decide) rfl (Nat.le_of_ble_eq_true rfl) rfl ?_
  refine g_iconst dX7_softSet_0 ?_
  refine g_istore_n (lv' := [_, _]) dX7_softSet_1 (Nat.le_of_ble_eq_true rfl) rfl ?_
  refine g_iconst dX7_softSet_2 ?_
  refine g_istore_n (lv' := [_, _, _]) dX7_softSet_3 (Nat.le_of_ble_eq_true rfl) rfl ?_
  refine g_sub (lv2 := [(2, xI ((0 : Nat) : Int)), _, _]) [0, 1, 2] rfl ?_
  exact f_cv rfl rfl (lh_X7_softSet_4 l n K hn hK K 0 _ _ (by omega) hmy)

def RV_X7_softWeight_4 (K : Nat) : Nat → Nat → xMi → Int → Int
  | 0, p, σ, a => a
  | k + 1, p, σ, a => (if x_wr (σ 33 0 p) = x_wr 1 then (RV_X7_softWeight_4 K k (p + 1) σ (a + (σ 28 0 p))) else (RV_X7_softWeight_4 K k (p + 1) σ (a + 0)))
theorem lh_X7_softWeight_4 (l : Launch) (n : Nat)  (K : Nat) (hn : 154 ≤ n) (hK : K ≤ 6) : ∀ (k p : Nat) (σ : xMi) (a : Int), p + k = K → (σ 24 0 0 = (K : Int)) →  x_G l RX7 cX7_softWeight 3 (some .int) 0 n (some (xI (RV_X7_softWeight_4 K k p σ a))) σ 4 [(2, xI (p : Int)), (1, xI a), (0, xR 24 0)] [] σ := by
  intro k
  induction k with
  | zero =>
    intro p σ a hk hmy
    refine g_iload_n dX7_softWeight_4 rfl ?_
    refine g_aload_n dX7_softWeight_5 rfl ?_
    refine g_getI dX7_softWeight_6 fl_X7_84 (x_vM hn (Nat.le_of_ble_eq_true rfl) (Nat.le_of_ble_eq_true rfl)) rfl rfl ?_
    refine g_cmp_ge 41 dX7_softWeight_9 rfl (fun c_9 => ?_) (fun c_9 => absurd (by rw [hmy, x_nat (by omega), x_nat (by omega)]; omega) c_9)
    refine g_iload_n dX7_softWeight_41 rfl ?_
    exact f_iret dX7_softWeight_42 rfl rfl
  | succ k ih =>
    intro p σ a hk hmy
    have hp : p < 6 := by omega
    refine g_iload_n dX7_softWeight_4 rfl ?_
    refine g_aload_n dX7_softWeight_5 rfl ?_
    refine g_getI dX7_softWeight_6 fl_X7_84 (x_vM hn (Nat.le_of_ble_eq_true rfl) (Nat.le_of_ble_eq_true rfl)) rfl rfl ?_
    refine g_cmp_ge 41 dX7_softWeight_9 rfl (fun c_9 => absurd c_9 (by rw [hmy, x_nat (by omega), x_nat (by omega)]; omega)) (fun c_9 => ?_)
    refine g_iload_n dX7_softWeight_12 rfl ?_
    refine g_aload_n dX7_softWeight_13 rfl ?_
    refine g_getR (t2 := 33) (i2 := 0) dX7_softWeight_14 fl_X7_34 (x_vM hn (Nat.le_of_ble_eq_true rfl) (Nat.le_of_ble_eq_true rfl)) rfl rfl rfl ?_
    refine g_iload_n dX7_softWeight_17 rfl ?_
    refine g_iald p dX7_softWeight_18 rfl hp (x_vM hn (Nat.le_of_ble_eq_true rfl) (Nat.le_of_ble_eq_true rfl)) rfl ?_
    refine g_iconst dX7_softWeight_19 ?_
    refine g_cmp_ne 32 dX7_softWeight_20 rfl (fun c_20 => ?_) (fun c_20 => ?_)
    · refine g_iconst dX7_softWeight_32 ?_
      refine g_iadd dX7_softWeight_33 ?_
      refine g_istore_n (lv' := [_, _, _]) dX7_softWeight_34 (Nat.le_of_ble_eq_true rfl) rfl ?_
      refine g_iinc (lv' := [(2, xI (((p + 1) : Nat) : Int)), _, _]) dX7_softWeight_35 (Nat.le_of_ble_eq_true rfl) rfl rfl ?_
      refine g_goto 4 dX7_softWeight_38 rfl ?_
      refine g_sub (lv2 := [(2, xI (((p + 1) : Nat) : Int)), _, _]) [0, 1, 2] rfl ?_
      exact f_cv (by rw [RV_X7_softWeight_4, if_neg c_20]) rfl (ih (p + 1) _ _ (by omega) hmy)
    · refine g_aload_n dX7_softWeight_23 rfl ?_
      refine g_getR (t2 := 28) (i2 := 0) dX7_softWeight_24 fl_X7_19 (x_vM hn (Nat.le_of_ble_eq_true rfl) (Nat.le_of_ble_eq_true rfl)) rfl rfl rfl ?_
      refine g_iload_n dX7_softWeight_27 rfl ?_
      refine g_iald p dX7_softWeight_28 rfl hp (x_vM hn (Nat.le_of_ble_eq_true rfl) (Nat.le_of_ble_eq_true rfl)) rfl ?_
      refine g_goto 33 dX7_softWeight_29 rfl ?_
      refine g_iadd dX7_softWeight_33 ?_
      refine g_istore_n (lv' := [_, _, _]) dX7_softWeight_34 (Nat.le_of_ble_eq_true rfl) rfl ?_
      refine g_iinc (lv' := [(2, xI (((p + 1) : Nat) : Int)), _, _]) dX7_softWeight_35 (Nat.le_of_ble_eq_true rfl) rfl rfl ?_
      refine g_goto 4 dX7_softWeight_38 rfl ?_
      refine g_sub (lv2 := [(2, xI (((p + 1) : Nat) : Int)), _, _]) [0, 1, 2] rfl ?_
      exact f_cv (by rw [RV_X7_softWeight_4, if_pos c_20]) rfl (ih (p + 1) _ _ (by omega) hmy)
def V_X7_softWeight (σ : xMi) (K : Nat) : Int := (RV_X7_softWeight_4 K K 0 σ 0)
theorem c_X7_softWeight (l : Launch) (n : Nat) (σ : xMi)  (K : Nat) (hn : 154 ≤ n) (hK : K ≤ 6) (hmy : σ 24 0 0 = (K : Int)) : x_F l yX7_softWeight RX7 cX7_softWeight 3 (some .int) 0 n σ [xR 24 0] (some (xI (V_X7_softWeight σ K))) σ := by
  refine f_of (by decide) rfl (Nat.le_of_ble_eq_true rfl) rfl ?_
  refine g_iconst dX7_softWeight_0 ?_
  refine g_istore_n (lv' := [_, _]) dX7_softWeight_1 (Nat.le_of_ble_eq_true rfl) rfl ?_
  refine g_iconst dX7_softWeight_2 ?_
  refine g_istore_n (lv' := [_, _, _]) dX7_softWeight_3 (Nat.le_of_ble_eq_true rfl) rfl ?_
  refine g_sub (lv2 := [(2, xI ((0 : Nat) : Int)), _, _]) [0, 1, 2] rfl ?_
  exact f_cv rfl rfl (lh_X7_softWeight_4 l n K hn hK K 0 _ _ (by omega) hmy)

def V_X7_personTells (σ : xMi) (p : Nat) (w : Int) : Int := (if x_wr w = 0 then (σ 25 0 p) else (if x_wr w = 1 then (σ 26 0 p) else (if x_wr w = 2 then (σ 27 0 p) else (if x_wr w = 3 then (σ 28 0 p) else (if x_wr w = 4 then (σ 29 0 p) else (if x_wr w = 5 then (σ 30 0 p) else (if x_wr w = 6 then (σ 31 0 p) else (if x_wr w = 7 then (σ 32 0 p) else (if x_wr w = 8 then (σ 33 0 p) else (if x_wr w = 9 then (σ 34 0 p) else (σ 35 0 p)))))))))))
theorem c_X7_personTells (l : Launch) (n : Nat) (σ : xMi) (p : Nat) (w : Int) (hn : 154 ≤ n) (hp : p < 6)  : x_F l yX7_personTells RX7 cX7_personTells 3 (some .int) 0 n σ [xR 24 0, xI (p : Int), xI w] (some (xI (V_X7_personTells σ p w))) σ := by
  refine f_of (by decide) rfl (Nat.le_of_ble_eq_true rfl) rfl ?_
  refine g_iload_n dX7_personTells_0 rfl ?_
  by_cases s_1_0 : x_wr w = 0
  · refine g_tin 56 dX7_personTells_1 (by omega) (by omega) (by rw [s_1_0]; rfl) rfl ?_
    refine g_aload_n dX7_personTells_56 rfl ?_
    refine g_getR (t2 := 25) (i2 := 0) dX7_personTells_57 fl_X7_9 (x_vM hn (Nat.le_of_ble_eq_true rfl) (Nat.le_of_ble_eq_true rfl)) rfl rfl rfl ?_
    refine g_iload_n dX7_personTells_60 rfl ?_
    refine g_iald p dX7_personTells_61 rfl hp (x_vM hn (Nat.le_of_ble_eq_true rfl) (Nat.le_of_ble_eq_true rfl)) rfl ?_
    exact f_iret dX7_personTells_62 (by rw [V_X7_personTells, if_pos s_1_0]) rfl
  · by_cases s_1_1 : x_wr w = 1
    · refine g_tin 63 dX7_personTells_1 (by omega) (by omega) (by rw [s_1_1]; rfl) rfl ?_
      refine g_aload_n dX7_personTells_63 rfl ?_
      refine g_getR (t2 := 26) (i2 := 0) dX7_personTells_64 fl_X7_13 (x_vM hn (Nat.le_of_ble_eq_true rfl) (Nat.le_of_ble_eq_true rfl)) rfl rfl rfl ?_
      refine g_iload_n dX7_personTells_67 rfl ?_
      refine g_iald p dX7_personTells_68 rfl hp (x_vM hn (Nat.le_of_ble_eq_true rfl) (Nat.le_of_ble_eq_true rfl)) rfl ?_
      exact f_iret dX7_personTells_69 (by rw [V_X7_personTells, if_neg s_1_0, if_pos s_1_1]) rfl
    · by_cases s_1_2 : x_wr w = 2
      · refine g_tin 70 dX7_personTells_1 (by omega) (by omega) (by rw [s_1_2]; rfl) rfl ?_
        refine g_aload_n dX7_personTells_70 rfl ?_
        refine g_getR (t2 := 27) (i2 := 0) dX7_personTells_71 fl_X7_16 (x_vM hn (Nat.le_of_ble_eq_true rfl) (Nat.le_of_ble_eq_true rfl)) rfl rfl rfl ?_
        refine g_iload_n dX7_personTells_74 rfl ?_
        refine g_iald p dX7_personTells_75 rfl hp (x_vM hn (Nat.le_of_ble_eq_true rfl) (Nat.le_of_ble_eq_true rfl)) rfl ?_
        exact f_iret dX7_personTells_76 (by rw [V_X7_personTells, if_neg s_1_0, if_neg s_1_1, if_pos s_1_2]) rfl
      · by_cases s_1_3 : x_wr w = 3
        · refine g_tin 77 dX7_personTells_1 (by omega) (by omega) (by rw [s_1_3]; rfl) rfl ?_
          refine g_aload_n dX7_personTells_77 rfl ?_
          refine g_getR (t2 := 28) (i2 := 0) dX7_personTells_78 fl_X7_19 (x_vM hn (Nat.le_of_ble_eq_true rfl) (Nat.le_of_ble_eq_true rfl)) rfl rfl rfl ?_
          refine g_iload_n dX7_personTells_81 rfl ?_
          refine g_iald p dX7_personTells_82 rfl hp (x_vM hn (Nat.le_of_ble_eq_true rfl) (Nat.le_of_ble_eq_true rfl)) rfl ?_
          exact f_iret dX7_personTells_83 (by rw [V_X7_personTells, if_neg s_1_0, if_neg s_1_1, if_neg s_1_2, if_pos s_1_3]) rfl
        · by_cases s_1_4 : x_wr w = 4
          · refine g_tin 84 dX7_personTells_1 (by omega) (by omega) (by rw [s_1_4]; rfl) rfl ?_
            refine g_aload_n dX7_personTells_84 rfl ?_
            refine g_getR (t2 := 29) (i2 := 0) dX7_personTells_85 fl_X7_22 (x_vM hn (Nat.le_of_ble_eq_true rfl) (Nat.le_of_ble_eq_true rfl)) rfl rfl rfl ?_
            refine g_iload_n dX7_personTells_88 rfl ?_
            refine g_iald p dX7_personTells_89 rfl hp (x_vM hn (Nat.le_of_ble_eq_true rfl) (Nat.le_of_ble_eq_true rfl)) rfl ?_
            exact f_iret dX7_personTells_90 (by rw [V_X7_personTells, if_neg s_1_0, if_neg s_1_1, if_neg s_1_2, if_neg s_1_3, if_pos s_1_4]) rfl
          · by_cases s_1_5 : x_wr w = 5
            · refine g_tin 91 dX7_personTells_1 (by omega) (by omega) (by rw [s_1_5]; rfl) rfl ?_
              refine g_aload_n dX7_personTells_91 rfl ?_
              refine g_getR (t2 := 30) (i2 := 0) dX7_personTells_92 fl_X7_25 (x_vM hn (Nat.le_of_ble_eq_true rfl) (Nat.le_of_ble_eq_true rfl)) rfl rfl rfl ?_
              refine g_iload_n dX7_personTells_95 rfl ?_
              refine g_iald p dX7_personTells_96 rfl hp (x_vM hn (Nat.le_of_ble_eq_true rfl) (Nat.le_of_ble_eq_true rfl)) rfl ?_
              exact f_iret dX7_personTells_97 (by rw [V_X7_personTells, if_neg s_1_0, if_neg s_1_1, if_neg s_1_2, if_neg s_1_3, if_neg s_1_4, if_pos s_1_5]) rfl
            · by_cases s_1_6 : x_wr w = 6
              · refine g_tin 98 dX7_personTells_1 (by omega) (by omega) (by rw [s_1_6]; rfl) rfl ?_
                refine g_aload_n dX7_personTells_98 rfl ?_
                refine g_getR (t2 := 31) (i2 := 0) dX7_personTells_99 fl_X7_28 (x_vM hn (Nat.le_of_ble_eq_true rfl) (Nat.le_of_ble_eq_true rfl)) rfl rfl rfl ?_
                refine g_iload_n dX7_personTells_102 rfl ?_
                refine g_iald p dX7_personTells_103 rfl hp (x_vM hn (Nat.le_of_ble_eq_true rfl) (Nat.le_of_ble_eq_true rfl)) rfl ?_
                exact f_iret dX7_personTells_104 (by rw [V_X7_personTells, if_neg s_1_0, if_neg s_1_1, if_neg s_1_2, if_neg s_1_3, if_neg s_1_4, if_neg s_1_5, if_pos s_1_6]) rfl
              · by_cases s_1_7 : x_wr w = 7
                · refine g_tin 105 dX7_personTells_1 (by omega) (by omega) (by rw [s_1_7]; rfl) rfl ?_
                  refine g_aload_n dX7_personTells_105 rfl ?_
                  refine g_getR (t2 := 32) (i2 := 0) dX7_personTells_106 fl_X7_31 (x_vM hn (Nat.le_of_ble_eq_true rfl) (Nat.le_of_ble_eq_true rfl)) rfl rfl rfl ?_
                  refine g_iload_n dX7_personTells_109 rfl ?_
                  refine g_iald p dX7_personTells_110 rfl hp (x_vM hn (Nat.le_of_ble_eq_true rfl) (Nat.le_of_ble_eq_true rfl)) rfl ?_
                  exact f_iret dX7_personTells_111 (by rw [V_X7_personTells, if_neg s_1_0, if_neg s_1_1, if_neg s_1_2, if_neg s_1_3, if_neg s_1_4, if_neg s_1_5, if_neg s_1_6, if_pos s_1_7]) rfl
                · by_cases s_1_8 : x_wr w = 8
                  · refine g_tin 112 dX7_personTells_1 (by omega) (by omega) (by rw [s_1_8]; rfl) rfl ?_
                    refine g_aload_n dX7_personTells_112 rfl ?_
                    refine g_getR (t2 := 33) (i2 := 0) dX7_personTells_113 fl_X7_34 (x_vM hn (Nat.le_of_ble_eq_true rfl) (Nat.le_of_ble_eq_true rfl)) rfl rfl rfl ?_
                    refine g_iload_n dX7_personTells_116 rfl ?_
                    refine g_iald p dX7_personTells_117 rfl hp (x_vM hn (Nat.le_of_ble_eq_true rfl) (Nat.le_of_ble_eq_true rfl)) rfl ?_
                    exact f_iret dX7_personTells_118 (by rw [V_X7_personTells, if_neg s_1_0, if_neg s_1_1, if_neg s_1_2, if_neg s_1_3, if_neg s_1_4, if_neg s_1_5, if_neg s_1_6, if_neg s_1_7, if_pos s_1_8]) rfl
                  · by_cases s_1_9 : x_wr w = 9
                    · refine g_tin 119 dX7_personTells_1 (by omega) (by omega) (by rw [s_1_9]; rfl) rfl ?_
                      refine g_aload_n dX7_personTells_119 rfl ?_
                      refine g_getR (t2 := 34) (i2 := 0) dX7_personTells_120 fl_X7_37 (x_vM hn (Nat.le_of_ble_eq_true rfl) (Nat.le_of_ble_eq_true rfl)) rfl rfl rfl ?_
                      refine g_iload_n dX7_personTells_123 rfl ?_
                      refine g_iald p dX7_personTells_124 rfl hp (x_vM hn (Nat.le_of_ble_eq_true rfl) (Nat.le_of_ble_eq_true rfl)) rfl ?_
                      exact f_iret dX7_personTells_125 (by rw [V_X7_personTells, if_neg s_1_0, if_neg s_1_1, if_neg s_1_2, if_neg s_1_3, if_neg s_1_4, if_neg s_1_5, if_neg s_1_6, if_neg s_1_7, if_neg s_1_8, if_pos s_1_9]) rfl
                    · refine g_tout 126 dX7_personTells_1 (by omega) rfl ?_
                      refine g_aload_n dX7_personTells_126 rfl ?_
                      refine g_getR (t2 := 35) (i2 := 0) dX7_personTells_127 fl_X7_40 (x_vM hn (Nat.le_of_ble_eq_true rfl) (Nat.le_of_ble_eq_true rfl)) rfl rfl rfl ?_
                      refine g_iload_n dX7_personTells_130 rfl ?_
                      refine g_iald p dX7_personTells_131 rfl hp (x_vM hn (Nat.le_of_ble_eq_true rfl) (Nat.le_of_ble_eq_true rfl)) rfl ?_
                      exact f_iret dX7_personTells_132 (by rw [V_X7_personTells, if_neg s_1_0, if_neg s_1_1, if_neg s_1_2, if_neg s_1_3, if_neg s_1_4, if_neg s_1_5, if_neg s_1_6, if_neg s_1_7, if_neg s_1_8, if_neg s_1_9]) rfl

def V_X7_isOpen (σ : xMi) (p : Nat) : Int := (if x_wr (σ 36 0 p) = 0 then (if x_wr (σ 32 0 p) = x_wr (-4) then 1 else 0) else 0)
theorem z_X7_isOpen (σ : xMi) (p : Nat) : V_X7_isOpen σ p = 0 ∨ V_X7_isOpen σ p = 1 := by
  unfold V_X7_isOpen
  (repeat' split) <;> first | exact Or.inl rfl | exact Or.inr rfl
theorem c_X7_isOpen (l : Launch) (n : Nat) (σ : xMi) (p : Nat) (hn : 154 ≤ n) (hp : p < 6)  : x_F l yX7_isOpen RX7 cX7_isOpen 2 (some .boolean) 0 n σ [xR 24 0, xI (p : Int)] (some (xI (V_X7_isOpen σ p))) σ := by
  refine f_of (by decide) rfl (Nat.le_of_ble_eq_true rfl) rfl ?_
  refine g_aload_n dX7_isOpen_0 rfl ?_
  refine g_getR (t2 := 36) (i2 := 0) dX7_isOpen_1 fl_X7_43 (x_vM hn (Nat.le_of_ble_eq_true rfl) (Nat.le_of_ble_eq_true rfl)) rfl rfl rfl ?_
  refine g_iload_n dX7_isOpen_4 rfl ?_
  refine g_iald p dX7_isOpen_5 rfl hp (x_vM hn (Nat.le_of_ble_eq_true rfl) (Nat.le_of_ble_eq_true rfl)) rfl ?_
  refine g_if_ne 24 dX7_isOpen_6 rfl (fun c_6 => ?_) (fun c_6 => ?_)
  · refine g_iconst dX7_isOpen_24 ?_
    exact f_zret dX7_isOpen_25 (by decide) (by rw [V_X7_isOpen, if_neg c_6]) rfl
  · refine g_aload_n dX7_isOpen_9 rfl ?_
    refine g_getR (t2 := 32) (i2 := 0) dX7_isOpen_10 fl_X7_31 (x_vM hn (Nat.le_of_ble_eq_true rfl) (Nat.le_of_ble_eq_true rfl)) rfl rfl rfl ?_
    refine g_iload_n dX7_isOpen_13 rfl ?_
    refine g_iald p dX7_isOpen_14 rfl hp (x_vM hn (Nat.le_of_ble_eq_true rfl) (Nat.le_of_ble_eq_true rfl)) rfl ?_
    refine g_bipush dX7_isOpen_15 (by decide) ?_
    refine g_cmp_ne 24 dX7_isOpen_17 rfl (fun c_17 => ?_) (fun c_17 => ?_)
    · refine g_iconst dX7_isOpen_24 ?_
      exact f_zret dX7_isOpen_25 (by decide) (by rw [V_X7_isOpen, if_pos c_6, if_neg c_17]) rfl
    · refine g_iconst dX7_isOpen_20 ?_
      refine g_goto 25 dX7_isOpen_21 rfl ?_
      exact f_zret dX7_isOpen_25 (by decide) (by rw [V_X7_isOpen, if_pos c_6, if_pos c_17]) rfl

def V_X7_maySend (σ : xMi) (p : Nat) : Int := (if x_wr (V_X7_isOpen σ p) = 0 then 0 else (if x_wr (σ 24 0 6) ≤ 0 then 0 else (if x_wr (σ 24 0 7) = 0 then 1 else 0)))
theorem z_X7_maySend (σ : xMi) (p : Nat) : V_X7_maySend σ p = 0 ∨ V_X7_maySend σ p = 1 := by
  unfold V_X7_maySend
  (repeat' split) <;> first | exact Or.inl rfl | exact Or.inr rfl
theorem c_X7_maySend (l : Launch) (n : Nat) (σ : xMi) (p : Nat) (hn : 154 ≤ n) (hp : p < 6)  : x_F l yX7_maySend RX7 cX7_maySend 2 (some .boolean) 1 n σ [xR 24 0, xI (p : Int)] (some (xI (V_X7_maySend σ p))) σ := by
  refine f_of (by decide) rfl (Nat.le_of_ble_eq_true rfl) rfl ?_
  refine g_aload_n dX7_maySend_0 rfl ?_
  refine g_iload_n dX7_maySend_1 rfl ?_
  refine f_V dX7_maySend_2 cs_X7_173 mb_X7_isOpen (c_X7_isOpen l n _ p hn hp) rfl (x_vM hn (Nat.le_of_ble_eq_true rfl) (Nat.le_of_ble_eq_true rfl)) rfl rfl rfl (Nat.le_of_ble_eq_true rfl) (by decide) (Nat.le_of_ble_eq_true rfl) (Nat.le_refl _) (Nat.le_refl _) ?_
  refine g_if_eq 26 dX7_maySend_5 rfl (fun c_5 => ?_) (fun c_5 => ?_)
  · refine g_iconst dX7_maySend_26 ?_
    exact f_zret dX7_maySend_27 (by decide) (by rw [V_X7_maySend, if_pos c_5]) rfl
  · refine g_aload_n dX7_maySend_8 rfl ?_
    refine g_getI dX7_maySend_9 fl_X7_91 (x_vM hn (Nat.le_of_ble_eq_true rfl) (Nat.le_of_ble_eq_true rfl)) rfl rfl ?_
    refine g_if_le 26 dX7_maySend_12 rfl (fun c_12 => ?_) (fun c_12 => ?_)
    · refine g_iconst dX7_maySend_26 ?_
      exact f_zret dX7_maySend_27 (by decide) (by rw [V_X7_maySend, if_neg c_5, if_pos c_12]) rfl
    · refine g_aload_n dX7_maySend_15 rfl ?_
      refine g_getI dX7_maySend_16 fl_X7_94 (x_vM hn (Nat.le_of_ble_eq_true rfl) (Nat.le_of_ble_eq_true rfl)) rfl rfl ?_
      refine g_if_ne 26 dX7_maySend_19 rfl (fun c_19 => ?_) (fun c_19 => ?_)
      · refine g_iconst dX7_maySend_26 ?_
        exact f_zret dX7_maySend_27 (by decide) (by rw [V_X7_maySend, if_neg c_5, if_neg c_12, if_neg c_19]) rfl
      · refine g_iconst dX7_maySend_22 ?_
        refine g_goto 27 dX7_maySend_23 rfl ?_
        exact f_zret dX7_maySend_27 (by decide) (by rw [V_X7_maySend, if_neg c_5, if_neg c_12, if_pos c_19]) rfl

def S_X7_goesOut (σ : xMi) (p : Nat) : xMi := (x_up (x_up (x_up σ 36 0 p 1) 29 0 p 1) 30 0 p ((((x_up (x_up σ 36 0 p 1) 29 0 p 1) 24 0 5) + (x_div ((x_up (x_up σ 36 0 p 1) 29 0 p 1) 26 0 p) 10)) + 1))
theorem fr_S_X7_goesOut (σ : xMi) (p : Nat) {t i k : Nat} (h : ¬ ((t = 24 ∧ 5 ≤ k ∧ k ≤ 8) ∨ (29 ≤ t ∧ t ≤ 36))) : S_X7_goesOut σ p t i k = σ t i k := by
  unfold S_X7_goesOut
  all_goals ((repeat' split) <;> first | rfl | simp (disch := first | omega | assumption) only [x_up_o, x_up_k, x_cp_o])
theorem c_X7_goesOut (l : Launch) (n : Nat) (σ : xMi) (p : Nat) (hn : 154 ≤ n) (hp : p < 6)  : x_F l yX7_goesOut RX7 cX7_goesOut 2 none 0 n σ [xR 24 0, xI (p : Int)] none (S_X7_goesOut σ p) := by
  refine f_of (by decide) rfl (Nat.le_of_ble_eq_true rfl) rfl ?_
  refine g_aload_n dX7_goesOut_0 rfl ?_
  refine g_getR (t2 := 36) (i2 := 0) dX7_goesOut_1 fl_X7_43 (x_vM hn (Nat.le_of_ble_eq_true rfl) (Nat.le_of_ble_eq_true rfl)) rfl rfl rfl ?_
  refine g_iload_n dX7_goesOut_4 rfl ?_
  refine g_iconst dX7_goesOut_5 ?_
  refine g_iast p dX7_goesOut_6 rfl hp (x_vM hn (Nat.le_of_ble_eq_true rfl) (Nat.le_of_ble_eq_true rfl)) rfl ?_
  refine g_aload_n dX7_goesOut_7 rfl ?_
  refine g_getR (t2 := 29) (i2 := 0) dX7_goesOut_8 fl_X7_22 (x_vM hn (Nat.le_of_ble_eq_true rfl) (Nat.le_of_ble_eq_true rfl)) rfl rfl rfl ?_
  refine g_iload_n dX7_goesOut_11 rfl ?_
  refine g_iconst dX7_goesOut_12 ?_
  refine g_iast p dX7_goesOut_13 rfl hp (x_vM hn (Nat.le_of_ble_eq_true rfl) (Nat.le_of_ble_eq_true rfl)) rfl ?_
  refine g_aload_n dX7_goesOut_14 rfl ?_
  refine g_getR (t2 := 30) (i2 := 0) dX7_goesOut_15 fl_X7_25 (x_vM hn (Nat.le_of_ble_eq_true rfl) (Nat.le_of_ble_eq_true rfl)) rfl rfl rfl ?_
  refine g_iload_n dX7_goesOut_18 rfl ?_
  refine g_aload_n dX7_goesOut_19 rfl ?_
  refine g_getI dX7_goesOut_20 fl_X7_88 (x_vM hn (Nat.le_of_ble_eq_true rfl) (Nat.le_of_ble_eq_true rfl)) rfl rfl ?_
  refine g_aload_n dX7_goesOut_23 rfl ?_
  refine g_getR (t2 := 26) (i2 := 0) dX7_goesOut_24 fl_X7_13 (x_vM hn (Nat.le_of_ble_eq_true rfl) (Nat.le_of_ble_eq_true rfl)) rfl rfl rfl ?_
  refine g_iload_n dX7_goesOut_27 rfl ?_
  refine g_iald p dX7_goesOut_28 rfl hp (x_vM hn (Nat.le_of_ble_eq_true rfl) (Nat.le_of_ble_eq_true rfl)) rfl ?_
  refine g_bipush dX7_goesOut_29 (by decide) ?_
  refine g_idiv dX7_goesOut_31 (by decide) ?_
  refine g_iadd dX7_goesOut_32 ?_
  refine g_iconst dX7_goesOut_33 ?_
  refine g_iadd dX7_goesOut_34 ?_
  refine g_iast p dX7_goesOut_35 rfl hp (x_vM hn (Nat.le_of_ble_eq_true rfl) (Nat.le_of_ble_eq_true rfl)) rfl ?_
  exact f_vret dX7_goesOut_36 rfl rfl

def S_X7_sends (σ : xMi) (p : Nat) : xMi := (x_up (x_up (S_X7_goesOut σ p) 24 0 6 (((S_X7_goesOut σ p) 24 0 6) - 1)) 24 0 7 1)
theorem fr_S_X7_sends (σ : xMi) (p : Nat) {t i k : Nat} (h : ¬ ((t = 24 ∧ 5 ≤ k ∧ k ≤ 8) ∨ (29 ≤ t ∧ t ≤ 36))) : S_X7_sends σ p t i k = σ t i k := by
  unfold S_X7_sends
  all_goals ((repeat' split) <;> first | rfl | simp (disch := first | omega | assumption) only [x_up_o, x_up_k, x_cp_o, fr_S_X7_goesOut])
theorem c_X7_sends (l : Launch) (n : Nat) (σ : xMi) (p : Nat) (hn : 154 ≤ n) (hp : p < 6)  : x_F l yX7_sends RX7 cX7_sends 2 none 1 n σ [xR 24 0, xI (p : Int)] none (S_X7_sends σ p) := by
  refine f_of (by decide) rfl (Nat.le_of_ble_eq_true rfl) rfl ?_
  refine g_aload_n dX7_sends_0 rfl ?_
  refine g_iload_n dX7_sends_1 rfl ?_
  refine f_Vv dX7_sends_2 cs_X7_176 mb_X7_goesOut (c_X7_goesOut l n _ p hn hp) rfl (x_vM hn (Nat.le_of_ble_eq_true rfl) (Nat.le_of_ble_eq_true rfl)) rfl rfl rfl (Nat.le_of_ble_eq_true rfl) (by decide) (Nat.le_of_ble_eq_true rfl) (Nat.le_refl _) (Nat.le_refl _) ?_
  refine g_aload_n dX7_sends_5 rfl ?_
  refine g_dup dX7_sends_6 rfl ?_
  refine g_getI dX7_sends_7 fl_X7_91 (x_vM hn (Nat.le_of_ble_eq_true rfl) (Nat.le_of_ble_eq_true rfl)) rfl rfl ?_
  refine g_iconst dX7_sends_10 ?_
  refine g_isub dX7_sends_11 ?_
  refine g_putI dX7_sends_12 fl_X7_91 (x_vM hn (Nat.le_of_ble_eq_true rfl) (Nat.le_of_ble_eq_true rfl)) rfl rfl ?_
  refine g_aload_n dX7_sends_15 rfl ?_
  refine g_iconst dX7_sends_16 ?_
  refine g_putI dX7_sends_17 fl_X7_94 (x_vM hn (Nat.le_of_ble_eq_true rfl) (Nat.le_of_ble_eq_true rfl)) rfl rfl ?_
  exact f_vret dX7_sends_20 rfl rfl

def S_X7_calls (σ : xMi) (p : Nat) : xMi := (x_up (x_up (x_up (x_up (x_up σ 24 0 6 (V_X7_lesser σ 20 ((σ 24 0 6) + (σ 29 0 p)))) 29 0 p 0) 30 0 p (-4)) 36 0 p 0) 35 0 p 0)
theorem fr_S_X7_calls (σ : xMi) (p : Nat) {t i k : Nat} (h : ¬ ((t = 24 ∧ 5 ≤ k ∧ k ≤ 8) ∨ (29 ≤ t ∧ t ≤ 36))) : S_X7_calls σ p t i k = σ t i k := by
  unfold S_X7_calls
  all_goals ((repeat' split) <;> first | rfl | simp (disch := first | omega | assumption) only [x_up_o, x_up_k, x_cp_o])
theorem c_X7_calls (l : Launch) (n : Nat) (σ : xMi) (p : Nat) (hn : 154 ≤ n) (hp : p < 6)  : x_F l yX7_calls RX7 cX7_calls 2 none 1 n σ [xR 24 0, xI (p : Int)] none (S_X7_calls σ p) := by
  refine f_of (by decide) rfl (Nat.le_of_ble_eq_true rfl) rfl ?_
  refine g_aload_n dX7_calls_0 rfl ?_
  refine g_bipush dX7_calls_1 (by decide) ?_
  refine g_aload_n dX7_calls_3 rfl ?_
  refine g_getI dX7_calls_4 fl_X7_91 (x_vM hn (Nat.le_of_ble_eq_true rfl) (Nat.le_of_ble_eq_true rfl)) rfl rfl ?_
  refine g_aload_n dX7_calls_7 rfl ?_
  refine g_getR (t2 := 29) (i2 := 0) dX7_calls_8 fl_X7_22 (x_vM hn (Nat.le_of_ble_eq_true rfl) (Nat.le_of_ble_eq_true rfl)) rfl rfl rfl ?_
  refine g_iload_n dX7_calls_11 rfl ?_
  refine g_iald p dX7_calls_12 rfl hp (x_vM hn (Nat.le_of_ble_eq_true rfl) (Nat.le_of_ble_eq_true rfl)) rfl ?_
  refine g_iadd dX7_calls_13 ?_
  refine f_S dX7_calls_14 cs_X7_179 mb_X7_lesser (c_X7_lesser l n _ 20 ((σ 24 0 6) + (σ 29 0 p)) hn) rfl (Nat.lt_of_lt_of_le (by decide) hn) rfl (Nat.le_of_ble_eq_true rfl) (by decide) (Nat.le_of_ble_eq_true rfl) (Nat.le_refl _) (Nat.le_refl _) ?_
  refine g_putI dX7_calls_17 fl_X7_91 (x_vM hn (Nat.le_of_ble_eq_true rfl) (Nat.le_of_ble_eq_true rfl)) rfl rfl ?_
  refine g_aload_n dX7_calls_20 rfl ?_
  refine g_getR (t2 := 29) (i2 := 0) dX7_calls_21 fl_X7_22 (x_vM hn (Nat.le_of_ble_eq_true rfl) (Nat.le_of_ble_eq_true rfl)) rfl rfl rfl ?_
  refine g_iload_n dX7_calls_24 rfl ?_
  refine g_iconst dX7_calls_25 ?_
  refine g_iast p dX7_calls_26 rfl hp (x_vM hn (Nat.le_of_ble_eq_true rfl) (Nat.le_of_ble_eq_true rfl)) rfl ?_
  refine g_aload_n dX7_calls_27 rfl ?_
  refine g_getR (t2 := 30) (i2 := 0) dX7_calls_28 fl_X7_25 (x_vM hn (Nat.le_of_ble_eq_true rfl) (Nat.le_of_ble_eq_true rfl)) rfl rfl rfl ?_
  refine g_iload_n dX7_calls_31 rfl ?_
  refine g_bipush dX7_calls_32 (by decide) ?_
  refine g_iast p dX7_calls_34 rfl hp (x_vM hn (Nat.le_of_ble_eq_true rfl) (Nat.le_of_ble_eq_true rfl)) rfl ?_
  refine g_aload_n dX7_calls_35 rfl ?_
  refine g_getR (t2 := 36) (i2 := 0) dX7_calls_36 fl_X7_43 (x_vM hn (Nat.le_of_ble_eq_true rfl) (Nat.le_of_ble_eq_true rfl)) rfl rfl rfl ?_
  refine g_iload_n dX7_calls_39 rfl ?_
  refine g_iconst dX7_calls_40 ?_
  refine g_iast p dX7_calls_41 rfl hp (x_vM hn (Nat.le_of_ble_eq_true rfl) (Nat.le_of_ble_eq_true rfl)) rfl ?_
  refine g_aload_n dX7_calls_42 rfl ?_
  refine g_getR (t2 := 35) (i2 := 0) dX7_calls_43 fl_X7_40 (x_vM hn (Nat.le_of_ble_eq_true rfl) (Nat.le_of_ble_eq_true rfl)) rfl rfl rfl ?_
  refine g_iload_n dX7_calls_46 rfl ?_
  refine g_iconst dX7_calls_47 ?_
  refine g_iast p dX7_calls_48 rfl hp (x_vM hn (Nat.le_of_ble_eq_true rfl) (Nat.le_of_ble_eq_true rfl)) rfl ?_
  exact f_vret dX7_calls_49 rfl rfl
