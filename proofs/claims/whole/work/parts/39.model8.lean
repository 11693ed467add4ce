def V_X7_order (σ : xMi) (k1 : Int) (K : Nat) : Int := (if x_wr (V_X7_in σ k1 (-1) 5) = 0 then (-1) else (if 0 ≤ x_wr k1 then (if x_wr ((S_X7_most σ (σ 24 0 6) K) 24 0 31) ≤ x_wr k1 then (-4) else ((S_X7_most σ (σ 24 0 6) K) 45 0 (k1.toNat))) else (V_X7_most σ (σ 24 0 6) K)))
def S_X7_order (σ : xMi) (k1 : Int) (K : Nat) : xMi := (if x_wr (V_X7_in σ k1 (-1) 5) = 0 then σ else (if 0 ≤ x_wr k1 then (if x_wr ((S_X7_most σ (σ 24 0 6) K) 24 0 31) ≤ x_wr k1 then (S_X7_most σ (σ 24 0 6) K) else (S_X7_most σ (σ 24 0 6) K)) else (S_X7_most σ (σ 24 0 6) K)))
theorem fr_S_X7_order (σ : xMi) (k1 : Int) (K : Nat) {t i k : Nat} (h : ¬ (t = 43 ∨ t = 44 ∨ t = 45 ∨ (t = 24 ∧ k = 31) ∨ (t = 24 ∧ 5 ≤ k ∧ k ≤ 8) ∨ (29 ≤ t ∧ t ≤ 36))) : S_X7_order σ k1 K t i k = σ t i k := by
  unfold S_X7_order
  all_goals ((repeat' split) <;> first | rfl | simp (disch := first | omega | assumption) only [x_up_o, x_up_k, x_cp_o, fr_S_X7_most])
theorem c_X7_order (l : Launch) (n : Nat) (σ : xMi) (k1 : Int) (K : Nat) (hn : 154 ≤ n) (hK : K ≤ 6) (h1w : x_wr k1 = k1) (hmy : σ 24 0 0 = (K : Int)) (hrw : ∀ j, 0 ≤ σ 44 0 j ∧ σ 44 0 j < 6)  : x_F l yX7_order RX7 cX7_order 3 (some .int) 5 n σ [xR 24 0, xI k1] (some (xI (V_X7_order σ k1 K))) (S_X7_order σ k1 K) := by
  refine f_of (by decide) rfl (Nat.le_of_ble_eq_true rfl) rfl ?_
  refine g_iload_n dX7_order_0 rfl ?_
  refine g_iconst dX7_order_1 ?_
  refine g_iconst dX7_order_2 ?_
  refine f_S dX7_order_3 cs_X7_100 mb_X7_in (c_X7_in l n _ k1 (-1) 5 hn) rfl (Nat.lt_of_lt_of_le (by decide) hn) rfl (Nat.le_of_ble_eq_true rfl) (by decide) (Nat.le_of_ble_eq_true rfl) (Nat.le_refl _) (Nat.le_refl _) ?_
  refine g_if_ne 11 dX7_order_6 rfl (fun c_6 => ?_) (fun c_6 => ?_)
  · refine g_aload_n dX7_order_11 rfl ?_
    refine g_aload_n dX7_order_12 rfl ?_
    refine g_getI dX7_order_13 fl_X7_91 (x_vM hn (Nat.le_of_ble_eq_true rfl) (Nat.le_of_ble_eq_true rfl)) rfl rfl ?_
    refine f_V dX7_order_16 cs_X7_235 mb_X7_mostBy (c_X7_mostBy_w l n _ (σ 24 0 6) K hn hK hmy hrw) rfl (x_vM hn (Nat.le_of_ble_eq_true rfl) (Nat.le_of_ble_eq_true rfl)) rfl rfl rfl (Nat.le_of_ble_eq_true rfl) (by decide) (Nat.le_of_ble_eq_true rfl) (Nat.le_refl _) (Nat.le_refl _) ?_
    refine g_istore_n (lv' := [_, _, _]) dX7_order_19 (Nat.le_of_ble_eq_true rfl) rfl ?_
    refine g_iload_n dX7_order_20 rfl ?_
    refine g_if_ge 28 dX7_order_21 rfl (fun c_21 => ?_) (fun c_21 => ?_)
    · refine g_iload_n dX7_order_28 rfl ?_
      refine g_aload_n dX7_order_29 rfl ?_
      refine g_getI dX7_order_30 fl_X7_223 (x_vM hn (Nat.le_of_ble_eq_true rfl) (Nat.le_of_ble_eq_true rfl)) rfl rfl ?_
      refine g_cmp_ge 45 dX7_order_33 rfl (fun c_33 => ?_) (fun c_33 => ?_)
      · refine g_bipush dX7_order_45 (by decide) ?_
        exact f_iret dX7_order_47 (by rw [V_X7_order, if_neg c_6, if_pos c_21, if_pos c_33]) (by rw [S_X7_order, if_neg c_6, if_pos c_21, if_pos c_33])
      · have hk1 : 0 ≤ k1 ∧ k1 ≤ 5 := by have h9 := l_in h1w c_6; rw [show x_wr (-1) = (-1) from by decide, show x_wr 5 = 5 from by decide] at h9; rw [h1w] at c_21; omega
        have hA : k1 = ((k1.toNat : Nat) : Int) := by omega
        refine g_lveq (lv2 := [(2, xI (V_X7_most σ (σ 24 0 6) K)), (0, xR 24 0), (1, xI ((k1.toNat : Nat) : Int))]) (by rw [← hA] <;> rfl) ?_
        refine g_aload_n dX7_order_36 rfl ?_
        refine g_getR (t2 := 45) (i2 := 0) dX7_order_37 fl_X7_70 (x_vM hn (Nat.le_of_ble_eq_true rfl) (Nat.le_of_ble_eq_true rfl)) rfl rfl rfl ?_
        refine g_iload_n dX7_order_40 rfl ?_
        refine g_iald (k1.toNat) dX7_order_41 rfl (show k1.toNat < 6 by omega) (x_vM hn (Nat.le_of_ble_eq_true rfl) (Nat.le_of_ble_eq_true rfl)) rfl ?_
        refine g_goto 47 dX7_order_42 rfl ?_
        exact f_iret dX7_order_47 (by rw [V_X7_order, if_neg c_6, if_pos c_21, if_neg c_33]) (by rw [S_X7_order, if_neg c_6, if_pos c_21, if_neg c_33])
    · refine g_iload_n dX7_order_24 rfl ?_
      refine g_goto 47 dX7_order_25 rfl ?_
      exact f_iret dX7_order_47 (by rw [V_X7_order, if_neg c_6, if_neg c_21]) (by rw [S_X7_order, if_neg c_6, if_neg c_21])
  · refine g_iconst dX7_order_9 ?_
    exact f_iret dX7_order_10 (by rw [V_X7_order, if_pos c_6]) (by rw [S_X7_order, if_pos c_6])

def RP_X7_need_9 (K : Nat) : Nat → Nat → xMi → Int → Prop
  | 0, e, σ, a => x_wr a ≤ x_wr (V_X7_most σ (e : Int) K)
  | k + 1, e, σ, a => (if x_wr a ≤ x_wr (V_X7_most σ (e : Int) K) then True else (RP_X7_need_9 K k (e + 1) (S_X7_most σ (e : Int) K) a))
def RV_X7_need_9 (K : Nat) : Nat → Nat → xMi → Int → Int
  | 0, e, σ, a => (e : Int)
  | k + 1, e, σ, a => (if x_wr a ≤ x_wr (V_X7_most σ (e : Int) K) then (e : Int) else (RV_X7_need_9 K k (e + 1) (S_X7_most σ (e : Int) K) a))
def RS_X7_need_9 (K : Nat) : Nat → Nat → xMi → Int → xMi
  | 0, e, σ, a => (S_X7_most σ (e : Int) K)
  | k + 1, e, σ, a => (if x_wr a ≤ x_wr (V_X7_most σ (e : Int) K) then (S_X7_most σ (e : Int) K) else (RS_X7_need_9 K k (e + 1) (S_X7_most σ (e : Int) K) a))
theorem fr_RS_X7_need_9 (K : Nat) {t i k' : Nat} (h : ¬ (t = 43 ∨ t = 44 ∨ t = 45 ∨ (t = 24 ∧ k' = 31) ∨ (t = 24 ∧ 5 ≤ k' ∧ k' ≤ 8) ∨ (29 ≤ t ∧ t ≤ 36))) : ∀ (k e : Nat) (σ : xMi) (a : Int), RS_X7_need_9 K k e σ a t i k' = σ t i k' := by
  intro k
  induction k with
  | zero =>
    intro e σ a
    simp only [RS_X7_need_9]
    all_goals ((repeat' split) <;> simp (disch := first | omega | assumption) only [x_up_o, x_up_k, x_cp_o, fr_S_X7_most])
  | succ k ih =>
    intro e σ a
    simp only [RS_X7_need_9]
    all_goals (repeat' split)
    all_goals (first | rw [ih] | skip)
    all_goals first | done | simp (disch := first | omega | assumption) only [x_up_o, x_up_k, x_cp_o, fr_S_X7_most]
theorem lh_X7_need_9 (l : Launch) (n : Nat)  (K : Nat) (hn : 154 ≤ n) (hK : K ≤ 6) : ∀ (k e : Nat) (σ : xMi) (a : Int), RP_X7_need_9 K k e σ a → (σ 24 0 0 = (K : Int)) → (∀ j, 0 ≤ σ 44 0 j ∧ σ 44 0 j < 6) →  x_G l RX7 cX7_need 3 (some .int) 5 n (some (xI (RV_X7_need_9 K k e σ a))) (RS_X7_need_9 K k e σ a) 9 [(2, xI (e : Int)), (1, xI a), (0, xR 24 0)] [] σ := by
  intro k
  induction k with
  | zero =>
    intro e σ a hk hmy hrw
    refine g_aload_n dX7_need_9 rfl ?_
    refine g_iload_n dX7_need_10 rfl ?_
    refine f_V dX7_need_11 cs_X7_235 mb_X7_mostBy (c_X7_mostBy_w l n _ (e : Int) K hn hK hmy hrw) rfl (x_vM hn (Nat.le_of_ble_eq_true rfl) (Nat.le_of_ble_eq_true rfl)) rfl rfl rfl (Nat.le_of_ble_eq_true rfl) (by decide) (Nat.le_of_ble_eq_true rfl) (Nat.le_refl _) (Nat.le_refl _) ?_
    refine g_iload_n dX7_need_14 rfl ?_
    refine g_cmp_ge 24 dX7_need_15 rfl (fun c_15 => ?_) (fun c_15 => absurd hk c_15)
    refine g_iload_n dX7_need_24 rfl ?_
    exact f_iret dX7_need_25 rfl rfl
  | succ k ih =>
    intro e σ a hk hmy hrw
    refine g_aload_n dX7_need_9 rfl ?_
    refine g_iload_n dX7_need_10 rfl ?_
    refine f_V dX7_need_11 cs_X7_235 mb_X7_mostBy (c_X7_mostBy_w l n _ (e : Int) K hn hK hmy hrw) rfl (x_vM hn (Nat.le_of_ble_eq_true rfl) (Nat.le_of_ble_eq_true rfl)) rfl rfl rfl (Nat.le_of_ble_eq_true rfl) (by decide) (Nat.le_of_ble_eq_true rfl) (Nat.le_refl _) (Nat.le_refl _) ?_
    refine g_iload_n dX7_need_14 rfl ?_
    refine g_cmp_ge 24 dX7_need_15 rfl (fun c_15 => ?_) (fun c_15 => ?_)
    · refine g_iload_n dX7_need_24 rfl ?_
      exact f_iret dX7_need_25 (by rw [RV_X7_need_9, if_pos c_15]) (by rw [RS_X7_need_9, if_pos c_15])
    · refine g_iinc (lv' := [(2, xI (((e + 1) : Nat) : Int)), _, _]) dX7_need_18 (Nat.le_of_ble_eq_true rfl) rfl rfl ?_
      refine g_goto 9 dX7_need_21 rfl ?_
      refine g_sub (lv2 := [(2, xI (((e + 1) : Nat) : Int)), _, _]) [0, 1, 2] rfl ?_
      exact f_cv (by rw [RV_X7_need_9, if_neg c_15]) (by rw [RS_X7_need_9, if_neg c_15]) (ih (e + 1) _ _ (by simp only [RP_X7_need_9] at hk; rw [if_neg c_15] at hk; exact hk) (by first | exact hmy | (simp (disch := omega) only [x_up_o, x_up_k, x_cp_o, fr_S_X7_most]; exact hmy) | (simp (disch := first | omega | assumption) only [x_up_o, x_up_k, x_cp_o, fr_S_X7_most]; exact hmy)) (by first | exact hrw | (simp (disch := omega) only [x_up_o, x_up_k, x_cp_o, fr_S_X7_most]; exact hrw) | (simp (disch := first | omega | assumption) only [x_up_o, x_up_k, x_cp_o, fr_S_X7_most]; exact hrw) | exact hw_most _ _ hK hrw))
def V_X7_need (σ : xMi) (K : Nat) : Int := (RV_X7_need_9 K 20 0 (S_X7_most σ 20 K) (V_X7_most σ 20 K))
def S_X7_need (σ : xMi) (K : Nat) : xMi := (RS_X7_need_9 K 20 0 (S_X7_most σ 20 K) (V_X7_most σ 20 K))
theorem fr_S_X7_need (σ : xMi) (K : Nat) {t i k : Nat} (h : ¬ (t = 43 ∨ t = 44 ∨ t = 45 ∨ (t = 24 ∧ k = 31) ∨ (t = 24 ∧ 5 ≤ k ∧ k ≤ 8) ∨ (29 ≤ t ∧ t ≤ 36))) : S_X7_need σ K t i k = σ t i k := by
  unfold S_X7_need
  all_goals ((repeat' split) <;> first | rfl | simp (disch := first | omega | assumption) only [x_up_o, x_up_k, x_cp_o, fr_RS_X7_need_9, fr_S_X7_most])
theorem c_X7_need (l : Launch) (n : Nat) (σ : xMi)  (K : Nat) (hn : 154 ≤ n) (hK : K ≤ 6) (hmy : σ 24 0 0 = (K : Int)) (hrw : ∀ j, 0 ≤ σ 44 0 j ∧ σ 44 0 j < 6) (hst : RP_X7_need_9 K 20 0 (S_X7_most σ 20 K) (V_X7_most σ 20 K)) : x_F l yX7_need RX7 cX7_need 3 (some .int) 5 n σ [xR 24 0] (some (xI (V_X7_need σ K))) (S_X7_need σ K) := by
  refine f_of (by decide) rfl (Nat.le_of_ble_eq_true rfl) rfl ?_
  refine g_aload_n dX7_need_0 rfl ?_
  refine g_bipush dX7_need_1 (by decide) ?_
  refine f_V dX7_need_3 cs_X7_235 mb_X7_mostBy (c_X7_mostBy_w l n _ 20 K hn hK hmy hrw) rfl (x_vM hn (Nat.le_of_ble_eq_true rfl) (Nat.le_of_ble_eq_true rfl)) rfl rfl rfl (Nat.le_of_ble_eq_true rfl) (by decide) (Nat.le_of_ble_eq_true rfl) (Nat.le_refl _) (Nat.le_refl _) ?_
  refine g_istore_n (lv' := [_, _]) dX7_need_6 (Nat.le_of_ble_eq_true rfl) rfl ?_
  refine g_iconst dX7_need_7 ?_
  refine g_istore_n (lv' := [_, _, _]) dX7_need_8 (Nat.le_of_ble_eq_true rfl) rfl ?_
  refine g_sub (lv2 := [(2, xI ((0 : Nat) : Int)), _, _]) [0, 1, 2] rfl ?_
  exact f_cv rfl rfl (lh_X7_need_9 l n K hn hK 20 0 _ _ hst (by first | exact hmy | (simp (disch := omega) only [x_up_o, x_up_k, x_cp_o, fr_S_X7_most]; exact hmy) | (simp (disch := first | omega | assumption) only [x_up_o, x_up_k, x_cp_o, fr_S_X7_most]; exact hmy)) (by first | exact hrw | (simp (disch := omega) only [x_up_o, x_up_k, x_cp_o, fr_S_X7_most]; exact hrw) | (simp (disch := first | omega | assumption) only [x_up_o, x_up_k, x_cp_o, fr_S_X7_most]; exact hrw) | exact hw_most _ _ hK hrw))
