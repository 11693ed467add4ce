theorem b_readsItem (σ : xMi) : σ 24 0 23 + 1 ≤ S_X7_readsItem σ 24 0 23 ∧ S_X7_readsItem σ 24 0 23 ≤ σ 24 0 23 + 13 := by
  have h1 := b_readsOne (x_up σ 24 0 23 (σ 24 0 23 + 1))
  have h2 := b_readsStock (x_up σ 24 0 23 (σ 24 0 23 + 1))
  rw [x_up_e] at h1 h2
  unfold S_X7_readsItem
  (repeat' split) <;> first | omega | (rw [x_up_e]; omega)
theorem b_readsItem2 (σ : xMi) (h : 0 ≤ σ 24 0 24 ∧ σ 24 0 24 ≤ 6) : 0 ≤ S_X7_readsItem σ 24 0 24 ∧ S_X7_readsItem σ 24 0 24 ≤ 6 := by
  have h1 := b_readsOne2 (x_up σ 24 0 23 (σ 24 0 23 + 1)) (by rw [x_up_k (by omega)]; exact h)
  unfold S_X7_readsItem
  (repeat' split) <;> first | exact h1 | (simp (disch := omega) only [fr_S_X7_readsStock, x_up_k]; exact h)
def RV_X7_fault_15  : Nat → xMi → Int
  | 0, σ => (-4)
  | k + 1, σ => (if x_wr (σ 24 0 22) ≤ x_wr (σ 24 0 23) then (-4) else (if x_wr (V_X7_readsItem σ ) = 0 then (σ 24 0 23) else (RV_X7_fault_15  k (S_X7_readsItem σ ) )))
def RS_X7_fault_15  : Nat → xMi → xMi
  | 0, σ => σ
  | k + 1, σ => (if x_wr (σ 24 0 22) ≤ x_wr (σ 24 0 23) then σ else (if x_wr (V_X7_readsItem σ ) = 0 then (S_X7_readsItem σ ) else (RS_X7_fault_15  k (S_X7_readsItem σ ) )))
theorem fr_RS_X7_fault_15  {t i k' : Nat} (h : ¬ (t = 41 ∨ (t = 24 ∧ (k' = 23 ∨ k' = 24 ∨ k' = 25 ∨ k' = 27)))) : ∀ (k : Nat) (σ : xMi) , RS_X7_fault_15  k σ  t i k' = σ t i k' := by
  intro k
  induction k with
  | zero =>
    intro σ 
    simp only [RS_X7_fault_15]
    all_goals ((repeat' split) <;> simp (disch := first | omega | assumption) only [x_up_o, x_up_k, x_cp_o])
  | succ k ih =>
    intro σ 
    simp only [RS_X7_fault_15]
    all_goals (repeat' split)
    all_goals (first | rw [ih] | skip)
    all_goals first | done | simp (disch := first | omega | assumption) only [x_up_o, x_up_k, x_cp_o, fr_S_X7_readsItem]
theorem lh_X7_fault_15 (l : Launch) (n : Nat)  (hn : 154 ≤ n)  : ∀ (k  : Nat) (σ : xMi) , 0 ≤ σ 24 0 23 ∧ σ 24 0 23 ≤ 300 ∧ 0 ≤ σ 24 0 24 ∧ σ 24 0 24 ≤ 6 ∧ σ 24 0 22 ≤ σ 24 0 23 + (k : Int) → (0 ≤ σ 24 0 22 ∧ σ 24 0 22 ≤ 200) →  x_G l RX7 cX7_fault 2 (some .int) 5 n (some (xI (RV_X7_fault_15  k  σ ))) (RS_X7_fault_15  k  σ ) 15 [(0, xR 24 0)] [] σ := by
  intro k
  induction k with
  | zero =>
    intro  σ  hk hsz
    refine g_aload_n dX7_fault_15 rfl ?_
    refine g_getI dX7_fault_16 fl_X7_107 (x_vM hn (Nat.le_of_ble_eq_true rfl) (Nat.le_of_ble_eq_true rfl)) rfl rfl ?_
    refine g_aload_n dX7_fault_19 rfl ?_
    refine g_getI dX7_fault_20 fl_X7_104 (x_vM hn (Nat.le_of_ble_eq_true rfl) (Nat.le_of_ble_eq_true rfl)) rfl rfl ?_
    refine g_cmp_ge 43 dX7_fault_23 rfl (fun c_23 => ?_) (fun c_23 => absurd (by rw [x_wr_of (by omega) (by omega), x_wr_of (by omega) (by omega)]; omega) c_23)
    refine g_bipush dX7_fault_43 (by decide) ?_
    exact f_iret dX7_fault_45 rfl rfl
  | succ k ih =>
    intro  σ  hk hsz
    refine g_aload_n dX7_fault_15 rfl ?_
    refine g_getI dX7_fault_16 fl_X7_107 (x_vM hn (Nat.le_of_ble_eq_true rfl) (Nat.le_of_ble_eq_true rfl)) rfl rfl ?_
    refine g_aload_n dX7_fault_19 rfl ?_
    refine g_getI dX7_fault_20 fl_X7_104 (x_vM hn (Nat.le_of_ble_eq_true rfl) (Nat.le_of_ble_eq_true rfl)) rfl rfl ?_
    refine g_cmp_ge 43 dX7_fault_23 rfl (fun c_23 => ?_) (fun c_23 => ?_)
    · refine g_bipush dX7_fault_43 (by decide) ?_
      exact f_iret dX7_fault_45 (by rw [RV_X7_fault_15, if_pos c_23]) (by rw [RS_X7_fault_15, if_pos c_23])
    · refine g_aload_n dX7_fault_26 rfl ?_
      refine g_getI dX7_fault_27 fl_X7_107 (x_vM hn (Nat.le_of_ble_eq_true rfl) (Nat.le_of_ble_eq_true rfl)) rfl rfl ?_
      refine g_istore_n (lv' := [_, _]) dX7_fault_30 (Nat.le_of_ble_eq_true rfl) rfl ?_
      refine g_aload_n dX7_fault_31 rfl ?_
      refine f_V dX7_fault_32 cs_X7_136 mb_X7_readsItem (c_X7_readsItem l n _  hn hsz (by rw [x_wr_of (by omega) (by omega), x_wr_of (by omega) (by omega)] at c_23; omega) (by omega)) rfl (x_vM hn (Nat.le_of_ble_eq_true rfl) (Nat.le_of_ble_eq_true rfl)) rfl rfl rfl (Nat.le_of_ble_eq_true rfl) (by decide) (Nat.le_of_ble_eq_true rfl) (Nat.le_refl _) (Nat.le_refl _) ?_
      refine g_if_ne 40 dX7_fault_35 rfl (fun c_35 => ?_) (fun c_35 => ?_)
      · refine g_goto 15 dX7_fault_40 rfl ?_
        refine g_sub (lv2 := [_]) [1] rfl ?_
        exact f_cv (by rw [RV_X7_fault_15, if_neg c_23, if_neg c_35]) (by rw [RS_X7_fault_15, if_neg c_23, if_neg c_35]) (ih  _  (by have h7 := b_readsItem σ; have h8 := b_readsItem2 σ (by omega); rw [show S_X7_readsItem σ 24 0 22 = σ 24 0 22 from fr_S_X7_readsItem _ (by omega)]; rw [x_wr_of (by omega) (by omega), x_wr_of (by omega) (by omega)] at c_23; omega) (by first | exact hsz | (simp (disch := omega) only [x_up_o, x_up_k, x_cp_o, fr_S_X7_readsItem]; exact hsz) | (simp (disch := first | omega | assumption) only [x_up_o, x_up_k, x_cp_o, fr_S_X7_readsItem]; exact hsz)))
      · refine g_iload_n dX7_fault_38 rfl ?_
        exact f_iret dX7_fault_39 (by rw [RV_X7_fault_15, if_neg c_23, if_pos c_35]) (by rw [RS_X7_fault_15, if_neg c_23, if_pos c_35])
def V_X7_fault (σ : xMi)  : Int := (RV_X7_fault_15  200  (x_up (x_up (x_up σ 24 0 23 0) 24 0 24 0) 24 0 25 3) )
def S_X7_fault (σ : xMi)  : xMi := (RS_X7_fault_15  200  (x_up (x_up (x_up σ 24 0 23 0) 24 0 24 0) 24 0 25 3) )
theorem fr_S_X7_fault (σ : xMi)  {t i k : Nat} (h : ¬ (t = 41 ∨ (t = 24 ∧ (k = 23 ∨ k = 24 ∨ k = 25 ∨ k = 27)))) : S_X7_fault σ  t i k = σ t i k := by
  unfold S_X7_fault
  all_goals ((repeat' split) <;> first | simp (disch := first | omega | assumption) only [x_up_o, x_up_k, x_cp_o, fr_RS_X7_fault_15] | rfl)
theorem c_X7_fault (l : Launch) (n : Nat) (σ : xMi)  (hn : 154 ≤ n)  (hsz : 0 ≤ σ 24 0 22 ∧ σ 24 0 22 ≤ 200)  : x_F l yX7_fault RX7 cX7_fault 2 (some .int) 5 n σ [xR 24 0] (some (xI (V_X7_fault σ ))) (S_X7_fault σ ) := by
  refine f_of (by decide) rfl (Nat.le_of_ble_eq_true rfl) rfl ?_
  refine g_aload_n dX7_fault_0 rfl ?_
  refine g_iconst dX7_fault_1 ?_
  refine g_putI dX7_fault_2 fl_X7_107 (x_vM hn (Nat.le_of_ble_eq_true rfl) (Nat.le_of_ble_eq_true rfl)) rfl rfl ?_
  refine g_aload_n dX7_fault_5 rfl ?_
  refine g_iconst dX7_fault_6 ?_
  refine g_putI dX7_fault_7 fl_X7_121 (x_vM hn (Nat.le_of_ble_eq_true rfl) (Nat.le_of_ble_eq_true rfl)) rfl rfl ?_
  refine g_aload_n dX7_fault_10 rfl ?_
  refine g_iconst dX7_fault_11 ?_
  refine g_putI dX7_fault_12 fl_X7_127 (x_vM hn (Nat.le_of_ble_eq_true rfl) (Nat.le_of_ble_eq_true rfl)) rfl rfl ?_
  refine g_sub (lv2 := [_]) [0] rfl ?_
  exact f_cv rfl rfl (lh_X7_fault_15 l n  hn 200  _  (by simp (disch := omega) only [x_up_o, x_up_k, x_up_e]; omega) (by first | exact hsz | (simp (disch := omega) only [x_up_o, x_up_k, x_cp_o]; exact hsz) | (simp (disch := first | omega | assumption) only [x_up_o, x_up_k, x_cp_o]; exact hsz)))

theorem b_fault2 : ∀ (k : Nat) (σ : xMi), (0 ≤ σ 24 0 24 ∧ σ 24 0 24 ≤ 6) → 0 ≤ RS_X7_fault_15 k σ 24 0 24 ∧ RS_X7_fault_15 k σ 24 0 24 ≤ 6 := by
  intro k
  induction k with
  | zero => intro σ h; exact h
  | succ k ih =>
    intro σ h
    rw [RS_X7_fault_15]
    (repeat' split) <;> first | exact h | exact b_readsItem2 σ h | exact ih _ (b_readsItem2 σ h)
theorem b_fault (σ : xMi) : 0 ≤ S_X7_fault σ 24 0 24 ∧ S_X7_fault σ 24 0 24 ≤ 6 := b_fault2 _ _ (by simp (disch := omega) only [x_up_o, x_up_k, x_up_e]; omega)
def RV_X7_lay_26  : Nat → Nat → xMi → Int
  | 0, e, σ => ((x_up (x_up (x_up (S_X7_begin σ (σ 24 0 25)) 24 0 17 0) 24 0 29 0) 24 0 35 0) 24 0 0)
  | k + 1, e, σ => (RV_X7_lay_26  k (e + 1) (S_X7_firstOne σ (σ 41 0 (4 * e)) (σ 41 0 ((4 * e) + 1)) (σ 41 0 ((4 * e) + 2)) (σ 41 0 ((4 * e) + 3)) e) )
def RS_X7_lay_26  : Nat → Nat → xMi → xMi
  | 0, e, σ => (x_up (x_up (x_up (S_X7_begin σ (σ 24 0 25)) 24 0 17 0) 24 0 29 0) 24 0 35 0)
  | k + 1, e, σ => (RS_X7_lay_26  k (e + 1) (S_X7_firstOne σ (σ 41 0 (4 * e)) (σ 41 0 ((4 * e) + 1)) (σ 41 0 ((4 * e) + 2)) (σ 41 0 ((4 * e) + 3)) e) )
theorem fr_RS_X7_lay_26  {t i k' : Nat} (h : ¬ (t = 41 ∨ (t = 24 ∧ ¬ k' = 22) ∨ (25 ≤ t ∧ t ≤ 36))) : ∀ (k e : Nat) (σ : xMi) , RS_X7_lay_26  k e σ  t i k' = σ t i k' := by
  intro k
  induction k with
  | zero =>
    intro e σ 
    simp only [RS_X7_lay_26]
    all_goals ((repeat' split) <;> simp (disch := first | omega | assumption) only [x_up_o, x_up_k, x_cp_o, fr_S_X7_begin])
  | succ k ih =>
    intro e σ 
    simp only [RS_X7_lay_26]
    all_goals (repeat' split)
    all_goals (first | rw [ih] | skip)
    all_goals first | done | simp (disch := first | omega | assumption) only [x_up_o, x_up_k, x_cp_o, fr_S_X7_firstOne]
theorem lh_X7_lay_26 (l : Launch) (n : Nat)  (hn : 154 ≤ n)  : ∀ (k e : Nat) (σ : xMi) , σ 24 0 24 = ((e + k : Nat) : Int) ∧ e + k ≤ 6 ∧ σ 24 0 0 = (e : Int) → (0 ≤ σ 24 0 22 ∧ σ 24 0 22 ≤ 200) →  x_G l RX7 cX7_lay 2 (some .int) 6 n (some (xI (RV_X7_lay_26  k e σ ))) (RS_X7_lay_26  k e σ ) 26 [(1, xI (e : Int)), (0, xR 24 0)] [] σ := by
  intro k
  induction k with
  | zero =>
    intro e σ  hk hsz
    refine g_iload_n dX7_lay_26 rfl ?_
    refine g_aload_n dX7_lay_27 rfl ?_
    refine g_getI dX7_lay_28 fl_X7_121 (x_vM hn (Nat.le_of_ble_eq_true rfl) (Nat.le_of_ble_eq_true rfl)) rfl rfl ?_
    refine g_cmp_ge 82 dX7_lay_31 rfl (fun c_31 => ?_) (fun c_31 => absurd (by rw [hk.1, x_nat (by omega), x_nat (by omega)]; omega) c_31)
    refine g_aload_n dX7_lay_82 rfl ?_
    refine g_aload_n dX7_lay_83 rfl ?_
    refine g_getI dX7_lay_84 fl_X7_127 (x_vM hn (Nat.le_of_ble_eq_true rfl) (Nat.le_of_ble_eq_true rfl)) rfl rfl ?_
    refine f_Vv dX7_lay_87 cs_X7_80 mb_X7_begin (c_X7_begin l n _ (σ 24 0 25) hn) rfl (x_vM hn (Nat.le_of_ble_eq_true rfl) (Nat.le_of_ble_eq_true rfl)) rfl rfl rfl (Nat.le_of_ble_eq_true rfl) (by decide) (Nat.le_of_ble_eq_true rfl) (Nat.le_refl _) (Nat.le_refl _) ?_
    refine g_aload_n dX7_lay_90 rfl ?_
    refine g_iconst dX7_lay_91 ?_
    refine g_putI dX7_lay_92 fl_X7_142 (x_vM hn (Nat.le_of_ble_eq_true rfl) (Nat.le_of_ble_eq_true rfl)) rfl rfl ?_
    refine g_aload_n dX7_lay_95 rfl ?_
    refine g_iconst dX7_lay_96 ?_
    refine g_putI dX7_lay_97 fl_X7_145 (x_vM hn (Nat.le_of_ble_eq_true rfl) (Nat.le_of_ble_eq_true rfl)) rfl rfl ?_
    refine g_aload_n dX7_lay_100 rfl ?_
    refine g_iconst dX7_lay_101 ?_
    refine g_putI dX7_lay_102 fl_X7_148 (x_vM hn (Nat.le_of_ble_eq_true rfl) (Nat.le_of_ble_eq_true rfl)) rfl rfl ?_
    refine g_aload_n dX7_lay_105 rfl ?_
    refine g_getI dX7_lay_106 fl_X7_84 (x_vM hn (Nat.le_of_ble_eq_true rfl) (Nat.le_of_ble_eq_true rfl)) rfl rfl ?_
    exact f_iret dX7_lay_109 rfl rfl
  | succ k ih =>
    intro e σ  hk hsz
    refine g_iload_n dX7_lay_26 rfl ?_
    refine g_aload_n dX7_lay_27 rfl ?_
    refine g_getI dX7_lay_28 fl_X7_121 (x_vM hn (Nat.le_of_ble_eq_true rfl) (Nat.le_of_ble_eq_true rfl)) rfl rfl ?_
    refine g_cmp_ge 82 dX7_lay_31 rfl (fun c_31 => absurd c_31 (by rw [hk.1, x_nat (by omega), x_nat (by omega)]; omega)) (fun c_31 => ?_)
    refine g_aload_n dX7_lay_34 rfl ?_
    refine g_aload_n dX7_lay_35 rfl ?_
    refine g_getR (t2 := 41) (i2 := 0) dX7_lay_36 fl_X7_58 (x_vM hn (Nat.le_of_ble_eq_true rfl) (Nat.le_of_ble_eq_true rfl)) rfl rfl rfl ?_
    refine g_iconst dX7_lay_39 ?_
    refine g_iload_n dX7_lay_40 rfl ?_
    refine g_imul dX7_lay_41 ?_
    refine g_eqI (((4 * e) : Nat) : Int) rfl ?_
    refine g_iald (4 * e) dX7_lay_42 rfl (show (4 * e) < 24 by omega) (x_vM hn (Nat.le_of_ble_eq_true rfl) (Nat.le_of_ble_eq_true rfl)) rfl ?_
    refine g_aload_n dX7_lay_43 rfl ?_
    refine g_getR (t2 := 41) (i2 := 0) dX7_lay_44 fl_X7_58 (x_vM hn (Nat.le_of_ble_eq_true rfl) (Nat.le_of_ble_eq_true rfl)) rfl rfl rfl ?_
    refine g_iconst dX7_lay_47 ?_
    refine g_iload_n dX7_lay_48 rfl ?_
    refine g_imul dX7_lay_49 ?_
    refine g_eqI (((4 * e) : Nat) : Int) rfl ?_
    refine g_iconst dX7_lay_50 ?_
    refine g_iadd dX7_lay_51 ?_
    refine g_eqI ((((4 * e) + 1) : Nat) : Int) rfl ?_
    refine g_iald ((4 * e) + 1) dX7_lay_52 rfl (show ((4 * e) + 1) < 24 by omega) (x_vM hn (Nat.le_of_ble_eq_true rfl) (Nat.le_of_ble_eq_true rfl)) rfl ?_
    refine g_aload_n dX7_lay_53 rfl ?_
    refine g_getR (t2 := 41) (i2 := 0) dX7_lay_54 fl_X7_58 (x_vM hn (Nat.le_of_ble_eq_true rfl) (Nat.le_of_ble_eq_true rfl)) rfl rfl rfl ?_
    refine g_iconst dX7_lay_57 ?_
    refine g_iload_n dX7_lay_58 rfl ?_
    refine g_imul dX7_lay_59 ?_
    refine g_eqI (((4 * e) : Nat) : Int) rfl ?_
    refine g_iconst dX7_lay_60 ?_
    refine g_iadd dX7_lay_61 ?_
    refine g_eqI ((((4 * e) + 2) : Nat) : Int) rfl ?_
    refine g_iald ((4 * e) + 2) dX7_lay_62 rfl (show ((4 * e) + 2) < 24 by omega) (x_vM hn (Nat.le_of_ble_eq_true rfl) (Nat.le_of_ble_eq_true rfl)) rfl ?_
    refine g_aload_n dX7_lay_63 rfl ?_
    refine g_getR (t2 := 41) (i2 := 0) dX7_lay_64 fl_X7_58 (x_vM hn (Nat.le_of_ble_eq_true rfl) (Nat.le_of_ble_eq_true rfl)) rfl rfl rfl ?_
    refine g_iconst dX7_lay_67 ?_
    refine g_iload_n dX7_lay_68 rfl ?_
    refine g_imul dX7_lay_69 ?_
    refine g_eqI (((4 * e) : Nat) : Int) rfl ?_
    refine g_iconst dX7_lay_70 ?_
    refine g_iadd dX7_lay_71 ?_
    refine g_eqI ((((4 * e) + 3) : Nat) : Int) rfl ?_
    refine g_iald ((4 * e) + 3) dX7_lay_72 rfl (show ((4 * e) + 3) < 24 by omega) (x_vM hn (Nat.le_of_ble_eq_true rfl) (Nat.le_of_ble_eq_true rfl)) rfl ?_
    refine f_Vv dX7_lay_73 cs_X7_76 mb_X7_firstOne (c_X7_firstOne l n _ (σ 41 0 (4 * e)) (σ 41 0 ((4 * e) + 1)) (σ 41 0 ((4 * e) + 2)) (σ 41 0 ((4 * e) + 3)) e hn (by omega) hk.2.2) rfl (x_vM hn (Nat.le_of_ble_eq_true rfl) (Nat.le_of_ble_eq_true rfl)) rfl rfl rfl (Nat.le_of_ble_eq_true rfl) (by decide) (Nat.le_of_ble_eq_true rfl) (Nat.le_refl _) (Nat.le_refl _) ?_
    refine g_iinc (lv' := [(1, xI (((e + 1) : Nat) : Int)), _]) dX7_lay_76 (Nat.le_of_ble_eq_true rfl) rfl rfl ?_
    refine g_goto 26 dX7_lay_79 rfl ?_
    refine g_sub (lv2 := [(1, xI (((e + 1) : Nat) : Int)), _]) [0, 1] rfl ?_
    exact f_cv rfl rfl (ih (e + 1) _  (by refine ⟨?_, by omega, ?_⟩ <;> unfold S_X7_firstOne <;> simp (disch := omega) only [x_up_o, x_up_k, x_up_e] <;> omega) (by first | exact hsz | (simp (disch := omega) only [x_up_o, x_up_k, x_cp_o, fr_S_X7_firstOne]; exact hsz) | (simp (disch := first | omega | assumption) only [x_up_o, x_up_k, x_cp_o, fr_S_X7_firstOne]; exact hsz)))
def V_X7_lay (σ : xMi)  : Int := (if x_wr (V_X7_fault σ ) = x_wr (-4) then (if x_wr ((S_X7_fault σ ) 24 0 24) = 0 then (-2) else (RV_X7_lay_26  (S_X7_fault σ 24 0 24).toNat 0 (x_up (S_X7_fault σ ) 24 0 0 0) )) else (-2))
def S_X7_lay (σ : xMi)  : xMi := (if x_wr (V_X7_fault σ ) = x_wr (-4) then (if x_wr ((S_X7_fault σ ) 24 0 24) = 0 then (S_X7_fault σ ) else (RS_X7_lay_26  (S_X7_fault σ 24 0 24).toNat 0 (x_up (S_X7_fault σ ) 24 0 0 0) )) else (S_X7_fault σ ))
theorem fr_S_X7_lay (σ : xMi)  {t i k : Nat} (h : ¬ (t = 41 ∨ (t = 24 ∧ ¬ k = 22) ∨ (25 ≤ t ∧ t ≤ 36))) : S_X7_lay σ  t i k = σ t i k := by
  unfold S_X7_lay
  all_goals ((repeat' split) <;> first | simp (disch := first | omega | assumption) only [x_up_o, x_up_k, x_cp_o, fr_RS_X7_lay_26, fr_S_X7_fault] | rfl)
theorem c_X7_lay (l : Launch) (n : Nat) (σ : xMi)  (hn : 154 ≤ n)  (hsz : 0 ≤ σ 24 0 22 ∧ σ 24 0 22 ≤ 200)  : x_F l yX7_lay RX7 cX7_lay 2 (some .int) 6 n σ [xR 24 0] (some (xI (V_X7_lay σ ))) (S_X7_lay σ ) := by
  refine f_of (by decide) rfl (Nat.le_of_ble_eq_true rfl) rfl ?_
  refine g_aload_n dX7_lay_0 rfl ?_
  refine f_V dX7_lay_1 cs_X7_139 mb_X7_fault (c_X7_fault l n _  hn hsz) rfl (x_vM hn (Nat.le_of_ble_eq_true rfl) (Nat.le_of_ble_eq_true rfl)) rfl rfl rfl (Nat.le_of_ble_eq_true rfl) (by decide) (Nat.le_of_ble_eq_true rfl) (Nat.le_refl _) (Nat.le_refl _) ?_
  refine g_bipush dX7_lay_4 (by decide) ?_
  refine g_cmp_ne 16 dX7_lay_6 rfl (fun c_6 => ?_) (fun c_6 => ?_)
  · refine g_bipush dX7_lay_16 (by decide) ?_
    exact f_iret dX7_lay_18 (by rw [V_X7_lay, if_neg c_6]) (by rw [S_X7_lay, if_neg c_6])
  · refine g_aload_n dX7_lay_9 rfl ?_
    refine g_getI dX7_lay_10 fl_X7_121 (x_vM hn (Nat.le_of_ble_eq_true rfl) (Nat.le_of_ble_eq_true rfl)) rfl rfl ?_
    refine g_if_ne 19 dX7_lay_13 rfl (fun c_13 => ?_) (fun c_13 => ?_)
    · refine g_aload_n dX7_lay_19 rfl ?_
      refine g_iconst dX7_lay_20 ?_
      refine g_putI dX7_lay_21 fl_X7_84 (x_vM hn (Nat.le_of_ble_eq_true rfl) (Nat.le_of_ble_eq_true rfl)) rfl rfl ?_
      refine g_iconst dX7_lay_24 ?_
      refine g_istore_n (lv' := [_, _]) dX7_lay_25 (Nat.le_of_ble_eq_true rfl) rfl ?_
      refine g_sub (lv2 := [(1, xI ((0 : Nat) : Int)), _]) [0, 1] rfl ?_
      exact f_cv (by rw [V_X7_lay, if_pos c_6, if_neg c_13]) (by rw [S_X7_lay, if_pos c_6, if_neg c_13]) (lh_X7_lay_26 l n  hn (S_X7_fault σ 24 0 24).toNat 0 _  (by have h7 := b_fault σ; simp (disch := omega) only [x_up_o, x_up_k, x_up_e]; omega) (by first | exact hsz | (simp (disch := omega) only [x_up_o, x_up_k, x_cp_o, fr_S_X7_fault]; exact hsz) | (simp (disch := first | omega | assumption) only [x_up_o, x_up_k, x_cp_o, fr_S_X7_fault]; exact hsz)))
    · refine g_bipush dX7_lay_16 (by decide) ?_
      exact f_iret dX7_lay_18 (by rw [V_X7_lay, if_pos c_6, if_pos c_13]) (by rw [S_X7_lay, if_pos c_6, if_pos c_13])
