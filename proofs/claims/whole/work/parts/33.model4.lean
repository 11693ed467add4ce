def RV_X7_gentleBy_11 (h1 : Int) (K : Nat) (R : Nat) : Nat → Nat → xMi → Int
  | 0, e, σ => (V_X7_softWeight σ K)
  | k + 1, e, σ => (if x_wr (σ 24 0 31) ≤ x_wr (e : Int) then (RV_X7_gentleBy_11 h1 K R k (e + 1) (S_X7_passes σ 0 K) ) else (if x_wr (V_X7_maySend σ (σ 44 0 e).toNat) = 0 then (RV_X7_gentleBy_11 h1 K R k (e + 1) (S_X7_passes σ 0 K) ) else (RV_X7_gentleBy_11 h1 K R k (e + 1) (S_X7_passes (S_X7_sends σ (σ 44 0 e).toNat) 0 K) )))
def RS_X7_gentleBy_11 (h1 : Int) (K : Nat) (R : Nat) : Nat → Nat → xMi → xMi
  | 0, e, σ => (S_X7_putBack σ )
  | k + 1, e, σ => (if x_wr (σ 24 0 31) ≤ x_wr (e : Int) then (RS_X7_gentleBy_11 h1 K R k (e + 1) (S_X7_passes σ 0 K) ) else (if x_wr (V_X7_maySend σ (σ 44 0 e).toNat) = 0 then (RS_X7_gentleBy_11 h1 K R k (e + 1) (S_X7_passes σ 0 K) ) else (RS_X7_gentleBy_11 h1 K R k (e + 1) (S_X7_passes (S_X7_sends σ (σ 44 0 e).toNat) 0 K) )))
theorem fr_RS_X7_gentleBy_11 (h1 : Int) (K : Nat) (R : Nat) {t i k' : Nat} (h : ¬ (t = 43 ∨ (t = 24 ∧ 5 ≤ k' ∧ k' ≤ 8) ∨ (29 ≤ t ∧ t ≤ 36))) : ∀ (k e : Nat) (σ : xMi) , RS_X7_gentleBy_11 h1 K R k e σ  t i k' = σ t i k' := by
  intro k
  induction k with
  | zero =>
    intro e σ 
    simp only [RS_X7_gentleBy_11]
    all_goals ((repeat' split) <;> simp (disch := first | omega | assumption) only [x_up_o, x_up_k, x_cp_o, fr_S_X7_putBack])
  | succ k ih =>
    intro e σ 
    simp only [RS_X7_gentleBy_11]
    all_goals (repeat' split)
    all_goals (first | rw [ih] | skip)
    all_goals first | done | simp (disch := first | omega | assumption) only [x_up_o, x_up_k, x_cp_o, fr_S_X7_passes, fr_S_X7_sends]
theorem lh_X7_gentleBy_11 (l : Launch) (n : Nat) (h1 : Int) (K : Nat) (R : Nat) (hn : 154 ≤ n) (hK : K ≤ 6) (hR : R ≤ 6) : ∀ (k e : Nat) (σ : xMi) , e + k = 60 → (σ 24 0 0 = (K : Int)) → (∀ j, 0 ≤ σ 44 0 j ∧ σ 44 0 j < 6) → (σ 24 0 31 = (R : Int)) →  x_G l RX7 cX7_gentleBy 3 (some .int) 3 n (some (xI (RV_X7_gentleBy_11 h1 K R k e σ ))) (RS_X7_gentleBy_11 h1 K R k e σ ) 11 [(2, xI (e : Int)), (0, xR 24 0), (1, xI h1)] [] σ := by
  intro k
  induction k with
  | zero =>
    intro e σ  hk hmy hrw hrm
    refine g_iload_n dX7_gentleBy_11 rfl ?_
    refine g_bipush dX7_gentleBy_12 (by decide) ?_
    refine g_cmp_ge 60 dX7_gentleBy_14 rfl (fun c_14 => ?_) (fun c_14 => absurd (by rw [show x_wr 60 = 60 from by decide, x_nat (by omega)]; omega) c_14)
    refine g_aload_n dX7_gentleBy_60 rfl ?_
    refine f_V dX7_gentleBy_61 cs_X7_216 mb_X7_softWeight (c_X7_softWeight l n _ K hn hK hmy) rfl (x_vM hn (Nat.le_of_ble_eq_true rfl) (Nat.le_of_ble_eq_true rfl)) rfl rfl rfl (Nat.le_of_ble_eq_true rfl) (by decide) (Nat.le_of_ble_eq_true rfl) (Nat.le_refl _) (Nat.le_refl _) ?_
    refine g_istore_n (lv' := [_, _, _]) dX7_gentleBy_64 (Nat.le_of_ble_eq_true rfl) rfl ?_
    refine g_aload_n dX7_gentleBy_65 rfl ?_
    refine f_Vv dX7_gentleBy_66 cs_X7_213 mb_X7_putBack (c_X7_putBack l n _  hn) rfl (x_vM hn (Nat.le_of_ble_eq_true rfl) (Nat.le_of_ble_eq_true rfl)) rfl rfl rfl (Nat.le_of_ble_eq_true rfl) (by decide) (Nat.le_of_ble_eq_true rfl) (Nat.le_refl _) (Nat.le_refl _) ?_
    refine g_iload_n dX7_gentleBy_69 rfl ?_
    exact f_iret dX7_gentleBy_70 rfl rfl
  | succ k ih =>
    intro e σ  hk hmy hrw hrm
    refine g_iload_n dX7_gentleBy_11 rfl ?_
    refine g_bipush dX7_gentleBy_12 (by decide) ?_
    refine g_cmp_ge 60 dX7_gentleBy_14 rfl (fun c_14 => absurd c_14 (by rw [show x_wr 60 = 60 from by decide, x_nat (by omega)]; omega)) (fun c_14 => ?_)
    refine g_iload_n dX7_gentleBy_17 rfl ?_
    refine g_aload_n dX7_gentleBy_18 rfl ?_
    refine g_getI dX7_gentleBy_19 fl_X7_223 (x_vM hn (Nat.le_of_ble_eq_true rfl) (Nat.le_of_ble_eq_true rfl)) rfl rfl ?_
    refine g_cmp_ge 48 dX7_gentleBy_22 rfl (fun c_22 => ?_) (fun c_22 => ?_)
    · refine g_aload_n dX7_gentleBy_48 rfl ?_
      refine g_iconst dX7_gentleBy_49 ?_
      refine f_V dX7_gentleBy_50 cs_X7_158 mb_X7_passes (c_X7_passes l n _ 0 K hn hK hmy) rfl (x_vM hn (Nat.le_of_ble_eq_true rfl) (Nat.le_of_ble_eq_true rfl)) rfl rfl rfl (Nat.le_of_ble_eq_true rfl) (by decide) (Nat.le_of_ble_eq_true rfl) (Nat.le_refl _) (Nat.le_refl _) ?_
      refine g_pop dX7_gentleBy_53 rfl ?_
      refine g_iinc (lv' := [(2, xI (((e + 1) : Nat) : Int)), _, _]) dX7_gentleBy_54 (Nat.le_of_ble_eq_true rfl) rfl rfl ?_
      refine g_goto 11 dX7_gentleBy_57 rfl ?_
      refine g_sub (lv2 := [(2, xI (((e + 1) : Nat) : Int)), _, _]) [0, 1, 2] rfl ?_
      exact f_cv (by rw [RV_X7_gentleBy_11, if_pos c_22]) (by rw [RS_X7_gentleBy_11, if_pos c_22]) (ih (e + 1) _  (by omega) (by first | exact hmy | (simp (disch := omega) only [x_up_o, x_up_k, x_cp_o, fr_S_X7_passes]; exact hmy) | (simp (disch := first | omega | assumption) only [x_up_o, x_up_k, x_cp_o, fr_S_X7_passes]; exact hmy)) (by first | exact hrw | (simp (disch := omega) only [x_up_o, x_up_k, x_cp_o, fr_S_X7_passes]; exact hrw) | (simp (disch := first | omega | assumption) only [x_up_o, x_up_k, x_cp_o, fr_S_X7_passes]; exact hrw)) (by first | exact hrm | (simp (disch := omega) only [x_up_o, x_up_k, x_cp_o, fr_S_X7_passes]; exact hrm) | (simp (disch := first | omega | assumption) only [x_up_o, x_up_k, x_cp_o, fr_S_X7_passes]; exact hrm)))
    · have he6 : e < 6 := by rw [hrm, x_nat (by omega), x_nat (by omega)] at c_22; omega
      refine g_aload_n dX7_gentleBy_25 rfl ?_
      refine g_aload_n dX7_gentleBy_26 rfl ?_
      refine g_getR (t2 := 44) (i2 := 0) dX7_gentleBy_27 fl_X7_67 (x_vM hn (Nat.le_of_ble_eq_true rfl) (Nat.le_of_ble_eq_true rfl)) rfl rfl rfl ?_
      refine g_iload_n dX7_gentleBy_30 rfl ?_
      refine g_iald e dX7_gentleBy_31 rfl (show e < 6 by omega) (x_vM hn (Nat.le_of_ble_eq_true rfl) (Nat.le_of_ble_eq_true rfl)) rfl ?_
      refine g_eqI (((σ 44 0 e).toNat : Nat) : Int) (by have := hrw e; omega) ?_
      refine f_V dX7_gentleBy_32 cs_X7_182 mb_X7_maySend (c_X7_maySend l n _ (σ 44 0 e).toNat hn (by have := hrw e; omega)) rfl (x_vM hn (Nat.le_of_ble_eq_true rfl) (Nat.le_of_ble_eq_true rfl)) rfl rfl rfl (Nat.le_of_ble_eq_true rfl) (by decide) (Nat.le_of_ble_eq_true rfl) (Nat.le_refl _) (Nat.le_refl _) ?_
      refine g_if_eq 48 dX7_gentleBy_35 rfl (fun c_35 => ?_) (fun c_35 => ?_)
      · refine g_aload_n dX7_gentleBy_48 rfl ?_
        refine g_iconst dX7_gentleBy_49 ?_
        refine f_V dX7_gentleBy_50 cs_X7_158 mb_X7_passes (c_X7_passes l n _ 0 K hn hK hmy) rfl (x_vM hn (Nat.le_of_ble_eq_true rfl) (Nat.le_of_ble_eq_true rfl)) rfl rfl rfl (Nat.le_of_ble_eq_true rfl) (by decide) (Nat.le_of_ble_eq_true rfl) (Nat.le_refl _) (Nat.le_refl _) ?_
        refine g_pop dX7_gentleBy_53 rfl ?_
        refine g_iinc (lv' := [(2, xI (((e + 1) : Nat) : Int)), _, _]) dX7_gentleBy_54 (Nat.le_of_ble_eq_true rfl) rfl rfl ?_
        refine g_goto 11 dX7_gentleBy_57 rfl ?_
        refine g_sub (lv2 := [(2, xI (((e + 1) : Nat) : Int)), _, _]) [0, 1, 2] rfl ?_
        exact f_cv (by rw [RV_X7_gentleBy_11, if_neg c_22, if_pos c_35]) (by rw [RS_X7_gentleBy_11, if_neg c_22, if_pos c_35]) (ih (e + 1) _  (by omega) (by first | exact hmy | (simp (disch := omega) only [x_up_o, x_up_k, x_cp_o, fr_S_X7_passes]; exact hmy) | (simp (disch := first | omega | assumption) only [x_up_o, x_up_k, x_cp_o, fr_S_X7_passes]; exact hmy)) (by first | exact hrw | (simp (disch := omega) only [x_up_o, x_up_k, x_cp_o, fr_S_X7_passes]; exact hrw) | (simp (disch := first | omega | assumption) only [x_up_o, x_up_k, x_cp_o, fr_S_X7_passes]; exact hrw)) (by first | exact hrm | (simp (disch := omega) only [x_up_o, x_up_k, x_cp_o, fr_S_X7_passes]; exact hrm) | (simp (disch := first | omega | assumption) only [x_up_o, x_up_k, x_cp_o, fr_S_X7_passes]; exact hrm)))
      · refine g_aload_n dX7_gentleBy_38 rfl ?_
        refine g_aload_n dX7_gentleBy_39 rfl ?_
        refine g_getR (t2 := 44) (i2 := 0) dX7_gentleBy_40 fl_X7_67 (x_vM hn (Nat.le_of_ble_eq_true rfl) (Nat.le_of_ble_eq_true rfl)) rfl rfl rfl ?_
        refine g_iload_n dX7_gentleBy_43 rfl ?_
        refine g_iald e dX7_gentleBy_44 rfl (show e < 6 by omega) (x_vM hn (Nat.le_of_ble_eq_true rfl) (Nat.le_of_ble_eq_true rfl)) rfl ?_
        refine g_eqI (((σ 44 0 e).toNat : Nat) : Int) (by have := hrw e; omega) ?_
        refine f_Vv dX7_gentleBy_45 cs_X7_188 mb_X7_sends (c_X7_sends l n _ (σ 44 0 e).toNat hn (by have := hrw e; omega)) rfl (x_vM hn (Nat.le_of_ble_eq_true rfl) (Nat.le_of_ble_eq_true rfl)) rfl rfl rfl (Nat.le_of_ble_eq_true rfl) (by decide) (Nat.le_of_ble_eq_true rfl) (Nat.le_refl _) (Nat.le_refl _) ?_
        refine g_aload_n dX7_gentleBy_48 rfl ?_
        refine g_iconst dX7_gentleBy_49 ?_
        refine f_V dX7_gentleBy_50 cs_X7_158 mb_X7_passes (c_X7_passes l n _ 0 K hn hK (by first | exact hmy | (simp (disch := first | omega | assumption) only [x_up_o, x_up_k, x_cp_o, fr_S_X7_sends]; exact hmy))) rfl (x_vM hn (Nat.le_of_ble_eq_true rfl) (Nat.le_of_ble_eq_true rfl)) rfl rfl rfl (Nat.le_of_ble_eq_true rfl) (by decide) (Nat.le_of_ble_eq_true rfl) (Nat.le_refl _) (Nat.le_refl _) ?_
        refine g_pop dX7_gentleBy_53 rfl ?_
        refine g_iinc (lv' := [(2, xI (((e + 1) : Nat) : Int)), _, _]) dX7_gentleBy_54 (Nat.le_of_ble_eq_true rfl) rfl rfl ?_
        refine g_goto 11 dX7_gentleBy_57 rfl ?_
        refine g_sub (lv2 := [(2, xI (((e + 1) : Nat) : Int)), _, _]) [0, 1, 2] rfl ?_
        exact f_cv (by rw [RV_X7_gentleBy_11, if_neg c_22, if_neg c_35]) (by rw [RS_X7_gentleBy_11, if_neg c_22, if_neg c_35]) (ih (e + 1) _  (by omega) (by first | exact hmy | (simp (disch := omega) only [x_up_o, x_up_k, x_cp_o, fr_S_X7_passes, fr_S_X7_sends]; exact hmy) | (simp (disch := first | omega | assumption) only [x_up_o, x_up_k, x_cp_o, fr_S_X7_passes, fr_S_X7_sends]; exact hmy)) (by first | exact hrw | (simp (disch := omega) only [x_up_o, x_up_k, x_cp_o, fr_S_X7_passes, fr_S_X7_sends]; exact hrw) | (simp (disch := first | omega | assumption) only [x_up_o, x_up_k, x_cp_o, fr_S_X7_passes, fr_S_X7_sends]; exact hrw)) (by first | exact hrm | (simp (disch := omega) only [x_up_o, x_up_k, x_cp_o, fr_S_X7_passes, fr_S_X7_sends]; exact hrm) | (simp (disch := first | omega | assumption) only [x_up_o, x_up_k, x_cp_o, fr_S_X7_passes, fr_S_X7_sends]; exact hrm)))
def V_X7_gentleBy (σ : xMi) (h1 : Int) (K : Nat) (R : Nat) : Int := (RV_X7_gentleBy_11 h1 K R 60 0 (x_up (S_X7_start σ ) 24 0 6 h1) )
def S_X7_gentleBy (σ : xMi) (h1 : Int) (K : Nat) (R : Nat) : xMi := (RS_X7_gentleBy_11 h1 K R 60 0 (x_up (S_X7_start σ ) 24 0 6 h1) )
theorem fr_S_X7_gentleBy (σ : xMi) (h1 : Int) (K : Nat) (R : Nat) {t i k : Nat} (h : ¬ (t = 43 ∨ (t = 24 ∧ 5 ≤ k ∧ k ≤ 8) ∨ (29 ≤ t ∧ t ≤ 36))) : S_X7_gentleBy σ h1 K R t i k = σ t i k := by
  unfold S_X7_gentleBy
  all_goals ((repeat' split) <;> first | rfl | simp (disch := first | omega | assumption) only [x_up_o, x_up_k, x_cp_o, fr_RS_X7_gentleBy_11, fr_S_X7_start])
theorem c_X7_gentleBy (l : Launch) (n : Nat) (σ : xMi) (h1 : Int) (K : Nat) (R : Nat) (hn : 154 ≤ n) (hK : K ≤ 6) (hR : R ≤ 6) (hmy : σ 24 0 0 = (K : Int)) (hrw : ∀ j, 0 ≤ σ 44 0 j ∧ σ 44 0 j < 6) (hrm : σ 24 0 31 = (R : Int)) : x_F l yX7_gentleBy RX7 cX7_gentleBy 3 (some .int) 3 n σ [xR 24 0, xI h1] (some (xI (V_X7_gentleBy σ h1 K R))) (S_X7_gentleBy σ h1 K R) := by
  refine f_of (by decide) rfl (Nat.le_of_ble_eq_true rfl) rfl ?_
  refine g_aload_n dX7_gentleBy_0 rfl ?_
  refine f_Vv dX7_gentleBy_1 cs_X7_201 mb_X7_start (c_X7_start l n _  hn) rfl (x_vM hn (Nat.le_of_ble_eq_true rfl) (Nat.le_of_ble_eq_true rfl)) rfl rfl rfl (Nat.le_of_ble_eq_true rfl) (by decide) (Nat.le_of_ble_eq_true rfl) (Nat.le_refl _) (Nat.le_refl _) ?_
  refine g_aload_n dX7_gentleBy_4 rfl ?_
  refine g_iload_n dX7_gentleBy_5 rfl ?_
  refine g_putI dX7_gentleBy_6 fl_X7_91 (x_vM hn (Nat.le_of_ble_eq_true rfl) (Nat.le_of_ble_eq_true rfl)) rfl rfl ?_
  refine g_iconst dX7_gentleBy_9 ?_
  refine g_istore_n (lv' := [_, _, _]) dX7_gentleBy_10 (Nat.le_of_ble_eq_true rfl) rfl ?_
  refine g_sub (lv2 := [(2, xI ((0 : Nat) : Int)), _, _]) [0, 1, 2] rfl ?_
  exact f_cv rfl rfl (lh_X7_gentleBy_11 l n h1 K R hn hK hR 60 0 _  (by omega) (by first | exact hmy | (simp (disch := omega) only [x_up_o, x_up_k, x_cp_o, fr_S_X7_start]; exact hmy) | (simp (disch := first | omega | assumption) only [x_up_o, x_up_k, x_cp_o, fr_S_X7_start]; exact hmy)) (by first | exact hrw | (simp (disch := omega) only [x_up_o, x_up_k, x_cp_o, fr_S_X7_start]; exact hrw) | (simp (disch := first | omega | assumption) only [x_up_o, x_up_k, x_cp_o, fr_S_X7_start]; exact hrw)) (by first | exact hrm | (simp (disch := omega) only [x_up_o, x_up_k, x_cp_o, fr_S_X7_start]; exact hrm) | (simp (disch := first | omega | assumption) only [x_up_o, x_up_k, x_cp_o, fr_S_X7_start]; exact hrm)))

def IA_X7_isSo_16_a (z : Nat) (e : Nat) : Nat → Nat → xMi → Int → Int
  | 0, p, σ, a => a
  | k + 1, p, σ, a => (if x_wr (σ 32 0 (σ 38 0 p).toNat) = x_wr (-4) then (if x_wr a = 0 then (IA_X7_isSo_16_a z e k (p + 1) σ 0) else (if x_wr (σ 37 0 p) = x_wr (e : Int) then (if x_wr (σ 39 0 p) = x_wr 1 then (if x_wr 0 = x_wr 1 then (IA_X7_isSo_16_a z e k (p + 1) σ 1) else (IA_X7_isSo_16_a z e k (p + 1) σ 0)) else (if x_wr 0 = x_wr 0 then (IA_X7_isSo_16_a z e k (p + 1) σ 1) else (IA_X7_isSo_16_a z e k (p + 1) σ 0))) else (IA_X7_isSo_16_a z e k (p + 1) σ 1))) else (if x_wr a = 0 then (IA_X7_isSo_16_a z e k (p + 1) σ 0) else (if x_wr (σ 37 0 p) = x_wr (e : Int) then (if x_wr (σ 39 0 p) = x_wr 1 then (if x_wr 1 = x_wr 1 then (IA_X7_isSo_16_a z e k (p + 1) σ 1) else (IA_X7_isSo_16_a z e k (p + 1) σ 0)) else (if x_wr 1 = x_wr 0 then (IA_X7_isSo_16_a z e k (p + 1) σ 1) else (IA_X7_isSo_16_a z e k (p + 1) σ 0))) else (IA_X7_isSo_16_a z e k (p + 1) σ 1))))
theorem sl_X7_isSo_16 (l : Launch) (n : Nat) (z : Nat) (e : Nat) (hn : 154 ≤ n) (hz6 : z ≤ 6) (he4 : e ≤ 100) {d : Nat} (hdd : 0 ≤ d) {r : Option xV} {s1 : xMi} : ∀ (k p : Nat) (σ : xMi) (a : Int), p + k = z → (σ 24 0 17 = (z : Int)) → (∀ j, 0 ≤ σ 38 0 j ∧ σ 38 0 j < 6) →  x_G l RX7 cX7_isSo 5 (some .boolean) d n r s1 93 [(1, xI (IA_X7_isSo_16_a z e k p σ a)), (0, xR 24 0), (2, xI (e : Int))] [] σ → x_G l RX7 cX7_isSo 5 (some .boolean) d n r s1 16 [(3, xI (p : Int)), (1, xI a), (0, xR 24 0), (2, xI (e : Int))] [] σ := by
  intro k
  induction k with
  | zero =>
    intro p σ a hk hz hwo kE
    refine g_iload_n dX7_isSo_16 rfl ?_
    refine g_aload_n dX7_isSo_17 rfl ?_
    refine g_getI dX7_isSo_18 fl_X7_142 (x_vM hn (Nat.le_of_ble_eq_true rfl) (Nat.le_of_ble_eq_true rfl)) rfl rfl ?_
    refine g_cmp_ge 93 dX7_isSo_21 rfl (fun c_21 => ?_) (fun c_21 => absurd (by rw [hz, x_nat (by omega), x_nat (by omega)]; omega) c_21)
    refine g_sub (lv2 := [_, _, _]) [1, 2, 3] rfl ?_
    exact kE
  | succ k ih =>
    intro p σ a hk hz hwo kE
    have hp : p < 6 := by omega
    refine g_iload_n dX7_isSo_16 rfl ?_
    refine g_aload_n dX7_isSo_17 rfl ?_
    refine g_getI dX7_isSo_18 fl_X7_142 (x_vM hn (Nat.le_of_ble_eq_true rfl) (Nat.le_of_ble_eq_true rfl)) rfl rfl ?_
    refine g_cmp_ge 93 dX7_isSo_21 rfl (fun c_21 => absurd c_21 (by rw [hz, x_nat (by omega), x_nat (by omega)]; omega)) (fun c_21 => ?_)
    refine g_aload_n dX7_isSo_24 rfl ?_
    refine g_getR (t2 := 32) (i2 := 0) dX7_isSo_25 fl_X7_31 (x_vM hn (Nat.le_of_ble_eq_true rfl) (Nat.le_of_ble_eq_true rfl)) rfl rfl rfl ?_
    refine g_aload_n dX7_isSo_28 rfl ?_
    refine g_getR (t2 := 38) (i2 := 0) dX7_isSo_29 fl_X7_49 (x_vM hn (Nat.le_of_ble_eq_true rfl) (Nat.le_of_ble_eq_true rfl)) rfl rfl rfl ?_
    refine g_iload_n dX7_isSo_32 rfl ?_
    refine g_iald p dX7_isSo_33 rfl hp (x_vM hn (Nat.le_of_ble_eq_true rfl) (Nat.le_of_ble_eq_true rfl)) rfl ?_
    refine g_eqI (((σ 38 0 p).toNat : Nat) : Int) (by have := hwo p; omega) ?_
    refine g_iald (σ 38 0 p).toNat dX7_isSo_34 rfl (show (σ 38 0 p).toNat < 6 by have := hwo p; omega) (x_vM hn (Nat.le_of_ble_eq_true rfl) (Nat.le_of_ble_eq_true rfl)) rfl ?_
    refine g_bipush dX7_isSo_35 (by decide) ?_
    refine g_cmp_eq 44 dX7_isSo_37 rfl (fun c_37 => ?_) (fun c_37 => ?_)
    · refine g_iconst dX7_isSo_44 ?_
      refine g_istore (lv' := [_, _, _, _, _]) dX7_isSo_45 (Nat.le_of_ble_eq_true rfl) rfl ?_
      refine g_iload_n dX7_isSo_47 rfl ?_
      refine g_if_eq 85 dX7_isSo_48 rfl (fun c_48 => ?_) (fun c_48 => ?_)
      · refine g_iconst dX7_isSo_85 ?_
        refine g_istore_n (lv' := [_, _, _, _, _]) dX7_isSo_86 (Nat.le_of_ble_eq_true rfl) rfl ?_
        refine g_iinc (lv' := [(3, xI (((p + 1) : Nat) : Int)), _, _, _, _]) dX7_isSo_87 (Nat.le_of_ble_eq_true rfl) rfl rfl ?_
        refine g_goto 16 dX7_isSo_90 rfl ?_
        refine g_sub (lv2 := [(3, xI ((p + 1 : Nat) : Int)), _, _, _]) [0, 1, 3, 4] rfl ?_
        refine ih (p + 1) _ _ (by omega) hz hwo ?_
        rw [IA_X7_isSo_16_a] at kE
        rw [if_pos c_37, if_pos c_48] at kE
        exact kE
      · refine g_aload_n dX7_isSo_51 rfl ?_
        refine g_getR (t2 := 37) (i2 := 0) dX7_isSo_52 fl_X7_46 (x_vM hn (Nat.le_of_ble_eq_true rfl) (Nat.le_of_ble_eq_true rfl)) rfl rfl rfl ?_
        refine g_iload_n dX7_isSo_55 rfl ?_
        refine g_iald p dX7_isSo_56 rfl hp (x_vM hn (Nat.le_of_ble_eq_true rfl) (Nat.le_of_ble_eq_true rfl)) rfl ?_
        refine g_iload_n dX7_isSo_57 rfl ?_
        refine g_cmp_ne 81 dX7_isSo_58 rfl (fun c_58 => ?_) (fun c_58 => ?_)
        · refine g_iconst dX7_isSo_81 ?_
          refine g_goto 86 dX7_isSo_82 rfl ?_
          refine g_istore_n (lv' := [_, _, _, _, _]) dX7_isSo_86 (Nat.le_of_ble_eq_true rfl) rfl ?_
          refine g_iinc (lv' := [(3, xI (((p + 1) : Nat) : Int)), _, _, _, _]) dX7_isSo_87 (Nat.le_of_ble_eq_true rfl) rfl rfl ?_
          refine g_goto 16 dX7_isSo_90 rfl ?_
          refine g_sub (lv2 := [(3, xI ((p + 1 : Nat) : Int)), _, _, _]) [0, 1, 3, 4] rfl ?_
          refine ih (p + 1) _ _ (by omega) hz hwo ?_
          rw [IA_X7_isSo_16_a] at kE
          rw [if_pos c_37, if_neg c_48, if_neg c_58] at kE
          exact kE
        · refine g_iload dX7_isSo_61 rfl ?_
          refine g_aload_n dX7_isSo_63 rfl ?_
          refine g_getR (t2 := 39) (i2 := 0) dX7_isSo_64 fl_X7_52 (x_vM hn (Nat.le_of_ble_eq_true rfl) (Nat.le_of_ble_eq_true rfl)) rfl rfl rfl ?_
          refine g_iload_n dX7_isSo_67 rfl ?_
          refine g_iald p dX7_isSo_68 rfl hp (x_vM hn (Nat.le_of_ble_eq_true rfl) (Nat.le_of_ble_eq_true rfl)) rfl ?_
          refine g_iconst dX7_isSo_69 ?_
          refine g_cmp_ne 77 dX7_isSo_70 rfl (fun c_70 => ?_) (fun c_70 => ?_)
          · refine g_iconst dX7_isSo_77 ?_
            refine g_cmp_ne 85 dX7_isSo_78 rfl (fun c_78 => ?_) (fun c_78 => ?_)
            · refine g_iconst dX7_isSo_85 ?_
              refine g_istore_n (lv' := [_, _, _, _, _]) dX7_isSo_86 (Nat.le_of_ble_eq_true rfl) rfl ?_
              refine g_iinc (lv' := [(3, xI (((p + 1) : Nat) : Int)), _, _, _, _]) dX7_isSo_87 (Nat.le_of_ble_eq_true rfl) rfl rfl ?_
              refine g_goto 16 dX7_isSo_90 rfl ?_
              refine g_sub (lv2 := [(3, xI ((p + 1 : Nat) : Int)), _, _, _]) [0, 1, 3, 4] rfl ?_
              refine ih (p + 1) _ _ (by omega) hz hwo ?_
              rw [IA_X7_isSo_16_a] at kE
              rw [if_pos c_37, if_neg c_48, if_pos c_58, if_neg c_70, if_neg c_78] at kE
              exact kE
            · refine g_iconst dX7_isSo_81 ?_
              refine g_goto 86 dX7_isSo_82 rfl ?_
              refine g_istore_n (lv' := [_, _, _, _, _]) dX7_isSo_86 (Nat.le_of_ble_eq_true rfl) rfl ?_
              refine g_iinc (lv' := [(3, xI (((p + 1) : Nat) : Int)), _, _, _, _]) dX7_isSo_87 (Nat.le_of_ble_eq_true rfl) rfl rfl ?_
              refine g_goto 16 dX7_isSo_90 rfl ?_
              refine g_sub (lv2 := [(3, xI ((p + 1 : Nat) : Int)), _, _, _]) [0, 1, 3, 4] rfl ?_
              refine ih (p + 1) _ _ (by omega) hz hwo ?_
              rw [IA_X7_isSo_16_a] at kE
              rw [if_pos c_37, if_neg c_48, if_pos c_58, if_neg c_70, if_pos c_78] at kE
              exact kE
          · refine g_iconst dX7_isSo_73 ?_
            refine g_goto 78 dX7_isSo_74 rfl ?_
            refine g_cmp_ne 85 dX7_isSo_78 rfl (fun c_78 => ?_) (fun c_78 => ?_)
            · refine g_iconst dX7_isSo_85 ?_
              refine g_istore_n (lv' := [_, _, _, _, _]) dX7_isSo_86 (Nat.le_of_ble_eq_true rfl) rfl ?_
              refine g_iinc (lv' := [(3, xI (((p + 1) : Nat) : Int)), _, _, _, _]) dX7_isSo_87 (Nat.le_of_ble_eq_true rfl) rfl rfl ?_
              refine g_goto 16 dX7_isSo_90 rfl ?_
              refine g_sub (lv2 := [(3, xI ((p + 1 : Nat) : Int)), _, _, _]) [0, 1, 3, 4] rfl ?_
              refine ih (p + 1) _ _ (by omega) hz hwo ?_
              rw [IA_X7_isSo_16_a] at kE
              rw [if_pos c_37, if_neg c_48, if_pos c_58, if_pos c_70, if_neg c_78] at kE
              exact kE
            · refine g_iconst dX7_isSo_81 ?_
              refine g_goto 86 dX7_isSo_82 rfl ?_
              refine g_istore_n (lv' := [_, _, _, _, _]) dX7_isSo_86 (Nat.le_of_ble_eq_true rfl) rfl ?_
              refine g_iinc (lv' := [(3, xI (((p + 1) : Nat) : Int)), _, _, _, _]) dX7_isSo_87 (Nat.le_of_ble_eq_true rfl) rfl rfl ?_
              refine g_goto 16 dX7_isSo_90 rfl ?_
              refine g_sub (lv2 := [(3, xI ((p + 1 : Nat) : Int)), _, _, _]) [0, 1, 3, 4] rfl ?_
              refine ih (p + 1) _ _ (by omega) hz hwo ?_
              rw [IA_X7_isSo_16_a] at kE
              rw [if_pos c_37, if_neg c_48, if_pos c_58, if_pos c_70, if_pos c_78] at kE
              exact kE
    · refine g_iconst dX7_isSo_40 ?_
      refine g_goto 45 dX7_isSo_41 rfl ?_
      refine g_istore (lv' := [_, _, _, _, _]) dX7_isSo_45 (Nat.le_of_ble_eq_true rfl) rfl ?_
      refine g_iload_n dX7_isSo_47 rfl ?_
      refine g_if_eq 85 dX7_isSo_48 rfl (fun c_48 => ?_) (fun c_48 => ?_)
      · refine g_iconst dX7_isSo_85 ?_
        refine g_istore_n (lv' := [_, _, _, _, _]) dX7_isSo_86 (Nat.le_of_ble_eq_true rfl) rfl ?_
        refine g_iinc (lv' := [(3, xI (((p + 1) : Nat) : Int)), _, _, _, _]) dX7_isSo_87 (Nat.le_of_ble_eq_true rfl) rfl rfl ?_
        refine g_goto 16 dX7_isSo_90 rfl ?_
        refine g_sub (lv2 := [(3, xI ((p + 1 : Nat) : Int)), _, _, _]) [0, 1, 3, 4] rfl ?_
        refine ih (p + 1) _ _ (by omega) hz hwo ?_
        rw [IA_X7_isSo_16_a] at kE
        rw [if_neg c_37, if_pos c_48] at kE
        exact kE
      · refine g_aload_n dX7_isSo_51 rfl ?_
        refine g_getR (t2 := 37) (i2 := 0) dX7_isSo_52 fl_X7_46 (x_vM hn (Nat.le_of_ble_eq_true rfl) (Nat.le_of_ble_eq_true rfl)) rfl rfl rfl ?_
        refine g_iload_n dX7_isSo_55 rfl ?_
        refine g_iald p dX7_isSo_56 rfl hp (x_vM hn (Nat.le_of_ble_eq_true rfl) (Nat.le_of_ble_eq_true rfl)) rfl ?_
        refine g_iload_n dX7_isSo_57 rfl ?_
        refine g_cmp_ne 81 dX7_isSo_58 rfl (fun c_58 => ?_) (fun c_58 => ?_)
        · refine g_iconst dX7_isSo_81 ?_
          refine g_goto 86 dX7_isSo_82 rfl ?_
          refine g_istore_n (lv' := [_, _, _, _, _]) dX7_isSo_86 (Nat.le_of_ble_eq_true rfl) rfl ?_
          refine g_iinc (lv' := [(3, xI (((p + 1) : Nat) : Int)), _, _, _, _]) dX7_isSo_87 (Nat.le_of_ble_eq_true rfl) rfl rfl ?_
          refine g_goto 16 dX7_isSo_90 rfl ?_
          refine g_sub (lv2 := [(3, xI ((p + 1 : Nat) : Int)), _, _, _]) [0, 1, 3, 4] rfl ?_
          refine ih (p + 1) _ _ (by omega) hz hwo ?_
          rw [IA_X7_isSo_16_a] at kE
          rw [if_neg c_37, if_neg c_48, if_neg c_58] at kE
          exact kE
        · refine g_iload dX7_isSo_61 rfl ?_
          refine g_aload_n dX7_isSo_63 rfl ?_
          refine g_getR (t2 := 39) (i2 := 0) dX7_isSo_64 fl_X7_52 (x_vM hn (Nat.le_of_ble_eq_true rfl) (Nat.le_of_ble_eq_true rfl)) rfl rfl rfl ?_
          refine g_iload_n dX7_isSo_67 rfl ?_
          refine g_iald p dX7_isSo_68 rfl hp (x_vM hn (Nat.le_of_ble_eq_true rfl) (Nat.le_of_ble_eq_true rfl)) rfl ?_
          refine g_iconst dX7_isSo_69 ?_
          refine g_cmp_ne 77 dX7_isSo_70 rfl (fun c_70 => ?_) (fun c_70 => ?_)
          · refine g_iconst dX7_isSo_77 ?_
            refine g_cmp_ne 85 dX7_isSo_78 rfl (fun c_78 => ?_) (fun c_78 => ?_)
            · refine g_iconst dX7_isSo_85 ?_
              refine g_istore_n (lv' := [_, _, _, _, _]) dX7_isSo_86 (Nat.le_of_ble_eq_true rfl) rfl ?_
              refine g_iinc (lv' := [(3, xI (((p + 1) : Nat) : Int)), _, _, _, _]) dX7_isSo_87 (Nat.le_of_ble_eq_true rfl) rfl rfl ?_
              refine g_goto 16 dX7_isSo_90 rfl ?_
              refine g_sub (lv2 := [(3, xI ((p + 1 : Nat) : Int)), _, _, _]) [0, 1, 3, 4] rfl ?_
              refine ih (p + 1) _ _ (by omega) hz hwo ?_
              rw [IA_X7_isSo_16_a] at kE
              rw [if_neg c_37, if_neg c_48, if_pos c_58, if_neg c_70, if_neg c_78] at kE
              exact kE
            · refine g_iconst dX7_isSo_81 ?_
              refine g_goto 86 dX7_isSo_82 rfl ?_
              refine g_istore_n (lv' := [_, _, _, _, _]) dX7_isSo_86 (Nat.le_of_ble_eq_true rfl) rfl ?_
              refine g_iinc (lv' := [(3, xI (((p + 1) : Nat) : Int)), _, _, _, _]) dX7_isSo_87 (Nat.le_of_ble_eq_true rfl) rfl rfl ?_
              refine g_goto 16 dX7_isSo_90 rfl ?_
              refine g_sub (lv2 := [(3, xI ((p + 1 : Nat) : Int)), _, _, _]) [0, 1, 3, 4] rfl ?_
              refine ih (p + 1) _ _ (by omega) hz hwo ?_
              rw [IA_X7_isSo_16_a] at kE
              rw [if_neg c_37, if_neg c_48, if_pos c_58, if_neg c_70, if_pos c_78] at kE
              exact kE
          · refine g_iconst dX7_isSo_73 ?_
            refine g_goto 78 dX7_isSo_74 rfl ?_
            refine g_cmp_ne 85 dX7_isSo_78 rfl (fun c_78 => ?_) (fun c_78 => ?_)
            · refine g_iconst dX7_isSo_85 ?_
              refine g_istore_n (lv' := [_, _, _, _, _]) dX7_isSo_86 (Nat.le_of_ble_eq_true rfl) rfl ?_
              refine g_iinc (lv' := [(3, xI (((p + 1) : Nat) : Int)), _, _, _, _]) dX7_isSo_87 (Nat.le_of_ble_eq_true rfl) rfl rfl ?_
              refine g_goto 16 dX7_isSo_90 rfl ?_
              refine g_sub (lv2 := [(3, xI ((p + 1 : Nat) : Int)), _, _, _]) [0, 1, 3, 4] rfl ?_
              refine ih (p + 1) _ _ (by omega) hz hwo ?_
              rw [IA_X7_isSo_16_a] at kE
              rw [if_neg c_37, if_neg c_48, if_pos c_58, if_pos c_70, if_neg c_78] at kE
              exact kE
            · refine g_iconst dX7_isSo_81 ?_
              refine g_goto 86 dX7_isSo_82 rfl ?_
              refine g_istore_n (lv' := [_, _, _, _, _]) dX7_isSo_86 (Nat.le_of_ble_eq_true rfl) rfl ?_
              refine g_iinc (lv' := [(3, xI (((p + 1) : Nat) : Int)), _, _, _, _]) dX7_isSo_87 (Nat.le_of_ble_eq_true rfl) rfl rfl ?_
              refine g_goto 16 dX7_isSo_90 rfl ?_
              refine g_sub (lv2 := [(3, xI ((p + 1 : Nat) : Int)), _, _, _]) [0, 1, 3, 4] rfl ?_
              refine ih (p + 1) _ _ (by omega) hz hwo ?_
              rw [IA_X7_isSo_16_a] at kE
              rw [if_neg c_37, if_neg c_48, if_pos c_58, if_pos c_70, if_pos c_78] at kE
              exact kE

theorem zi_isSo (z e : Nat) : ∀ (k p : Nat) (σ : xMi) (a : Int), (a = 0 ∨ a = 1) → IA_X7_isSo_16_a z e k p σ a = 0 ∨ IA_X7_isSo_16_a z e k p σ a = 1 := by
  intro k
  induction k with
  | zero => intro p σ a h; exact h
  | succ k ih =>
    intro p σ a h
    simp only [IA_X7_isSo_16_a]
    (repeat' split) <;> exact ih _ _ _ (by decide)
def RV_X7_isSo_8 (K : Nat) (z : Nat) : Nat → Nat → xMi → Int → Int
  | 0, e, σ, a => a
  | k + 1, e, σ, a => (RV_X7_isSo_8 K z k (e + 1) (S_X7_passes σ 0 K) (IA_X7_isSo_16_a z e z 0 σ a))
def RS_X7_isSo_8 (K : Nat) (z : Nat) : Nat → Nat → xMi → Int → xMi
  | 0, e, σ, a => (S_X7_putBack σ )
  | k + 1, e, σ, a => (RS_X7_isSo_8 K z k (e + 1) (S_X7_passes σ 0 K) (IA_X7_isSo_16_a z e z 0 σ a))
theorem fr_RS_X7_isSo_8 (K : Nat) (z : Nat) {t i k' : Nat} (h : ¬ (t = 43 ∨ (t = 24 ∧ 5 ≤ k' ∧ k' ≤ 8) ∨ (29 ≤ t ∧ t ≤ 36))) : ∀ (k e : Nat) (σ : xMi) (a : Int), RS_X7_isSo_8 K z k e σ a t i k' = σ t i k' := by
  intro k
  induction k with
  | zero =>
    intro e σ a
    simp only [RS_X7_isSo_8]
    all_goals ((repeat' split) <;> simp (disch := first | omega | assumption) only [x_up_o, x_up_k, x_cp_o, fr_S_X7_putBack])
  | succ k ih =>
    intro e σ a
    simp only [RS_X7_isSo_8]
    all_goals (repeat' split)
    all_goals (first | rw [ih] | skip)
    all_goals first | done | simp (disch := first | omega | assumption) only [x_up_o, x_up_k, x_cp_o, fr_S_X7_passes]
theorem lh_X7_isSo_8 (l : Launch) (n : Nat)  (K : Nat) (z : Nat) (hn : 154 ≤ n) (hK : K ≤ 6) (hz6 : z ≤ 6) : ∀ (k e : Nat) (σ : xMi) (a : Int), e + k = 41 ∧ (a = 0 ∨ a = 1) → (σ 24 0 0 = (K : Int)) → (σ 24 0 17 = (z : Int)) → (∀ j, 0 ≤ σ 38 0 j ∧ σ 38 0 j < 6) →  x_G l RX7 cX7_isSo 5 (some .boolean) 3 n (some (xI (RV_X7_isSo_8 K z k e σ a))) (RS_X7_isSo_8 K z k e σ a) 8 [(2, xI (e : Int)), (1, xI a), (0, xR 24 0)] [] σ := by
  intro k
  induction k with
  | zero =>
    intro e σ a hk hmy hz hwo
    refine g_iload_n dX7_isSo_8 rfl ?_
    refine g_bipush dX7_isSo_9 (by decide) ?_
    refine g_cmp_gt 105 dX7_isSo_11 rfl (fun c_11 => ?_) (fun c_11 => absurd (by rw [show x_wr 40 = 40 from by decide, x_nat (by omega)]; omega) c_11)
    refine g_aload_n dX7_isSo_105 rfl ?_
    refine f_Vv dX7_isSo_106 cs_X7_213 mb_X7_putBack (c_X7_putBack l n _  hn) rfl (x_vM hn (Nat.le_of_ble_eq_true rfl) (Nat.le_of_ble_eq_true rfl)) rfl rfl rfl (Nat.le_of_ble_eq_true rfl) (by decide) (Nat.le_of_ble_eq_true rfl) (Nat.le_refl _) (Nat.le_refl _) ?_
    refine g_iload_n dX7_isSo_109 rfl ?_
    exact f_zret dX7_isSo_110 hk.2 rfl rfl
  | succ k ih =>
    intro e σ a hk hmy hz hwo
    refine g_iload_n dX7_isSo_8 rfl ?_
    refine g_bipush dX7_isSo_9 (by decide) ?_
    refine g_cmp_gt 105 dX7_isSo_11 rfl (fun c_11 => absurd c_11 (by rw [show x_wr 40 = 40 from by decide, x_nat (by omega)]; omega)) (fun c_11 => ?_)
    refine g_iconst dX7_isSo_14 ?_
    refine g_istore_n (lv' := [_, _, _, _]) dX7_isSo_15 (Nat.le_of_ble_eq_true rfl) rfl ?_
    refine g_sub (lv2 := [(3, xI ((0 : Nat) : Int)), _, _, _]) [0, 2, 3, 1] rfl ?_
    refine sl_X7_isSo_16 l n z e hn hz6 (by omega) (by decide) z 0 _ _ (by omega) hz hwo ?_
    refine g_aload_n dX7_isSo_93 rfl ?_
    refine g_iconst dX7_isSo_94 ?_
    refine f_V dX7_isSo_95 cs_X7_158 mb_X7_passes (c_X7_passes l n _ 0 K hn hK hmy) rfl (x_vM hn (Nat.le_of_ble_eq_true rfl) (Nat.le_of_ble_eq_true rfl)) rfl rfl rfl (Nat.le_of_ble_eq_true rfl) (by decide) (Nat.le_of_ble_eq_true rfl) (Nat.le_refl _) (Nat.le_refl _) ?_
    refine g_pop dX7_isSo_98 rfl ?_
    refine g_iinc (lv' := [(2, xI (((e + 1) : Nat) : Int)), _, _]) dX7_isSo_99 (Nat.le_of_ble_eq_true rfl) rfl rfl ?_
    refine g_goto 8 dX7_isSo_102 rfl ?_
    refine g_sub (lv2 := [(2, xI (((e + 1) : Nat) : Int)), _, _]) [0, 1, 2] rfl ?_
    exact f_cv rfl rfl (ih (e + 1) _ _ (by refine ⟨by omega, ?_⟩; exact zi_isSo _ _ _ _ _ _ hk.2) (by first | exact hmy | (simp (disch := omega) only [x_up_o, x_up_k, x_cp_o, fr_S_X7_passes]; exact hmy) | (simp (disch := first | omega | assumption) only [x_up_o, x_up_k, x_cp_o, fr_S_X7_passes]; exact hmy)) (by first | exact hz | (simp (disch := omega) only [x_up_o, x_up_k, x_cp_o, fr_S_X7_passes]; exact hz) | (simp (disch := first | omega | assumption) only [x_up_o, x_up_k, x_cp_o, fr_S_X7_passes]; exact hz)) (by first | exact hwo | (simp (disch := omega) only [x_up_o, x_up_k, x_cp_o, fr_S_X7_passes]; exact hwo) | (simp (disch := first | omega | assumption) only [x_up_o, x_up_k, x_cp_o, fr_S_X7_passes]; exact hwo)))
def V_X7_isSo (σ : xMi) (K : Nat) (z : Nat) : Int := (RV_X7_isSo_8 K z 41 0 (S_X7_start σ ) 1)
def S_X7_isSo (σ : xMi) (K : Nat) (z : Nat) : xMi := (RS_X7_isSo_8 K z 41 0 (S_X7_start σ ) 1)
theorem fr_S_X7_isSo (σ : xMi) (K : Nat) (z : Nat) {t i k : Nat} (h : ¬ (t = 43 ∨ (t = 24 ∧ 5 ≤ k ∧ k ≤ 8) ∨ (29 ≤ t ∧ t ≤ 36))) : S_X7_isSo σ K z t i k = σ t i k := by
  unfold S_X7_isSo
  all_goals ((repeat' split) <;> first | rfl | simp (disch := first | omega | assumption) only [x_up_o, x_up_k, x_cp_o, fr_RS_X7_isSo_8, fr_S_X7_start])
theorem c_X7_isSo (l : Launch) (n : Nat) (σ : xMi)  (K : Nat) (z : Nat) (hn : 154 ≤ n) (hK : K ≤ 6) (hz6 : z ≤ 6) (hmy : σ 24 0 0 = (K : Int)) (hz : σ 24 0 17 = (z : Int)) (hwo : ∀ j, 0 ≤ σ 38 0 j ∧ σ 38 0 j < 6) : x_F l yX7_isSo RX7 cX7_isSo 5 (some .boolean) 3 n σ [xR 24 0] (some (xI (V_X7_isSo σ K z))) (S_X7_isSo σ K z) := by
  refine f_of (by decide) rfl (Nat.le_of_ble_eq_true rfl) rfl ?_
  refine g_aload_n dX7_isSo_0 rfl ?_
  refine f_Vv dX7_isSo_1 cs_X7_201 mb_X7_start (c_X7_start l n _  hn) rfl (x_vM hn (Nat.le_of_ble_eq_true rfl) (Nat.le_of_ble_eq_true rfl)) rfl rfl rfl (Nat.le_of_ble_eq_true rfl) (by decide) (Nat.le_of_ble_eq_true rfl) (Nat.le_refl _) (Nat.le_refl _) ?_
  refine g_iconst dX7_isSo_4 ?_
  refine g_istore_n (lv' := [_, _]) dX7_isSo_5 (Nat.le_of_ble_eq_true rfl) rfl ?_
  refine g_iconst dX7_isSo_6 ?_
  refine g_istore_n (lv' := [_, _, _]) dX7_isSo_7 (Nat.le_of_ble_eq_true rfl) rfl ?_
  refine g_sub (lv2 := [(2, xI ((0 : Nat) : Int)), _, _]) [0, 1, 2] rfl ?_
  exact f_cv rfl rfl (lh_X7_isSo_8 l n K z hn hK hz6 41 0 _ _ (by omega) (by first | exact hmy | (simp (disch := omega) only [x_up_o, x_up_k, x_cp_o, fr_S_X7_start]; exact hmy) | (simp (disch := first | omega | assumption) only [x_up_o, x_up_k, x_cp_o, fr_S_X7_start]; exact hmy)) (by first | exact hz | (simp (disch := omega) only [x_up_o, x_up_k, x_cp_o, fr_S_X7_start]; exact hz) | (simp (disch := first | omega | assumption) only [x_up_o, x_up_k, x_cp_o, fr_S_X7_start]; exact hz)) (by first | exact hwo | (simp (disch := omega) only [x_up_o, x_up_k, x_cp_o, fr_S_X7_start]; exact hwo) | (simp (disch := first | omega | assumption) only [x_up_o, x_up_k, x_cp_o, fr_S_X7_start]; exact hwo)))

def RV_X7_kinds_22 (p1 : Int) (K : Nat) (z : Nat) : Nat → Nat → xMi → Int → Int → Int
  | 0, e, σ, a, o1 => a
  | k + 1, e, σ, a, o1 => (if x_wr (V_X7_isSo (x_up σ 25 0 (p1.toNat) (e : Int)) K z) = 0 then (RV_X7_kinds_22 p1 K z k (e + 1) (S_X7_isSo (x_up σ 25 0 (p1.toNat) (e : Int)) K z) (x_or a 0) o1) else (RV_X7_kinds_22 p1 K z k (e + 1) (S_X7_isSo (x_up σ 25 0 (p1.toNat) (e : Int)) K z) (x_or a (x_shl 1 (e : Int))) o1))
def RS_X7_kinds_22 (p1 : Int) (K : Nat) (z : Nat) : Nat → Nat → xMi → Int → Int → xMi
  | 0, e, σ, a, o1 => (x_up σ 25 0 (p1.toNat) o1)
  | k + 1, e, σ, a, o1 => (if x_wr (V_X7_isSo (x_up σ 25 0 (p1.toNat) (e : Int)) K z) = 0 then (RS_X7_kinds_22 p1 K z k (e + 1) (S_X7_isSo (x_up σ 25 0 (p1.toNat) (e : Int)) K z) (x_or a 0) o1) else (RS_X7_kinds_22 p1 K z k (e + 1) (S_X7_isSo (x_up σ 25 0 (p1.toNat) (e : Int)) K z) (x_or a (x_shl 1 (e : Int))) o1))
theorem lh_X7_kinds_22 (l : Launch) (n : Nat) (p1 : Int) (K : Nat) (z : Nat) (hn : 154 ≤ n) (hK : K ≤ 6) (hz6 : z ≤ 6) (h1w : x_wr p1 = p1) : ∀ (k e : Nat) (σ : xMi) (a : Int) (o1 : Int), e + k = 4 ∧ p1.toNat < 6 → (σ 24 0 0 = (K : Int)) → (σ 24 0 17 = (z : Int)) → (∀ j, 0 ≤ σ 38 0 j ∧ σ 38 0 j < 6) →  x_G l RX7 cX7_kinds 5 (some .int) 4 n (some (xI (RV_X7_kinds_22 p1 K z k e σ a o1))) (RS_X7_kinds_22 p1 K z k e σ a o1) 22 [(4, xI (e : Int)), (3, xI a), (0, xR 24 0), (1, xI ((p1.toNat : Nat) : Int)), (2, xI o1)] [] σ := by
  intro k
  induction k with
  | zero =>
    intro e σ a o1 hk hmy hz hwo
    have hP6 : p1.toNat < 6 := hk.2
    refine g_iload dX7_kinds_22 rfl ?_
    refine g_iconst dX7_kinds_24 ?_
    refine g_cmp_gt 60 dX7_kinds_25 rfl (fun c_25 => ?_) (fun c_25 => absurd (by rw [show x_wr 3 = 3 from by decide, x_nat (by omega)]; omega) c_25)
    refine g_aload_n dX7_kinds_60 rfl ?_
    refine g_getR (t2 := 25) (i2 := 0) dX7_kinds_61 fl_X7_9 (x_vM hn (Nat.le_of_ble_eq_true rfl) (Nat.le_of_ble_eq_true rfl)) rfl rfl rfl ?_
    refine g_iload_n dX7_kinds_64 rfl ?_
    refine g_iload_n dX7_kinds_65 rfl ?_
    refine g_iast (p1.toNat) dX7_kinds_66 rfl hP6 (x_vM hn (Nat.le_of_ble_eq_true rfl) (Nat.le_of_ble_eq_true rfl)) rfl ?_
    refine g_iload_n dX7_kinds_67 rfl ?_
    exact f_iret dX7_kinds_68 rfl rfl
  | succ k ih =>
    intro e σ a o1 hk hmy hz hwo
    have hP6 : p1.toNat < 6 := hk.2
    refine g_iload dX7_kinds_22 rfl ?_
    refine g_iconst dX7_kinds_24 ?_
    refine g_cmp_gt 60 dX7_kinds_25 rfl (fun c_25 => absurd c_25 (by rw [show x_wr 3 = 3 from by decide, x_nat (by omega)]; omega)) (fun c_25 => ?_)
    refine g_aload_n dX7_kinds_28 rfl ?_
    refine g_getR (t2 := 25) (i2 := 0) dX7_kinds_29 fl_X7_9 (x_vM hn (Nat.le_of_ble_eq_true rfl) (Nat.le_of_ble_eq_true rfl)) rfl rfl rfl ?_
    refine g_iload_n dX7_kinds_32 rfl ?_
    refine g_iload dX7_kinds_33 rfl ?_
    refine g_iast (p1.toNat) dX7_kinds_35 rfl hP6 (x_vM hn (Nat.le_of_ble_eq_true rfl) (Nat.le_of_ble_eq_true rfl)) rfl ?_
    refine g_iload_n dX7_kinds_36 rfl ?_
    refine g_aload_n dX7_kinds_37 rfl ?_
    refine f_V dX7_kinds_38 cs_X7_238 mb_X7_isSo (c_X7_isSo l n _ K z hn hK hz6 (by first | exact hmy | (simp (disch := first | omega | assumption) only [x_up_o, x_up_k, x_cp_o]; exact hmy)) (by first | exact hz | (simp (disch := first | omega | assumption) only [x_up_o, x_up_k, x_cp_o]; exact hz)) (by first | exact hwo | (simp (disch := first | omega | assumption) only [x_up_o, x_up_k, x_cp_o]; exact hwo))) rfl (x_vM hn (Nat.le_of_ble_eq_true rfl) (Nat.le_of_ble_eq_true rfl)) rfl rfl rfl (Nat.le_of_ble_eq_true rfl) (by decide) (Nat.le_of_ble_eq_true rfl) (Nat.le_refl _) (Nat.le_refl _) ?_
    refine g_if_eq 51 dX7_kinds_41 rfl (fun c_41 => ?_) (fun c_41 => ?_)
    · refine g_iconst dX7_kinds_51 ?_
      refine g_ior dX7_kinds_52 ?_
      refine g_istore_n (lv' := [_, _, _, _, _]) dX7_kinds_53 (Nat.le_of_ble_eq_true rfl) rfl ?_
      refine g_iinc (lv' := [(4, xI (((e + 1) : Nat) : Int)), _, _, _, _]) dX7_kinds_54 (Nat.le_of_ble_eq_true rfl) rfl rfl ?_
      refine g_goto 22 dX7_kinds_57 rfl ?_
      refine g_sub (lv2 := [(4, xI (((e + 1) : Nat) : Int)), _, _, _, _]) [0, 1, 2, 3, 4] rfl ?_
      exact f_cv (by rw [RV_X7_kinds_22, if_pos c_41]) (by rw [RS_X7_kinds_22, if_pos c_41]) (ih (e + 1) _ _ _ (by omega) (by first | exact hmy | (simp (disch := omega) only [x_up_o, x_up_k, x_cp_o, fr_S_X7_isSo]; exact hmy) | (simp (disch := first | omega | assumption) only [x_up_o, x_up_k, x_cp_o, fr_S_X7_isSo]; exact hmy)) (by first | exact hz | (simp (disch := omega) only [x_up_o, x_up_k, x_cp_o, fr_S_X7_isSo]; exact hz) | (simp (disch := first | omega | assumption) only [x_up_o, x_up_k, x_cp_o, fr_S_X7_isSo]; exact hz)) (by first | exact hwo | (simp (disch := omega) only [x_up_o, x_up_k, x_cp_o, fr_S_X7_isSo]; exact hwo) | (simp (disch := first | omega | assumption) only [x_up_o, x_up_k, x_cp_o, fr_S_X7_isSo]; exact hwo)))
    · refine g_iconst dX7_kinds_44 ?_
      refine g_iload dX7_kinds_45 rfl ?_
      refine g_ishl dX7_kinds_47 ?_
      refine g_goto 52 dX7_kinds_48 rfl ?_
      refine g_ior dX7_kinds_52 ?_
      refine g_istore_n (lv' := [_, _, _, _, _]) dX7_kinds_53 (Nat.le_of_ble_eq_true rfl) rfl ?_
      refine g_iinc (lv' := [(4, xI (((e + 1) : Nat) : Int)), _, _, _, _]) dX7_kinds_54 (Nat.le_of_ble_eq_true rfl) rfl rfl ?_
      refine g_goto 22 dX7_kinds_57 rfl ?_
      refine g_sub (lv2 := [(4, xI (((e + 1) : Nat) : Int)), _, _, _, _]) [0, 1, 2, 3, 4] rfl ?_
      exact f_cv (by rw [RV_X7_kinds_22, if_neg c_41]) (by rw [RS_X7_kinds_22, if_neg c_41]) (ih (e + 1) _ _ _ (by omega) (by first | exact hmy | (simp (disch := omega) only [x_up_o, x_up_k, x_cp_o, fr_S_X7_isSo]; exact hmy) | (simp (disch := first | omega | assumption) only [x_up_o, x_up_k, x_cp_o, fr_S_X7_isSo]; exact hmy)) (by first | exact hz | (simp (disch := omega) only [x_up_o, x_up_k, x_cp_o, fr_S_X7_isSo]; exact hz) | (simp (disch := first | omega | assumption) only [x_up_o, x_up_k, x_cp_o, fr_S_X7_isSo]; exact hz)) (by first | exact hwo | (simp (disch := omega) only [x_up_o, x_up_k, x_cp_o, fr_S_X7_isSo]; exact hwo) | (simp (disch := first | omega | assumption) only [x_up_o, x_up_k, x_cp_o, fr_S_X7_isSo]; exact hwo)))
def V_X7_kinds (σ : xMi) (p1 : Int) (K : Nat) (z : Nat) : Int := (if x_wr (V_X7_isOne σ p1) = 0 then (-1) else (RV_X7_kinds_22 p1 K z 4 0 σ 0 (σ 25 0 (p1.toNat))))
def S_X7_kinds (σ : xMi) (p1 : Int) (K : Nat) (z : Nat) : xMi := (if x_wr (V_X7_isOne σ p1) = 0 then σ else (RS_X7_kinds_22 p1 K z 4 0 σ 0 (σ 25 0 (p1.toNat))))
theorem c_X7_kinds (l : Launch) (n : Nat) (σ : xMi) (p1 : Int) (K : Nat) (z : Nat) (hn : 154 ≤ n) (hK : K ≤ 6) (hz6 : z ≤ 6) (h1w : x_wr p1 = p1) (hmy : σ 24 0 0 = (K : Int)) (hz : σ 24 0 17 = (z : Int)) (hwo : ∀ j, 0 ≤ σ 38 0 j ∧ σ 38 0 j < 6) : x_F l yX7_kinds RX7 cX7_kinds 5 (some .int) 4 n σ [xR 24 0, xI p1] (some (xI (V_X7_kinds σ p1 K z))) (S_X7_kinds σ p1 K z) := by
  refine f_of (by decide) rfl (Nat.le_of_ble_eq_true rfl) rfl ?_
  refine g_aload_n dX7_kinds_0 rfl ?_
  refine g_iload_n dX7_kinds_1 rfl ?_
  refine f_V dX7_kinds_2 cs_X7_162 mb_X7_isOne (c_X7_isOne l n _ p1 hn) rfl (x_vM hn (Nat.le_of_ble_eq_true rfl) (Nat.le_of_ble_eq_true rfl)) rfl rfl rfl (Nat.le_of_ble_eq_true rfl) (by decide) (Nat.le_of_ble_eq_true rfl) (Nat.le_refl _) (Nat.le_refl _) ?_
  refine g_if_ne 10 dX7_kinds_5 rfl (fun c_5 => ?_) (fun c_5 => ?_)
  · have hP := l_isOne h1w hK hmy c_5
    have hP6 := hP.2.2
    refine g_lveq (lv2 := [(0, xR 24 0), (1, xI ((p1.toNat : Nat) : Int))]) (by rw [← hP.1] <;> rfl) ?_
    refine g_aload_n dX7_kinds_10 rfl ?_
    refine g_getR (t2 := 25) (i2 := 0) dX7_kinds_11 fl_X7_9 (x_vM hn (Nat.le_of_ble_eq_true rfl) (Nat.le_of_ble_eq_true rfl)) rfl rfl rfl ?_
    refine g_iload_n dX7_kinds_14 rfl ?_
    refine g_iald (p1.toNat) dX7_kinds_15 rfl hP6 (x_vM hn (Nat.le_of_ble_eq_true rfl) (Nat.le_of_ble_eq_true rfl)) rfl ?_
    refine g_istore_n (lv' := [_, _, _]) dX7_kinds_16 (Nat.le_of_ble_eq_true rfl) rfl ?_
    refine g_iconst dX7_kinds_17 ?_
    refine g_istore_n (lv' := [_, _, _, _]) dX7_kinds_18 (Nat.le_of_ble_eq_true rfl) rfl ?_
    refine g_iconst dX7_kinds_19 ?_
    refine g_istore (lv' := [_, _, _, _, _]) dX7_kinds_20 (Nat.le_of_ble_eq_true rfl) rfl ?_
    refine g_sub (lv2 := [(4, xI ((0 : Nat) : Int)), _, _, _, _]) [0, 1, 3, 4, 2] rfl ?_
    exact f_cv (by rw [V_X7_kinds, if_neg c_5]) (by rw [S_X7_kinds, if_neg c_5]) (lh_X7_kinds_22 l n p1 K z hn hK hz6 h1w 4 0 _ _ _ (by omega) hmy hz hwo)
  · refine g_iconst dX7_kinds_8 ?_
    exact f_iret dX7_kinds_9 (by rw [V_X7_kinds, if_pos c_5]) (by rw [S_X7_kinds, if_pos c_5])

def RV_X7_days_37 (p1 : Int) (w1 : Int) (K : Nat) (z : Nat) : Nat → xMi → Int → Int → Int → Int
  | 0, σ, a, b2, o1 => (if x_wr w1 = 0 then a else b2)
  | k + 1, σ, a, b2, o1 => (if x_wr (V_X7_isSo (x_up σ 27 0 (p1.toNat) (k : Int)) K z) = 0 then (if x_wr (V_X7_isSo (x_up σ 27 0 (p1.toNat) (k : Int)) K z) = 0 then (RV_X7_days_37 p1 w1 K z k (S_X7_isSo (x_up σ 27 0 (p1.toNat) (k : Int)) K z) (a + 0) b2 o1) else (RV_X7_days_37 p1 w1 K z k (S_X7_isSo (x_up σ 27 0 (p1.toNat) (k : Int)) K z) (a + 0) (k : Int) o1)) else (if x_wr (V_X7_isSo (x_up σ 27 0 (p1.toNat) (k : Int)) K z) = 0 then (RV_X7_days_37 p1 w1 K z k (S_X7_isSo (x_up σ 27 0 (p1.toNat) (k : Int)) K z) (a + 1) b2 o1) else (RV_X7_days_37 p1 w1 K z k (S_X7_isSo (x_up σ 27 0 (p1.toNat) (k : Int)) K z) (a + 1) (k : Int) o1)))
def RS_X7_days_37 (p1 : Int) (w1 : Int) (K : Nat) (z : Nat) : Nat → xMi → Int → Int → Int → xMi
  | 0, σ, a, b2, o1 => (if x_wr w1 = 0 then (x_up σ 27 0 (p1.toNat) o1) else (x_up σ 27 0 (p1.toNat) o1))
  | k + 1, σ, a, b2, o1 => (if x_wr (V_X7_isSo (x_up σ 27 0 (p1.toNat) (k : Int)) K z) = 0 then (if x_wr (V_X7_isSo (x_up σ 27 0 (p1.toNat) (k : Int)) K z) = 0 then (RS_X7_days_37 p1 w1 K z k (S_X7_isSo (x_up σ 27 0 (p1.toNat) (k : Int)) K z) (a + 0) b2 o1) else (RS_X7_days_37 p1 w1 K z k (S_X7_isSo (x_up σ 27 0 (p1.toNat) (k : Int)) K z) (a + 0) (k : Int) o1)) else (if x_wr (V_X7_isSo (x_up σ 27 0 (p1.toNat) (k : Int)) K z) = 0 then (RS_X7_days_37 p1 w1 K z k (S_X7_isSo (x_up σ 27 0 (p1.toNat) (k : Int)) K z) (a + 1) b2 o1) else (RS_X7_days_37 p1 w1 K z k (S_X7_isSo (x_up σ 27 0 (p1.toNat) (k : Int)) K z) (a + 1) (k : Int) o1)))
theorem lh_X7_days_37 (l : Launch) (n : Nat) (p1 : Int) (w1 : Int) (K : Nat) (z : Nat) (hn : 154 ≤ n) (hK : K ≤ 6) (hz6 : z ≤ 6) (h1w : x_wr p1 = p1) : ∀ (k  : Nat) (σ : xMi) (a : Int) (b2 : Int) (o1 : Int), k ≤ 41 ∧ p1.toNat < 6 → (σ 24 0 0 = (K : Int)) → (σ 24 0 17 = (z : Int)) → (∀ j, 0 ≤ σ 38 0 j ∧ σ 38 0 j < 6) →  x_G l RX7 cX7_days 8 (some .int) 4 n (some (xI (RV_X7_days_37 p1 w1 K z k  σ a b2 o1))) (RS_X7_days_37 p1 w1 K z k  σ a b2 o1) 37 [(6, xI ((k : Int) - 1)), (4, xI a), (5, xI b2), (0, xR 24 0), (1, xI ((p1.toNat : Nat) : Int)), (2, xI w1), (3, xI o1)] [] σ := by
  intro k
  induction k with
  | zero =>
    intro  σ a b2 o1 hk hmy hz hwo
    have hP6 : p1.toNat < 6 := hk.2
    refine g_lveq (lv2 := [(6, xI (-1)), (4, xI a), (5, xI b2), (0, xR 24 0), (1, xI ((p1.toNat : Nat) : Int)), (2, xI w1), (3, xI o1)]) (by rfl) ?_
    refine g_iload dX7_days_37 rfl ?_
    refine g_if_lt 91 dX7_days_39 rfl (fun c_39 => ?_) (fun c_39 => absurd (by decide) c_39)
    refine g_aload_n dX7_days_91 rfl ?_
    refine g_getR (t2 := 27) (i2 := 0) dX7_days_92 fl_X7_16 (x_vM hn (Nat.le_of_ble_eq_true rfl) (Nat.le_of_ble_eq_true rfl)) rfl rfl rfl ?_
    refine g_iload_n dX7_days_95 rfl ?_
    refine g_iload_n dX7_days_96 rfl ?_
    refine g_iast (p1.toNat) dX7_days_97 rfl hP6 (x_vM hn (Nat.le_of_ble_eq_true rfl) (Nat.le_of_ble_eq_true rfl)) rfl ?_
    refine g_iload_n dX7_days_98 rfl ?_
    refine g_if_ne 107 dX7_days_99 rfl (fun c_99 => ?_) (fun c_99 => ?_)
    · refine g_iload dX7_days_107 rfl ?_
      exact f_iret dX7_days_109 (by rw [RV_X7_days_37, if_neg c_99]) (by rw [RS_X7_days_37, if_neg c_99])
    · refine g_iload dX7_days_102 rfl ?_
      refine g_goto 109 dX7_days_104 rfl ?_
      exact f_iret dX7_days_109 (by rw [RV_X7_days_37, if_pos c_99]) (by rw [RS_X7_days_37, if_pos c_99])
  | succ k ih =>
    intro  σ a b2 o1 hk hmy hz hwo
    have hP6 : p1.toNat < 6 := hk.2
    refine g_lveq (lv2 := [(6, xI (k : Int)), (4, xI a), (5, xI b2), (0, xR 24 0), (1, xI ((p1.toNat : Nat) : Int)), (2, xI w1), (3, xI o1)]) (by rw [show ((k + 1 : Nat) : Int) - 1 = (k : Int) by omega]) ?_
    refine g_iload dX7_days_37 rfl ?_
    refine g_if_lt 91 dX7_days_39 rfl (fun c_39 => absurd c_39 (by rw [x_nat (by omega)]; omega)) (fun c_39 => ?_)
    refine g_aload_n dX7_days_42 rfl ?_
    refine g_getR (t2 := 27) (i2 := 0) dX7_days_43 fl_X7_16 (x_vM hn (Nat.le_of_ble_eq_true rfl) (Nat.le_of_ble_eq_true rfl)) rfl rfl rfl ?_
    refine g_iload_n dX7_days_46 rfl ?_
    refine g_iload dX7_days_47 rfl ?_
    refine g_iast (p1.toNat) dX7_days_49 rfl hP6 (x_vM hn (Nat.le_of_ble_eq_true rfl) (Nat.le_of_ble_eq_true rfl)) rfl ?_
    refine g_aload_n dX7_days_50 rfl ?_
    refine f_V dX7_days_51 cs_X7_238 mb_X7_isSo (c_X7_isSo l n _ K z hn hK hz6 (by first | exact hmy | (simp (disch := first | omega | assumption) only [x_up_o, x_up_k, x_cp_o]; exact hmy)) (by first | exact hz | (simp (disch := first | omega | assumption) only [x_up_o, x_up_k, x_cp_o]; exact hz)) (by first | exact hwo | (simp (disch := first | omega | assumption) only [x_up_o, x_up_k, x_cp_o]; exact hwo))) rfl (x_vM hn (Nat.le_of_ble_eq_true rfl) (Nat.le_of_ble_eq_true rfl)) rfl rfl rfl (Nat.le_of_ble_eq_true rfl) (by decide) (Nat.le_of_ble_eq_true rfl) (Nat.le_refl _) (Nat.le_refl _) ?_
    refine g_istore (lv' := [_, _, _, _, _, _, _, _]) dX7_days_54 (Nat.le_of_ble_eq_true rfl) rfl ?_
    refine g_iload dX7_days_56 rfl ?_
    refine g_iload dX7_days_58 rfl ?_
    refine g_if_eq 67 dX7_days_60 rfl (fun c_60 => ?_) (fun c_60 => ?_)
    · refine g_iconst dX7_days_67 ?_
      refine g_iadd dX7_days_68 ?_
      refine g_istore (lv' := [_, _, _, _, _, _, _, _]) dX7_days_69 (Nat.le_of_ble_eq_true rfl) rfl ?_
      refine g_iload dX7_days_71 rfl ?_
      refine g_if_eq 81 dX7_days_73 rfl (fun c_73 => ?_) (fun c_73 => ?_)
      · refine g_iload dX7_days_81 rfl ?_
        refine g_istore (lv' := [_, _, _, _, _, _, _, _]) dX7_days_83 (Nat.le_of_ble_eq_true rfl) rfl ?_
        refine g_iinc (lv' := [_, _, _, _, _, _, _, _]) dX7_days_85 (Nat.le_of_ble_eq_true rfl) rfl rfl ?_
        refine g_goto 37 dX7_days_88 rfl ?_
        refine g_sub (lv2 := [(6, xI (((k : Nat) : Int) - 1)), _, _, _, _, _, _]) [0, 2, 1, 4, 5, 6, 7] rfl ?_
        exact f_cv (by rw [RV_X7_days_37, if_pos c_60, if_pos c_73]) (by rw [RS_X7_days_37, if_pos c_60, if_pos c_73]) (ih  _ _ _ _ (by omega) (by first | exact hmy | (simp (disch := omega) only [x_up_o, x_up_k, x_cp_o, fr_S_X7_isSo]; exact hmy) | (simp (disch := first | omega | assumption) only [x_up_o, x_up_k, x_cp_o, fr_S_X7_isSo]; exact hmy)) (by first | exact hz | (simp (disch := omega) only [x_up_o, x_up_k, x_cp_o, fr_S_X7_isSo]; exact hz) | (simp (disch := first | omega | assumption) only [x_up_o, x_up_k, x_cp_o, fr_S_X7_isSo]; exact hz)) (by first | exact hwo | (simp (disch := omega) only [x_up_o, x_up_k, x_cp_o, fr_S_X7_isSo]; exact hwo) | (simp (disch := first | omega | assumption) only [x_up_o, x_up_k, x_cp_o, fr_S_X7_isSo]; exact hwo)))
      · refine g_iload dX7_days_76 rfl ?_
        refine g_goto 83 dX7_days_78 rfl ?_
        refine g_istore (lv' := [_, _, _, _, _, _, _, _]) dX7_days_83 (Nat.le_of_ble_eq_true rfl) rfl ?_
        refine g_iinc (lv' := [_, _, _, _, _, _, _, _]) dX7_days_85 (Nat.le_of_ble_eq_true rfl) rfl rfl ?_
        refine g_goto 37 dX7_days_88 rfl ?_
        refine g_sub (lv2 := [(6, xI (((k : Nat) : Int) - 1)), _, _, _, _, _, _]) [0, 2, 1, 4, 5, 6, 7] rfl ?_
        exact f_cv (by rw [RV_X7_days_37, if_pos c_60, if_neg c_73]) (by rw [RS_X7_days_37, if_pos c_60, if_neg c_73]) (ih  _ _ _ _ (by omega) (by first | exact hmy | (simp (disch := omega) only [x_up_o, x_up_k, x_cp_o, fr_S_X7_isSo]; exact hmy) | (simp (disch := first | omega | assumption) only [x_up_o, x_up_k, x_cp_o, fr_S_X7_isSo]; exact hmy)) (by first | exact hz | (simp (disch := omega) only [x_up_o, x_up_k, x_cp_o, fr_S_X7_isSo]; exact hz) | (simp (disch := first | omega | assumption) only [x_up_o, x_up_k, x_cp_o, fr_S_X7_isSo]; exact hz)) (by first | exact hwo | (simp (disch := omega) only [x_up_o, x_up_k, x_cp_o, fr_S_X7_isSo]; exact hwo) | (simp (disch := first | omega | assumption) only [x_up_o, x_up_k, x_cp_o, fr_S_X7_isSo]; exact hwo)))
    · refine g_iconst dX7_days_63 ?_
      refine g_goto 68 dX7_days_64 rfl ?_
      refine g_iadd dX7_days_68 ?_
      refine g_istore (lv' := [_, _, _, _, _, _, _, _]) dX7_days_69 (Nat.le_of_ble_eq_true rfl) rfl ?_
      refine g_iload dX7_days_71 rfl ?_
      refine g_if_eq 81 dX7_days_73 rfl (fun c_73 => ?_) (fun c_73 => ?_)
      · refine g_iload dX7_days_81 rfl ?_
        refine g_istore (lv' := [_, _, _, _, _, _, _, _]) dX7_days_83 (Nat.le_of_ble_eq_true rfl) rfl ?_
        refine g_iinc (lv' := [_, _, _, _, _, _, _, _]) dX7_days_85 (Nat.le_of_ble_eq_true rfl) rfl rfl ?_
        refine g_goto 37 dX7_days_88 rfl ?_
        refine g_sub (lv2 := [(6, xI (((k : Nat) : Int) - 1)), _, _, _, _, _, _]) [0, 2, 1, 4, 5, 6, 7] rfl ?_
        exact f_cv (by rw [RV_X7_days_37, if_neg c_60, if_pos c_73]) (by rw [RS_X7_days_37, if_neg c_60, if_pos c_73]) (ih  _ _ _ _ (by omega) (by first | exact hmy | (simp (disch := omega) only [x_up_o, x_up_k, x_cp_o, fr_S_X7_isSo]; exact hmy) | (simp (disch := first | omega | assumption) only [x_up_o, x_up_k, x_cp_o, fr_S_X7_isSo]; exact hmy)) (by first | exact hz | (simp (disch := omega) only [x_up_o, x_up_k, x_cp_o, fr_S_X7_isSo]; exact hz) | (simp (disch := first | omega | assumption) only [x_up_o, x_up_k, x_cp_o, fr_S_X7_isSo]; exact hz)) (by first | exact hwo | (simp (disch := omega) only [x_up_o, x_up_k, x_cp_o, fr_S_X7_isSo]; exact hwo) | (simp (disch := first | omega | assumption) only [x_up_o, x_up_k, x_cp_o, fr_S_X7_isSo]; exact hwo)))
      · refine g_iload dX7_days_76 rfl ?_
        refine g_goto 83 dX7_days_78 rfl ?_
        refine g_istore (lv' := [_, _, _, _, _, _, _, _]) dX7_days_83 (Nat.le_of_ble_eq_true rfl) rfl ?_
        refine g_iinc (lv' := [_, _, _, _, _, _, _, _]) dX7_days_85 (Nat.le_of_ble_eq_true rfl) rfl rfl ?_
        refine g_goto 37 dX7_days_88 rfl ?_
        refine g_sub (lv2 := [(6, xI (((k : Nat) : Int) - 1)), _, _, _, _, _, _]) [0, 2, 1, 4, 5, 6, 7] rfl ?_
        exact f_cv (by rw [RV_X7_days_37, if_neg c_60, if_neg c_73]) (by rw [RS_X7_days_37, if_neg c_60, if_neg c_73]) (ih  _ _ _ _ (by omega) (by first | exact hmy | (simp (disch := omega) only [x_up_o, x_up_k, x_cp_o, fr_S_X7_isSo]; exact hmy) | (simp (disch := first | omega | assumption) only [x_up_o, x_up_k, x_cp_o, fr_S_X7_isSo]; exact hmy)) (by first | exact hz | (simp (disch := omega) only [x_up_o, x_up_k, x_cp_o, fr_S_X7_isSo]; exact hz) | (simp (disch := first | omega | assumption) only [x_up_o, x_up_k, x_cp_o, fr_S_X7_isSo]; exact hz)) (by first | exact hwo | (simp (disch := omega) only [x_up_o, x_up_k, x_cp_o, fr_S_X7_isSo]; exact hwo) | (simp (disch := first | omega | assumption) only [x_up_o, x_up_k, x_cp_o, fr_S_X7_isSo]; exact hwo)))
def V_X7_days (σ : xMi) (p1 : Int) (w1 : Int) (K : Nat) (z : Nat) : Int := (if x_wr (V_X7_isOne σ p1) = 0 then (-1) else (if x_wr (V_X7_in σ w1 0 1) = 0 then (-1) else (RV_X7_days_37 p1 w1 K z 41  σ 0 (-4) (σ 27 0 (p1.toNat)))))
def S_X7_days (σ : xMi) (p1 : Int) (w1 : Int) (K : Nat) (z : Nat) : xMi := (if x_wr (V_X7_isOne σ p1) = 0 then σ else (if x_wr (V_X7_in σ w1 0 1) = 0 then σ else (RS_X7_days_37 p1 w1 K z 41  σ 0 (-4) (σ 27 0 (p1.toNat)))))
theorem c_X7_days (l : Launch) (n : Nat) (σ : xMi) (p1 : Int) (w1 : Int) (K : Nat) (z : Nat) (hn : 154 ≤ n) (hK : K ≤ 6) (hz6 : z ≤ 6) (h1w : x_wr p1 = p1) (hmy : σ 24 0 0 = (K : Int)) (hz : σ 24 0 17 = (z : Int)) (hwo : ∀ j, 0 ≤ σ 38 0 j ∧ σ 38 0 j < 6) : x_F l yX7_days RX7 cX7_days 8 (some .int) 4 n σ [xR 24 0, xI p1, xI w1] (some (xI (V_X7_days σ p1 w1 K z))) (S_X7_days σ p1 w1 K z) := by
  refine f_of (by decide) rfl (Nat.le_of_ble_eq_true rfl) rfl ?_
  refine g_aload_n dX7_days_0 rfl ?_
  refine g_iload_n dX7_days_1 rfl ?_
  refine f_V dX7_days_2 cs_X7_162 mb_X7_isOne (c_X7_isOne l n _ p1 hn) rfl (x_vM hn (Nat.le_of_ble_eq_true rfl) (Nat.le_of_ble_eq_true rfl)) rfl rfl rfl (Nat.le_of_ble_eq_true rfl) (by decide) (Nat.le_of_ble_eq_true rfl) (Nat.le_refl _) (Nat.le_refl _) ?_
  refine g_if_eq 17 dX7_days_5 rfl (fun c_5 => ?_) (fun c_5 => ?_)
  · refine g_iconst dX7_days_17 ?_
    exact f_iret dX7_days_18 (by rw [V_X7_days, if_pos c_5]) (by rw [S_X7_days, if_pos c_5])
  · refine g_iload_n dX7_days_8 rfl ?_
    refine g_iconst dX7_days_9 ?_
    refine g_iconst dX7_days_10 ?_
    refine f_S dX7_days_11 cs_X7_100 mb_X7_in (c_X7_in l n _ w1 0 1 hn) rfl (Nat.lt_of_lt_of_le (by decide) hn) rfl (Nat.le_of_ble_eq_true rfl) (by decide) (Nat.le_of_ble_eq_true rfl) (Nat.le_refl _) (Nat.le_refl _) ?_
    refine g_if_ne 19 dX7_days_14 rfl (fun c_14 => ?_) (fun c_14 => ?_)
    · have hP := l_isOne h1w hK hmy c_5
      have hP6 := hP.2.2
      refine g_lveq (lv2 := [(0, xR 24 0), (1, xI ((p1.toNat : Nat) : Int)), (2, xI w1)]) (by rw [← hP.1] <;> rfl) ?_
      refine g_aload_n dX7_days_19 rfl ?_
      refine g_getR (t2 := 27) (i2 := 0) dX7_days_20 fl_X7_16 (x_vM hn (Nat.le_of_ble_eq_true rfl) (Nat.le_of_ble_eq_true rfl)) rfl rfl rfl ?_
      refine g_iload_n dX7_days_23 rfl ?_
      refine g_iald (p1.toNat) dX7_days_24 rfl hP6 (x_vM hn (Nat.le_of_ble_eq_true rfl) (Nat.le_of_ble_eq_true rfl)) rfl ?_
      refine g_istore_n (lv' := [_, _, _, _]) dX7_days_25 (Nat.le_of_ble_eq_true rfl) rfl ?_
      refine g_iconst dX7_days_26 ?_
      refine g_istore (lv' := [_, _, _, _, _]) dX7_days_27 (Nat.le_of_ble_eq_true rfl) rfl ?_
      refine g_bipush dX7_days_29 (by decide) ?_
      refine g_istore (lv' := [_, _, _, _, _, _]) dX7_days_31 (Nat.le_of_ble_eq_true rfl) rfl ?_
      refine g_bipush dX7_days_33 (by decide) ?_
      refine g_istore (lv' := [_, _, _, _, _, _, _]) dX7_days_35 (Nat.le_of_ble_eq_true rfl) rfl ?_
      refine g_sub (lv2 := [(6, xI (((41 : Nat) : Int) - 1)), _, _, _, _, _, _]) [0, 2, 1, 4, 5, 6, 3] rfl ?_
      exact f_cv (by rw [V_X7_days, if_neg c_5, if_neg c_14]) (by rw [S_X7_days, if_neg c_5, if_neg c_14]) (lh_X7_days_37 l n p1 w1 K z hn hK hz6 h1w 41  _ _ _ _ (by omega) hmy hz hwo)
    · refine g_iconst dX7_days_17 ?_
      exact f_iret dX7_days_18 (by rw [V_X7_days, if_neg c_5, if_pos c_14]) (by rw [S_X7_days, if_neg c_5, if_pos c_14])
